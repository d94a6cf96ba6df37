/-! ===== days pass ===== -/
theorem noTF {P : Prop} (h : true = false) : P := absurd h (by decide)
theorem mset_k {μ : Mem} {t i p k : Nat} {v : Int32} {k' : Nat} (h : k' ≠ k) : (mset μ t i p k v).1 t i p k' = μ.1 t i p k' := if_neg fun q => h q.2.2.2
theorem mset_p {μ : Mem} {t i p k : Nat} {v : Int32} {t' i' p' k' : Nat} (h : p' ≠ p) : (mset μ t i p k v).1 t' i' p' k' = μ.1 t' i' p' k' := if_neg fun q => h q.2.2.1
theorem mset_t {μ : Mem} {t i p k : Nat} {v : Int32} {t' i' p' k' : Nat} (h : t' ≠ t) : (mset μ t i p k v).1 t' i' p' k' = μ.1 t' i' p' k' := if_neg fun q => h q.1
theorem mset_i {μ : Mem} {t i p k : Nat} {v : Int32} {t' i' p' k' : Nat} (h : i' ≠ i) : (mset μ t i p k v).1 t' i' p' k' = μ.1 t' i' p' k' := if_neg fun q => h q.2.1
theorem CP.congr {μ μ' : Mem} {i j p : Nat} {x : APh} (h : ∀ t k, 8 ≤ t → t ≤ 14 → μ'.1 t j p k = μ.1 t i p k) (c : CP μ i p x) : CP μ' j p x := CP.mk
  (f_A := fun u hu => (h 9 u (by decide) (by decide)).trans (c.A u hu))
  (f_E := fun u hu => (h 10 u (by decide) (by decide)).trans (c.E u hu))
  (f_R := fun u hu => (h 11 u (by decide) (by decide)).trans (c.R u hu))
  (f_La := fun u hu => (h 12 u (by decide) (by decide)).trans (c.La u hu))
  (f_b := (h 8 6 (by decide) (by decide)).trans c.b)
  (f_g := fun hb => (h 8 7 (by decide) (by decide)).trans (c.g hb))
  (f_N := (h 8 8 (by decide) (by decide)).trans c.N)
  (f_P := (h 8 9 (by decide) (by decide)).trans c.P)
  (f_Ld := (h 8 10 (by decide) (by decide)).trans c.Ld)
  (f_Su := (h 8 11 (by decide) (by decide)).trans c.Su)
  (f_br := (h 8 12 (by decide) (by decide)).trans c.br)
  (f_I := fun k hk => (h 13 k (by decide) (by decide)).trans (c.I k hk))
  (f_O := fun k hk => (h 14 k (by decide) (by decide)).trans (c.O k hk))
theorem mo_eq {z z' : Zr} {p w : Nat} (h : z' (10 + 37 * p + w) = z (10 + 37 * p + w)) : mo z' p w = mo z p w := h
theorem MP.congr {z z' : Zr} {p : Nat} {x : APh} (h : ∀ w, w < 37 → mo z' p w = mo z p w) (m : MP z p x) (hN : x.N ≤ 4) : MP z' p x := MP.mk
  (f_A := fun u hu => (h (1 + u) (by omega)).trans (m.A u hu))
  (f_E := fun u hu => (h (5 + u) (by omega)).trans (m.E u hu))
  (f_R := fun hb u hu => (h (9 + u) (by omega)).trans (m.R hb u hu))
  (f_re := fun hb u hu => (h (13 + u) (by omega)).trans (m.re hb u hu))
  (f_b := (h 0 (by decide)).trans m.b)
  (f_N := (h 17 (by decide)).trans m.N)
  (f_I := fun k hk => (h (18 + k) (by omega)).trans (m.I k hk))
  (f_O := fun k hk => (h (22 + k) (by omega)).trans (m.O k hk))
  (f_D := fun k hk => (h (26 + k) (by omega)).trans (m.D k hk))
  (f_lo := (h 30 (by decide)).trans m.lo)
  (f_la := (h 31 (by decide)).trans m.la)
  (f_Su := (h 32 (by decide)).trans m.Su)
  (f_so := (h 33 (by decide)).trans m.so)
  (f_P := (h 34 (by decide)).trans m.P)
  (f_Ld := (h 35 (by decide)).trans m.Ld)
  (f_br := (h 36 (by decide)).trans m.br)
theorem mo_ne {z : Zr} {p w : Nat} {v : Int32} {q w' : Nat} (hw : w < 37) (hw' : w' < 37) (h : ¬ (q = p ∧ w' = w)) : mo (zput z p w v) q w' = mo z q w' := zput_ne (by omega)
theorem z_lo {z : Zr} {p w : Nat} {v : Int32} {k : Nat} (h : k < 10) : zput z p w v k = z k := zput_ne (by omega)
def brkP (D pct : Nat) (x : APh) : APh := if (canB x && decide (fdu x + 1 ≤ D)) = true then (APh.mk x.beg x.A x.E x.R x.La x.N x.B x.g x.I x.O x.P x.Ld (surA pct x) (true) x.lo (surA pct x)) else x
def sumP (D pct : Nat) (ph : Nat → APh) (n : Nat) : Nat := sN (fun p => if (canB (ph p) && decide (fdu (ph p) + 1 ≤ D)) = true then surA pct (ph p) else 0) n
def aPass (a : ALw) (d : Nat) : ALw := (ALw.mk (a.day + d) a.n a.rt a.st (fun p => brkP (a.day + d) (a.st 1) (a.ph p)))
def OKw (a : ALw) : Prop := (a.day ≤ 20000) ∧ (a.n ≤ 6) ∧ (a.st 1 ≤ 50) ∧ (∀ p, p < 6 → OP a.day a.n p a.rt (a.ph p))
theorem OKw.mk {a : ALw} (f_day : a.day ≤ 20000) (f_n : a.n ≤ 6) (f_s1 : a.st 1 ≤ 50) (f_ph : ∀ p, p < 6 → OP a.day a.n p a.rt (a.ph p)) : OKw a := ⟨f_day, f_n, f_s1, f_ph⟩
theorem OKw.day {a : ALw} (h : OKw a) : a.day ≤ 20000 := h.1
theorem OKw.n {a : ALw} (h : OKw a) : a.n ≤ 6 := h.2.1
theorem OKw.s1 {a : ALw} (h : OKw a) : a.st 1 ≤ 50 := h.2.2.1
theorem OKw.ph {a : ALw} (h : OKw a) : ∀ p, p < 6 → OP a.day a.n p a.rt (a.ph p) := h.2.2.2
theorem OK.w {a : ALw} (h : OK a) : OKw a := ⟨by have := h.day; omega, h.n, h.s1, h.ph⟩
theorem brkP_t {D pct : Nat} {x : APh} (h : (canB x && decide (fdu x + 1 ≤ D)) = true) : brkP D pct x = (APh.mk x.beg x.A x.E x.R x.La x.N x.B x.g x.I x.O x.P x.Ld (surA pct x) (true) x.lo (surA pct x)) := if_pos h
theorem brkP_f {D pct : Nat} {x : APh} (h : (canB x && decide (fdu x + 1 ≤ D)) = false) : brkP D pct x = x := if_neg (by rw [h]; decide)
theorem surA_le {day n p pct : Nat} {rt : Nat → Nat} {x : APh} (h : OP day n p rt x) (hb : x.br = false) (hp : pct ≤ 50) : surA pct x ≤ 1996002 := by
  have h1 := h.owd_br hb
  have h2 : owd x * pct ≤ 3992004 * 50 := Nat.mul_le_mul h1 hp
  unfold surA
  omega
theorem OP.later {day n p D : Nat} {rt : Nat → Nat} {x : APh} (h : OP day n p rt x) (hD : day ≤ D) (hn : (canB x && decide (fdu x + 1 ≤ D)) = false) : OP D n p rt x := OP.mk
  (f_hA := h.hA)
  (f_hE := h.hE)
  (f_hR := h.hR)
  (f_hL := h.hL)
  (f_blank := h.blank)
  (f_un := h.un)
  (f_rt := h.rt)
  (f_bg := fun hb => by
    have h1 := h.bg hb
    exact ⟨by omega, h1.2⟩)
  (f_sh := h.sh)
  (f_du := fun hb hr k hk ho => by
    have h1 := cZ_sh _ h.sh k hk
    have h2 : cZ x.O x.N ≤ k := Nat.le_of_not_lt fun y => absurd (h1.mpr y) (by omega)
    have hc : canB x = true := canB_iff.mpr ⟨hb, hr, by omega⟩
    rw [hc] at hn
    have h3 : ¬ (fdu x + 1 ≤ D) := by simpa using hn
    have h4 : fdu x ≤ x.B + (k + 1) * x.g := Nat.add_le_add_left (Nat.mul_le_mul_right _ (by omega)) _
    omega)
  (f_un2 := h.un2)
  (f_su := h.su)
theorem brkP_OP {day n p D pct : Nat} {rt : Nat → Nat} {x : APh} (h : OP day n p rt x) (hD : day ≤ D) (hp : pct ≤ 50) : OP D n p rt (brkP D pct x) := by
  cases e : (canB x && decide (fdu x + 1 ≤ D)) with
  | false => rw [brkP_f e]; exact h.later hD e
  | true =>
    rw [brkP_t e]
    obtain ⟨h1, h2, h3⟩ := canB_iff.mp (by rw [Bool.and_eq_true] at e; exact e.1)
    have h4 := h.un2 h2
    have h5 := surA_le h h2 hp
    have h6 := h.bg h1
    exact (OP.mk (f_hA := h.hA) (f_hE := h.hE) (f_hR := h.hR) (f_hL := h.hL) (f_blank := h.blank) (f_un := fun q => absurd (h1.symm.trans q) (by decide)) (f_rt := h.rt) (f_bg := fun _ => by
        refine ⟨by show x.B ≤ D; omega, h6.2.1, h6.2.2.1, h6.2.2.2.1, h6.2.2.2.2.1, h6.2.2.2.2.2.1, ?_⟩
        have h7 := h6.2.2.2.2.2.2
        show chg x + surA pct x = rlf x + x.P + x.Ld + (x.lo + surA pct x + sN x.O x.N)
        unfold owd at h7
        omega) (f_sh := h.sh) (f_du := fun _ q => noTF q) (f_un2 := fun q => noTF q) (f_su := h5))
theorem brkP_two {D D' pct : Nat} {x : APh} (hD : D ≤ D') : brkP D' pct (brkP D pct x) = brkP D' pct x := by
  cases e : (canB x && decide (fdu x + 1 ≤ D)) with
  | false => rw [brkP_f e]
  | true =>
    rw [brkP_t e]
    rw [Bool.and_eq_true] at e
    have h1 : decide (fdu x + 1 ≤ D') = true := decide_eq_true (by have := of_decide_eq_true e.2; omega)
    rw [brkP_t (x := x) (by rw [e.1, h1]; rfl), brkP_f]
    unfold canB
    simp
theorem sumP_two {D D' pct : Nat} {ph : Nat → APh} (hD : D ≤ D') (n : Nat) : sumP D' pct ph n = sumP D pct ph n + sumP D' pct (fun p => brkP D pct (ph p)) n := by
  unfold sumP
  rw [← sN_add]
  refine sN_ext n fun p _ => ?_
  cases e : (canB (ph p) && decide (fdu (ph p) + 1 ≤ D)) with
  | false =>
    show _ = _ + (if (canB (brkP D pct (ph p)) && decide (fdu (brkP D pct (ph p)) + 1 ≤ D')) = true then surA pct (brkP D pct (ph p)) else 0)
    rw [brkP_f e]
    simp
  | true =>
    show _ = _ + (if (canB (brkP D pct (ph p)) && decide (fdu (brkP D pct (ph p)) + 1 ≤ D')) = true then surA pct (brkP D pct (ph p)) else 0)
    rw [brkP_t e]
    rw [Bool.and_eq_true] at e
    have h1 : decide (fdu (ph p) + 1 ≤ D') = true := decide_eq_true (by have := of_decide_eq_true e.2; omega)
    rw [e.1, h1]
    simp [canB]
theorem aPass_OKw {a : ALw} (h : OKw a) {d : Nat} (hd : a.day + d ≤ 20000) : OKw (aPass a d) := ⟨hd, h.n, h.s1, fun p hp => brkP_OP (h.ph p hp) (Nat.le_add_right _ _) h.s1⟩
theorem aPass_OK {a : ALw} (h : OK a) {d : Nat} (hd : a.day + d ≤ 9999) : OK (aPass a d) := ⟨hd, h.n, h.rt, h.s0, h.s1, h.s2, h.s3, fun p hp => brkP_OP (h.ph p hp) (Nat.le_add_right _ _) h.s1⟩
/-- the class: all days at once -/
theorem passK_ab {μ : Mem} {a : ALw} (hC : CR μ 0 a) (hK : OKw a) {d : Nat} (hd : d ≤ 1000) : ∀ k, k ≤ 6 → (∀ p, p < 6 → CP (passK μ 0 (nI d) k).1 0 p (if p < k then brkP (a.day + d) (a.st 1) (a.ph p) else a.ph p)) ∧ (passK μ 0 (nI d) k).2 = nI (sumP (a.day + d) (a.st 1) a.ph k)
  | 0, _ => ⟨fun p hp => by rw [if_neg (Nat.not_lt_zero p)]; exact hC.ph p hp, rfl⟩
  | k + 1, hk => by
    obtain ⟨h1, h2⟩ := passK_ab hC hK hd k (by omega)
    have hd2 := hK.day
    have c := h1 k (by omega)
    rw [if_neg (Nat.lt_irrefl k)] at c
    have o := hK.ph k (by omega)
    have e4 : (passK μ 0 (nI d) k).1.1 4 = μ.1 4 := passK_tag (by decide) k
    have e6 : (passK μ 0 (nI d) k).1.1 6 = μ.1 6 := passK_tag (by decide) k
    have w1 := cw_within c o (by rw [e4]; exact hC.day) (d := d) (by omega)
    have w2 := cw_surW c o (by rw [e4]; exact hC.day) (d := d) (pct := a.st 1) (by omega) (by rw [e6]; exact hC.st 1 (by decide)) hK.s1
    have hins := cw_ins c o
    have hsum : sumP (a.day + d) (a.st 1) a.ph (k + 1) = sumP (a.day + d) (a.st 1) a.ph k + (if (canB (a.ph k) && decide (fdu (a.ph k) + 1 ≤ a.day + d)) = true then surA (a.st 1) (a.ph k) else 0) := rfl
    have hst : passK μ 0 (nI d) (k + 1) = cond (cWithin (passK μ 0 (nI d) k).1 0 k (insN (passK μ 0 (nI d) k).1 0 k) (nI d)) (mset (mset (passK μ 0 (nI d) k).1 8 0 k 12 (nI 1)) 8 0 k 11 (cSurW (passK μ 0 (nI d) k).1 0 k (insN (passK μ 0 (nI d) k).1 0 k) (nI d)), (passK μ 0 (nI d) k).2 + cSurW (passK μ 0 (nI d) k).1 0 k (insN (passK μ 0 (nI d) k).1 0 k) (nI d)) (passK μ 0 (nI d) k) := rfl
    rw [hins, w1, w2] at hst
    rw [hst, hsum]
    cases e : (canB (a.ph k) && decide (fdu (a.ph k) + 1 ≤ a.day + d)) with
    | false =>
      refine ⟨fun p hp => ?_, ?_⟩
      · show CP (passK μ 0 (nI d) k).1 0 p _
        have h3 := h1 p hp
        by_cases q : p = k
        · subst q
          rw [if_pos (Nat.lt_succ_self p), brkP_f e]
          exact c
        · by_cases q2 : p < k
          · rw [if_pos q2] at h3
            rw [if_pos (by omega)]
            exact h3
          · rw [if_neg q2] at h3
            rw [if_neg (by omega)]
            exact h3
      · show (passK μ 0 (nI d) k).2 = nI (_ + if false = true then _ else 0)
        rw [h2, if_neg (by decide), Nat.add_zero]
    | true =>
      refine ⟨fun p hp => ?_, ?_⟩
      · show CP (mset (mset (passK μ 0 (nI d) k).1 8 0 k 12 (nI 1)) 8 0 k 11 (nI (if true = true then surA (a.st 1) (a.ph k) else 0))) 0 p _
        rw [if_pos rfl]
        by_cases q : p = k
        · subst q
          rw [if_pos (Nat.lt_succ_self p), brkP_t e]
          have hob : (a.ph p).beg = true := (canB_iff.mp (by rw [Bool.and_eq_true] at e; exact e.1)).1
          exact (CP.mk (f_A := fun u hu => by rw [mset_tag (by decide), mset_tag (by decide)]; exact c.A u hu) (f_E := fun u hu => by rw [mset_tag (by decide), mset_tag (by decide)]; exact c.E u hu) (f_R := fun u hu => by rw [mset_tag (by decide), mset_tag (by decide)]; exact c.R u hu) (f_La := fun u hu => by rw [mset_tag (by decide), mset_tag (by decide)]; exact c.La u hu) (f_b := by rw [mset_k (by decide), mset_k (by decide)]; exact c.b) (f_g := fun hb => by rw [mset_k (by decide), mset_k (by decide)]; exact c.g hb) (f_N := by rw [mset_k (by decide), mset_k (by decide)]; exact c.N) (f_P := by rw [mset_k (by decide), mset_k (by decide)]; exact c.P) (f_Ld := by rw [mset_k (by decide), mset_k (by decide)]; exact c.Ld) (f_Su := mset_at) (f_br := by rw [mset_k (by decide), mset_at]; rfl) (f_I := fun j hj => by rw [mset_tag (by decide), mset_tag (by decide)]; exact c.I j hj) (f_O := fun j hj => by rw [mset_tag (by decide), mset_tag (by decide)]; exact c.O j hj))
        · have h3 := h1 p hp
          have h4 : (if p < k + 1 then brkP (a.day + d) (a.st 1) (a.ph p) else a.ph p) = (if p < k then brkP (a.day + d) (a.st 1) (a.ph p) else a.ph p) := by
            by_cases q2 : p < k
            · rw [if_pos q2, if_pos (by omega)]
            · rw [if_neg q2, if_neg (by omega)]
          rw [h4]
          exact h3.congr fun t j _ _ => (mset_p q).trans (mset_p q)
      · show (passK μ 0 (nI d) k).2 + nI (if true = true then surA (a.st 1) (a.ph k) else 0) = nI (_ + if true = true then _ else 0)
        rw [h2, nI_add]
theorem sumP_blank {D pct n m : Nat} {ph : Nat → APh} (h : ∀ p, n ≤ p → p < m → (ph p).beg = false) (hm : n ≤ m) : sumP D pct ph m = sumP D pct ph n := by
  induction m with
  | zero => rw [show n = 0 by omega]
  | succ m ih =>
    rcases Nat.lt_or_ge n (m + 1) with q | q
    · have h1 : canB (ph m) = false := by unfold canB; rw [h m (by omega) (Nat.lt_succ_self m)]; rfl
      have h2 : sumP D pct ph (m + 1) = sumP D pct ph m + (if (canB (ph m) && decide (fdu (ph m) + 1 ≤ D)) = true then surA pct (ph m) else 0) := rfl
      rw [h2, h1, ih (fun p a b => h p a (by omega)) (by omega)]
      rfl
    · rw [show n = m + 1 by omega]
theorem brkP_blank {D pct : Nat} {x : APh} (h : x.beg = false) : brkP D pct x = x := brkP_f (by unfold canB; rw [h]; rfl)
theorem pass_C {μ : Mem} {a : ALw} (hC : CR μ 0 a) (hK : OKw a) {d : Nat} (hd : d ≤ 1000) : CR (cPass μ 0 a.n (nI d)) 0 (aPass a d) ∧ (passK μ 0 (nI d) a.n).2 = nI (sumP (a.day + d) (a.st 1) a.ph a.n) := by
  obtain ⟨h1, h2⟩ := passK_ab hC hK hd a.n hK.n
  refine ⟨?_, h2⟩
  have e4 : (passK μ 0 (nI d) a.n).1.1 4 = μ.1 4 := passK_tag (by decide) _
  have e5 : (passK μ 0 (nI d) a.n).1.1 5 = μ.1 5 := passK_tag (by decide) _
  have e6 : (passK μ 0 (nI d) a.n).1.1 6 = μ.1 6 := passK_tag (by decide) _
  exact (CR.mk (f_day := by
      show (mset (passK μ 0 (nI d) a.n).1 4 0 0 0 (μ.1 4 0 0 0 + nI d)).1 4 0 0 0 = nI (a.day + d)
      rw [mset_at, hC.day, nI_add]) (f_n := by
      show (mset (passK μ 0 (nI d) a.n).1 4 0 0 0 (μ.1 4 0 0 0 + nI d)).1 4 0 0 1 = nI a.n
      rw [mset_k (by decide), e4]
      exact hC.n) (f_rt := fun u hu => by
      show (mset (passK μ 0 (nI d) a.n).1 4 0 0 0 (μ.1 4 0 0 0 + nI d)).1 5 0 0 u = _
      rw [mset_tag (by decide), e5]
      exact hC.rt u hu) (f_st := fun u hu => by
      show (mset (passK μ 0 (nI d) a.n).1 4 0 0 0 (μ.1 4 0 0 0 + nI d)).1 6 0 0 u = _
      rw [mset_tag (by decide), e6]
      exact hC.st u hu) (f_ph := fun p hp => by
      have h3 := h1 p hp
      have h4 : (if p < a.n then brkP (a.day + d) (a.st 1) (a.ph p) else a.ph p) = brkP (a.day + d) (a.st 1) (a.ph p) := by
        by_cases q : p < a.n
        · exact if_pos q
        · rw [if_neg q, brkP_blank ((hK.ph p hp).blank (by omega)).1]
      rw [h4] at h3
      exact h3.congr fun t j ht ht2 => mset_t (by omega)))
/-- the reference: one day -/
theorem dpK_ab {z : Zr} {a : ALw} (hM : MR z a) (hK : OKw a) : ∀ k, k ≤ a.n → ((dpK z k).1 4 = nI (a.day + 1) ∧ (∀ j, j < 10 → j ≠ 4 → (dpK z k).1 j = z j) ∧ (∀ p, p < a.n → MP (dpK z k).1 p (if p < k then brkP (a.day + 1) (a.st 1) (a.ph p) else a.ph p))) ∧ (dpK z k).2 = nI (sumP (a.day + 1) (a.st 1) a.ph k)
  | 0, _ => by
    refine ⟨⟨?_, fun j hj h4 => pk_un h4, fun p hp => ?_⟩, rfl⟩
    · show upd z 4 (z 4 + nI 1) 4 = _
      rw [pk_us, hM.day, nI_add]
    · rw [if_neg (Nat.not_lt_zero p)]
      exact (hM.ph p hp).congr (fun w hw => pk_un (by omega)) (hK.ph p (by have := hK.n; omega)).N4
  | k + 1, hk => by
    obtain ⟨⟨h1, h2, h3⟩, h4⟩ := dpK_ab hM hK k (by omega)
    have hn6 := hK.n
    have hd2 := hK.day
    have m := h3 k (by omega)
    rw [if_neg (Nat.lt_irrefl k)] at m
    have o := hK.ph k (by omega)
    have hst : dpK z (k + 1) = cond (mCan (dpK z k).1 k && !(decide ((dpK z k).1 4 ≤ mFd (dpK z k).1 k))) (zadd (zadd (zput (dpK z k).1 k 36 (nI 1)) k 32 (mSurch (dpK z k).1 k)) k 33 (mSurch (dpK z k).1 k), (dpK z k).2 + mSurch (dpK z k).1 k) (dpK z k) := rfl
    have hcond : (mCan (dpK z k).1 k && !(decide ((dpK z k).1 4 ≤ mFd (dpK z k).1 k))) = (canB (a.ph k) && decide (fdu (a.ph k) + 1 ≤ a.day + 1)) := by
      rw [mw_can m o]
      cases e : canB (a.ph k) with
      | false => rfl
      | true =>
        obtain ⟨g1, g2, g3⟩ := canB_iff.mp e
        have g4 : fdu (a.ph k) ≤ 10599 := o.fdu_le g1 (Nat.le_of_lt g3)
        rw [h1, mw_fdz m o g3 g1]
        show (!(decide (nI (a.day + 1) ≤ nI (fdu (a.ph k))))) = decide _
        by_cases q : fdu (a.ph k) + 1 ≤ a.day + 1
        · rw [decide_eq_true q, decide_eq_false (fun y => absurd ((nI_leI (by omega) (by omega)).mp y) (by omega))]; rfl
        · rw [decide_eq_false q, decide_eq_true ((nI_leI (by omega) (by omega)).mpr (by omega))]; rfl
    have hsum : sumP (a.day + 1) (a.st 1) a.ph (k + 1) = sumP (a.day + 1) (a.st 1) a.ph k + (if (canB (a.ph k) && decide (fdu (a.ph k) + 1 ≤ a.day + 1)) = true then surA (a.st 1) (a.ph k) else 0) := rfl
    rw [hst, hcond, hsum]
    have hif : ∀ p, p ≠ k → (if p < k + 1 then brkP (a.day + 1) (a.st 1) (a.ph p) else a.ph p) = (if p < k then brkP (a.day + 1) (a.st 1) (a.ph p) else a.ph p) := fun p q => by
      by_cases q2 : p < k
      · rw [if_pos q2, if_pos (by omega)]
      · rw [if_neg q2, if_neg (by omega)]
    cases e : (canB (a.ph k) && decide (fdu (a.ph k) + 1 ≤ a.day + 1)) with
    | false =>
      refine ⟨⟨h1, h2, fun p hp => ?_⟩, ?_⟩
      · show MP (dpK z k).1 p _
        by_cases q : p = k
        · subst q
          rw [if_pos (Nat.lt_succ_self p), brkP_f e]
          exact m
        · rw [hif p q]
          exact h3 p hp
      · show (dpK z k).2 = nI (sumP (a.day + 1) (a.st 1) a.ph k + if false = true then surA (a.st 1) (a.ph k) else 0)
        rw [h4, if_neg (by decide)]
        rfl
    | true =>
      have e2 := e
      rw [Bool.and_eq_true] at e2
      obtain ⟨g1, g2, g3⟩ := canB_iff.mp e2.1
      have hu2 := o.un2 g2
      have hs : mSurch (dpK z k).1 k = nI (surA (a.st 1) (a.ph k)) := by
        have b1 := o.owd_le
        have b2 : owd (a.ph k) * a.st 1 ≤ 5988006 * 50 := Nat.mul_le_mul b1 hK.s1
        have b3 := hK.s1
        unfold mSurch
        rw [mw_owed m o, h2 1 (by decide) (by decide), hM.st 1 (by decide), pct_l (by omega) (by omega) (by omega)]
        rfl
      have hz : ∀ w, w < 37 → mo (zadd (zadd (zput (dpK z k).1 k 36 (nI 1)) k 32 (mSurch (dpK z k).1 k)) k 33 (mSurch (dpK z k).1 k)) k w = if w = 36 then nI 1 else if w = 32 then nI (surA (a.st 1) (a.ph k)) else if w = 33 then nI (surA (a.st 1) (a.ph k)) else mo (dpK z k).1 k w := fun w hw => by
        unfold zadd
        by_cases q3 : w = 33
        · subst q3
          rw [zput_at, mo_ne (by decide) (by decide) (by omega), mo_ne (by decide) (by decide) (by omega), m.so, hu2.2, hs, nI_add, Nat.zero_add, if_neg (by decide), if_neg (by decide), if_pos rfl]
        · rw [mo_ne (by decide) hw (by omega)]
          by_cases q2 : w = 32
          · subst q2
            rw [zput_at, mo_ne (by decide) (by decide) (by omega), m.Su, hu2.1, hs, nI_add, Nat.zero_add, if_neg (by decide), if_pos rfl]
          · rw [mo_ne (by decide) hw (by omega), if_neg q2, if_neg q3]
            by_cases q1 : w = 36
            · subst q1
              rw [zput_at, if_pos rfl]
            · rw [mo_ne (by decide) hw (by omega), if_neg q1]
      have hlo : ∀ j, j < 10 → (zadd (zadd (zput (dpK z k).1 k 36 (nI 1)) k 32 (mSurch (dpK z k).1 k)) k 33 (mSurch (dpK z k).1 k)) j = (dpK z k).1 j := fun j hj => (z_lo hj).trans ((z_lo hj).trans (z_lo hj))
      refine ⟨⟨(hlo 4 (by decide)).trans h1, fun j hj h9 => (hlo j hj).trans (h2 j hj h9), fun p hp => ?_⟩, ?_⟩
      · show MP (zadd (zadd (zput (dpK z k).1 k 36 (nI 1)) k 32 (mSurch (dpK z k).1 k)) k 33 (mSurch (dpK z k).1 k)) p _
        by_cases q : p = k
        · subst q
          rw [if_pos (Nat.lt_succ_self p), brkP_t e]
          have hN := o.N4
          exact (MP.mk (f_A := fun u hu => by rw [hz _ (by omega), if_neg (by omega), if_neg (by omega), if_neg (by omega)]; exact m.A u hu) (f_E := fun u hu => by rw [hz _ (by omega), if_neg (by omega), if_neg (by omega), if_neg (by omega)]; exact m.E u hu) (f_R := fun hb u hu => by rw [hz _ (by omega), if_neg (by omega), if_neg (by omega), if_neg (by omega)]; exact m.R hb u hu) (f_re := fun hb u hu => by rw [hz _ (by omega), if_neg (by omega), if_neg (by omega), if_neg (by omega)]; exact m.re hb u hu) (f_b := by rw [hz _ (by decide)]; exact m.b) (f_N := by rw [hz _ (by decide)]; exact m.N) (f_I := fun j hj => by
              have hj' : j < (a.ph p).N := hj
              rw [hz _ (by omega), if_neg (by omega), if_neg (by omega), if_neg (by omega)]; exact m.I j hj) (f_O := fun j hj => by
              have hj' : j < (a.ph p).N := hj
              rw [hz _ (by omega), if_neg (by omega), if_neg (by omega), if_neg (by omega)]; exact m.O j hj) (f_D := fun j hj => by
              have hj' : j < (a.ph p).N := hj
              rw [hz _ (by omega), if_neg (by omega), if_neg (by omega), if_neg (by omega)]; exact m.D j hj) (f_lo := by rw [hz _ (by decide)]; exact m.lo) (f_la := by rw [hz _ (by decide)]; exact m.la) (f_Su := by rw [hz _ (by decide)]; rfl) (f_so := by rw [hz _ (by decide)]; rfl) (f_P := by rw [hz _ (by decide)]; exact m.P) (f_Ld := by rw [hz _ (by decide)]; exact m.Ld) (f_br := by rw [hz _ (by decide)]; rfl))
        · rw [hif p q]
          have hN : (if p < k then brkP (a.day + 1) (a.st 1) (a.ph p) else a.ph p).N ≤ 4 := by
            have h8 := (hK.ph p (by omega)).N4
            by_cases q2 : p < k
            · rw [if_pos q2]
              unfold brkP
              split <;> exact h8
            · rw [if_neg q2]
              exact h8
          refine (h3 p hp).congr (fun w hw => ?_) hN
          unfold zadd
          rw [mo_ne (by decide) hw (by omega), mo_ne (by decide) hw (by omega), mo_ne (by decide) hw (by omega)]
      · show (dpK z k).2 + mSurch (dpK z k).1 k = nI (sumP (a.day + 1) (a.st 1) a.ph k + if true = true then surA (a.st 1) (a.ph k) else 0)
        rw [h4, hs, nI_add, if_pos rfl]
theorem dp_M {z : Zr} {a : ALw} (hM : MR z a) (hK : OKw a) : MR (dpK z a.n).1 (aPass a 1) ∧ (dpK z a.n).2 = nI (sumP (a.day + 1) (a.st 1) a.ph a.n) := by
  obtain ⟨⟨h1, h2, h3⟩, h4⟩ := dpK_ab hM hK a.n (Nat.le_refl _)
  refine ⟨⟨h1, dpK_ZI hM.zi _, fun u hu => (h2 (5 + u) (by omega) (by omega)).trans (hM.rt u hu), fun u hu => (h2 u (by omega) (by omega)).trans (hM.st u hu), fun p hp => ?_⟩, h4⟩
  have hp' : p < a.n := hp
  have h5 := h3 p hp'
  rw [if_pos hp'] at h5
  exact h5
theorem aPass_two {a : ALw} {d : Nat} : aPass (aPass a d) 1 = aPass a (d + 1) := by
  have h : (fun p => brkP (a.day + d + 1) (a.st 1) (brkP (a.day + d) (a.st 1) (a.ph p))) = fun p => brkP (a.day + d + 1) (a.st 1) (a.ph p) := funext fun p => brkP_two (by omega)
  show ALw.mk (a.day + d + 1) a.n a.rt a.st (fun p => brkP (a.day + d + 1) (a.st 1) (brkP (a.day + d) (a.st 1) (a.ph p))) = ALw.mk (a.day + d + 1) a.n a.rt a.st (fun p => brkP (a.day + d + 1) (a.st 1) (a.ph p))
  rw [h]
theorem brkP_now {a : ALw} (hK : OKw a) {p : Nat} (hp : p < 6) : brkP a.day (a.st 1) (a.ph p) = a.ph p := by
  refine brkP_f ?_
  cases e : canB (a.ph p) with
  | false => rfl
  | true =>
    have h := fdu_day (hK.ph p hp) e
    exact decide_eq_false (by omega)
theorem pass_M {z : Zr} {a : ALw} (hM : MR z a) (hK : OKw a) : ∀ d, a.day + d ≤ 20000 → MR (dpsK z a.n d).1 (aPass a d) ∧ (dpsK z a.n d).2 = nI (sumP (a.day + d) (a.st 1) a.ph a.n)
  | 0, _ => by
    refine ⟨⟨hM.day, hM.zi, hM.rt, hM.st, fun p hp => ?_⟩, ?_⟩
    · show MP z p (brkP (a.day + 0) (a.st 1) (a.ph p))
      have hp' : p < a.n := hp
      rw [Nat.add_zero, brkP_now hK (by have := hK.n; omega)]
      exact hM.ph p hp
    · show nI 0 = _
      congr 1
      refine (sN_zero a.n fun p hp => ?_).symm
      cases e : canB (a.ph p) with
      | false => rfl
      | true =>
        have h := fdu_day (hK.ph p (by have := hK.n; omega)) e
        rw [decide_eq_false (by omega)]
        rfl
  | d + 1, hd => by
    obtain ⟨h1, h2⟩ := pass_M hM hK d (by omega)
    have hK2 : OKw (aPass a d) := aPass_OKw hK (by omega)
    obtain ⟨h3, h4⟩ := dp_M h1 hK2
    rw [aPass_two] at h3
    refine ⟨h3, ?_⟩
    show (dpsK z a.n d).2 + (dpK (dpsK z a.n d).1 a.n).2 = _
    have h5 : (dpK (dpsK z a.n d).1 a.n).2 = nI (sumP (a.day + d + 1) (a.st 1) (fun p => brkP (a.day + d) (a.st 1) (a.ph p)) a.n) := h4
    rw [h2, h5, nI_add, show a.day + (d + 1) = a.day + d + 1 by omega, ← sumP_two (by omega)]
