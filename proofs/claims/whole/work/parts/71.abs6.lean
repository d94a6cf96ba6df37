/-! ===== one phase is changed ===== -/
def updP (a : ALw) (p0 : Nat) (x : APh) : ALw := (ALw.mk a.day a.n a.rt a.st (fun p => if p = p0 then x else a.ph p))
theorem updP_at {a : ALw} {p0 : Nat} {x : APh} : (updP a p0 x).ph p0 = x := if_pos rfl
theorem updP_ne {a : ALw} {p0 p : Nat} {x : APh} (h : p ≠ p0) : (updP a p0 x).ph p = a.ph p := if_neg h
theorem CR.upd {μ μ' : Mem} {i p0 : Nat} {a : ALw} {x : APh} (h : CR μ i a) (h4 : ∀ k, μ'.1 4 i 0 k = μ.1 4 i 0 k) (h5 : ∀ k, μ'.1 5 i 0 k = μ.1 5 i 0 k) (h6 : ∀ k, μ'.1 6 i 0 k = μ.1 6 i 0 k) (hp : ∀ p t k, p ≠ p0 → 8 ≤ t → t ≤ 14 → μ'.1 t i p k = μ.1 t i p k) (hx : CP μ' i p0 x) : CR μ' i (updP a p0 x) := CR.mk
  (f_day := (h4 0).trans h.day)
  (f_n := (h4 1).trans h.n)
  (f_rt := fun u hu => (h5 u).trans (h.rt u hu))
  (f_st := fun u hu => (h6 u).trans (h.st u hu))
  (f_ph := fun p hp6 => by
    by_cases q : p = p0
    · subst q
      rw [updP_at]
      exact hx
    · rw [updP_ne q]
      exact (h.ph p hp6).congr fun t k ht ht2 => hp p t k q ht ht2)
theorem MR.upd {z z' : Zr} {p0 : Nat} {a : ALw} {x : APh} (h : MR z a) (h0 : ∀ j, j < 10 → z' j = z j) (hp : ∀ p w, p ≠ p0 → w < 37 → mo z' p w = mo z p w) (hN : ∀ p, p < a.n → (a.ph p).N ≤ 4) (hx : MP z' p0 x) (hxN : x.N ≤ 4) : MR z' (updP a p0 x) := MR.mk
  (f_day := (h0 4 (by decide)).trans h.day)
  (f_zi := by
    refine ⟨(h0 9 (by decide)).trans h.zi.1, h.zi.2.1, fun p hp6 => ?_⟩
    by_cases q : p = p0
    · subst q
      have h1 : zp z' p = x.N := by
        have h2 : z' (10 + 37 * p + 17) = nI x.N := hx.N
        unfold zp
        rw [h2, nI_clamp (by omega)]
      rw [h1]
      exact ⟨hx.N, hxN⟩
    · have h1 := hp p 17 q (by decide)
      have h2 : zp z' p = zp z p := congrArg Int32.toNatClampNeg h1
      rw [h1, h2]
      exact h.zi.2.2 p hp6)
  (f_rt := fun u hu => (h0 (5 + u) (by omega)).trans (h.rt u hu))
  (f_st := fun u hu => (h0 u (by omega)).trans (h.st u hu))
  (f_ph := fun p hpn => by
    by_cases q : p = p0
    · subst q
      rw [updP_at]
      exact hx
    · rw [updP_ne q]
      exact (h.ph p hpn).congr (fun w hw => hp p w q hw) (hN p hpn))
theorem OK.upd {a : ALw} {p0 : Nat} {x : APh} (h : OK a) (hx : OP a.day a.n p0 a.rt x) : OK (updP a p0 x) := OK.mk
  (f_day := h.day)
  (f_n := h.n)
  (f_rt := h.rt)
  (f_s0 := h.s0)
  (f_s1 := h.s1)
  (f_s2 := h.s2)
  (f_s3 := h.s3)
  (f_ph := fun p hp => by
    by_cases q : p = p0
    · subst q
      rw [updP_at]
      exact hx
    · rw [updP_ne q]
      exact h.ph p hp)
/-! money is taken -/
def setO (O : Nat → Nat) (m k : Nat) : Nat := O k - min (m - sN O k) (O k)
theorem setO_sum {O : Nat → Nat} {m : Nat} : ∀ k, sN (setO O m) k = sN O k - m
  | 0 => (Nat.zero_sub m).symm
  | k + 1 => by
    show sN (setO O m) k + (O k - min (m - sN O k) (O k)) = sN O k + O k - m
    rw [setO_sum k]
    omega
theorem setO_le {O : Nat → Nat} {m k : Nat} : setO O m k ≤ O k := Nat.sub_le _ _
theorem setO_z {O : Nat → Nat} {m k : Nat} : setO O m k = 0 ↔ O k = 0 ∨ sN O (k + 1) ≤ m := by
  unfold setO
  show _ ↔ O k = 0 ∨ sN O k + O k ≤ m
  omega
theorem setO_min {O : Nat → Nat} {N m w k : Nat} (hw : sN O N ≤ w) (hk : k < N) : setO O (min m w) k = setO O m k := by
  have h1 : sN O k + O k ≤ sN O N := sN_mono (m := k + 1) N hk
  unfold setO
  omega
def takX (m : Nat) (x : APh) : APh := (APh.mk x.beg x.A x.E x.R x.La x.N x.B x.g x.I (setO x.O m) x.P x.Ld x.Su x.br (x.lo - min (m - sN x.O x.N) x.lo) (x.so - min (m - sN x.O x.N - x.lo) x.so))
def payX (m : Nat) (x : APh) : APh := (APh.mk (takX m x).beg (takX m x).A (takX m x).E (takX m x).R (takX m x).La (takX m x).N (takX m x).B (takX m x).g (takX m x).I (takX m x).O (x.P + min m (owd x)) (takX m x).Ld (takX m x).Su (takX m x).br (takX m x).lo (takX m x).so)
def lanX (m : Nat) (x : APh) : APh := (APh.mk (takX m x).beg (takX m x).A (takX m x).E (takX m x).R (takX m x).La (takX m x).N (takX m x).B (takX m x).g (takX m x).I (takX m x).O (takX m x).P (x.Ld + min m (owd x)) (takX m x).Su (takX m x).br (takX m x).lo (takX m x).so)
theorem takX_owd {m : Nat} {x : APh} : (x.lo - min (m - sN x.O x.N) x.lo) + (x.so - min (m - sN x.O x.N - x.lo) x.so) + sN (setO x.O m) x.N = owd x - min m (owd x) := by
  rw [setO_sum]
  unfold owd
  omega
theorem takX_OP {day n p : Nat} {rt : Nat → Nat} {x : APh} {m P Ld : Nat} (h : OP day n p rt x) (hb : x.beg = true) (he : P + Ld = x.P + x.Ld + min m (owd x)) : OP day n p rt (APh.mk (takX m x).beg (takX m x).A (takX m x).E (takX m x).R (takX m x).La (takX m x).N (takX m x).B (takX m x).g (takX m x).I (takX m x).O (P) (Ld) (takX m x).Su (takX m x).br (takX m x).lo (takX m x).so) := OP.mk
  (f_hA := h.hA)
  (f_hE := h.hE)
  (f_hR := h.hR)
  (f_hL := h.hL)
  (f_blank := h.blank)
  (f_un := fun q => absurd (hb.symm.trans q) (by decide))
  (f_rt := h.rt)
  (f_bg := fun _ => by
    obtain ⟨h1, h2, h3, h4, h5, h6, h7⟩ := h.bg hb
    refine ⟨h1, h2, h3, h4, h5, h6, ?_⟩
    show chg x + x.Su = rlf x + P + Ld + ((x.lo - min (m - sN x.O x.N) x.lo) + (x.so - min (m - sN x.O x.N - x.lo) x.so) + sN (setO x.O m) x.N)
    rw [takX_owd]
    omega)
  (f_sh := fun j k hj hk q => by
    have hk' : k < x.N := hk
    rcases setO_z.mp q with q1 | q1
    · exact setO_z.mpr (Or.inl (h.sh j k hj hk q1))
    · exact setO_z.mpr (Or.inr (Nat.le_trans (sN_mono (m := j + 1) (k + 1) (by omega)) q1)))
  (f_du := fun _ hr k hk q => h.du hb hr k hk (Nat.lt_of_lt_of_le q setO_le))
  (f_un2 := fun hr => by
    obtain ⟨h1, h2⟩ := h.un2 hr
    exact ⟨h1, by show x.so - _ = 0; rw [h2]; exact Nat.zero_sub _⟩)
  (f_su := h.su)
theorem settleK_ab {μ : Mem} {i p N m : Nat} {O : Nat → Nat} (hO : ∀ j, j < N → μ.1 14 i p j = nI (O j)) (hs : sN O N < 2 ^ 30) (hm : m < 2 ^ 30) : ∀ k, k ≤ N → (∀ j, j < N → (settleK μ i p (nI m) k).1.1 14 i p j = nI (if j < k then setO O m j else O j)) ∧ (settleK μ i p (nI m) k).2 = nI (m - sN O k) ∧ (∀ t i' p' j, ¬ (t = 14 ∧ i' = i ∧ p' = p) → (settleK μ i p (nI m) k).1.1 t i' p' j = μ.1 t i' p' j)
  | 0, _ => ⟨fun j hj => by rw [if_neg (Nat.not_lt_zero j)]; exact hO j hj, rfl, fun _ _ _ _ _ => rfl⟩
  | k + 1, hk => by
    obtain ⟨h1, h2, h3⟩ := settleK_ab hO hs hm k (by omega)
    have b1 : O k ≤ sN O N := sN_one hk
    have b2 : sN O k + O k ≤ sN O N := sN_mono (m := k + 1) N hk
    have e1 := h1 k (by omega)
    rw [if_neg (Nat.lt_irrefl k)] at e1
    have hst : settleK μ i p (nI m) (k + 1) = (mset (settleK μ i p (nI m) k).1 14 i p k ((settleK μ i p (nI m) k).1.1 14 i p k - mini (settleK μ i p (nI m) k).2 ((settleK μ i p (nI m) k).1.1 14 i p k)), (settleK μ i p (nI m) k).2 - mini (settleK μ i p (nI m) k).2 ((settleK μ i p (nI m) k).1.1 14 i p k)) := rfl
    rw [e1, h2, mini_nI (by omega) (by omega), pk_sub (Nat.min_le_right _ _), pk_sub (Nat.min_le_left _ _)] at hst
    rw [hst]
    refine ⟨fun j hj => ?_, ?_, fun t i' p' j hne => ?_⟩
    · by_cases q : j = k
      · subst q
        rw [if_pos (Nat.lt_succ_self j)]
        exact mset_at
      · refine (mset_k q).trans ((h1 j hj).trans ?_)
        by_cases q2 : j < k
        · rw [if_pos q2, if_pos (by omega)]
        · rw [if_neg q2, if_neg (by omega)]
    · show nI (m - sN O k - min (m - sN O k) (O k)) = nI (m - (sN O k + O k))
      congr 1
      omega
    · exact (if_neg fun q => hne ⟨q.1, q.2.1, q.2.2.1⟩).trans (h3 t i' p' j hne)
/-- the class settles: paid (kk = 9) or landed (kk = 10) is greater by what is taken -/
theorem settle_C {μ : Mem} {i p m day n : Nat} {rt : Nat → Nat} {x : APh} (c : CP μ i p x) (o : OP day n p rt x) (hb : x.beg = true) {kk P Ld : Nat} (hk : (kk = 9 ∧ P = x.P + min m (owd x) ∧ Ld = x.Ld) ∨ (kk = 10 ∧ Ld = x.Ld + min m (owd x) ∧ P = x.P)) : CP (cSettle (mset μ 8 i p kk (μ.1 8 i p kk + nI (min m (owd x)))) i p x.N (nI (min m (owd x)))) i p (APh.mk (takX m x).beg (takX m x).A (takX m x).E (takX m x).R (takX m x).La (takX m x).N (takX m x).B (takX m x).g (takX m x).I (takX m x).O (P) (Ld) (takX m x).Su (takX m x).br (takX m x).lo (takX m x).so) := by
  have b1 := o.owd_le
  have b2 := o.sO_le
  have hso : sN x.O x.N ≤ owd x := by unfold owd; omega
  obtain ⟨h1, h2, h3⟩ := settleK_ab (μ := mset μ 8 i p kk (μ.1 8 i p kk + nI (min m (owd x)))) (i := i) (p := p) (N := x.N) (m := min m (owd x)) (O := x.O) (fun j hj => (mset_t (by decide)).trans (c.O j hj)) (by omega) (by omega) x.N (Nat.le_refl _)
  have h4 : ∀ t j, t ≠ 14 → ¬ (t = 8 ∧ j = kk) → (cSettle (mset μ 8 i p kk (μ.1 8 i p kk + nI (min m (owd x)))) i p x.N (nI (min m (owd x)))).1 t i p j = μ.1 t i p j := fun t j ht hne => (h3 t i p j (fun q => ht q.1)).trans (if_neg fun q => hne ⟨q.1, q.2.2.2⟩)
  have h5 : (cSettle (mset μ 8 i p kk (μ.1 8 i p kk + nI (min m (owd x)))) i p x.N (nI (min m (owd x)))).1 8 i p kk = μ.1 8 i p kk + nI (min m (owd x)) := (h3 8 i p kk (fun q => absurd q.1 (by decide))).trans mset_at
  exact (CP.mk (f_A := fun u hu => (h4 9 u (by decide) (fun q => absurd q.1 (by decide))).trans (c.A u hu)) (f_E := fun u hu => (h4 10 u (by decide) (fun q => absurd q.1 (by decide))).trans (c.E u hu)) (f_R := fun u hu => (h4 11 u (by decide) (fun q => absurd q.1 (by decide))).trans (c.R u hu)) (f_La := fun u hu => (h4 12 u (by decide) (fun q => absurd q.1 (by decide))).trans (c.La u hu)) (f_b := (h4 8 6 (by decide) (by omega)).trans c.b) (f_g := fun hb => (h4 8 7 (by decide) (by omega)).trans (c.g hb)) (f_N := (h4 8 8 (by decide) (by omega)).trans c.N) (f_P := by
      rcases hk with ⟨rfl, q1, q2⟩ | ⟨rfl, q1, q2⟩
      · exact h5.trans (by rw [c.P, nI_add]; exact congrArg nI q1.symm)
      · exact (h4 8 9 (by decide) (by omega)).trans (c.P.trans (congrArg nI q2.symm))) (f_Ld := by
      rcases hk with ⟨rfl, q1, q2⟩ | ⟨rfl, q1, q2⟩
      · exact (h4 8 10 (by decide) (by omega)).trans (c.Ld.trans (congrArg nI q2.symm))
      · exact h5.trans (by rw [c.Ld, nI_add]; exact congrArg nI q1.symm)) (f_Su := (h4 8 11 (by decide) (by omega)).trans c.Su) (f_br := (h4 8 12 (by decide) (by omega)).trans c.br) (f_I := fun k hk => (h4 13 k (by decide) (fun q => absurd q.1 (by decide))).trans (c.I k hk)) (f_O := fun k hk => by
      refine (h1 k hk).trans ?_
      have hk' : k < x.N := hk
      rw [if_pos hk', setO_min hso hk']
      rfl))
theorem settle_far {μ : Mem} {i p N kk : Nat} {v a : Int32} {t i' p' j : Nat} (h : ¬ (i' = i ∧ p' = p)) : (cSettle (mset μ 8 i p kk v) i p N a).1 t i' p' j = μ.1 t i' p' j := by
  have h1 : ∀ k, (settleK (mset μ 8 i p kk v) i p a k).1.1 t i' p' j = (mset μ 8 i p kk v).1 t i' p' j := by
    intro k
    induction k with
    | zero => rfl
    | succ k ih => exact (if_neg fun q => h ⟨q.2.1, q.2.2.1⟩).trans ih
  exact (h1 N).trans (if_neg fun q => h ⟨q.2.1, q.2.2.1⟩)
theorem settle_tag {μ : Mem} {i p N kk : Nat} {v a : Int32} {t : Nat} (h : t ≠ 8) (h2 : t ≠ 14) : (cSettle (mset μ 8 i p kk v) i p N a).1 t = μ.1 t := by
  have h1 : ∀ k, (settleK (mset μ 8 i p kk v) i p a k).1.1 t = (mset μ 8 i p kk v).1 t := by
    intro k
    induction k with
    | zero => rfl
    | succ k ih => exact (mset_tag h2).trans ih
  exact (h1 N).trans (mset_tag h)
/-! the reference takes -/
theorem zset_w {z : Zr} {p w v m : Nat} (h : mo z p w = nI v) (hv : v < 2 ^ 31) (hm : m < 2 ^ 31) : mo (zSettle z p w (nI m)) p w = nI (v - min m v) := by
  unfold zSettle zadd
  rw [zput_at, h, mPart_nI hv hm, ← Int32.sub_eq_add_neg, pk_sub (Nat.min_le_right _ _)]
theorem zset_ne {z : Zr} {p w : Nat} {m : Int32} {q w' : Nat} (hw : w < 37) (hw' : w' < 37) (h : ¬ (q = p ∧ w' = w)) : mo (zSettle z p w m) q w' = mo z q w' := mo_ne hw hw' h
theorem zset_lo {z : Zr} {p w : Nat} {m : Int32} {j : Nat} (hj : j < 10) : zSettle z p w m j = z j := z_lo hj
theorem takeK_ab {z : Zr} {p N m : Nat} {O : Nat → Nat} (hN : N ≤ 4) (hO : ∀ j, j < N → mo z p (22 + j) = nI (O j)) (hs : sN O N < 2 ^ 30) (hm : m < 2 ^ 30) : ∀ k, k ≤ N → (∀ j, j < N → mo (takeK z p (nI m) k).1 p (22 + j) = nI (if j < k then setO O m j else O j)) ∧ (takeK z p (nI m) k).2 = nI (m - sN O k) ∧ (∀ q w, w < 37 → ¬ (q = p ∧ 22 ≤ w ∧ w < 26) → mo (takeK z p (nI m) k).1 q w = mo z q w) ∧ (∀ j, j < 10 → (takeK z p (nI m) k).1 j = z j)
  | 0, _ => ⟨fun j hj => by rw [if_neg (Nat.not_lt_zero j)]; exact hO j hj, rfl, fun _ _ _ _ => rfl, fun _ _ => rfl⟩
  | k + 1, hk => by
    obtain ⟨h1, h2, h3, h4⟩ := takeK_ab hN hO hs hm k (by omega)
    have b1 : O k ≤ sN O N := sN_one hk
    have b2 : sN O k + O k ≤ sN O N := sN_mono (m := k + 1) N hk
    have e1 := h1 k (by omega)
    rw [if_neg (Nat.lt_irrefl k)] at e1
    have hst : takeK z p (nI m) (k + 1) = (zSettle (takeK z p (nI m) k).1 p (22 + k) (takeK z p (nI m) k).2, (takeK z p (nI m) k).2 - mPart (mo (takeK z p (nI m) k).1 p (22 + k)) (takeK z p (nI m) k).2) := rfl
    rw [hst]
    refine ⟨fun j hj => ?_, ?_, fun q w hw hne => ?_, fun j hj => (zset_lo hj).trans (h4 j hj)⟩
    · by_cases q : j = k
      · subst q
        rw [if_pos (Nat.lt_succ_self j)]
        show mo (zSettle (takeK z p (nI m) j).1 p (22 + j) (takeK z p (nI m) j).2) p (22 + j) = _
        rw [h2]
        exact zset_w e1 (by omega) (by omega)
      · refine (zset_ne (by omega) (by omega) (by omega)).trans ((h1 j hj).trans ?_)
        by_cases q2 : j < k
        · rw [if_pos q2, if_pos (by omega)]
        · rw [if_neg q2, if_neg (by omega)]
    · show (takeK z p (nI m) k).2 - mPart (mo (takeK z p (nI m) k).1 p (22 + k)) (takeK z p (nI m) k).2 = nI (m - (sN O k + O k))
      rw [e1, h2, mPart_nI (by omega) (by omega), pk_sub (Nat.min_le_left _ _)]
      congr 1
      omega
    · exact (zset_ne (by omega) hw (by omega)).trans (h3 q w hw hne)
theorem take_M {z : Zr} {p m day n : Nat} {rt : Nat → Nat} {x : APh} (c : MP z p x) (o : OP day n p rt x) (hm : m < 2 ^ 30) {kk P Ld : Nat} (hk : (kk = 34 ∧ P = x.P + min m (owd x) ∧ Ld = x.Ld) ∨ (kk = 35 ∧ Ld = x.Ld + min m (owd x) ∧ P = x.P)) :
    mTakes z p (nI m) = nI (min m (owd x)) ∧ MP (zTakes z p (nI m) kk) p (APh.mk (takX m x).beg (takX m x).A (takX m x).E (takX m x).R (takX m x).La (takX m x).N (takX m x).B (takX m x).g (takX m x).I (takX m x).O (P) (Ld) (takX m x).Su (takX m x).br (takX m x).lo (takX m x).so) ∧ (∀ q w, q ≠ p → w < 37 → mo (zTakes z p (nI m) kk) q w = mo z q w) ∧ (∀ j, j < 10 → zTakes z p (nI m) kk j = z j) := by
  have b1 := o.owd_le
  have b2 := o.sO_le
  have hN := o.N4
  have hzp := mw_zp c o
  obtain ⟨h1, h2, h3, h4⟩ := takeK_ab (z := z) (p := p) (m := m) hN c.O (by omega) hm x.N (Nat.le_refl _)
  have hkk : kk = 34 ∨ kk = 35 := by
    rcases hk with q | q
    · exact Or.inl q.1
    · exact Or.inr q.1
  -- behind the lapsed money
  have a0 : mo (takeK z p (nI m) (zp z p)).1 p 30 = nI x.lo := by rw [hzp, h3 p 30 (by decide) (by omega)]; exact c.lo
  have a1 : (takeA z p (nI m)).1 = zSettle (takeK z p (nI m) x.N).1 p 30 (nI (m - sN x.O x.N)) := by
    unfold takeA
    rw [hzp, h2]
  have a2 : (takeA z p (nI m)).2 = nI (m - sN x.O x.N - x.lo) := by
    unfold takeA
    rw [a0, hzp, h2, mPart_nI (by omega) (by omega), pk_sub (Nat.min_le_left _ _)]
    show nI (m - sN x.O x.N - min (m - sN x.O x.N) x.lo) = nI (m - sN x.O x.N - x.lo)
    congr 1
    omega
  have a3 : mo (takeA z p (nI m)).1 p 33 = nI x.so := by
    rw [a1, zset_ne (by decide) (by decide) (by omega), h3 p 33 (by decide) (by omega)]
    exact c.so
  have e1 : (takeB z p (nI m)).1 = zSettle (takeA z p (nI m)).1 p 33 (nI (m - sN x.O x.N - x.lo)) := by
    unfold takeB
    rw [a2]
  have e2 : (takeB z p (nI m)).2 = nI (m - sN x.O x.N - x.lo - x.so) := by
    unfold takeB
    rw [a3, a2, mPart_nI (by omega) (by omega), pk_sub (Nat.min_le_left _ _)]
    show nI (m - sN x.O x.N - x.lo - min (m - sN x.O x.N - x.lo) x.so) = nI (m - sN x.O x.N - x.lo - x.so)
    congr 1
    omega
  have e3 : nI m - (takeB z p (nI m)).2 = nI (min m (owd x)) := by
    rw [e2, pk_sub (by omega)]
    congr 1
    unfold owd
    omega
  have f1 : ∀ q w, w < 37 → ¬ (q = p ∧ ((22 ≤ w ∧ w < 26) ∨ w = 30 ∨ w = 33)) → mo (takeB z p (nI m)).1 q w = mo z q w := fun q w hw hne => by
    rw [e1, zset_ne (by decide) hw (by omega), a1, zset_ne (by decide) hw (by omega)]
    exact h3 q w hw (by omega)
  have f2 : ∀ q w, w < 37 → ¬ (q = p ∧ ((22 ≤ w ∧ w < 26) ∨ w = 30 ∨ w = 33 ∨ w = kk)) → mo (zTakes z p (nI m) kk) q w = mo z q w := fun q w hw hne => by
    unfold zTakes zadd
    rw [mo_ne (by omega) hw (by omega)]
    exact f1 q w hw (by omega)
  have f3 : mo (zTakes z p (nI m) kk) p kk = mo z p kk + nI (min m (owd x)) := by
    unfold zTakes zadd
    rw [zput_at, e3, f1 p kk (by omega) (by omega)]
  have f4 : ∀ w, w < 37 → w ≠ kk → mo (zTakes z p (nI m) kk) p w = mo (takeB z p (nI m)).1 p w := fun w hw hne => mo_ne (by omega) hw (by omega)
  refine ⟨e3, ?_, fun q w hq hw => f2 q w hw (by omega), fun j hj => ?_⟩
  · exact (MP.mk (f_A := fun u hu => (f2 p (1 + u) (by omega) (by omega)).trans (c.A u hu)) (f_E := fun u hu => (f2 p (5 + u) (by omega) (by omega)).trans (c.E u hu)) (f_R := fun hb u hu => (f2 p (9 + u) (by omega) (by omega)).trans (c.R hb u hu)) (f_re := fun hb u hu => (f2 p (13 + u) (by omega) (by omega)).trans (c.re hb u hu)) (f_b := (f2 p 0 (by omega) (by omega)).trans c.b) (f_N := (f2 p 17 (by omega) (by omega)).trans c.N) (f_I := fun k hk => by
        have hk' : k < x.N := hk
        exact (f2 p (18 + k) (by omega) (by omega)).trans (c.I k hk)) (f_O := fun k hk => by
        have hk' : k < x.N := hk
        rw [f4 (22 + k) (by omega) (by omega), e1, zset_ne (by decide) (by omega) (by omega), a1, zset_ne (by decide) (by omega) (by omega), h1 k hk', if_pos hk']
        rfl) (f_D := fun k hk => by
        have hk' : k < x.N := hk
        exact (f2 p (26 + k) (by omega) (by omega)).trans (c.D k hk)) (f_lo := by
        rw [f4 30 (by decide) (by omega), e1, zset_ne (by decide) (by decide) (by omega), a1]
        exact zset_w ((h3 p 30 (by decide) (by omega)).trans c.lo) (by omega) (by omega)) (f_la := (f2 p 31 (by omega) (by omega)).trans c.la) (f_Su := (f2 p 32 (by omega) (by omega)).trans c.Su) (f_so := by
        rw [f4 33 (by decide) (by omega), e1]
        exact zset_w a3 (by omega) (by omega)) (f_P := by
        rcases hk with ⟨rfl, q1, q2⟩ | ⟨rfl, q1, q2⟩
        · rw [f3, c.P, nI_add]; exact congrArg nI q1.symm
        · exact (f2 p 34 (by omega) (by omega)).trans (c.P.trans (congrArg nI q2.symm))) (f_Ld := by
        rcases hk with ⟨rfl, q1, q2⟩ | ⟨rfl, q1, q2⟩
        · exact (f2 p 35 (by omega) (by omega)).trans (c.Ld.trans (congrArg nI q2.symm))
        · rw [f3, c.Ld, nI_add]; exact congrArg nI q1.symm) (f_br := (f2 p 36 (by omega) (by omega)).trans c.br))
  · unfold zTakes zadd
    rw [z_lo hj, e1, zset_lo hj, a1, zset_lo hj]
    exact h4 j hj
