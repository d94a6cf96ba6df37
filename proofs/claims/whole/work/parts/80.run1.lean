/-! ===== one order carried out: the class's and the reference's ===== -/
theorem cHas_n {n p : Nat} (hn : n ≤ 6) (hp : p ≤ 5) (h : cHas n (nI p) = true) : p < n := by
  obtain ⟨q, hq, e⟩ := cHas_inv h hn
  have := (nI_eq (by omega) (by omega)).mp e
  omega
theorem nLet2 : (¬ nI 97 = nI 100) ∧ (¬ nI 98 = nI 100) ∧ (¬ nI 112 = nI 100) ∧ (¬ nI 97 = nI 98) ∧ (¬ nI 97 = nI 112) := by decide
theorem co_a {M : Mem} {n : Nat} {ph us nu : Int32} : coP M n (nI 97) ph us nu = cond (cHas n ph && decide (cWhy0 M 0 ph.toNatClampNeg = 0)) (true, coA M n ph.toNatClampNeg us.toNatClampNeg nu) (false, M) := by
  unfold coP
  rw [decide_eq_true (rfl : nI 97 = nI 97)]
  rfl
theorem co_b {M : Mem} {n : Nat} {ph us nu : Int32} : coP M n (nI 98) ph us nu = cond (cHas n ph && decide (cWhy1 M 0 ph.toNatClampNeg = 0)) (true, cStart M 0 ph.toNatClampNeg (M.1 4 0 0 0) (M.1 6 0 0 0)) (false, M) := by
  unfold coP
  rw [decide_eq_false nLet.1, decide_eq_true (rfl : nI 98 = nI 98)]
  rfl
theorem co_p {M : Mem} {n : Nat} {ph us nu : Int32} : coP M n (nI 112) ph us nu = cond (cHas n ph && decide (cWhy2 M 0 ph.toNatClampNeg = 0)) (true, cPay M 0 ph.toNatClampNeg (insN M 0 ph.toNatClampNeg) nu) (false, M) := by
  unfold coP
  rw [decide_eq_false nLet.2.1, decide_eq_false nLet.2.2.1, decide_eq_true (rfl : nI 112 = nI 112)]
  rfl
theorem co_d {M : Mem} {n : Nat} {ph us nu : Int32} : coP M n (nI 100) ph us nu = cond (cLeft M 0 nu) (true, cPass M 0 n nu) (false, M) := by
  unfold coP
  rw [decide_eq_false nLet.2.2.2.1, decide_eq_false nLet.2.2.2.2.1, decide_eq_false nLet.2.2.2.2.2.1]
  rfl
theorem mc_a {z : Zr} {n : Nat} {ph us v : Int32} : mCarry z n (nI 97) ph us v = cond (cHas n ph && !(mBegun z ph.toNatClampNeg)) (true, zArea z ph.toNatClampNeg us.toNatClampNeg v) (false, z) := by
  unfold mCarry mCanC
  rw [decide_eq_false nLet2.1, decide_eq_true (rfl : nI 97 = nI 97)]
  rfl
theorem mc_b {z : Zr} {n : Nat} {ph us v : Int32} : mCarry z n (nI 98) ph us v = cond (cHas n ph && decide (mWhy1 z ph.toNatClampNeg = 0)) (true, zBegins z ph.toNatClampNeg) (false, z) := by
  unfold mCarry mCanC
  rw [decide_eq_false nLet2.2.1, decide_eq_false nLet.1, decide_eq_true (rfl : nI 98 = nI 98)]
  rfl
theorem mc_p {z : Zr} {n : Nat} {ph us v : Int32} : mCarry z n (nI 112) ph us v = cond (cHas n ph && decide (mWhy2 z ph.toNatClampNeg = 0)) (true, zTakes z ph.toNatClampNeg v 34) (false, z) := by
  unfold mCarry mCanC
  rw [decide_eq_false nLet2.2.2.1, decide_eq_false nLet.2.1, decide_eq_false nLet.2.2.1]
  rfl
theorem mc_d {z : Zr} {n : Nat} {ph us v : Int32} : mCarry z n (nI 100) ph us v = (mLeft z v, cond (mLeft z v) (dpsK z n v.toNatClampNeg).1 z) := by
  unfold mCarry
  rw [decide_eq_true (rfl : nI 100 = nI 100)]
  rfl
/-- what both say of an order, and where they stand behind it -/
def bothR (M : Mem) (a : ALw) (q : Bool × Mem) (r : Bool × Zr) : Prop := q.1 = r.1 ∧ ∃ a' : ALw, a'.n = a.n ∧ CR q.2 0 a' ∧ MR r.2 a' ∧ OK a' ∧ Fr q.2 M
theorem both_f {M : Mem} {z : Zr} {a : ALw} (hC : CR M 0 a) (hM : MR z a) (hK : OK a) : bothR M a (false, M) (false, z) := ⟨rfl, a, rfl, hC, hM, hK, fr_rf⟩
set_option maxHeartbeats 1000000 in
theorem run_a {M : Mem} {z : Zr} {a : ALw} (hC : CR M 0 a) (hM : MR z a) (hK : OK a) {p u w : Nat} (hp : p ≤ 5) (hu : u < 4) (hw : w ≤ 999) : bothR M a (coP M a.n (nI 97) (nI p) (nI u) (nI w)) (mCarry z a.n (nI 97) (nI p) (nI u) (nI w)) := by
  have hn := hK.n
  rw [co_a, mc_a, nI_clamp (by omega : p < 2 ^ 31), nI_clamp (by omega : u < 2 ^ 31)]
  cases h : cHas a.n (nI p) with
  | false => exact both_f hC hM hK
  | true =>
    have hpn := cHas_n hn hp h
    have c := hC.ph p (by omega)
    have m := hM.ph p hpn
    have o := hK.ph p (by omega)
    rw [mw_begun m o]
    cases hb : (a.ph p).beg with
    | true =>
      rw [decide_eq_false (why0_be c o hb)]
      exact both_f hC hM hK
    | false =>
      rw [decide_eq_true (why0_un c o hb)]
      have he : (a.ph p).E u < 2 ^ 30 := by
        have h1 := o.hE u hu
        have h2 := o.hA u hu
        omega
      obtain ⟨g1, g2, g3⟩ := area_M (v := w) m hb (o.un hb).1 hu he (by omega)
      exact ⟨rfl, updP a p (areX u w (a.ph p)), rfl, hC.upd (fun k => (mset_t (by decide)).trans (mset_t (by decide))) (fun k => (mset_t (by decide)).trans (mset_t (by decide))) (fun k => (mset_t (by decide)).trans (mset_t (by decide))) (fun p' t k q _ _ => (mset_p q).trans (mset_p q)) (area_C c hu he (by omega) rfl), hM.upd g3 g2 (fun q hq => (hK.ph q (by omega)).N4) g1 o.N4, hK.upd (areX_OP o hb hpn hw), fr_tr (fr_ms (by decide) (by decide)) (fr_ms (by decide) (by decide))⟩
set_option maxHeartbeats 1000000 in
theorem run_b {M : Mem} {z : Zr} {a : ALw} (hC : CR M 0 a) (hM : MR z a) (hK : OK a) {p : Nat} {us us' nu nu' : Int32} (hp : p ≤ 5) : bothR M a (coP M a.n (nI 98) (nI p) us nu) (mCarry z a.n (nI 98) (nI p) us' nu') := by
  have hn := hK.n
  rw [co_b, mc_b, nI_clamp (by omega : p < 2 ^ 31)]
  cases h : cHas a.n (nI p) with
  | false => exact both_f hC hM hK
  | true =>
    have hpn := cHas_n hn hp h
    have c := hC.ph p (by omega)
    have m := hM.ph p hpn
    have o := hK.ph p (by omega)
    rw [← q_why1 hC hM hK hpn]
    by_cases hw : cWhy1 M 0 p = 0
    · rw [decide_eq_true hw, hC.day, hC.st 0 (by decide)]
      have hb := why1_un c o hw
      obtain ⟨g1, g2, g3⟩ := begins_M m o hb hpn hM.rt hM.day (hM.st 0 (by decide))
      exact ⟨rfl, updP a p (begX a.day (a.st 0) (a.ph p)), rfl, hC.upd (fun k => start_tag (by omega)) (fun k => start_tag (by omega)) (fun k => start_tag (by omega)) (fun p' t k q _ _ => start_tag (by omega)) (start_C c o), hM.upd g3 g2 (fun q hq => (hK.ph q (by omega)).N4) g1 (partsN_le _).2, hK.upd (begX_OP o hb hpn hK.day hK.s0), fr_start⟩
    · rw [decide_eq_false hw]
      exact both_f hC hM hK
set_option maxHeartbeats 1000000 in
theorem run_p {M : Mem} {z : Zr} {a : ALw} (hC : CR M 0 a) (hM : MR z a) (hK : OK a) {p w : Nat} {us us' : Int32} (hp : p ≤ 5) (hw9 : w ≤ 99999) : bothR M a (coP M a.n (nI 112) (nI p) us (nI w)) (mCarry z a.n (nI 112) (nI p) us' (nI w)) := by
  have hn := hK.n
  rw [co_p, mc_p, nI_clamp (by omega : p < 2 ^ 31)]
  cases h : cHas a.n (nI p) with
  | false => exact both_f hC hM hK
  | true =>
    have hpn := cHas_n hn hp h
    have c := hC.ph p (by omega)
    have m := hM.ph p hpn
    have o := hK.ph p (by omega)
    rw [← q_why2 hC hM hK hpn]
    by_cases hw : cWhy2 M 0 p = 0
    · have hb := why2_be c o hw
      have b1 := o.owd_le
      have hT : cTaken M 0 p (nI w) = nI (min w (owd (a.ph p))) := by
        unfold cTaken
        rw [cw_owed c o, mini_nI (by omega) (by omega)]
      rw [decide_eq_true hw, cw_ins c o]
      unfold cPay
      rw [hT]
      obtain ⟨g0, g1, g2, g3⟩ := take_M (m := w) m o (by omega) (kk := 34) (P := (a.ph p).P + min w (owd (a.ph p))) (Ld := (a.ph p).Ld) (Or.inl ⟨rfl, rfl, rfl⟩)
      exact ⟨rfl, updP a p (APh.mk (takX w (a.ph p)).beg (takX w (a.ph p)).A (takX w (a.ph p)).E (takX w (a.ph p)).R (takX w (a.ph p)).La (takX w (a.ph p)).N (takX w (a.ph p)).B (takX w (a.ph p)).g (takX w (a.ph p)).I (takX w (a.ph p)).O ((a.ph p).P + min w (owd (a.ph p))) (a.ph p).Ld (takX w (a.ph p)).Su (takX w (a.ph p)).br (takX w (a.ph p)).lo (takX w (a.ph p)).so), rfl, hC.upd (fun k => congrFun (congrFun (congrFun (settle_tag (by decide) (by decide)) 0) 0) k) (fun k => congrFun (congrFun (congrFun (settle_tag (by decide) (by decide)) 0) 0) k) (fun k => congrFun (congrFun (congrFun (settle_tag (by decide) (by decide)) 0) 0) k) (fun p' t k q _ _ => settle_far (fun y => q y.2)) (settle_C c o hb (kk := 9) (Or.inl ⟨rfl, rfl, rfl⟩)), hM.upd g3 g2 (fun q hq => (hK.ph q (by omega)).N4) g1 o.N4, hK.upd (takX_OP o hb (by omega)), fr_settle⟩
    · rw [decide_eq_false hw]
      exact both_f hC hM hK
theorem run_d {M : Mem} {z : Zr} {a : ALw} (hC : CR M 0 a) (hM : MR z a) (hK : OK a) {d : Nat} {ph us ph' us' : Int32} (hd : d ≤ 99) : bothR M a (coP M a.n (nI 100) ph us (nI d)) (mCarry z a.n (nI 100) ph' us' (nI d)) := by
  rw [co_d, mc_d, left_C hC hK (d := d) (by omega), left_M hM hK (d := d) (by omega), nI_clamp (by omega : d < 2 ^ 31)]
  by_cases hl : a.day + d ≤ 9999
  · rw [decide_eq_true hl]
    obtain ⟨p1, p2⟩ := pass_C hC hK.w (d := d) (by omega)
    obtain ⟨p3, p4⟩ := pass_M hM hK.w d (by omega)
    exact ⟨rfl, aPass a d, rfl, p1, p3, aPass_OK hK hl, fr_pass⟩
  · rw [decide_eq_false hl]
    exact both_f hC hM hK
theorem run_1 {M : Mem} {z : Zr} {a : ALw} (hC : CR M 0 a) (hM : MR z a) (hK : OK a) {rd : Nat} {ps : Nat → Int32} {q : RS} (h : ordP rd ps q) : bothR M a (coP M a.n q.2.1 q.2.2.1 q.2.2.2.1 q.2.2.2.2) (mcP ps z a.n rd) := by
  obtain ⟨h0, h⟩ := h
  unfold mcP
  rw [h0]
  rcases h with ⟨e1, ⟨p, hp, e2⟩, f2, ⟨u, hu, e3⟩, f3, ⟨w, hw, e4⟩, f4⟩ | ⟨e1, ⟨p, hp, e2⟩, f2⟩ | ⟨e1, ⟨p, hp, e2⟩, f2, ⟨w, -, hw, e4⟩, f4⟩ | ⟨e1, ⟨w, -, hw, e4⟩, f4⟩
  · rw [f2, f3, f4, e1, e2, e3, e4]
    exact run_a hC hM hK hp hu hw
  · rw [f2, e1, e2]
    exact run_b hC hM hK hp
  · rw [f2, f4, e1, e2, e4]
    exact run_p hC hM hK hp hw
  · rw [f4, e1, e4]
    exact run_d hC hM hK hw
/-! ===== the whole row of orders ===== -/
theorem tkNext_fr {c : Int32} {s : PS} (hd : s.2.2.1 ≤ 5) : s.1 ≤ (tkNext c s).2.1 ∧ (tkNext c s).2.2.2.1 ≤ 5 ∧ ∀ j, j < 4 * s.1 → (tkNext c s).2.2.2.2 j = s.2.2.2 j := by
  obtain ⟨rd, nu, du, ps⟩ := s
  unfold tkNext
  cases decide (c = nI 59) && isEnd (rd, nu, du, ps)
  · match du, hd with
    | 0, _ =>
      refine ⟨Nat.le_refl _, ?_, fun j hj => upd_ne (by have h9 : j < 4 * rd := hj; show j ≠ 4 * rd; omega)⟩
      show (cond (decide (c = nI 100)) 4 1 : Nat) ≤ 5
      cases decide (c = nI 100) <;> decide
    | 1, _ =>
      refine ⟨Nat.le_refl _, ?_, fun j hj => upd_ne (by have h9 : j < 4 * rd := hj; show j ≠ 4 * rd + 1; omega)⟩
      show (cond (decide (pLet (rd, nu, 1, ps) = nI 97)) 2 (cond (decide (pLet (rd, nu, 1, ps) = nI 98)) 5 3) : Nat) ≤ 5
      cases decide (pLet (rd, nu, 1, ps) = nI 97) <;> cases decide (pLet (rd, nu, 1, ps) = nI 98) <;> decide
    | 2, _ => exact ⟨Nat.le_refl _, (by decide : 3 ≤ 5), fun j hj => upd_ne (by have h9 : j < 4 * rd := hj; show j ≠ 4 * rd + 2; omega)⟩
    | 3, _ => exact ⟨Nat.le_refl _, (by decide : 4 ≤ 5), fun j _ => rfl⟩
    | 4, _ => exact ⟨Nat.le_refl _, (by decide : 4 ≤ 5), fun j hj => upd_ne (by have h9 : j < 4 * rd := hj; show j ≠ 4 * rd + 3; omega)⟩
    | 5, _ => exact ⟨Nat.le_refl _, Nat.le_refl _, fun j _ => rfl⟩
  · exact ⟨Nat.le_succ _, Nat.zero_le _, fun j _ => rfl⟩
theorem rgK_fr {t : Nat → Int32} : ∀ f k s, s.2.2.1 ≤ 5 → s.1 ≤ (rgK t f k s).2.1 ∧ ∀ j, j < 4 * s.1 → (rgK t f k s).2.2.2.2 j = s.2.2.2 j
  | 0, _, _, _ => ⟨Nat.le_refl _, fun _ _ => rfl⟩
  | f + 1, k, s, hd => by
    obtain ⟨h1, h2, h3⟩ := tkNext_fr (c := t k) hd
    unfold rgK
    cases (tkNext (t k) s).1
    · exact ⟨h1, h3⟩
    · obtain ⟨g1, g2⟩ := rgK_fr f (k + 1) (tkNext (t k) s).2 h2
      exact ⟨Nat.le_trans h1 g1, fun j hj => (g2 j (by omega)).trans (h3 j hj)⟩
/-- behind an order that was read whole, nothing that is read later writes on its four numbers -/
theorem gT_keep {c : Nat → Int32} {L b : Nat} {S' SE : PS} (hb : b ≤ L) (he : isEnd S' = true) (hn : b < L → ¬ c b = nI 59 → (tkNext (c b) S').1 = false) (hG : gT c L b S' = (L, SE)) : S'.1 ≤ SE.1 ∧ (∀ j, j < 4 * S'.1 + 4 → SE.2.2.2 j = S'.2.2.2 j) := by
  rcases Nat.lt_or_ge b L with q | q
  · by_cases e : c b = nI 59
    · rw [gT_go q (by rw [e]; exact tk_59 he)] at hG
      have h1 := rgK_fr (t := c) (L - (b + 1)) (b + 1) (S'.1 + 1, S'.2.1, 0, S'.2.2.2) (Nat.zero_le _)
      unfold gT at hG
      rw [hG] at h1
      obtain ⟨h2, h3⟩ := h1
      have h2' : S'.1 + 1 ≤ SE.1 := h2
      exact ⟨by omega, fun j hj => h3 j (by show j < 4 * (S'.1 + 1); omega)⟩
    · rw [gT_step q, hn q e] at hG
      have h1 : b = L := congrArg (fun x => x.1) hG
      omega
  · have e : b = L := by omega
    subst e
    rw [gT_end] at hG
    have h1 : S' = SE := congrArg (fun x => x.2) hG
    subst h1
    exact ⟨Nat.le_refl _, fun _ _ => rfl⟩
theorem ordP_keep {rd : Nat} {ps ps' : Nat → Int32} {q : RS} (h : ∀ j, j < 4 * rd + 4 → ps' j = ps j) (g : ordP rd ps q) : ordP rd ps' q := by
  unfold ordP at g ⊢
  rw [h (4 * rd) (by omega), h (4 * rd + 1) (by omega), h (4 * rd + 2) (by omega), h (4 * rd + 3) (by omega)]
  exact g
def Fr2 (M' M : Mem) : Prop := ∀ t i p k, (t ≤ 1 ∨ t = 3 ∨ i ≠ 0 ∨ 15 ≤ t) → M'.1 t i p k = M.1 t i p k
theorem fr2_omr {M : Mem} {s : RS} : Fr2 (omr M s) M := fun t i p k h => if_neg fun y => by omega
theorem fr2_tr {A B C : Mem} (h : Fr2 A B) (g : Fr2 B C) : Fr2 A C := fun t i p k q => (h t i p k q).trans (g t i p k q)
theorem fr2_of {A B : Mem} (h : Fr A B) : Fr2 A B := fun t i p k q => h t i p k (by omega)
theorem CR_omr {M : Mem} {s : RS} {a : ALw} (h : CR M 0 a) : CR (omr M s) 0 a := h.congr fun t h1 _ => by rw [omr_tag (by omega)]
set_option maxHeartbeats 1000000 in
theorem run_K {c : Nat → Int32} {L : Nat} {SE : PS} (hE : isEnd SE = true) : ∀ (f : Nat) (s : RS) (S : PS) (k : Nat) (M : Mem) (z : Zr) (a : ALw), L ≤ s.1 + f → s.1 ≤ L → posG c L s.1 S → k = nxR s.1 S → gT c L s.1 S = (L, SE) → CR M 0 a → MR z a → OK a → (∃ j, M.1 2 0 0 2 = nI j) →
    (cRunK c L a.n f k (M, s)).1 = (mRunK SE.2.2.2 a.n (SE.1 + 1 - k) k z).1 ∧ ∃ a' : ALw, CR (cRunK c L a.n f k (M, s)).2.1 0 a' ∧ MR (mRunK SE.2.2.2 a.n (SE.1 + 1 - k) k z).2 a' ∧ OK a' ∧ Fr2 (cRunK c L a.n f k (M, s)).2.1 M ∧ ∃ j, (cRunK c L a.n f k (M, s)).2.1.1 2 0 0 2 = nI j := by
  intro f
  induction f with
  | zero =>
    intro s S k M z a h1 h2 hp hk hG hC hM hK hj
    have e : s.1 = L := by omega
    rw [e, gT_end] at hG
    have hS : S = SE := congrArg (fun x => x.2) hG
    subst hS
    rcases hp with ⟨h3, h4⟩ | ⟨h3, -, -⟩
    · exfalso
      have h5 : isEnd S = false := by
        unfold isEnd
        rw [h4]
        rfl
      rw [h5] at hE
      exact absurd hE (by decide)
    · have hk' : k = S.1 + 1 := hk.trans (if_neg (by omega))
      subst hk'
      rw [Nat.sub_self]
      exact ⟨rfl, a, hC, hM, hK, fun _ _ _ _ _ => rfl, hj⟩
  | succ f ih =>
    intro s S k M z a h1 h2 hp hk hG hC hM hK hj
    by_cases hlt : s.1 < L ∨ s.1 = 0
    · rcases next_G hlt hp with ⟨k1, S', k2, k3, k4, k5, k6, k7, k8, k9⟩ | ⟨k1, k2, k3⟩
      · rw [k2] at hG
        obtain ⟨m1, m2⟩ := gT_keep k7 k4 k5 hG
        rw [k3, ← hk] at m1 m2
        rw [← hk] at k8
        have hO := ordP_keep m2 k8
        have hC1 : CR (omr M (rdNext c L s).2) 0 a := CR_omr hC
        have hr := run_1 hC1 hM hK hO
        have eC : cRunK c L a.n (f + 1) k (M, s) = cond (coM (omr M (rdNext c L s).2) a.n).1 (cRunK c L a.n f (k + 1) ((coM (omr M (rdNext c L s).2) a.n).2, (rdNext c L s).2)) (k, ((coM (omr M (rdNext c L s).2) a.n).2, (rdNext c L s).2)) := by
          show cond (rdNext c L s).1 _ _ = _
          rw [k1]
          rfl
        have eP : coM (omr M (rdNext c L s).2) a.n = coP (omr M (rdNext c L s).2) a.n (rdNext c L s).2.2.1 (rdNext c L s).2.2.2.1 (rdNext c L s).2.2.2.2.1 (rdNext c L s).2.2.2.2.2 := by
          unfold coM
          rw [omr_k, omr_k, omr_k, omr_k]
          rfl
        have eM : mRunK SE.2.2.2 a.n (SE.1 + 1 - k) k z = cond (mcP SE.2.2.2 z a.n k).1 (mRunK SE.2.2.2 a.n (SE.1 + 1 - (k + 1)) (k + 1) (mcP SE.2.2.2 z a.n k).2) (k, (mcP SE.2.2.2 z a.n k).2) := by
          rw [show SE.1 + 1 - k = (SE.1 + 1 - (k + 1)) + 1 by omega]
          rfl
        rw [eC, eM, eP]
        revert hr
        generalize coP (omr M (rdNext c L s).2) a.n (rdNext c L s).2.2.1 (rdNext c L s).2.2.2.1 (rdNext c L s).2.2.2.2.1 (rdNext c L s).2.2.2.2.2 = Q
        generalize mcP SE.2.2.2 z a.n k = W
        intro hr
        obtain ⟨r1, a', r2, r3, r4, r5, r6⟩ := hr
        have hj' : ∃ j, Q.2.1 2 0 0 2 = nI j := ⟨_, (r6 2 0 0 2 (by omega)).trans omr_k⟩
        have fr : Fr2 Q.2 M := fr2_tr (fr2_of r6) fr2_omr
        rw [← r1]
        cases Q.1 with
        | false => exact ⟨rfl, a', r3, r4, r5, fr, hj'⟩
        | true =>
          have hI := ih (rdNext c L s).2 S' (k + 1) Q.2 W.2 a' (by omega) k7 (Or.inr ⟨by omega, k4, k5⟩) (by rw [show nxR (rdNext c L s).2.1 S' = S'.1 + 1 from if_neg (by omega), k3, hk]) hG r3 r4 r5 hj'
          rw [r2] at hI
          obtain ⟨i1, a2, i2, i3, i4, i5, i6⟩ := hI
          exact ⟨i1, a2, i2, i3, i4, fr2_tr i5 fr, i6⟩
      · exfalso
        rw [hG] at k3
        exact k3 ⟨rfl, hE⟩
    · have e : s.1 = L := by omega
      have e0 : ¬ s.1 = 0 := fun q => hlt (Or.inr q)
      rw [e, gT_end] at hG
      have hS : S = SE := congrArg (fun x => x.2) hG
      subst hS
      have hk' : k = S.1 + 1 := hk.trans (if_neg e0)
      subst hk'
      have en : rdNext c L s = (false, s) := by
        unfold rdNext
        rw [decide_eq_false e0, sg_f (fun q => absurd q (by omega))]
        rfl
      have eC : cRunK c L a.n (f + 1) (S.1 + 1) (M, s) = (S.1 + 1, (omr M s, s)) := by
        show cond (rdNext c L s).1 _ (S.1 + 1, (omr M (rdNext c L s).2, (rdNext c L s).2)) = _
        rw [en]
        rfl
      rw [eC, Nat.sub_self]
      exact ⟨rfl, a, CR_omr hC, hM, hK, fr2_omr, _, omr_k⟩
