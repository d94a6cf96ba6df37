/-! ===== a levy is copied ===== -/
theorem ifK {α : Type} {u K : Nat} {a b : α} (q : u ≠ K) : (if u < K then a else b) = (if u < K + 1 then a else b) := by
  by_cases h : u < K
  · rw [if_pos h, if_pos (by omega)]
  · rw [if_neg h, if_neg (by omega)]
theorem copyA_ab {μ : Mem} {i j p : Nat} (hij : j ≠ i) : ∀ K, (∀ t u, 9 ≤ t → t ≤ 12 → (copyA μ i j p K).1 t i p u = if u < K then μ.1 t j p u else μ.1 t i p u) ∧ (∀ t i' p' u, ¬ (i' = i ∧ p' = p) → (copyA μ i j p K).1 t i' p' u = μ.1 t i' p' u)
  | 0 => ⟨fun t u _ _ => (if_neg (Nat.not_lt_zero u)).symm, fun _ _ _ _ _ => rfl⟩
  | K + 1 => by
    obtain ⟨h1, h2⟩ := copyA_ab (μ := μ) (p := p) hij K
    have F : ∀ (M : Mem) (t v : Nat) (w : Int32) (t' i' p' u : Nat), ¬ (i' = i ∧ p' = p) → (mset M t i p v w).1 t' i' p' u = M.1 t' i' p' u := fun M t v w t' i' p' u hne => if_neg fun q => hne ⟨q.2.1, q.2.2.1⟩
    refine ⟨fun t u ht ht2 => ?_, fun t i' p' u hne => (F _ _ _ _ _ _ _ _ hne).trans ((F _ _ _ _ _ _ _ _ hne).trans ((F _ _ _ _ _ _ _ _ hne).trans ((F _ _ _ _ _ _ _ _ hne).trans (h2 t i' p' u hne))))⟩
    have hj : ¬ (j = i ∧ p = p) := fun q => hij q.1
    have ht4 : t = 9 ∨ t = 10 ∨ t = 11 ∨ t = 12 := by omega
    by_cases q : u = K
    · subst q
      rw [if_pos (Nat.lt_succ_self u)]
      rcases ht4 with rfl | rfl | rfl | rfl
      · exact (mset_t (by decide)).trans ((mset_t (by decide)).trans ((mset_t (by decide)).trans (mset_at.trans (h2 9 j p u hj))))
      · exact (mset_t (by decide)).trans ((mset_t (by decide)).trans (mset_at.trans ((F _ _ _ _ _ _ _ _ hj).trans (h2 10 j p u hj))))
      · exact (mset_t (by decide)).trans (mset_at.trans ((F _ _ _ _ _ _ _ _ hj).trans ((F _ _ _ _ _ _ _ _ hj).trans (h2 11 j p u hj))))
      · exact mset_at.trans ((F _ _ _ _ _ _ _ _ hj).trans ((F _ _ _ _ _ _ _ _ hj).trans ((F _ _ _ _ _ _ _ _ hj).trans (h2 12 j p u hj))))
    · rw [← ifK q, ← h1 t u ht ht2]
      have G : ∀ (M : Mem) (t2 : Nat) (w : Int32), (mset M t2 i p K w).1 t i p u = M.1 t i p u := fun M t2 w => if_neg fun y => q y.2.2.2
      exact (G _ _ _).trans ((G _ _ _).trans ((G _ _ _).trans (G _ _ _)))
theorem copyB_ab {μ : Mem} {i j p : Nat} (hij : j ≠ i) : ∀ K, (∀ t u, 13 ≤ t → t ≤ 14 → (copyB μ i j p K).1 t i p u = if u < K then μ.1 t j p u else μ.1 t i p u) ∧ (∀ t i' p' u, ¬ (i' = i ∧ p' = p) → (copyB μ i j p K).1 t i' p' u = μ.1 t i' p' u)
  | 0 => ⟨fun t u _ _ => (if_neg (Nat.not_lt_zero u)).symm, fun _ _ _ _ _ => rfl⟩
  | K + 1 => by
    obtain ⟨h1, h2⟩ := copyB_ab (μ := μ) (p := p) hij K
    have F : ∀ (M : Mem) (t v : Nat) (w : Int32) (t' i' p' u : Nat), ¬ (i' = i ∧ p' = p) → (mset M t i p v w).1 t' i' p' u = M.1 t' i' p' u := fun M t v w t' i' p' u hne => if_neg fun q => hne ⟨q.2.1, q.2.2.1⟩
    refine ⟨fun t u ht ht2 => ?_, fun t i' p' u hne => (F _ _ _ _ _ _ _ _ hne).trans ((F _ _ _ _ _ _ _ _ hne).trans (h2 t i' p' u hne))⟩
    have hj : ¬ (j = i ∧ p = p) := fun q => hij q.1
    have ht4 : t = 13 ∨ t = 14 := by omega
    by_cases q : u = K
    · subst q
      rw [if_pos (Nat.lt_succ_self u)]
      rcases ht4 with rfl | rfl
      · exact (mset_t (by decide)).trans (mset_at.trans (h2 13 j p u hj))
      · exact mset_at.trans ((F _ _ _ _ _ _ _ _ hj).trans (h2 14 j p u hj))
    · rw [← ifK q, ← h1 t u ht ht2]
      have G : ∀ (M : Mem) (t2 : Nat) (w : Int32), (mset M t2 i p K w).1 t i p u = M.1 t i p u := fun M t2 w => if_neg fun y => q y.2.2.2
      exact (G _ _ _).trans (G _ _ _)
theorem copyC_ab {μ : Mem} {i j p : Nat} (hij : j ≠ i) : ∀ K, (∀ u, 6 ≤ u → (copyC μ i j p K).1 8 i p u = if u < K + 6 then μ.1 8 j p u else μ.1 8 i p u) ∧ (∀ t i' p' u, ¬ (i' = i ∧ p' = p) → (copyC μ i j p K).1 t i' p' u = μ.1 t i' p' u)
  | 0 => ⟨fun u hu => (if_neg (by omega)).symm, fun _ _ _ _ _ => rfl⟩
  | K + 1 => by
    obtain ⟨h1, h2⟩ := copyC_ab (μ := μ) (p := p) hij K
    refine ⟨fun u hu => ?_, fun t i' p' u hne => (if_neg fun q => hne ⟨q.2.1, q.2.2.1⟩).trans (h2 t i' p' u hne)⟩
    by_cases q : u = K + 6
    · subst q
      rw [if_pos (by omega)]
      exact mset_at.trans (h2 8 j p _ fun y => hij y.1)
    · refine (mset_k q).trans ((h1 u hu).trans ?_)
      by_cases q2 : u < K + 6
      · rw [if_pos q2, if_pos (by omega)]
      · rw [if_neg q2, if_neg (by omega)]
/-- of a phase, all that counts -/
theorem CP.congr4 {μ μ' : Mem} {i j p : Nat} {x : APh} (h : ∀ t k, 9 ≤ t → t ≤ 14 → k < 4 → μ'.1 t j p k = μ.1 t i p k) (h8 : ∀ k, 6 ≤ k → k ≤ 12 → μ'.1 8 j p k = μ.1 8 i p k) (hN : x.N ≤ 4) (c : CP μ i p x) : CP μ' j p x := CP.mk
  (f_A := fun u hu => (h 9 u (by decide) (by decide) hu).trans (c.A u hu))
  (f_E := fun u hu => (h 10 u (by decide) (by decide) hu).trans (c.E u hu))
  (f_R := fun u hu => (h 11 u (by decide) (by decide) hu).trans (c.R u hu))
  (f_La := fun u hu => (h 12 u (by decide) (by decide) hu).trans (c.La u hu))
  (f_b := (h8 6 (by decide) (by decide)).trans c.b)
  (f_g := fun hb => (h8 7 (by decide) (by decide)).trans (c.g hb))
  (f_N := (h8 8 (by decide) (by decide)).trans c.N)
  (f_P := (h8 9 (by decide) (by decide)).trans c.P)
  (f_Ld := (h8 10 (by decide) (by decide)).trans c.Ld)
  (f_Su := (h8 11 (by decide) (by decide)).trans c.Su)
  (f_br := (h8 12 (by decide) (by decide)).trans c.br)
  (f_I := fun k hk => (h 13 k (by decide) (by decide) (by omega)).trans (c.I k hk))
  (f_O := fun k hk => (h 14 k (by decide) (by decide) (by omega)).trans (c.O k hk))
theorem copyP_ab {μ : Mem} {i j p : Nat} (hij : j ≠ i) : (∀ t u, 9 ≤ t → t ≤ 14 → u < 4 → (copyP μ i j p).1 t i p u = μ.1 t j p u) ∧ (∀ u, 6 ≤ u → u ≤ 12 → (copyP μ i j p).1 8 i p u = μ.1 8 j p u) ∧ (∀ t i' p' u, ¬ (i' = i ∧ p' = p) → (copyP μ i j p).1 t i' p' u = μ.1 t i' p' u) := by
  have a1 := copyA_ab (μ := μ) (p := p) hij 4
  have a2 := copyB_ab (μ := copyA μ i j p 4) (p := p) hij 4
  have a3 := copyC_ab (μ := copyB (copyA μ i j p 4) i j p 4) (p := p) hij 7
  have hj : ¬ (j = i ∧ p = p) := fun q => hij q.1
  refine ⟨fun t u h1 h2 h3 => ?_, fun u h1 h2 => ?_, fun t i' p' u hne => (a3.2 t i' p' u hne).trans ((a2.2 t i' p' u hne).trans (a1.2 t i' p' u hne))⟩
  · have e1 : (copyP μ i j p).1 t i p u = (copyB (copyA μ i j p 4) i j p 4).1 t i p u := congrFun (congrFun (congrFun (copyC_tag (by omega) 7) i) p) u
    rw [e1]
    rcases Nat.lt_or_ge t 13 with q | q
    · rw [congrFun (congrFun (congrFun (copyB_tag (by omega) 4) i) p) u, a1.1 t u h1 (by omega), if_pos h3]
    · rw [a2.1 t u q h2, if_pos h3]
      exact a1.2 t j p u hj
  · refine (a3.1 u h1).trans ((if_pos (by omega)).trans ?_)
    exact (a2.2 8 j p u hj).trans (a1.2 8 j p u hj)
theorem copyQ_ab {μ : Mem} {i j : Nat} (hij : j ≠ i) : ∀ K, (∀ p, p < K → (∀ t u, 9 ≤ t → t ≤ 14 → u < 4 → (copyQ μ i j K).1 t i p u = μ.1 t j p u) ∧ (∀ u, 6 ≤ u → u ≤ 12 → (copyQ μ i j K).1 8 i p u = μ.1 8 j p u))
  | 0 => fun p hp => absurd hp (Nat.not_lt_zero p)
  | K + 1 => fun p hp => by
    have h0 := copyQ_ab (μ := μ) hij K
    obtain ⟨c1, c2, c3⟩ := copyP_ab (μ := copyQ μ i j K) (p := K) hij
    have hx : ∀ t p u, (copyQ μ i j K).1 t j p u = μ.1 t j p u := fun t p u => congrFun (congrFun (copyQ_ix hij K) p) u
    by_cases q : p = K
    · subst q
      exact ⟨fun t u h1 h2 h3 => (c1 t u h1 h2 h3).trans (hx t p u), fun u h1 h2 => (c2 u h1 h2).trans (hx 8 p u)⟩
    · obtain ⟨g1, g2⟩ := h0 p (by omega)
      exact ⟨fun t u h1 h2 h3 => (c3 t i p u (fun y => q y.2)).trans (g1 t u h1 h2 h3), fun u h1 h2 => (c3 8 i p u (fun y => q y.2)).trans (g2 u h1 h2)⟩
theorem copyR_ab {μ : Mem} {i j : Nat} (hij : j ≠ i) : ∀ K u, u < K → (copyR μ i j K).1 5 i 0 u = μ.1 5 j 0 u
  | 0, u, h => absurd h (Nat.not_lt_zero u)
  | K + 1, u, h => by
    by_cases q : u = K
    · subst q
      exact mset_at.trans (congrFun (congrFun (copyR_ix hij u) 0) u)
    · exact (mset_k q).trans (copyR_ab hij K u (by omega))
theorem copyS_ab {μ : Mem} {i j : Nat} (hij : j ≠ i) : ∀ K u, u < K → (copyS μ i j K).1 6 i 0 u = μ.1 6 j 0 u
  | 0, u, h => absurd h (Nat.not_lt_zero u)
  | K + 1, u, h => by
    by_cases q : u = K
    · subst q
      exact mset_at.trans (congrFun (congrFun (copyS_ix hij u) 0) u)
    · exact (mset_k q).trans (copyS_ab hij K u (by omega))
theorem copyL_C {μ : Mem} {i j : Nat} {a : ALw} (hij : j ≠ i) (hC : CR μ j a) (hN : ∀ p, p < 6 → (a.ph p).N ≤ 4) : CR (copyL μ i j) i a := by
  have hH : ∀ k, k < 2 → (copyH μ i j).1 4 i 0 k = μ.1 4 j 0 k := fun k hk => by
    have hk2 : k = 0 ∨ k = 1 := by omega
    rcases hk2 with rfl | rfl
    · exact (mset_k (by decide)).trans mset_at
    · exact mset_at.trans (mset_i hij)
  have x1 : ∀ t, (copyH μ i j).1 t j = μ.1 t j := fun t => copyH_ix hij
  have x2 : ∀ t, (copyR (copyH μ i j) i j 4).1 t j = μ.1 t j := fun t => (copyR_ix hij 4).trans (x1 t)
  have x3 : ∀ t, (copyS (copyR (copyH μ i j) i j 4) i j 4).1 t j = μ.1 t j := fun t => (copyS_ix hij 4).trans (x2 t)
  have q := copyQ_ab (μ := copyS (copyR (copyH μ i j) i j 4) i j 4) hij 6
  have t4 : (copyL μ i j).1 4 = (copyH μ i j).1 4 := (copyQ_tag (by omega) 6).trans ((copyS_tag (by omega) 4).trans (copyR_tag (by omega) 4))
  have t5 : (copyL μ i j).1 5 = (copyR (copyH μ i j) i j 4).1 5 := (copyQ_tag (by omega) 6).trans (copyS_tag (by omega) 4)
  have t6 : (copyL μ i j).1 6 = (copyS (copyR (copyH μ i j) i j 4) i j 4).1 6 := copyQ_tag (by omega) 6
  exact (CR.mk (f_day := by rw [t4, hH 0 (by decide)]; exact hC.day) (f_n := by rw [t4, hH 1 (by decide)]; exact hC.n) (f_rt := fun u hu => by rw [t5, copyR_ab hij 4 u hu, x1]; exact hC.rt u hu) (f_st := fun u hu => by rw [t6, copyS_ab hij 4 u hu, x2]; exact hC.st u hu) (f_ph := fun p hp => (hC.ph p hp).congr4 (fun t k h1 h2 h3 => ((q p hp).1 t k h1 h2 h3).trans (congrFun (congrFun (x3 t) p) k)) (fun k h1 h2 => ((q p hp).2 k h1 h2).trans (congrFun (congrFun (x3 8) p) k)) (hN p hp)))
theorem CR.congr {μ μ' : Mem} {i : Nat} {a : ALw} (h : ∀ t, 4 ≤ t → t ≤ 14 → μ'.1 t i = μ.1 t i) (hC : CR μ i a) : CR μ' i a := CR.mk
  (f_day := by rw [h 4 (by decide) (by decide)]; exact hC.day)
  (f_n := by rw [h 4 (by decide) (by decide)]; exact hC.n)
  (f_rt := fun u hu => by rw [h 5 (by decide) (by decide)]; exact hC.rt u hu)
  (f_st := fun u hu => by rw [h 6 (by decide) (by decide)]; exact hC.st u hu)
  (f_ph := fun p hp => (hC.ph p hp).congr fun t k h1 h2 => by rw [h t (by omega) h2])
theorem MR.congr {z z' : Zr} {a : ALw} (h : ∀ j, j < 232 → z' j = z j) (hM : MR z a) (hK : OK a) : MR z' a := MR.mk
  (f_day := (h 4 (by decide)).trans hM.day)
  (f_zi := by
    refine ⟨(h 9 (by decide)).trans hM.zi.1, hM.zi.2.1, fun p hp => ?_⟩
    have h1 : z' (10 + 37 * p + 17) = z (10 + 37 * p + 17) := h _ (by omega)
    have h2 := hM.zi.2.2 p hp
    unfold mo zp at h2 ⊢
    rw [h1]
    exact h2)
  (f_rt := fun u hu => (h (5 + u) (by omega)).trans (hM.rt u hu))
  (f_st := fun u hu => (h u (by omega)).trans (hM.st u hu))
  (f_ph := fun p hp => by
    have hn := hK.n
    exact (hM.ph p hp).congr (fun w hw => h _ (by omega)) (hK.ph p (by omega)).N4)
/-! ===== what holds before and behind every call ===== -/
def idx (ns j : Nat) : Nat := (ns + 5 - j) % 6
def ClsI (μ : Mem) (a : ALw) (ns sc : Nat) (h : Nat → ALw) (L : Nat) (t : Nat → Int32) : Prop := CR μ 0 a ∧ SI μ ns sc ∧ (∀ j, j < sc → CR μ (idx ns j + 1) (h j)) ∧ μ.1 2 0 0 1 = nI L ∧ (∃ k, μ.1 2 0 0 2 = nI k) ∧ ∀ j, j < L → μ.1 3 0 0 j = t j
def RefI (μ : Mem) (a : ALw) (sc : Nat) (h : Nat → ALw) (L : Nat) (t : Nat → Int32) : Prop := MR (μ.1 16 0 0) a ∧ μ.1 15 0 0 1 = nI sc ∧ (∀ j, j < sc → MR (fun k => μ.1 17 0 0 (232 * (sc - 1 - j) + k)) (h j)) ∧ μ.1 15 0 0 3 = nI L ∧ ∀ j, j < L → μ.1 18 0 0 j = t j
def OKs (a : ALw) (ns sc : Nat) (h : Nat → ALw) (L : Nat) : Prop := OK a ∧ sc ≤ 6 ∧ ns ≤ 6 ∧ (∀ j, j < sc → OK (h j)) ∧ L ≤ 60
def Inv (μ : Mem) : Prop := ∃ (a : ALw) (ns sc : Nat) (h : Nat → ALw) (L : Nat) (t : Nat → Int32), ClsI μ a ns sc h L t ∧ RefI μ a sc h L t ∧ OKs a ns sc h L
theorem ClsI.congr {μ μ' : Mem} {a : ALw} {ns sc : Nat} {h : Nat → ALw} {L : Nat} {t : Nat → Int32} (e : ∀ t, t ≤ 14 → μ'.1 t = μ.1 t) (c : ClsI μ a ns sc h L t) : ClsI μ' a ns sc h L t := by
  obtain ⟨c1, c2, c3, c4, c5, c6⟩ := c
  unfold ClsI SI
  rw [e 0 (by decide), e 2 (by decide), e 3 (by decide)]
  exact ⟨c1.congr fun t h1 h2 => by rw [e t h2], c2, fun j hj => (c3 j hj).congr fun t h1 h2 => by rw [e t h2], c4, c5, c6⟩
theorem RefI.congr {μ μ' : Mem} {a : ALw} {sc : Nat} {h : Nat → ALw} {L : Nat} {t : Nat → Int32} (e6 : μ'.1 16 = μ.1 16) (e7 : μ'.1 17 = μ.1 17) (e8 : μ'.1 18 = μ.1 18) (e1 : μ'.1 15 0 0 1 = μ.1 15 0 0 1) (e3 : μ'.1 15 0 0 3 = μ.1 15 0 0 3) (c : RefI μ a sc h L t) : RefI μ' a sc h L t := by
  unfold RefI
  rw [e6, e7, e8, e1, e3]
  exact c
theorem RefI.congr15 {μ μ' : Mem} {a : ALw} {sc : Nat} {h : Nat → ALw} {L : Nat} {t : Nat → Int32} (e : ∀ t, 15 ≤ t → μ'.1 t = μ.1 t) (c : RefI μ a sc h L t) : RefI μ' a sc h L t := c.congr (e 16 (by decide)) (e 17 (by decide)) (e 18 (by decide)) (by rw [e 15 (by decide)]) (by rw [e 15 (by decide)])
/-! a state is saved -/
def hSave (a : ALw) (h : Nat → ALw) : Nat → ALw := fun j => if j = 0 then a else h (j - 1)
def scN (sc : Nat) : Nat := if 6 ≤ sc then sc else sc + 1
theorem save_C {μ : Mem} {a : ALw} {ns sc : Nat} {h : Nat → ALw} {L : Nat} {t : Nat → Int32} (c : ClsI μ a ns sc h L t) (k : OKs a ns sc h L) : ClsI (cSave μ ns sc) a (nxt ns) (scN sc) (hSave a h) L t := by
  obtain ⟨c1, c2, c3, c4, c5, c6⟩ := c
  obtain ⟨k1, k2, k3, k4, k5⟩ := k
  have hsc : (cSave μ ns sc).1 0 0 0 3 = nI (nxt ns) ∧ (cSave μ ns sc).1 0 0 0 2 = nI (scN sc) := by
    unfold cSave scN
    by_cases q : 6 ≤ sc
    · rw [decide_eq_true q, if_pos q]
      exact ⟨mset_at, (mset_k (by decide)).trans ((congrFun (congrFun (congrFun copyL_keep0 0) 0) 2).trans (cwr_2.trans c2.2.2.1))⟩
    · rw [decide_eq_false q, if_neg q]
      exact ⟨(mset_k (by decide)).trans mset_at, mset_at⟩
  have hcp : ∀ t i p j, 4 ≤ t → (cSave μ ns sc).1 t i p j = (copyL (cwr μ ns) (cur ns + 1) 0).1 t i p j := fun t i p j ht => by
    unfold cSave
    cases decide (6 ≤ sc)
    · exact (mset_t (by omega)).trans (mset_t (by omega))
    · exact mset_t (by omega)
  have hnx : nxt ns ≤ 6 ∧ idx (nxt ns) 0 = cur ns ∧ ∀ j, j < 5 → idx (nxt ns) (j + 1) = idx ns j := by
    unfold nxt idx cur
    by_cases q : ns = 6
    · rw [if_pos q]
      exact ⟨by decide, by omega, fun j hj => by omega⟩
    · rw [if_neg q]
      exact ⟨by omega, by omega, fun j hj => by omega⟩
  have hcw : ∀ i b, CR μ i b → CR (cwr μ ns) i b := fun i b hb => hb.congr fun t h1 h2 => by rw [cwr_tag (by omega)]
  have hcu := cur_lt k3
  have hs6 : scN sc ≤ 6 := by unfold scN; split <;> omega
  refine ⟨c1.congr fun t h1 h2 => cSave_0 h1, ⟨hsc.1, hnx.1, hsc.2, hs6⟩, fun j hj => ?_, ?_, ?_, ?_⟩
  · by_cases q : j = 0
    · subst q
      rw [hnx.2.1]
      show CR (cSave μ ns sc) (cur ns + 1) a
      exact (copyL_C (by omega) (hcw 0 a c1) fun p hp => (k1.ph p hp).N4).congr fun t h1 h2 => funext fun p => funext fun u => hcp t (cur ns + 1) p u h1
    · obtain ⟨j', rfl⟩ : ∃ j', j = j' + 1 := ⟨j - 1, by omega⟩
      have hj5 : j' < 5 := by omega
      have hjs : j' < sc := by unfold scN at hj; split at hj <;> omega
      rw [hnx.2.2 j' hj5]
      show CR (cSave μ ns sc) (idx ns j' + 1) (h j')
      have hne : idx ns j' + 1 ≠ cur ns + 1 := by unfold idx cur; split <;> omega
      exact (hcw _ _ (c3 j' hjs)).congr fun t h1 h2 => funext fun p => funext fun u => (hcp t _ p u h1).trans (congrFun (congrFun (copyL_ix hne) p) u)
  · rw [cSave_tag (by omega)]; exact c4
  · rw [cSave_tag (by omega)]; exact c5
  · rw [cSave_tag (by omega)]; exact c6
theorem shK_ab {μ : Mem} : ∀ K, (∀ j, (shK μ K).1 17 0 0 j = if j < K then μ.1 17 0 0 (j + 232) else μ.1 17 0 0 j)
  | 0 => fun j => (if_neg (Nat.not_lt_zero j)).symm
  | K + 1 => fun j => by
    have ih := shK_ab (μ := μ) K
    have hst : shK μ (K + 1) = mset (shK μ K) 17 0 0 (232 + K - 232) ((shK μ K).1 17 0 0 (232 + K)) := rfl
    rw [hst, show 232 + K - 232 = K by omega]
    by_cases q : j = K
    · subst q
      rw [mset_at, ih, if_neg (by omega), if_pos (Nat.lt_succ_self j), Nat.add_comm]
    · rw [mset_k q, ih, ifK q]
theorem svK_ab {μ : Mem} {st : Nat} : ∀ K, (∀ j, (svK μ st K).1 17 0 0 j = if 232 * st ≤ j ∧ j < 232 * st + K then μ.1 16 0 0 (j - 232 * st) else μ.1 17 0 0 j)
  | 0 => fun j => (if_neg (by omega)).symm
  | K + 1 => fun j => by
    have ih := svK_ab (μ := μ) (st := st) K
    have e16 : (svK μ st K).1 16 0 0 K = μ.1 16 0 0 K := congrFun (congrFun (congrFun (svK_tag (by decide) K) 0) 0) K
    show (mset (svK μ st K) 17 0 0 (232 * st + K) ((svK μ st K).1 16 0 0 K)).1 17 0 0 j = _
    by_cases q : j = 232 * st + K
    · subst q
      rw [mset_at, if_pos (by omega), e16, Nat.add_sub_cancel_left]
    · rw [mset_k q, ih]
      by_cases q2 : 232 * st ≤ j ∧ j < 232 * st + K
      · rw [if_pos q2, if_pos (by omega)]
      · rw [if_neg q2, if_neg (by omega)]
theorem save_M {μ : Mem} {a : ALw} {ns sc : Nat} {h : Nat → ALw} {L : Nat} {t : Nat → Int32} (c : RefI μ a sc h L t) (k : OKs a ns sc h L) : RefI (mSave μ sc) a (scN sc) (hSave a h) L t := by
  obtain ⟨c1, c2, c3, c4, c5⟩ := c
  obtain ⟨k1, k2, -, k4, k5⟩ := k
  have hN : svN sc + 1 = scN sc := by
    unfold svN scN
    by_cases q : sc = 6
    · rw [if_pos q, if_pos (by omega)]; omega
    · rw [if_neg q, if_neg (by omega)]
  have h17 : ∀ j, (mSave μ sc).1 17 0 0 j = if 232 * svN sc ≤ j ∧ j < 232 * svN sc + 232 then μ.1 16 0 0 (j - 232 * svN sc) else (svM μ sc).1 17 0 0 j := fun j => by
    unfold mSave
    rw [mset_t (by decide), svK_ab, svM_16]
  have hM17 : ∀ j, j < 1160 → (svM μ sc).1 17 0 0 j = if sc = 6 then μ.1 17 0 0 (j + 232) else μ.1 17 0 0 j := fun j hj => by
    unfold svM
    by_cases q : sc = 6
    · rw [if_pos q, if_pos q, mset_t (by decide), shK_ab, if_pos hj]
    · rw [if_neg q, if_neg q]
  refine ⟨by rw [mSave_16]; exact c1, by rw [← hN]; exact mset_at, fun j hj => ?_, by rw [mSave_15 (by decide)]; exact c4, by rw [mSave_tag (by decide) (by decide)]; exact c5⟩
  have hs := svN_le k2
  by_cases q : j = 0
  · subst q
    refine c1.congr (fun i hi => ?_) k1
    show (mSave μ sc).1 17 0 0 (232 * (scN sc - 1 - 0) + i) = μ.1 16 0 0 i
    rw [show scN sc - 1 - 0 = svN sc by omega, h17, if_pos (by omega), Nat.add_sub_cancel_left]
  · obtain ⟨j', rfl⟩ : ∃ j', j = j' + 1 := ⟨j - 1, by omega⟩
    have hjs : j' < sc := by unfold scN at hj; split at hj <;> omega
    have hb : sc = 6 → svN sc = 5 := fun q => by unfold svN; rw [if_pos q]; omega
    have hb2 : ¬ sc = 6 → svN sc = sc := fun q => by unfold svN; rw [if_neg q]
    refine MR.congr (fun i hi => ?_) (c3 j' hjs) (k4 j' hjs)
    show (mSave μ sc).1 17 0 0 (232 * (scN sc - 1 - (j' + 1)) + i) = μ.1 17 0 0 (232 * (sc - 1 - j') + i)
    rw [h17, if_neg (by omega), hM17 _ (by omega)]
    by_cases q6 : sc = 6
    · rw [if_pos q6]
      have := hb q6
      exact congrArg (μ.1 17 0 0) (by omega)
    · rw [if_neg q6]
      have := hb2 q6
      exact congrArg (μ.1 17 0 0) (by omega)
theorem save_K {a : ALw} {ns sc : Nat} {h : Nat → ALw} {L : Nat} (k : OKs a ns sc h L) : OKs a (nxt ns) (scN sc) (hSave a h) L := by
  obtain ⟨k1, k2, k3, k4, k5⟩ := k
  refine ⟨k1, by unfold scN; split <;> omega, by unfold nxt; have := cur_lt k3; omega, fun j hj => ?_, k5⟩
  unfold hSave
  by_cases q : j = 0
  · rw [if_pos q]; exact k1
  · rw [if_neg q]
    refine k4 (j - 1) ?_
    unfold scN at hj
    split at hj <;> omega
/-! the last state is laid back -/
theorem undo_C {μ : Mem} {a : ALw} {ns sc : Nat} {h : Nat → ALw} {L : Nat} {t : Nat → Int32} (c : ClsI μ a ns sc h L t) (k : OKs a ns sc h L) (h0 : 0 < sc) : ClsI (cUndo μ ns sc) (h 0) (prv ns) (sc - 1) (fun j => h (j + 1)) L t := by
  obtain ⟨c1, c2, c3, c4, c5, c6⟩ := c
  obtain ⟨k1, k2, k3, k4, k5⟩ := k
  have e0 : (cUndo μ ns sc).1 0 = (mset (mset μ 0 0 0 3 (nI (prv ns))) 0 0 0 2 (nI (sc - 1))).1 0 := copyL_keep0
  have et : ∀ t, 0 < t → t < 4 → (cUndo μ ns sc).1 t = μ.1 t := fun t h1 h2 => (copyL_tag (by omega)).trans ((mset_tag (by omega)).trans (mset_tag (by omega)))
  have hp : prv ns ≤ 6 ∧ idx ns 0 = prv ns ∧ ∀ j, j < 5 → idx (prv ns) j = idx ns (j + 1) := by
    unfold prv idx
    by_cases q : ns = 0
    · rw [if_pos q]
      exact ⟨by decide, by omega, fun j hj => by omega⟩
    · rw [if_neg q]
      exact ⟨by omega, by omega, fun j hj => by omega⟩
  have hm : ∀ i b, CR μ i b → CR (mset (mset μ 0 0 0 3 (nI (prv ns))) 0 0 0 2 (nI (sc - 1))) i b := fun i b hb => hb.congr fun t h1 h2 => by rw [mset_tag (by omega), mset_tag (by omega)]
  refine ⟨?_, ⟨?_, hp.1, ?_, by omega⟩, fun j hj => ?_, ?_, ?_, ?_⟩
  · have h1 := c3 0 h0
    rw [hp.2.1] at h1
    exact copyL_C (by omega) (hm _ _ h1) fun p hp6 => ((k4 0 h0).ph p hp6).N4
  · rw [e0, mset_k (by decide), mset_at]
  · rw [e0, mset_at]
  · have h1 := hm _ _ (c3 (j + 1) (by omega))
    rw [← hp.2.2 j (by omega)] at h1
    exact h1.congr fun t h1 h2 => copyL_ix (by omega)
  · rw [et 2 (by decide) (by decide)]; exact c4
  · rw [et 2 (by decide) (by decide)]; exact c5
  · rw [et 3 (by decide) (by decide)]; exact c6
theorem unK_ab {μ : Mem} {st : Nat} : ∀ K j, (unK μ st K).1 16 0 0 j = if j < K then μ.1 17 0 0 (232 * st + j) else μ.1 16 0 0 j
  | 0, j => (if_neg (Nat.not_lt_zero j)).symm
  | K + 1, j => by
    have e : (unK μ st K).1 17 0 0 (232 * st + K) = μ.1 17 0 0 (232 * st + K) := congrFun (congrFun (congrFun (unK_tag (by decide) K) 0) 0) _
    show (mset (unK μ st K) 16 0 0 K ((unK μ st K).1 17 0 0 (232 * st + K))).1 16 0 0 j = _
    by_cases q : j = K
    · subst q
      rw [mset_at, if_pos (Nat.lt_succ_self j), e]
    · rw [mset_k q, unK_ab K j, ifK q]
theorem undo_M {μ : Mem} {a : ALw} {ns sc : Nat} {h : Nat → ALw} {L : Nat} {t : Nat → Int32} (c : RefI μ a sc h L t) (k : OKs a ns sc h L) (h0 : 0 < sc) : RefI (unK (mset (mset μ 15 0 0 5 (nI 0)) 15 0 0 1 (nI (sc - 1))) (sc - 1) 232) (h 0) (sc - 1) (fun j => h (j + 1)) L t := by
  obtain ⟨c1, c2, c3, c4, c5⟩ := c
  obtain ⟨k1, k2, -, k4, k5⟩ := k
  have T : ∀ t, t ≠ 16 → (unK (mset (mset μ 15 0 0 5 (nI 0)) 15 0 0 1 (nI (sc - 1))) (sc - 1) 232).1 t = (mset (mset μ 15 0 0 5 (nI 0)) 15 0 0 1 (nI (sc - 1))).1 t := fun t ht => unK_tag ht 232
  have T17 : (unK (mset (mset μ 15 0 0 5 (nI 0)) 15 0 0 1 (nI (sc - 1))) (sc - 1) 232).1 17 = μ.1 17 := (T 17 (by decide)).trans ((mset_tag (by decide)).trans (mset_tag (by decide)))
  refine ⟨?_, ?_, fun j hj => ?_, ?_, ?_⟩
  · refine MR.congr (fun i hi => ?_) (c3 0 h0) (k4 0 h0)
    rw [unK_ab, if_pos hi, mset_t (by decide), mset_t (by decide)]
    show μ.1 17 0 0 (232 * (sc - 1) + i) = μ.1 17 0 0 (232 * (sc - 1 - 0) + i)
    rfl
  · rw [T 15 (by decide)]; exact mset_at
  · rw [T17]
    refine MR.congr (fun i hi => ?_) (c3 (j + 1) (by omega)) (k4 (j + 1) (by omega))
    show μ.1 17 0 0 (232 * (sc - 1 - 1 - j) + i) = μ.1 17 0 0 (232 * (sc - 1 - (j + 1)) + i)
    exact congrArg (μ.1 17 0 0) (by omega)
  · rw [T 15 (by decide), mset_k (by decide), mset_k (by decide)]; exact c4
  · rw [T 18 (by decide), mset_tag (by decide), mset_tag (by decide)]; exact c5
theorem undo_K {a : ALw} {ns sc : Nat} {h : Nat → ALw} {L : Nat} (k : OKs a ns sc h L) (h0 : 0 < sc) : OKs (h 0) (prv ns) (sc - 1) (fun j => h (j + 1)) L := by
  obtain ⟨k1, k2, k3, k4, k5⟩ := k
  exact ⟨k4 0 h0, by omega, by unfold prv; split <;> omega, fun j hj => k4 (j + 1) (by omega), k5⟩
