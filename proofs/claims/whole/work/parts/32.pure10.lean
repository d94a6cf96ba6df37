def coA (μ : Mem) (n : Nat) (p u : Nat) (v : Int32) : Mem := mset (mset μ 9 0 p u v) 10 0 p u (mini (μ.1 10 0 p u) v)
def coP (μ : Mem) (n : Nat) (kd ph us nu : Int32) : Bool × Mem :=
  cond (decide (kd = nI 97)) (cond (cHas n ph && decide (cWhy0 μ 0 ph.toNatClampNeg = 0)) (true, coA μ n ph.toNatClampNeg us.toNatClampNeg nu) (false, μ))
  (cond (decide (kd = nI 98)) (cond (cHas n ph && decide (cWhy1 μ 0 ph.toNatClampNeg = 0)) (true, cStart μ 0 ph.toNatClampNeg (μ.1 4 0 0 0) (μ.1 6 0 0 0)) (false, μ))
  (cond (decide (kd = nI 112)) (cond (cHas n ph && decide (cWhy2 μ 0 ph.toNatClampNeg = 0)) (true, cPay μ 0 ph.toNatClampNeg (insN μ 0 ph.toNatClampNeg) nu) (false, μ))
  (cond (cLeft μ 0 nu) (true, cPass μ 0 n nu) (false, μ))))
def coM (μ : Mem) (n : Nat) : Bool × Mem := coP μ n (μ.1 2 0 0 3) (μ.1 2 0 0 4) (μ.1 2 0 0 5) (μ.1 2 0 0 6)
theorem settleK_tag {μ : Mem} {i p t : Nat} {a : Int32} (h : t ≠ 14) : ∀ k, (settleK μ i p a k).1.1 t = μ.1 t
  | 0 => rfl
  | k + 1 => (mset_tag h).trans (settleK_tag h k)
theorem startK_tag {μ : Mem} {i p t : Nat} {s : Int32} {n : Nat} (h : t ≠ 13) (h2 : t ≠ 14) : ∀ k, (startK μ i p s n k).1 t = μ.1 t
  | 0 => rfl
  | k + 1 => (mset_tag h2).trans ((mset_tag h).trans (startK_tag h h2 k))
theorem coP_tag {μ : Mem} {n : Nat} {kd ph us nu : Int32} {t : Nat} (h : t < 4) : (coP μ n kd ph us nu).2.1 t = μ.1 t := by
  unfold coP
  cases decide (kd = nI 97)
  · cases decide (kd = nI 98)
    · cases decide (kd = nI 112)
      · cases cLeft μ 0 nu
        · rfl
        · exact (mset_tag (by omega)).trans (passK_tag (by omega) _)
      · cases cHas n ph && decide (cWhy2 μ 0 ph.toNatClampNeg = 0)
        · rfl
        · exact (settleK_tag (by omega) _).trans (mset_tag (by omega))
    · cases cHas n ph && decide (cWhy1 μ 0 ph.toNatClampNeg = 0)
      · rfl
      · exact (startK_tag (by omega) (by omega) _).trans ((mset_tag (by omega)).trans ((mset_tag (by omega)).trans (mset_tag (by omega))))
  · cases cHas n ph && decide (cWhy0 μ 0 ph.toNatClampNeg = 0)
    · rfl
    · exact (mset_tag (by omega)).trans (mset_tag (by omega))
theorem cStart_WfI {μ : Mem} {p : Nat} {a b : Int32} (h : WfI μ 0) : WfI (cStart μ 0 p a b) 0 := by
  intro q hq
  have e8 : (cStart μ 0 p a b).1 8 = (mset (mset (mset μ 8 0 p 6 a) 8 0 p 7 b) 8 0 p 8 (nI (partsN (cSum μ 0 p)))).1 8 := startK_8 _
  unfold insN
  rw [e8]
  have hp4 := partsN_le (cSum μ 0 p)
  by_cases e : q = p
  · subst e
    rw [mset_at, nI_clamp (by omega)]
    exact ⟨rfl, hp4.2⟩
  · have e2 : (mset (mset (mset μ 8 0 p 6 a) 8 0 p 7 b) 8 0 p 8 (nI (partsN (cSum μ 0 p)))).1 8 0 q 8 = μ.1 8 0 q 8 := by
      rw [mset_ne (fun r => e r.2.2), mset_ne (fun r => e r.2.2), mset_ne (fun r => e r.2.2)]
    rw [e2]
    exact h q hq
theorem coP_CI {μ : Mem} {n : Nat} {kd ph us nu : Int32} (h : CI μ n) : CI (coP μ n kd ph us nu).2 n := by
  unfold coP
  cases decide (kd = nI 97)
  · cases decide (kd = nI 98)
    · cases decide (kd = nI 112)
      · cases cLeft μ 0 nu
        · exact h
        · exact ⟨(show (cPass μ 0 n nu).1 4 0 0 1 = (passK μ 0 nu n).1.1 4 0 0 1 from rfl).trans ((congrFun (congrFun (congrFun (passK_tag (by omega) _) 0) 0) 1).trans h.1), h.2.1, (passK_Wf h.2.2 _).tag (by omega)⟩
      · cases cHas n ph && decide (cWhy2 μ 0 ph.toNatClampNeg = 0)
        · exact h
        · refine ⟨?_, h.2.1, (h.2.2.fld (j := 0) (p := ph.toNatClampNeg) (k := 9) (v := μ.1 8 0 ph.toNatClampNeg 9 + cTaken μ 0 ph.toNatClampNeg nu) (by omega)).of fun q _ => ?_⟩
          · exact (congrFun (congrFun (congrFun ((settleK_tag (by omega) _).trans (mset_tag (by omega))) 0) 0) 1).trans h.1
          · exact congrFun (congrFun (congrFun (settleK_8 _) 0) q) 8
    · cases cHas n ph && decide (cWhy1 μ 0 ph.toNatClampNeg = 0)
      · exact h
      · refine ⟨?_, h.2.1, cStart_WfI h.2.2⟩
        exact (congrFun (congrFun (congrFun ((startK_tag (by omega) (by omega) _).trans ((mset_tag (by omega)).trans ((mset_tag (by omega)).trans (mset_tag (by omega))))) 0) 0) 1).trans h.1
  · cases cHas n ph && decide (cWhy0 μ 0 ph.toNatClampNeg = 0)
    · exact h
    · refine ⟨?_, h.2.1, (h.2.2.tag (by omega)).tag (by omega)⟩
      exact (congrFun (congrFun (congrFun ((mset_tag (by omega)).trans (mset_tag (by omega))) 0) 0) 1).trans h.1
def kdOk (kd us : Int32) : Prop := (kd = nI 97 ∧ ∃ u, u < 4 ∧ us = nI u) ∨ kd = nI 98 ∨ kd = nI 112 ∨ kd = nI 100
theorem andThen_t {a : Bool × RS} {f : RS → Bool × RS} (h : (andThen a f).1 = true) : a.1 = true ∧ andThen a f = f a.2 := by
  unfold andThen at h ⊢
  cases e : a.1
  · rw [e, cond_false, e] at h; exact absurd h Bool.false_ne_true
  · rw [cond_true]; exact ⟨rfl, rfl⟩
theorem rdNum_kd {c : Nat → Int32} {L : Nat} {s : RS} {a b : Nat} : (rdNum c L s a b).2.2.1 = s.2.1 ∧ (rdNum c L s a b).2.2.2.2.1 = s.2.2.2.1 := by
  unfold rdNum
  cases decide (dgV c L s.1 a 9 = -1)
  · exact ⟨rfl, rfl⟩
  · exact ⟨rfl, rfl⟩
theorem dgV_3 {c : Nat → Int32} {L a : Nat} (h : (!(decide (dgV c L a 0 3 = -1))) = true) : ∃ u, u < 4 ∧ dgV c L a 0 3 = nI u := by
  rw [Bool.not_eq_true', decide_eq_false_iff_not] at h
  unfold dgV at h ⊢
  cases e : isDig c L a 0 3
  · rw [e, cond_false] at h; exact absurd rfl h
  · rw [cond_true]
    unfold isDig at e
    simp only [Bool.and_eq_true, Bool.not_eq_true', decide_eq_false_iff_not] at e
    obtain ⟨-, e1, e2⟩ := e
    have h0 : ¬ c a < 0 := fun q => e1 (by
      rw [Int32.lt_iff_toInt_lt] at q ⊢
      have q1 : (nI (48 + 0)).toInt = 48 := rfl
      have q0 : (0 : Int32).toInt = 0 := rfl
      rw [q1]; rw [q0] at q; omega)
    obtain ⟨j, hj, ej⟩ := nI_of h0
    rw [ej] at e1 e2 ⊢
    have g1 : ¬ j < 48 := fun q => e1 ((nI_ltI hj (by omega)).mpr q)
    have g2 : ¬ 51 < j := fun q => e2 ((nI_ltI (by omega) hj).mpr q)
    obtain ⟨v, rfl⟩ : ∃ v, j = 48 + v := ⟨j - 48, by omega⟩
    refine ⟨v, by omega, ?_⟩
    rcases v with _ | _ | _ | _ | v <;> first | rfl | omega
theorem rdOrder_ok {c : Nat → Int32} {L : Nat} {s : RS} (h : (rdOrder c L s).1 = true) : kdOk (rdOrder c L s).2.2.1 (rdOrder c L s).2.2.2.2.1 := by
  unfold rdOrder at h ⊢
  cases c1 : (rdSign c L s (nI 97)).1
  · rw [c1, cond_false] at h
    rw [cond_false]
    cases c2 : (rdSign c L (rdSign c L s (nI 97)).2 (nI 98)).1
    · rw [c2, cond_false] at h
      rw [cond_false]
      cases c3 : (rdSign c L (rdSign c L (rdSign c L s (nI 97)).2 (nI 98)).2 (nI 112)).1
      · rw [c3, cond_false] at h
        rw [cond_false]
        have h1 := andThen_t h
        rw [h1.2]
        exact Or.inr (Or.inr (Or.inr (rdNum_kd.1.trans rfl)))
      · rw [c3, cond_true] at h
        rw [cond_true]
        have h1 := andThen_t h
        rw [h1.2] at h ⊢
        have h2 := andThen_t h
        rw [h2.2]
        exact Or.inr (Or.inr (Or.inl (rdNum_kd.1.trans rfl)))
    · rw [cond_true]
      exact Or.inr (Or.inl rfl)
  · rw [c1, cond_true] at h
    rw [cond_true]
    have h1 := andThen_t h
    rw [h1.2] at h ⊢
    have h2 := andThen_t h
    rw [h2.2] at h ⊢
    have h3 := andThen_t h
    rw [h3.2]
    refine Or.inl ⟨rdNum_kd.1.trans rfl, ?_⟩
    rw [rdNum_kd.2]
    exact dgV_3 h2.1
theorem rdNext_ok {c : Nat → Int32} {L : Nat} {s : RS} (h : (rdNext c L s).1 = true) : kdOk (rdNext c L s).2.2.1 (rdNext c L s).2.2.2.2.1 := by
  unfold rdNext at h ⊢
  cases e : decide (s.1 = 0)
  · rw [e, cond_false] at h
    rw [cond_false]
    have h1 := andThen_t h
    rw [h1.2] at h ⊢
    exact rdOrder_ok h
  · rw [e, cond_true] at h
    rw [cond_true]
    exact rdOrder_ok h
theorem omr_omr {μ : Mem} {s s' : RS} : omr (omr μ s) s' = omr μ s' := by
  refine Prod.ext ?_ rfl
  funext t i p k
  show (if t = 2 ∧ i = 0 ∧ p = 0 then omF (omr μ s) s' k else (if t = 2 ∧ i = 0 ∧ p = 0 then omF μ s k else μ.1 t i p k)) = (if t = 2 ∧ i = 0 ∧ p = 0 then omF μ s' k else μ.1 t i p k)
  by_cases h1 : t = 2 ∧ i = 0 ∧ p = 0
  · rw [if_pos h1, if_pos h1]
    match k with
    | 0 | 1 | 2 | 3 | 4 | 5 | 6 => rfl
    | k + 7 => rfl
  · rw [if_neg h1, if_neg h1, if_neg h1]
