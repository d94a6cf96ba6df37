theorem begun_n {x : APh} {day n p : Nat} {rt : Nat → Nat} (h : OP day n p rt x) (hb : x.beg = true) : p < n := by
  rcases Nat.lt_or_ge p n with q | q
  · exact q
  · rw [(h.blank q).1] at hb
    exact absurd hb (by decide)
theorem partsN_4 (s : Int32) : partsN s = 1 ∨ partsN s = 2 ∨ partsN s = 3 ∨ partsN s = 4 := by
  have := partsN_le s
  omega
theorem lastV_nI {S : Nat} (hS : S < 2 ^ 30) : lastV (nI S) = nI (S - (partsN (nI S) - 1) * (S / partsN (nI S))) ∧ (partsN (nI S) - 1) * (S / partsN (nI S)) ≤ S := by
  unfold lastV
  rcases partsN_4 (nI S) with h | h | h | h <;> rw [h, pk_rem (by omega) (by decide) (by decide), pk_div (by omega) (by decide) (by decide), nI_add] <;> refine ⟨?_, by omega⟩ <;> congr 1 <;> omega
theorem partV_last {S : Nat} (hS : S < 2 ^ 30) : partV (nI S) (partsN (nI S)) (partsN (nI S) - 1) = lastV (nI S) := by
  have h1 := lastV_nI hS
  unfold partV
  rw [if_pos rfl, h1.1]
  have h2 : nI (partsN (nI S) - 1) * (nI S / nI (partsN (nI S))) = nI ((partsN (nI S) - 1) * (S / partsN (nI S))) := by
    rcases partsN_4 (nI S) with h | h | h | h <;> rw [h, pk_div (by omega) (by decide) (by decide), nI_mul]
  rw [h2, pk_sub h1.2]
theorem begV_partV {S : Nat} (hS : S < 2 ^ 30) {k : Nat} : begV (nI S) k = partV (nI S) (partsN (nI S)) k := by
  unfold begV
  by_cases h : k = partsN (nI S) - 1
  · rw [decide_eq_true h, h, partV_last hS]; rfl
  · unfold partV
    rw [decide_eq_false h, if_neg h]; rfl
section QUERY2
variable {μ : Mem} {z : Zr} {a : ALw}
theorem q_begun (hC : CR μ 0 a) (hM : MR z a) (hK : OK a) {p : Nat} (hp : p < a.n) : cBegun μ 0 p = mBegun z p := by
  have hp6 : p < 6 := Nat.lt_of_lt_of_le hp hK.n
  rw [cw_begun (hC.ph p hp6) (hK.ph p hp6), mw_begun (hM.ph p hp) (hK.ph p hp6)]
theorem q_sum (hC : CR μ 0 a) (hM : MR z a) (hK : OK a) {w w' : Nat} (hw : ∀ p, p < a.n → cNum μ 0 p w = mPhase z p w') : ∀ k, k ≤ a.n → cSumOver μ 0 w k = mSumK z w' k
  | 0, _ => rfl
  | k + 1, hk => by
    have h1 := q_sum hC hM hK hw k (by omega)
    unfold cSumOver at h1 ⊢
    show cond (cBegun μ 0 k) (sumB _ _ k + cNum μ 0 k w) (sumB _ _ k) = mSumK z w' k + cond (mBegun z k) (mPhase z k w') (nI 0)
    rw [h1, q_begun hC hM hK (by omega), hw k (by omega)]
    cases mBegun z k
    · show mSumK z w' k = mSumK z w' k + nI 0
      rw [nI_0, Int32.add_zero]
    · rfl
theorem q_ones (hC : CR μ 0 a) (hM : MR z a) (hK : OK a) : ∀ k, k ≤ a.n → cSumOver μ 0 1 k = mOnesK z k
  | 0, _ => rfl
  | k + 1, hk => by
    have h1 := q_ones hC hM hK k (by omega)
    unfold cSumOver at h1 ⊢
    show cond (cBegun μ 0 k) (sumB _ _ k + nI 1) (sumB _ _ k) = mOnesK z k + cond (mBegun z k) (nI 1) (nI 0)
    rw [h1, q_begun hC hM hK (by omega)]
    cases mBegun z k
    · show mOnesK z k = mOnesK z k + nI 0
      rw [nI_0, Int32.add_zero]
    · rfl
theorem q_count (hC : CR μ 0 a) (hM : MR z a) (hK : OK a) {sc : Nat} (hs : μ.1 0 0 0 2 = nI sc) {w : Nat} (hw : w < 16) : cCountQ μ a.n w = mCount z sc a.n w := by
  have P : ∀ {p w : Nat}, p < a.n → w < 14 → cPhaseQ μ p w = mPhase z p w := fun hp hw => q_phase hC hM hK hp hw
  match w, hw with
  | 0, _ => exact hC.n.trans hM.zi.1.symm
  | 1, _ => exact q_ones hC hM hK _ (Nat.le_refl _)
  | 2, _ => exact q_sum hC hM hK (w := 2) (w' := 9) (fun p hp => P (w := 9) hp (by decide)) _ (Nat.le_refl _)
  | 3, _ => exact hC.day.trans hM.day.symm
  | 4, _ => exact q_sum hC hM hK (w := 4) (w' := 1) (fun p hp => P (w := 1) hp (by decide)) _ (Nat.le_refl _)
  | 5, _ => exact q_sum hC hM hK (w := 5) (w' := 2) (fun p hp => P (w := 2) hp (by decide)) _ (Nat.le_refl _)
  | 6, _ => exact q_sum hC hM hK (w := 6) (w' := 5) (fun p hp => P (w := 5) hp (by decide)) _ (Nat.le_refl _)
  | 7, _ => exact q_sum hC hM hK (w := 7) (w' := 6) (fun p hp => P (w := 6) hp (by decide)) _ (Nat.le_refl _)
  | 8, _ => exact q_sum hC hM hK (w := 8) (w' := 7) (fun p hp => P (w := 7) hp (by decide)) _ (Nat.le_refl _)
  | 9, _ => exact q_sum hC hM hK (w := 9) (w' := 3) (fun p hp => P (w := 3) hp (by decide)) _ (Nat.le_refl _)
  | 10, _ => exact q_sum hC hM hK (w := 10) (w' := 4) (fun p hp => P (w := 4) hp (by decide)) _ (Nat.le_refl _)
  | 11, _ => exact (hC.rt 0 (by decide)).trans (hM.rt 0 (by decide)).symm
  | 12, _ => exact (hC.rt 1 (by decide)).trans (hM.rt 1 (by decide)).symm
  | 13, _ => exact (hC.rt 2 (by decide)).trans (hM.rt 2 (by decide)).symm
  | 14, _ => exact (hC.rt 3 (by decide)).trans (hM.rt 3 (by decide)).symm
  | 15, _ => exact hs
  | w + 16, h => exact absurd h (by omega)
theorem q_sumN (hC : CR μ 0 a) (hM : MR z a) (hK : OK a) {p : Nat} (hp : p < a.n) : cSum μ 0 p = nI (chg (a.ph p) - rlf (a.ph p)) ∧ mSum z p = nI (chg (a.ph p) - rlf (a.ph p)) ∧ chg (a.ph p) - rlf (a.ph p) < 2 ^ 30 := by
  have hp6 : p < 6 := Nat.lt_of_lt_of_le hp hK.n
  have c := hC.ph p hp6
  have m := hM.ph p hp
  have o := hK.ph p hp6
  have h := o.chg_le
  exact ⟨cw_sum c o, mw_sum m o hp hM.rt, by omega⟩
theorem q_if (hC : CR μ 0 a) (hM : MR z a) (hK : OK a) {p : Nat} (hp : p < a.n) {w : Nat} (hw : w < 3) : cIfQ μ p w = mThen z p w := by
  obtain ⟨h1, h2, h3⟩ := q_sumN hC hM hK hp
  have h2' : mCharge z p - mRelief z p = nI (chg (a.ph p) - rlf (a.ph p)) := h2
  have hd : decide (cWhy1 μ 0 p = 0) = decide (mWhy1 z p ≤ 0) := by
    rw [q_why1 hC hM hK hp]
    unfold mWhy1
    cases mBegun z p
    · cases decide (mArea z p = 0) <;> decide
    · show decide (nI 1 = 0) = decide (nI 1 ≤ 0)
      decide
  unfold cIfQ mThen
  rw [hd]
  cases decide (mWhy1 z p ≤ 0) with
  | false => rfl
  | true =>
    match w, hw with
    | 0, _ => exact h1.trans h2'.symm
    | 1, _ =>
      show nI (partsN (cSum μ 0 p)) = nI (partsN (mCharge z p - mRelief z p))
      rw [h1, h2']
    | 2, _ =>
      show partV (cSum μ 0 p) (partsN (cSum μ 0 p)) (partsN (cSum μ 0 p) - 1) = lastV (mCharge z p - mRelief z p)
      rw [h1, h2']
      exact partV_last h3
theorem q_days (hC : CR μ 0 a) (hM : MR z a) (hK : OK a) {p : Nat} (hp : p < a.n) : cDays μ 0 p (insN μ 0 p) = mBreaks z p := by
  have hp6 : p < 6 := Nat.lt_of_lt_of_le hp hK.n
  have c := hC.ph p hp6
  have m := hM.ph p hp
  have o := hK.ph p hp6
  rw [cw_ins c o, cw_days c o hC.day hK.day, mw_breaks m o hM.day hK.day]
theorem q_urg (hC : CR μ 0 a) (hM : MR z a) (hK : OK a) : ∀ k, k ≤ a.n → (urgK μ k).1 = mUrgK z k ∧ (mUrgK z k = -1 ∨ ∃ j, j < k ∧ canB (a.ph j) = true ∧ mUrgK z k = nI j ∧ (urgK μ k).2.1 = nI (fdu (a.ph j) + 1 - a.day) ∧ (urgK μ k).2.2 = nI (owd (a.ph j)))
  | 0, _ => ⟨rfl, Or.inl rfl⟩
  | k + 1, hk => by
    have hp : k < a.n := by omega
    have hk6 : k < 6 := Nat.lt_of_lt_of_le hp hK.n
    have c := hC.ph k hk6
    have m := hM.ph k hp
    have o := hK.ph k hk6
    obtain ⟨e1, e2⟩ := q_urg hC hM hK k (by omega)
    have d1 := cw_days c o hC.day hK.day
    have d2 := cw_owed c o
    have d3 := cw_ins c o
    have hday := hK.day
    have hU : urgK μ (k + 1) = cond (!(decide (cDays μ 0 k (insN μ 0 k) = -1)) && (decide ((urgK μ k).1 = -1) || decide (cDays μ 0 k (insN μ 0 k) < (urgK μ k).2.1) || (decide (cDays μ 0 k (insN μ 0 k) = (urgK μ k).2.1) && !(decide (cOwed μ 0 k ≤ (urgK μ k).2.2))))) (nI k, cDays μ 0 k (insN μ 0 k), cOwed μ 0 k) (urgK μ k) := rfl
    have hV : mUrgK z (k + 1) = cond (mCan z k) (cond (decide (mUrgK z k = -1)) (nI k)
      (cond (decide (0 < mBreaks z (mUrgK z k).toNatClampNeg - mBreaks z k)) (nI k)
        (cond (decide (mBreaks z (mUrgK z k).toNatClampNeg - mBreaks z k = 0) && !(decide (mOwed z k ≤ mOwed z (mUrgK z k).toNatClampNeg))) (nI k) (mUrgK z k)))) (mUrgK z k) := rfl
    rw [d3, d1, d2, e1] at hU
    rw [mw_can m o] at hV
    cases e : canB (a.ph k) with
    | false =>
      rw [e] at hU hV
      have hU2 : urgK μ (k + 1) = urgK μ k := hU
      have hV2 : mUrgK z (k + 1) = mUrgK z k := hV
      rw [hU2, hV2]
      refine ⟨e1, ?_⟩
      rcases e2 with q | ⟨j, q1, q2⟩
      · exact Or.inl q
      · exact Or.inr ⟨j, by omega, q2⟩
    | true =>
      have f1 := fdu_day o e
      obtain ⟨f2, -, f4⟩ := canB_iff.mp e
      have f3 : fdu (a.ph k) ≤ 10599 := o.fdu_le f2 (Nat.le_of_lt f4)
      have f5 := o.owd_le
      rw [e] at hU hV
      have hU2 : urgK μ (k + 1) = cond (!(decide (nI (fdu (a.ph k) + 1 - a.day) = -1)) && (decide (mUrgK z k = -1) || decide (nI (fdu (a.ph k) + 1 - a.day) < (urgK μ k).2.1) || (decide (nI (fdu (a.ph k) + 1 - a.day) = (urgK μ k).2.1) && !(decide (nI (owd (a.ph k)) ≤ (urgK μ k).2.2))))) (nI k, nI (fdu (a.ph k) + 1 - a.day), nI (owd (a.ph k))) (urgK μ k) := hU
      rw [decide_eq_false (nI_m1 (by omega))] at hU2
      have hnew : (urgK μ (k + 1) = (nI k, nI (fdu (a.ph k) + 1 - a.day), nI (owd (a.ph k))) ∧ mUrgK z (k + 1) = nI k) → (urgK μ (k + 1)).1 = mUrgK z (k + 1) ∧ (mUrgK z (k + 1) = -1 ∨ ∃ j, j < k + 1 ∧ canB (a.ph j) = true ∧ mUrgK z (k + 1) = nI j ∧ (urgK μ (k + 1)).2.1 = nI (fdu (a.ph j) + 1 - a.day) ∧ (urgK μ (k + 1)).2.2 = nI (owd (a.ph j))) := fun q => by
        rw [q.1, q.2]
        exact ⟨rfl, Or.inr ⟨k, Nat.lt_succ_self k, e, rfl, rfl, rfl⟩⟩
      rcases e2 with q | ⟨j, q1, q2, q3, q4, q5⟩
      · rw [q, decide_eq_true rfl] at hU2 hV
        exact hnew ⟨hU2, hV⟩
      · have hj6 : j < 6 := by omega
        have cj := hC.ph j hj6
        have mj := hM.ph j (by omega)
        have oj := hK.ph j hj6
        have g1 := fdu_day oj q2
        obtain ⟨g2, -, g4⟩ := canB_iff.mp q2
        have g3 : fdu (a.ph j) ≤ 10599 := oj.fdu_le g2 (Nat.le_of_lt g4)
        have g5 := oj.owd_le
        have bj := mw_breaks mj oj hM.day hK.day
        have bk := mw_breaks m o hM.day hK.day
        rw [q2] at bj
        rw [e] at bk
        rw [q3, decide_eq_false (nI_m1 (by omega)), q4, q5] at hU2
        rw [q3, decide_eq_false (nI_m1 (by omega)), nI_clamp (by omega), bj, bk, mw_owed mj oj, mw_owed m o] at hV
        have t1 : decide (nI (fdu (a.ph k) + 1 - a.day) < nI (fdu (a.ph j) + 1 - a.day)) = decide (fdu (a.ph k) < fdu (a.ph j)) := decide_eq_decide.mpr (by rw [nI_ltI (by omega) (by omega)]; omega)
        have t2 : decide (nI (fdu (a.ph k) + 1 - a.day) = nI (fdu (a.ph j) + 1 - a.day)) = decide (fdu (a.ph k) = fdu (a.ph j)) := decide_eq_decide.mpr (by rw [nI_eq (by omega) (by omega)]; omega)
        have t3 : decide (0 < nI (fdu (a.ph j) + 1 - a.day) - nI (fdu (a.ph k) + 1 - a.day)) = decide (fdu (a.ph k) < fdu (a.ph j)) := decide_eq_decide.mpr (by
          rw [Int32.lt_iff_toInt_lt, pk_sub_toInt (by omega) (by omega), show (0 : Int32).toInt = 0 by decide]
          omega)
        have t4 : decide (nI (fdu (a.ph j) + 1 - a.day) - nI (fdu (a.ph k) + 1 - a.day) = 0) = decide (fdu (a.ph k) = fdu (a.ph j)) := decide_eq_decide.mpr (by
          rw [← Int32.toInt_inj, pk_sub_toInt (by omega) (by omega), show (0 : Int32).toInt = 0 by decide]
          omega)
        rw [t1, t2] at hU2
        change mUrgK z (k + 1) = cond (decide (0 < nI (fdu (a.ph j) + 1 - a.day) - nI (fdu (a.ph k) + 1 - a.day))) (nI k) (cond (decide (nI (fdu (a.ph j) + 1 - a.day) - nI (fdu (a.ph k) + 1 - a.day) = 0) && !(decide (nI (owd (a.ph k)) ≤ nI (owd (a.ph j))))) (nI k) (nI j)) at hV
        rw [t3, t4] at hV
        have hold : (urgK μ (k + 1) = urgK μ k ∧ mUrgK z (k + 1) = nI j) → (urgK μ (k + 1)).1 = mUrgK z (k + 1) ∧ (mUrgK z (k + 1) = -1 ∨ ∃ j, j < k + 1 ∧ canB (a.ph j) = true ∧ mUrgK z (k + 1) = nI j ∧ (urgK μ (k + 1)).2.1 = nI (fdu (a.ph j) + 1 - a.day) ∧ (urgK μ (k + 1)).2.2 = nI (owd (a.ph j))) := fun q => by
          rw [q.1, q.2]
          exact ⟨e1.trans q3, Or.inr ⟨j, by omega, q2, rfl, q4, q5⟩⟩
        by_cases r1 : fdu (a.ph k) < fdu (a.ph j)
        · rw [decide_eq_true r1] at hU2 hV
          exact hnew ⟨hU2, hV⟩
        · rw [decide_eq_false r1] at hU2 hV
          by_cases r2 : fdu (a.ph k) = fdu (a.ph j)
          · rw [decide_eq_true r2] at hU2 hV
            cases r3 : decide (nI (owd (a.ph k)) ≤ nI (owd (a.ph j))) with
            | false =>
              rw [r3] at hU2 hV
              exact hnew ⟨hU2, hV⟩
            | true =>
              rw [r3] at hU2 hV
              exact hold ⟨hU2, hV⟩
          · rw [decide_eq_false r2] at hU2 hV
            exact hold ⟨hU2, hV⟩
end QUERY2
