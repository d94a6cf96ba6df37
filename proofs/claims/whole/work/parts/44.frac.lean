/-- one less than a number from 1 to 2 -/
theorem dsub_one {y : UInt64} {c : Nat} (hv : FP.Core.val64 y = .fin false c (-52)) (h1 : 2 ^ 52 ≤ c) : FP.Core.val64 (FP.dsub y FP.dconst1) = FP.Core.roundRatio FP.Core.b64 false (c - 2 ^ 52) 1 (-52) := by
  have e : FP.Core.val64 (FP.dsub y FP.dconst1) = FP.Core.round FP.Core.b64 (FP.Core.exactSum (FP.Core.val64 y) (FP.Core.negate (FP.Core.val64 FP.dconst1))) := FP.Core.val64_dsub y _
  rw [e, hv, v_one]
  have hu : FP.Core.sumUnits false c (-52) true (2 ^ 52) (-52) (-52) = ((c - 2 ^ 52 : Nat) : Int) := by
    show ((c * 2 ^ ((-52 : Int) - -52).toNat : Nat) : Int) + -((2 ^ 52 * 2 ^ ((-52 : Int) - -52).toNat : Nat) : Int) = _
    rw [show ((-52 : Int) - -52).toNat = 0 from rfl]
    omega
  show FP.Core.roundRatio FP.Core.b64 (FP.Core.sumSign false true (FP.Core.sumUnits false c (-52) true (2 ^ 52) (-52) (-52))) (FP.Core.sumUnits false c (-52) true (2 ^ 52) (-52) (-52)).natAbs 1 (-52) = _
  rw [hu]
  have hs : FP.Core.sumSign false true ((c - 2 ^ 52 : Nat) : Int) = false := by
    unfold FP.Core.sumSign
    split
    · rfl
    · exact decide_eq_false (by omega)
  rw [hs, Int.natAbs_natCast]
theorem norm_ex {m : Nat} (h0 : 0 < m) (h : m < 2 ^ 52) : ∃ k, 1 ≤ k ∧ k ≤ 52 ∧ 2 ^ 52 ≤ m * 2 ^ k ∧ m * 2 ^ k < 2 ^ 53 := by
  have g1 : 2 ^ m.log2 ≤ m := Nat.log2_self_le (by omega)
  have g2 : m < 2 ^ (m.log2 + 1) := Nat.lt_log2_self
  have g3 : m.log2 < 52 := (Nat.pow_lt_pow_iff_right (a := 2) (by omega)).mp (Nat.lt_of_le_of_lt g1 h)
  refine ⟨52 - m.log2, by omega, by omega, ?_, ?_⟩
  · calc 2 ^ 52 = 2 ^ m.log2 * 2 ^ (52 - m.log2) := by rw [← Nat.pow_add]; congr 1; omega
      _ ≤ _ := Nat.mul_le_mul_right _ g1
  · calc m * 2 ^ (52 - m.log2) < 2 ^ (m.log2 + 1) * 2 ^ (52 - m.log2) := Nat.mul_lt_mul_of_pos_right g2 (Nat.two_pow_pos _)
      _ = 2 ^ 53 := by rw [← Nat.pow_add]; congr 1; omega
