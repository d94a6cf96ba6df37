theorem frac_int {y : UInt64} {c : Nat} (hv : FP.Core.val64 y = .fin false c (-52)) (h1 : 2 ^ 52 ≤ c) (h2 : c < 2 ^ 53) : FP.Core.DInt ((c - 2 ^ 52 : Nat) : Int) (FP.dmul (FP.dsub y FP.dconst1) 4841369599423283200) := by
  have e : FP.Core.val64 (FP.dmul (FP.dsub y FP.dconst1) 4841369599423283200) = FP.Core.round FP.Core.b64 (FP.Core.exactProduct (FP.Core.val64 (FP.dsub y FP.dconst1)) (FP.Core.val64 4841369599423283200)) := FP.Core.val64_dmul _ _
  unfold FP.Core.DInt
  rw [e, dsub_one hv h1, v_p52]
  generalize hm : c - 2 ^ 52 = m
  have hm2 : m < 2 ^ 52 := by omega
  by_cases h0 : m = 0
  · subst h0
    rw [show FP.Core.roundRatio FP.Core.b64 false 0 1 (-52) = .fin false 0 FP.Core.b64.qmin from if_pos rfl]
    show FP.Core.Whole _ (FP.Core.roundRatio FP.Core.b64 false (0 * 2 ^ 52) 1 (FP.Core.b64.qmin + 0))
    rw [show FP.Core.roundRatio FP.Core.b64 false (0 * 2 ^ 52) 1 (FP.Core.b64.qmin + 0) = .fin false 0 FP.Core.b64.qmin from if_pos (Nat.zero_mul _)]
    show ((0 * 2 ^ FP.Core.b64.qmin.toNat : Nat) : Int) = ((0 : Nat) : Int) * _
    rw [Nat.zero_mul]
    exact (Int.zero_mul _).symm
  · obtain ⟨k, k1, k2, k3, k4⟩ := norm_ex (Nat.pos_of_ne_zero h0) hm2
    have r1 : FP.Core.roundRatio FP.Core.b64 false m 1 (-52) = .fin false (m * 2 ^ k) (-52 - (k : Int)) := by
      refine FP.Core.roundRatio_exact FP.Core.good_b64 (by omega) (fits_n k3 k4 (by omega) (by omega)) ?_
      rw [show ((-52 : Int) - (-52 - (k : Int))).toNat = k by omega, show ((-52 - (k : Int)) - (-52 : Int)).toNat = 0 by omega, Nat.mul_one]
      exact (Nat.mul_one _).symm
    rw [r1]
    show FP.Core.Whole _ (FP.Core.roundRatio FP.Core.b64 false (m * 2 ^ k * 2 ^ 52) 1 (-52 - (k : Int) + 0))
    have r2 : FP.Core.roundRatio FP.Core.b64 false (m * 2 ^ k * 2 ^ 52) 1 (-52 - (k : Int) + 0) = .fin false (m * 2 ^ k) (-(k : Int)) := by
      refine FP.Core.roundRatio_exact FP.Core.good_b64 (by omega) (fits_n k3 k4 (by omega) (by omega)) ?_
      rw [show (-52 - (k : Int) + 0 - -(k : Int)).toNat = 0 by omega, show (-(k : Int) - (-52 - (k : Int) + 0)).toNat = 52 by omega, Nat.pow_zero, Nat.mul_one, Nat.mul_one]
    rw [r2]
    show ((m * 2 ^ k * 2 ^ (-(k : Int)).toNat : Nat) : Int) = (m : Int) * ((2 ^ (-(-(k : Int))).toNat : Nat) : Int)
    rw [show (-(k : Int)).toNat = 0 by omega, show (-(-(k : Int))).toNat = k by omega, Nat.pow_zero, Nat.mul_one, Int.natCast_mul]
theorem frac_l {y : UInt64} {c : Nat} (hv : FP.Core.val64 y = .fin false c (-52)) (h1 : 2 ^ 52 ≤ c) (h2 : c < 2 ^ 53) : FP.d2l (FP.dmul (FP.dsub y FP.dconst1) 4841369599423283200) = Int64.ofNat (c - 2 ^ 52) := by
  have h := frac_int hv h1 h2
  refine FP.Core.d2l_int (a := Int64.ofNat (c - 2 ^ 52)) ?_
  rw [show (Int64.ofNat (c - 2 ^ 52)).toInt = ((c - 2 ^ 52 : Nat) : Int) from Int64.toInt_ofNat_of_lt (by omega)]
  exact h
