theorem ge_1 {x : UInt64} {c : Nat} (hv : FP.Core.val64 x = .fin false c (-52)) (h1 : 4503599627370496 ≤ c) (h2 : c < 9007199254740992) : FP.dcmp x FP.dconst1 = some .gt ∨ FP.dcmp x FP.dconst1 = some .eq := by
  have hv0 : FP.Core.val64 x = .fin false c (-52 - ((0 : Nat) : Int)) := hv
  have k := key_x hv0 h1 h2 (by omega)
  by_cases h : c = 4503599627370496
  · refine Or.inr ((FP.Core.dcmp_eq_key (nn_x hv) nn_1).mpr ?_)
    rw [k, key_1]
    omega
  · refine Or.inl ((FP.Core.dcmp_gt_key (nn_x hv) nn_1).mpr ?_)
    rw [k, key_1]
    omega
theorem gt_0 {x : UInt64} {c j : Nat} (hv : FP.Core.val64 x = .fin false c (-52 - (j : Int))) (h1 : 4503599627370496 ≤ c) (h2 : c < 9007199254740992) (hj : j ≤ 1022) : FP.dcmp x FP.dconst0 = some .gt := by
  refine (FP.Core.dcmp_gt_key (nn_x hv) (fun q => absurd ((FP.Core.dIsNaN_iff _).mpr q) (show ¬ FP.Core.dIsNaN FP.dconst0 = true by decide +kernel))).mpr ?_
  rw [key_x hv h1 h2 hj, key_0]
  omega
