theorem key_x {x : UInt64} {c j : Nat} (hv : FP.Core.val64 x = .fin false c (-52 - (j : Int))) (h1 : 4503599627370496 ≤ c) (h2 : c < 9007199254740992) (hj : j ≤ 1022) : FP.Core.dkey x = (((1023 - j) * 4503599627370496 + (c - 4503599627370496) : Nat) : Int) := by
  have e := x_nat hv h1 h2 hj
  unfold FP.Core.dkey
  rw [if_neg (by omega), e]
theorem key_1 : FP.Core.dkey FP.dconst1 = 4607182418800017408 := by decide +kernel
theorem key_0 : FP.Core.dkey FP.dconst0 = 0 := by decide +kernel
theorem nn_x {x : UInt64} {c : Nat} {q : Int} (hv : FP.Core.val64 x = .fin false c q) : FP.Core.val64 x ≠ .nan := by rw [hv]; exact fun q => by cases q
theorem nn_1 : FP.Core.val64 FP.dconst1 ≠ .nan := by rw [v_one]; exact fun q => by cases q
theorem lt_1 {x : UInt64} {c j : Nat} (hv : FP.Core.val64 x = .fin false c (-52 - (j : Int))) (h1 : 4503599627370496 ≤ c) (h2 : c < 9007199254740992) (hj : j ≤ 1022) (h0 : 1 ≤ j) : FP.dcmp x FP.dconst1 = some .lt := by
  refine (FP.Core.dcmp_lt_key (nn_x hv) nn_1).mpr ?_
  rw [key_x hv h1 h2 hj, key_1]
  omega
