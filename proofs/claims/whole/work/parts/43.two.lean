theorem v_two : FP.Core.val64 4611686018427387904 = .fin false (2 ^ 52) (-51) := by decide +kernel
theorem v_p52 : FP.Core.val64 4841369599423283200 = .fin false (2 ^ 52) 0 := by decide +kernel
theorem v_one : FP.Core.val64 FP.dconst1 = .fin false (2 ^ 52) (-52) := by decide +kernel
theorem fits_n {c : Nat} {q : Int} (h1 : 2 ^ 52 ≤ c) (h2 : c < 2 ^ 53) (h3 : -1074 ≤ q) (h4 : q ≤ 971) : FP.Core.fits FP.Core.b64 (.fin false c q) := ⟨h2, h3, h4, Or.inr h1⟩
theorem dmul_two {x : UInt64} {c : Nat} {q : Int} (hv : FP.Core.val64 x = .fin false c q) (h1 : 2 ^ 52 ≤ c) (h2 : c < 2 ^ 53) (h3 : -1074 ≤ q) (h4 : q ≤ 970) : FP.Core.val64 (FP.dmul x 4611686018427387904) = .fin false c (q + 1) := by
  have e : FP.Core.val64 (FP.dmul x 4611686018427387904) = FP.Core.round FP.Core.b64 (FP.Core.exactProduct (FP.Core.val64 x) (FP.Core.val64 4611686018427387904)) := FP.Core.val64_dmul x _
  rw [e, hv, v_two]
  show FP.Core.roundRatio FP.Core.b64 false (c * 2 ^ 52) 1 (q + -51) = _
  refine FP.Core.roundRatio_exact FP.Core.good_b64 (by omega) (fits_n h1 h2 (by omega) (by omega)) ?_
  rw [show (q + -51 - (q + 1)).toNat = 0 by omega, show (q + 1 - (q + -51)).toNat = 52 by omega]
  omega
