theorem asm_nat (e t : Nat) : FP.Core.assemble FP.Core.b64 false e t = e * FP.Core.b64.tails + t := by
  unfold FP.Core.assemble
  rw [show Bool.toNat false = 0 from rfl, Nat.zero_mul, Nat.zero_add]
theorem tails_52 : FP.Core.b64.tails = 4503599627370496 := by decide +kernel
theorem qmin_64 : FP.Core.b64.qmin = -1074 := by decide +kernel
theorem enc_nat {c j : Nat} (h1 : 4503599627370496 ≤ c) (hj : j ≤ 1022) : FP.Core.encode FP.Core.b64 (.fin false c (-52 - (j : Int))) = (1023 - j) * 4503599627370496 + (c - 4503599627370496) := by
  unfold FP.Core.encode
  simp only [tails_52, qmin_64]
  rw [if_neg (by omega), asm_nat, tails_52, show (-52 - (j : Int) - -1074).toNat + 1 = 1023 - j by omega]
theorem x_nat {x : UInt64} {c j : Nat} (hv : FP.Core.val64 x = .fin false c (-52 - (j : Int))) (h1 : 4503599627370496 ≤ c) (h2 : c < 9007199254740992) (hj : j ≤ 1022) : x.toNat = (1023 - j) * 4503599627370496 + (c - 4503599627370496) := by
  have e := FP.Core.of64_val64 (a := x) (by rw [hv]; exact fun q => by cases q)
  rw [hv] at e
  rw [← e]
  unfold FP.Core.of64
  rw [enc_nat h1 hj, UInt64.toNat_ofNat']
  exact Nat.mod_eq_of_lt (by omega)
