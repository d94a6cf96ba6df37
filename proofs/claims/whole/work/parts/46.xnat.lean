theorem asm_nat (e t : Nat) : FP.Core.assemble FP.Core.b64 false e t = e * FP.Core.b64.tails + t := by
  unfold FP.Core.assemble
  rw [show Bool.toNat false = 0 from rfl, Nat.zero_mul, Nat.zero_add]
