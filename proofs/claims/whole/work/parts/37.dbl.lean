section KDBL
variable {l : Launch} {G : WG} {R : Room} {own : String} {cc : ByteArray} {nL : Nat} {ret : Option FieldType} {X : Code → Prop} {Z : Zz} {μ : Mem} {pc : Nat} {lv : Lv} {st : List Value}
theorem K_dconst0 (hdg : decode cc pc = .ok (.dconst 0, 1)) (kk : K l G R own cc nL ret X Z μ (pc + 1) lv (.double FP.dconst0 :: st)) : K l G R own cc nL ret X Z μ pc lv (st) := by
  intro p e s m args below meth c H locs ls C hR hS hl
  exact lv_dconst0 C.1 C.2.1 hdg (kk p e s m args below meth c H locs ls C hR hS hl)
theorem K_dconst1 (hdg : decode cc pc = .ok (.dconst 1, 1)) (kk : K l G R own cc nL ret X Z μ (pc + 1) lv (.double FP.dconst1 :: st)) : K l G R own cc nL ret X Z μ pc lv (st) := by
  intro p e s m args below meth c H locs ls C hR hS hl
  exact lv_dconst1 C.1 C.2.1 hdg (kk p e s m args below meth c H locs ls C hR hS hl)
theorem K_dsub {x y : UInt64} (hne : vf_n64 (FP.dsub x y)) (hdg : decode cc pc = .ok (.dsub, 1)) (kk : K l G R own cc nL ret X Z μ (pc + 1) lv (.double (FP.dsub x y) :: st)) : K l G R own cc nL ret X Z μ pc lv (.double y :: .double x :: st) := by
  intro p e s m args below meth c H locs ls C hR hS hl
  exact lv_dsub C.1 C.2.1 hdg hne (kk p e s m args below meth c H locs ls C hR hS hl)
theorem K_dmul {x y : UInt64} (hne : vf_n64 (FP.dmul x y)) (hdg : decode cc pc = .ok (.dmul, 1)) (kk : K l G R own cc nL ret X Z μ (pc + 1) lv (.double (FP.dmul x y) :: st)) : K l G R own cc nL ret X Z μ pc lv (.double y :: .double x :: st) := by
  intro p e s m args below meth c H locs ls C hR hS hl
  exact lv_dmul C.1 C.2.1 hdg hne (kk p e s m args below meth c H locs ls C hR hS hl)
theorem K_ddiv {x y : UInt64} (hne : vf_n64 (FP.ddiv x y)) (hdg : decode cc pc = .ok (.ddiv, 1)) (kk : K l G R own cc nL ret X Z μ (pc + 1) lv (.double (FP.ddiv x y) :: st)) : K l G R own cc nL ret X Z μ pc lv (.double y :: .double x :: st) := by
  intro p e s m args below meth c H locs ls C hR hS hl
  exact lv_ddiv C.1 C.2.1 hdg hne (kk p e s m args below meth c H locs ls C hR hS hl)
theorem K_dcmp {x y : UInt64} {op : CmpOp} (hdg : decode cc pc = .ok (.dcmp op, 1)) (kk : K l G R own cc nL ret X Z μ (pc + 1) lv (.int (Op.cmpValue (FP.dcmp x y) op) :: st)) : K l G R own cc nL ret X Z μ pc lv (.double y :: .double x :: st) := by
  intro p e s m args below meth c H locs ls C hR hS hl
  exact lv_dcmp C.1 C.2.1 hdg (kk p e s m args below meth c H locs ls C hR hS hl)
theorem K_i2d {x : Int32} (hdg : decode cc pc = .ok (.i2d, 1)) (kk : K l G R own cc nL ret X Z μ (pc + 1) lv (.double (FP.i2d x) :: st)) : K l G R own cc nL ret X Z μ pc lv (.int x :: st) := by
  intro p e s m args below meth c H locs ls C hR hS hl
  exact lv_i2d C.1 C.2.1 hdg (kk p e s m args below meth c H locs ls C hR hS hl)
theorem K_d2l {x : UInt64} (hdg : decode cc pc = .ok (.d2l, 1)) (kk : K l G R own cc nL ret X Z μ (pc + 1) lv (.long (FP.d2l x) :: st)) : K l G R own cc nL ret X Z μ pc lv (.double x :: st) := by
  intro p e s m args below meth c H locs ls C hR hS hl
  exact lv_d2l C.1 C.2.1 hdg (kk p e s m args below meth c H locs ls C hR hS hl)
theorem K_ldc2d {k : Nat} {v : UInt64} (hdg : decode cc pc = .ok (.ldc2_w k, 3)) (hw : Cond.constantDouble own k v ∈ UW) (kk : K l G R own cc nL ret X Z μ (pc + 3) lv (.double v :: st)) : K l G R own cc nL ret X Z μ pc lv (st) := by
  intro p e s m args below meth c H locs ls C hR hS hl
  exact lv_ldc2d C.1 C.2.1 C.2.2.2.2.2.1 (C.2.2.2.2.2.2.1 _ hw) hdg (kk p e s m args below meth c H locs ls C hR hS hl)
theorem K_rawBits {idx : Nat} {b : UInt64} (hdg : decode cc pc = .ok (.invokestatic idx, 3)) (hl1 : Cond.methodLink own idx doubleToRawLongBitsName ∈ UW) (hl2 : Cond.native doubleToRawLongBitsName ∈ UW) (hl3 : Cond.static doubleToRawLongBitsName ∈ UW) (hl4 : Cond.initialized "java/lang/Double" ∈ UW) (hf : 1 ≤ R.frames) (hlo : (st.map fun v => v.category).sum + (nativeFrameWords "java/lang/Double" "doubleToRawLongBits" 2 + 11) ≤ R.locals) (kk : K l G R own cc nL ret X Z μ (pc + 3) lv (.long b.toInt64 :: st)) : K l G R own cc nL ret X Z μ pc lv (.double b :: st) := by
  intro p e s m args below meth c H locs ls C hR hS hl
  have hts := C.2.2.2.2.2.2.1
  intro T hT X0
  obtain ⟨vm', X', step⟩ := X0.doubleToRawLongBits C.1 C.2.2.2.2.2.1 (hts _ hl1) (hts _ hl2) (hts _ hl3) (hts _ hl4) (g := F0 m pc ls (.double b :: st)) rfl (C.2.2.1.trans hl.1.symm).symm rfl (by rw [C.2.1]; exact hdg) hf (by show 2 * 0 + _ + _ ≤ _; omega)
  obtain ⟨t, a1, b1⟩ := kk p e s m args below meth c H locs ls C hR hS hl (T.setVm vm') (by rw [← hT]; rfl) X'
  exact ⟨t, step t a1, b1⟩
end KDBL
theorem n64_of {r : UInt64} (h : FP.Core.val64 r ≠ .nan) : vf_n64 r := by
  unfold vf_n64
  have h1 : ¬ FP.Core.infBits FP.Core.b64 < FP.Core.mag FP.Core.b64 r.toNat := fun q => h ((FP.Core.decode_nan _).mpr q)
  have e1 : FP.Core.infBits FP.Core.b64 = 0x7ff0000000000000 := by decide +kernel
  have e2 : FP.Core.mag FP.Core.b64 r.toNat = r.toNat % 2 ^ 63 := rfl
  rw [e1, e2] at h1
  rw [UInt64.le_iff_toNat_le, UInt64.toNat_and]
  have e3 : (0x7fffffffffffffff : UInt64).toNat = 2 ^ 63 - 1 := rfl
  have e4 : (0x7ff0000000000000 : UInt64).toNat = 0x7ff0000000000000 := rfl
  rw [e3, e4, Nat.and_two_pow_sub_one_eq_mod]
  omega
