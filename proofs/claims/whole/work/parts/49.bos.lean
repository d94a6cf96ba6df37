theorem u_tn {n : Nat} (h : n < 2 ^ 64) : (UInt64.ofNat n).toNat = n := Nat.mod_eq_of_lt h
theorem g_or {k p a b : Nat} (hp : 2 ^ k = p) (ha : a < p) (h : b * p + a < 2 ^ 64) : lN (b * p) ||| lN a = lN (b * p + a) := by
  subst hp
  have h1 : b * 2 ^ k ||| a = b * 2 ^ k + a := by rw [← Nat.shiftLeft_eq, Nat.shiftLeft_add_eq_or_of_lt ha]
  have h3 : UInt64.ofNat (b * 2 ^ k) ||| UInt64.ofNat a = UInt64.ofNat (b * 2 ^ k + a) := UInt64.toNat_inj.mp (by rw [UInt64.toNat_or, u_tn (by omega), u_tn (by omega), u_tn h, h1])
  have h2 := congrArg UInt64.toInt64 h3
  exact h2
theorem g_shl {a k p : Nat} {y : Int64} (hy : y.toBitVec.smod 64 = BitVec.ofNat 64 k) (hk : k < 64) (hp : 2 ^ k = p) (ha : a < 2 ^ 64) : lN a <<< y = lN (a * p) := by
  subst hp
  apply Int64.toBitVec_inj.mp
  rw [Int64.toBitVec_shiftLeft, hy]
  apply BitVec.eq_of_toNat_eq
  have hb : (lN a).toBitVec.toNat = a := Nat.mod_eq_of_lt ha
  have hk' : (BitVec.ofNat 64 k).toNat = k := Nat.mod_eq_of_lt (by omega)
  have h : ((lN a).toBitVec <<< BitVec.ofNat 64 k).toNat = (a * 2 ^ k) % 2 ^ 64 := by simp only [BitVec.shiftLeft_eq', BitVec.toNat_shiftLeft, hb, hk', Nat.shiftLeft_eq]
  rw [h]
  exact (BitVec.toNat_ofNat _ _).symm
theorem lN_sub1 (b : Nat) : lN (b + 1) - 1 = lN b := by
  have h : lN (b + 1) = lN b + 1 := Int64.ofNat_add b 1
  rw [h, Int64.add_sub_cancel]
theorem x_long {x : UInt64} {c j : Nat} (hv : FP.Core.val64 x = .fin false c (-52 - (j : Int))) (h1 : 4503599627370496 ≤ c) (h2 : c < 9007199254740992) (hj : j ≤ 1022) : lN (1023 - j) <<< ((nI 52).toInt64 &&& 63) ||| Int64.ofNat (c - 4503599627370496) = x.toInt64 := by
  rw [g_shl (k := 52) (p := 4503599627370496) (by decide +kernel) (by decide) (by decide) (by omega)]
  refine (g_or (k := 52) (by decide) (by omega) (by omega)).trans ?_
  refine congrArg UInt64.toInt64 (UInt64.toNat_inj.mp ?_)
  exact (u_tn (n := (1023 - j) * 4503599627370496 + (c - 4503599627370496)) (by omega)).trans (x_nat hv h1 h2 hj).symm
theorem dint_n {i : Int} {x : UInt64} (h : FP.Core.DInt i x) : FP.Core.val64 x ≠ .nan := by
  intro q
  unfold FP.Core.DInt at h
  rw [q] at h
  exact h
def okSh (x : UInt64) : Prop := x = 0 ∨ ∃ c j : Nat, FP.Core.val64 x = .fin false c (-52 - (j : Int)) ∧ 4503599627370496 ≤ c ∧ c < 9007199254740992 ∧ j ≤ 1022
set_option maxHeartbeats 4000000 in
set_option maxRecDepth 100000 in
theorem C_X3_bitsOfShare {l : Launch} {G : WG} {μ : Mem} {x : UInt64} (hx : okSh x) : Ct l G 0 yX3_bitsOfShare cX3_bitsOfShare 8 (some .long) [.double x] μ (some (.long x.toInt64)) μ := by
  refine Ct_of (by decide +kernel) (Nat.le_of_ble_eq_true rfl) ?_
  refine K_dload_n dX3_bitsOfShare_0 rfl ?_
  refine K_dconst0 dX3_bitsOfShare_1 ?_
  refine K_dcmp dX3_bitsOfShare_2 ?_
  rcases hx with rfl | ⟨c, j0, hv, h1, h2, hj0⟩
  · refine K_top (show _ = (0 : Int32) by decide +kernel) ?_
    refine K_if_gt (tgt := 8) dX3_bitsOfShare_3 (by decide) (fun q => absurd q (by decide)) (fun _ => ?_)
    refine K_lconst (v := 0) dX3_bitsOfShare_6 (by decide) ?_
    exact K_lret dX3_bitsOfShare_7 ⟨rfl, rfl⟩
  · refine K_top (show _ = (1 : Int32) by rw [show FP.dcmp x FP.dconst0 = some .gt from gt_0 hv h1 h2 hj0]; rfl) ?_
    refine K_if_gt (tgt := 8) dX3_bitsOfShare_3 (by decide) (fun _ => ?_) (fun q => absurd (show (0 : Int32) < 1 by decide) q)
    refine K_dload_n dX3_bitsOfShare_8 rfl ?_
    refine K_dstore_n dX3_bitsOfShare_9 (by decide) rfl ?_
    refine K_ldc2 dX3_bitsOfShare_10 cst_X3_295 ?_
    refine K_lstore dX3_bitsOfShare_13 (by decide) rfl ?_
    refine K_lv [0, 2, 4] rfl ?_
    refine K_lvE (show _ = [(0, .double x), (2, .double x), (4, .long (lN (1023 - (j0 - j0))))] by rw [Nat.sub_self]; rfl) ?_
    refine K_whl (S := UInt64) (fun j y => [(0, .double x), (2, .double y), (4, .long (lN (1023 - (j0 - j))))]) (fun _ _ => μ) (fun j y => FP.Core.val64 y = .fin false c (-52 - (j : Int)) ∧ j ≤ j0) (fun j y hP ih => ?_) j0 x ⟨hv, Nat.le_refl _⟩
    obtain ⟨hy, hj⟩ := hP
    refine K_dload_n dX3_bitsOfShare_15 rfl ?_
    refine K_dconst1 dX3_bitsOfShare_16 ?_
    refine K_dcmp dX3_bitsOfShare_17 ?_
    by_cases h0 : j = 0
    · subst h0
      have hy0 : FP.Core.val64 y = .fin false c (-52) := hy
      refine K_if_ge (tgt := 43) dX3_bitsOfShare_18 (by decide) (fun _ => ?_) (fun q => absurd (show (0 : Int32) ≤ _ by rcases ge_1 hy0 h1 h2 with e | e <;> rw [e] <;> decide) q)
      refine K_dload_n dX3_bitsOfShare_43 rfl ?_
      refine K_dconst1 dX3_bitsOfShare_44 ?_
      have hd := frac_int hy0 h1 h2
      have hn1 : FP.Core.val64 (FP.dsub y FP.dconst1) ≠ .nan := by
        intro q
        rw [dsub_one hy0 h1] at q
        exact absurd q (FP.Core.roundRatio_ne_nan _ _ _ _ _)
      refine K_dsub (n64_of hn1) dX3_bitsOfShare_45 ?_
      refine K_ldc2d dX3_bitsOfShare_46 cst_X3_299 ?_
      refine K_dmul (n64_of (dint_n hd)) dX3_bitsOfShare_49 ?_
      refine K_d2l dX3_bitsOfShare_50 ?_
      refine K_sts (show _ = [.long (Int64.ofNat (c - 4503599627370496))] from congrArg (fun w => [Value.long w]) (frac_l hy0 h1 h2)) ?_
      refine K_lstore dX3_bitsOfShare_51 (by decide) rfl ?_
      refine K_lload dX3_bitsOfShare_53 rfl ?_
      refine K_bipush (v := nI 52) dX3_bitsOfShare_55 (by decide) ?_
      refine K_lshl dX3_bitsOfShare_57 ?_
      refine K_lload dX3_bitsOfShare_58 rfl ?_
      refine K_lor dX3_bitsOfShare_60 ?_
      exact K_lret dX3_bitsOfShare_61 ⟨congrArg (fun w => some (Value.long w)) (x_long hv h1 h2 hj0), rfl⟩
    · refine K_top (show _ = (-1 : Int32) by rw [show FP.dcmp y FP.dconst1 = some .lt from lt_1 hy h1 h2 (by omega) (by omega)]; rfl) ?_
      refine K_if_ge (tgt := 43) dX3_bitsOfShare_18 (by decide) (fun q => absurd q (by decide)) (fun _ => ?_)
      refine K_lload dX3_bitsOfShare_21 rfl ?_
      refine K_lconst (v := 1) dX3_bitsOfShare_23 (by decide) ?_
      refine K_lcmp dX3_bitsOfShare_24 ?_
      refine K_if_le (tgt := 43) dX3_bitsOfShare_25 (by decide) (fun q => ?_) (fun _ => ?_)
      · exfalso
        rw [lg_cmp_le, Int64.le_iff_toInt_le] at q
        have e1 : (lN (1023 - (j0 - j))).toInt = ((1023 - (j0 - j) : Nat) : Int) := lg_ofNat_toInt (by omega)
        have e2 : (1 : Int64).toInt = 1 := by decide
        rw [e1, e2] at q
        omega
      · refine K_dload_n dX3_bitsOfShare_28 rfl ?_
        refine K_ldc2d dX3_bitsOfShare_29 cst_X3_297 ?_
        have hm := dmul_two hy h1 h2 (by omega) (by omega)
        refine K_dmul (n64_of (by rw [hm]; exact fun q => by cases q)) dX3_bitsOfShare_32 ?_
        refine K_dstore_n dX3_bitsOfShare_33 (by decide) rfl ?_
        refine K_lload dX3_bitsOfShare_34 rfl ?_
        refine K_lconst (v := 1) dX3_bitsOfShare_36 (by decide) ?_
        refine K_lsub dX3_bitsOfShare_37 ?_
        refine K_sts (show _ = [.long (lN (1023 - (j0 - (j - 1))))] by rw [show 1023 - (j0 - j) = (1023 - (j0 - (j - 1))) + 1 by omega, lN_sub1]) ?_
        refine K_lstore dX3_bitsOfShare_38 (by decide) rfl ?_
        refine K_goto (tgt := 15) dX3_bitsOfShare_40 (by decide) ?_
        refine K_lv [0, 2, 4] rfl ?_
        exact ih (j - 1) (FP.dmul y 4611686018427387904) (by omega) ⟨by rw [hm]; congr 1; omega, by omega⟩
