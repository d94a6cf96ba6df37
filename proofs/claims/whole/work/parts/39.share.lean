def shV (a b : Int32) : UInt64 := cond (decide (b = 0)) FP.dconst1 (FP.ddiv (FP.i2d a) (FP.i2d b))
theorem ddiv_n {a b : Int32} (h : ¬ b = 0) : FP.Core.val64 (FP.ddiv (FP.i2d a) (FP.i2d b)) ≠ .nan := by
  intro q
  have h1 : FP.Core.dIsNaN (FP.Core.i2d a) = false := by
    cases e : FP.Core.dIsNaN (FP.Core.i2d a)
    · rfl
    · obtain ⟨s, c, r, hv⟩ := FP.Core.i2d_fin a
      exact absurd ((FP.Core.dIsNaN_iff _).mp e) (by rw [hv]; exact fun h => by cases h)
  have h2 : ¬ FP.Core.DZero (FP.Core.i2d b) := fun z => FP.Core.i2d_ne_zero h ((FP.Core.zero_bits2 _).mp z)
  have h3 := FP.Core.ddiv_out h1 (FP.Core.i2d_fin b) h2
  have h4 := (FP.Core.dIsNaN_iff _).mpr q
  exact absurd (h3.symm.trans h4) Bool.false_ne_true
theorem shV_n {a b : Int32} : FP.Core.val64 (shV a b) ≠ .nan := by
  unfold shV
  cases h : decide (b = 0)
  · exact ddiv_n (of_decide_eq_false h)
  · exact fun q => absurd ((FP.Core.dIsNaN_iff _).mpr q) (show ¬ FP.Core.dIsNaN FP.dconst1 = true by decide +kernel)
def mShare (z : Zr) (n : Nat) : UInt64 := shV (mSumK z 5 n + mSumK z 6 n) (mSumK z 5 n + mSumK z 6 n + mSumK z 3 n)
def cShare (μ : Mem) (n : Nat) : UInt64 := shV (cSumOver μ 0 6 n + cSumOver μ 0 7 n) (cSumOver μ 0 6 n + cSumOver μ 0 7 n + cSumOver μ 0 9 n)

set_option maxHeartbeats 4000000 in
set_option maxRecDepth 100000 in
theorem C_X4_share {l : Launch} {G : WG} {μ : Mem} {z : Zr} (hz : μ.1 16 0 0 = z) {n : Nat} (hZ : ZI z n) : Ct l G 5 yX4_share cX4_share 3 (some .double) [.ref (adr G 15 0 0)] (μ) (some (.double (mShare z n))) (μ) := by
  refine Ct_of (by decide +kernel) (Nat.le_of_ble_eq_true rfl) ?_
  refine K_aload_n dX4_share_0 rfl ?_
  refine K_iconstN 5 dX4_share_1 rfl ?_
  refine k_X4_sumOf (C_X4_sumOf5 hz hZ) (by decide)  ml_X4_206 (Nat.le_of_ble_eq_true rfl) dX4_share_2 ?_
  refine K_aload_n dX4_share_5 rfl ?_
  refine K_bipush (v := nI 6) dX4_share_6 (by decide) ?_
  refine k_X4_sumOf (C_X4_sumOf6 hz hZ) (by decide)  ml_X4_206 (Nat.le_of_ble_eq_true rfl) dX4_share_8 ?_
  refine K_iadd dX4_share_11 ?_
  refine K_istore_n dX4_share_12 (by decide) rfl ?_
  refine K_iload_n dX4_share_13 rfl ?_
  refine K_aload_n dX4_share_14 rfl ?_
  refine K_iconstN 3 dX4_share_15 rfl ?_
  refine k_X4_sumOf (C_X4_sumOf3 hz hZ) (by decide)  ml_X4_206 (Nat.le_of_ble_eq_true rfl) dX4_share_16 ?_
  refine K_iadd dX4_share_19 ?_
  refine K_istore_n dX4_share_20 (by decide) rfl ?_
  refine K_iload_n dX4_share_21 rfl ?_
  refine K_if_ne (tgt := 29) dX4_share_22 (by decide) (fun c22 => ?_) (fun c22 => ?_)
  · skip
    refine K_iload_n dX4_share_29 rfl ?_
    refine K_i2d dX4_share_30 ?_
    refine K_iload_n dX4_share_31 rfl ?_
    refine K_i2d dX4_share_32 ?_
    refine K_ddiv (n64_of (ddiv_n c22)) dX4_share_33 ?_
    exact K_dret dX4_share_34 ⟨by simp only [mShare, shV, c22, decide_true, decide_false, cond_true, cond_false], rfl⟩
  · skip
    refine K_dconst1 dX4_share_25 ?_
    refine K_goto (tgt := 34) dX4_share_26 (by decide) ?_
    exact K_dret dX4_share_34 ⟨by simp only [mShare, shV, c22, decide_true, decide_false, cond_true, cond_false], rfl⟩

set_option maxHeartbeats 4000000 in
set_option maxRecDepth 100000 in
theorem C_X4_settledShare {l : Launch} {G : WG} {μ : Mem} {z : Zr} (hz : μ.1 16 0 0 = z) {n : Nat} (hZ : ZI z n) : Ct l G 6 yX4_settledShare cX4_settledShare 1 (some .double) [.ref (adr G 15 0 0)] (μ) (some (.double (mShare z n))) (mset μ 15 0 0 5 (nI 0)) := by
  refine Ct_of (by decide +kernel) (Nat.le_of_ble_eq_true rfl) ?_
  refine K_aload_n dX4_settledShare_0 rfl ?_
  refine K_iconstN 0 dX4_settledShare_1 rfl ?_
  refine p_X4_25 dX4_settledShare_2  ?_
  refine K_aload_n dX4_settledShare_5 rfl ?_
  refine k_X4_share (C_X4_share (by exact hz) hZ) (by decide)  ml_X4_236 (Nat.le_of_ble_eq_true rfl) dX4_settledShare_6 ?_
  exact K_dret dX4_settledShare_9 ⟨rfl, rfl⟩

set_option maxHeartbeats 4000000 in
set_option maxRecDepth 100000 in
theorem C_X3_settledShare {l : Launch} {G : WG} {μ : Mem} {n : Nat} (hI : CI μ n) : Ct l G 4 yX3_settledShare cX3_settledShare 3 (some .double) [.ref (adr G 0 0 0)] (μ) (some (.double (cShare μ n))) (μ) := by
  refine Ct_of (by decide +kernel) (Nat.le_of_ble_eq_true rfl) ?_
  refine K_aload_n dX3_settledShare_0 rfl ?_
  refine g_X3_10 dX3_settledShare_1  ?_
  refine K_bipush (v := nI 6) dX3_settledShare_4 (by decide) ?_
  refine k_X0_sumOverBegunPhases (C_X0_sumOver6 (by omega) hI.1 hI.2.1 hI.2.2) (by decide) (by omega) ml_X3_223 (Nat.le_of_ble_eq_true rfl) dX3_settledShare_6 ?_
  refine K_aload_n dX3_settledShare_9 rfl ?_
  refine g_X3_10 dX3_settledShare_10  ?_
  refine K_bipush (v := nI 7) dX3_settledShare_13 (by decide) ?_
  refine k_X0_sumOverBegunPhases (C_X0_sumOver7 (by omega) hI.1 hI.2.1 hI.2.2) (by decide) (by omega) ml_X3_223 (Nat.le_of_ble_eq_true rfl) dX3_settledShare_15 ?_
  refine K_iadd dX3_settledShare_18 ?_
  refine K_istore_n dX3_settledShare_19 (by decide) rfl ?_
  refine K_iload_n dX3_settledShare_20 rfl ?_
  refine K_aload_n dX3_settledShare_21 rfl ?_
  refine g_X3_10 dX3_settledShare_22  ?_
  refine K_bipush (v := nI 9) dX3_settledShare_25 (by decide) ?_
  refine k_X0_sumOverBegunPhases (C_X0_sumOver9 (by omega) hI.1 hI.2.1 hI.2.2) (by decide) (by omega) ml_X3_223 (Nat.le_of_ble_eq_true rfl) dX3_settledShare_27 ?_
  refine K_iadd dX3_settledShare_30 ?_
  refine K_istore_n dX3_settledShare_31 (by decide) rfl ?_
  refine K_iload_n dX3_settledShare_32 rfl ?_
  refine K_if_ne (tgt := 40) dX3_settledShare_33 (by decide) (fun c33 => ?_) (fun c33 => ?_)
  · skip
    refine K_iload_n dX3_settledShare_40 rfl ?_
    refine K_i2d dX3_settledShare_41 ?_
    refine K_iload_n dX3_settledShare_42 rfl ?_
    refine K_i2d dX3_settledShare_43 ?_
    refine K_ddiv (n64_of (ddiv_n c33)) dX3_settledShare_44 ?_
    exact K_dret dX3_settledShare_45 ⟨by simp only [cShare, shV, c33, decide_true, decide_false, cond_true, cond_false], rfl⟩
  · skip
    refine K_dconst1 dX3_settledShare_36 ?_
    refine K_goto (tgt := 45) dX3_settledShare_37 (by decide) ?_
    exact K_dret dX3_settledShare_45 ⟨by simp only [cShare, shV, c33, decide_true, decide_false, cond_true, cond_false], rfl⟩
