set_option maxHeartbeats 4000000 in
set_option maxRecDepth 100000 in
theorem C_X4_runF {l : Launch} {G : WG} {μ : Mem} {L : Nat} (hL : μ.1 15 0 0 3 = nI L) (hL6 : L ≤ 60) (hok : rgOk μ L = false) : Ct l G 5 yX4_run cX4_run 3 (some .int) [.ref (adr G 15 0 0)] (μ) (some (.int (nI 0))) (rgM μ L 1) := by
  refine Ct_of (by decide +kernel) (Nat.le_of_ble_eq_true rfl) ?_
  have hle : (rgS μ L).1 ≤ L := by have := rgK_le (t := μ.1 18 0 0) L 0 (0, μ.1 15 0 0 8, 0, μ.1 19 0 0) (Nat.le_refl 0) (by omega) (Nat.zero_le 5); unfold rgS; omega
  refine K_aload_n dX4_run_0 rfl ?_
  refine k_X4_rightUpTo (C_X4_rightUpTo hL hL6) (by decide)  ml_X4_179 (Nat.le_of_ble_eq_true rfl) dX4_run_1 ?_
  refine K_aload_n dX4_run_4 rfl ?_
  refine g_X4_148 dX4_run_5  ?_
  refine K_top (show _ = nI L from pmr_k.trans hL) ?_
  refine K_sts (show _ = [.int (nI L), .int (nI (rgS μ L).1)] from rfl) ?_
  refine K_icmpN_ne (by omega) (by omega) (tgt := 22) dX4_run_8 (by decide) (fun c8 => ?_) (fun c8 => ?_)
  · skip
    refine K_iconstN 0 dX4_run_22 rfl ?_
    refine K_istore_n dX4_run_23 (by decide) rfl ?_
    refine K_aload_n dX4_run_24 rfl ?_
    refine K_iload_n dX4_run_25 rfl ?_
    refine K_ifN_eq (by omega) (tgt := 33) dX4_run_26 (by decide) (fun c26 => ?_) (fun c26 => absurd c26 (by decide))
    refine K_iconstN 1 dX4_run_33 rfl ?_
    refine p_X4_25 dX4_run_34  ?_
    refine K_aload_n dX4_run_37 rfl ?_
    refine g_X4_25 dX4_run_38  ?_
    refine K_top mset_at ?_
    refine K_ifN_le (by omega) (tgt := 46) dX4_run_41 (by decide) (fun c41 => absurd c41 (by decide)) (fun c41 => ?_)
    refine K_iconstN 0 dX4_run_44 rfl ?_
    exact K_iret dX4_run_45 ⟨by rfl, rfl⟩
  · skip
    refine K_aload_n dX4_run_11 rfl ?_
    refine k_X4_isEnded (C_X4_isEnded (s := (rgS μ L).2) (rgS_J hL6 c8).2.2) (by decide)  ml_X4_160 (Nat.le_of_ble_eq_true rfl) dX4_run_12 ?_
    refine K_ifb_eq (tgt := 22) dX4_run_15 (by decide) (fun c15 => ?_) (fun c15 => ?_)
    · skip
      refine K_iconstN 0 dX4_run_22 rfl ?_
      refine K_istore_n dX4_run_23 (by decide) rfl ?_
      refine K_aload_n dX4_run_24 rfl ?_
      refine K_iload_n dX4_run_25 rfl ?_
      refine K_ifN_eq (by omega) (tgt := 33) dX4_run_26 (by decide) (fun c26 => ?_) (fun c26 => absurd c26 (by decide))
      refine K_iconstN 1 dX4_run_33 rfl ?_
      refine p_X4_25 dX4_run_34  ?_
      refine K_aload_n dX4_run_37 rfl ?_
      refine g_X4_25 dX4_run_38  ?_
      refine K_top mset_at ?_
      refine K_ifN_le (by omega) (tgt := 46) dX4_run_41 (by decide) (fun c41 => absurd c41 (by decide)) (fun c41 => ?_)
      refine K_iconstN 0 dX4_run_44 rfl ?_
      exact K_iret dX4_run_45 ⟨by rfl, rfl⟩
    · skip
      exact absurd hok (by simp [rgOk, c8, c15])

set_option maxHeartbeats 4000000 in
set_option maxRecDepth 100000 in
theorem C_X4_run {l : Launch} {G : WG} {μ : Mem} {L : Nat} (hL : μ.1 15 0 0 3 = nI L) (hL6 : L ≤ 60) (hok : rgOk μ L = true) {sc : Nat} (hs : μ.1 15 0 0 1 = nI sc) (hs6 : sc ≤ 6) {n : Nat} (hZ : ZI (μ.1 16 0 0) n) : Ct l G 7 yX4_run cX4_run 3 (some .int) [.ref (adr G 15 0 0)] (μ) (some (.int (nI (mRunS μ L n).1))) (zmem (rgN μ L sc) (mRunS μ L n).2) := by
  refine Ct_of (by decide +kernel) (Nat.le_of_ble_eq_true rfl) ?_
  have hle : (rgS μ L).1 ≤ L := by have := rgK_le (t := μ.1 18 0 0) L 0 (0, μ.1 15 0 0 8, 0, μ.1 19 0 0) (Nat.le_refl 0) (by omega) (Nat.zero_le 5); unfold rgS; omega
  have hok1 : (rgS μ L).1 = L := by unfold rgOk at hok; rw [Bool.and_eq_true, decide_eq_true_eq] at hok; exact hok.1
  have hok2 : isEnd (rgS μ L).2 = true := by unfold rgOk at hok; rw [Bool.and_eq_true] at hok; exact hok.2
  have hJ := rgS_J hL6 hok1
  have hrd : (rgS μ L).2.1 ≤ 20 := hJ.2.1
  refine K_aload_n dX4_run_0 rfl ?_
  refine k_X4_rightUpTo (C_X4_rightUpTo hL hL6) (by decide)  ml_X4_179 (Nat.le_of_ble_eq_true rfl) dX4_run_1 ?_
  refine K_aload_n dX4_run_4 rfl ?_
  refine g_X4_148 dX4_run_5  ?_
  refine K_top (show _ = nI L from pmr_k.trans hL) ?_
  refine K_sts (show _ = [.int (nI L), .int (nI (rgS μ L).1)] from rfl) ?_
  refine K_icmpN_ne (by omega) (by omega) (tgt := 22) dX4_run_8 (by decide) (fun c8 => ?_) (fun c8 => ?_)
  · skip
    exact absurd hok1 c8
  · skip
    refine K_aload_n dX4_run_11 rfl ?_
    refine k_X4_isEnded (C_X4_isEnded (s := (rgS μ L).2) (rgS_J hL6 c8).2.2) (by decide)  ml_X4_160 (Nat.le_of_ble_eq_true rfl) dX4_run_12 ?_
    refine K_ifb_eq (tgt := 22) dX4_run_15 (by decide) (fun c15 => ?_) (fun c15 => ?_)
    · skip
      exact absurd (hok2.symm.trans c15) (by decide)
    · skip
      refine K_iconstN 1 dX4_run_18 rfl ?_
      refine K_goto (tgt := 23) dX4_run_19 (by decide) ?_
      refine K_istore_n dX4_run_23 (by decide) rfl ?_
      refine K_aload_n dX4_run_24 rfl ?_
      refine K_iload_n dX4_run_25 rfl ?_
      refine K_ifN_eq (by omega) (tgt := 33) dX4_run_26 (by decide) (fun c26 => absurd c26 (by decide)) (fun c26 => ?_)
      refine K_iconstN 0 dX4_run_29 rfl ?_
      refine K_goto (tgt := 34) dX4_run_30 (by decide) ?_
      refine p_X4_25 dX4_run_34  ?_
      refine K_aload_n dX4_run_37 rfl ?_
      refine g_X4_25 dX4_run_38  ?_
      refine K_top mset_at ?_
      refine K_ifN_le (by omega) (tgt := 46) dX4_run_41 (by decide) (fun c41 => ?_) (fun c41 => absurd c41 (by decide))
      refine K_aload_n dX4_run_46 rfl ?_
      refine k_X4_save (C_X4_save (sc := sc) (by exact hs) hs6) (by decide)  ml_X4_77 (Nat.le_of_ble_eq_true rfl) dX4_run_47 ?_
      refine K_aload_n dX4_run_50 rfl ?_
      refine K_iconstN 0 dX4_run_51 rfl ?_
      refine p_X4_148 dX4_run_52  ?_
      refine K_mem (show _ = zmem (rgN μ L sc) (μ.1 16 0 0) from (zself rgN_16).symm) ?_
      refine K_iconstN 0 dX4_run_55 rfl ?_
      refine K_istore_n dX4_run_56 (by decide) rfl ?_
      refine K_lv [0, 1, 2] rfl ?_
      refine K_whl (S := Nat × Zr) (fun _ x => [(0, .ref (adr G 15 0 0)), (1, .int (nI 1)), (2, .int (nI x.1))]) (fun _ x => zmem (rgN μ L sc) x.2) (fun f x => f + x.1 = (rgS μ L).2.1 + 1 ∧ ZI x.2 n ∧ mRunS μ L n = mRunK (rgS μ L).2.2.2.2 n f x.1 x.2) (fun f x hP ih => ?_) ((rgS μ L).2.1 + 1) (0, μ.1 16 0 0) ⟨rfl, hZ, rfl⟩
      obtain ⟨k, z⟩ := x
      obtain ⟨hP1, hP2, hP3⟩ := hP
      refine K_iload_n dX4_run_57 rfl ?_
      refine K_aload_n dX4_run_58 rfl ?_
      refine g_X4_151 dX4_run_59  ?_
      refine K_top (show _ = nI (rgS μ L).2.1 from (congrFun (congrFun (congrFun (zmem_tag (t := 15) (by decide)) 0) 0) 7).trans rgN_7) ?_
      refine K_icmpN_gt (by omega) (by omega) (tgt := 79) dX4_run_62 (by decide) (fun c62 => ?_) (fun c62 => ?_)
      · skip
        refine K_iload_n dX4_run_79 rfl ?_
        rw [hP3]
        obtain rfl : f = 0 := by omega
        exact K_iret dX4_run_80 ⟨rfl, rfl⟩
      · skip
        refine K_aload_n dX4_run_65 rfl ?_
        refine K_iload_n dX4_run_66 rfl ?_
        have hok3 : oOk (rgS μ L).2.2.2.2 k := (Nat.lt_or_ge k (rgS μ L).2.1).elim (hJ.1.1 k) (fun q => by have e : k = (rgS μ L).2.1 := Nat.le_antisymm c62 q; rw [e]; exact pJ_end hJ.1 hok2)
        refine k_X4_carries (C_X4_carries hP2 (by omega) (by rw [rgN_19]; exact hok3)) (by decide)  ml_X4_185 (Nat.le_of_ble_eq_true rfl) dX4_run_67 ?_
        rw [rgN_19]
        refine K_ifb_eq (tgt := 79) dX4_run_70 (by decide) (fun c70 => ?_) (fun c70 => ?_)
        · skip
          refine K_iload_n dX4_run_79 rfl ?_
          rw [hP3]
          obtain ⟨f, rfl⟩ : ∃ g, f = g + 1 := ⟨f - 1, by omega⟩
          exact K_iret dX4_run_80 ⟨by simp only [mRunK, c70, cond_false], by simp only [mRunK, c70, cond_false]⟩
        · skip
          refine K_iincN (b := 1) dX4_run_73 rfl rfl (by decide) rfl ?_
          refine K_goto (tgt := 57) dX4_run_76 (by decide) ?_
          exact K_lv [0, 1, 2] rfl (ih (f - 1) (k + 1, (mcP (rgS μ L).2.2.2.2 z n k).2) (by omega) ⟨by omega, mcP_ZI hP2 hok3, by obtain ⟨f, rfl⟩ : ∃ g, f = g + 1 := ⟨f - 1, by omega⟩; rw [hP3]; simp only [mRunK, c70, cond_true, Nat.add_sub_cancel]⟩)
