set_option maxHeartbeats 4000000 in
set_option maxRecDepth 100000 in
theorem C_X0_hasPhase {l : Launch} {G : WG} {μ : Mem} {i : Nat} (hi : i < 7) {a : Int32} {n : Nat} (hN : μ.1 4 i 0 1 = nI n) (hn : n ≤ 6) : Ct l G 0 yX0_hasPhase cX0_hasPhase 2 (some .boolean) [.ref (adr G 4 i 0), .int (a)] (μ) (some (.int (b2i (cHas n a)))) (μ) := by
  refine Ct_of (by decide +kernel) (Nat.le_of_ble_eq_true rfl) ?_
  refine K_iload_n dX0_hasPhase_0 rfl ?_
  refine K_if_lt (tgt := 22) dX0_hasPhase_1 (by decide) (fun c1 => ?_) (fun c1 => ?_)
  · skip
    refine K_iconstN 0 dX0_hasPhase_22 rfl ?_
    exact K_zret (by first | (simp [cHas, c1]; rfl) | (simp [cHas, c1, c9]; rfl)) dX0_hasPhase_23 ⟨rfl, rfl⟩
  · skip
    refine K_iload_n dX0_hasPhase_4 rfl ?_
    refine K_aload_n dX0_hasPhase_5 rfl ?_
    refine g_X0_15 dX0_hasPhase_6 (by omega) ?_
    refine K_top hN ?_
    refine K_icmp_ge (tgt := 22) dX0_hasPhase_9 (by decide) (fun c9 => ?_) (fun c9 => ?_)
    · skip
      refine K_iconstN 0 dX0_hasPhase_22 rfl ?_
      exact K_zret (by first | (simp [cHas, c1]; rfl) | (simp [cHas, c1, c9]; rfl)) dX0_hasPhase_23 ⟨rfl, rfl⟩
    · skip
      refine K_iload_n dX0_hasPhase_12 rfl ?_
      refine K_bipush (v := nI 6) dX0_hasPhase_13 (by decide) ?_
      refine K_icmp_ge (tgt := 22) dX0_hasPhase_15 (by decide) (fun c15 => ?_) (fun c15 => ?_)
      · skip
        exact absurd (Int32.le_trans (nI_le hn (by decide)) c15) c9
      · skip
        refine K_iconstN 1 dX0_hasPhase_18 rfl ?_
        refine K_goto (tgt := 23) dX0_hasPhase_19 (by decide) ?_
        exact K_zret (by first | (simp [cHas, c1]; rfl) | (simp [cHas, c1, c9]; rfl)) dX0_hasPhase_23 ⟨rfl, rfl⟩

set_option maxHeartbeats 4000000 in
set_option maxRecDepth 100000 in
theorem C_X0_hasDaysLeft {l : Launch} {G : WG} {μ : Mem} {i : Nat} (hi : i < 7) {a : Int32} : Ct l G 0 yX0_hasDaysLeft cX0_hasDaysLeft 2 (some .boolean) [.ref (adr G 4 i 0), .int (a)] (μ) (some (.int (b2i (cLeft μ i a)))) (μ) := by
  refine Ct_of (by decide +kernel) (Nat.le_of_ble_eq_true rfl) ?_
  refine K_iload_n dX0_hasDaysLeft_0 rfl ?_
  refine K_sipush (v := nI 9999) dX0_hasDaysLeft_1 (by decide) ?_
  refine K_aload_n dX0_hasDaysLeft_4 rfl ?_
  refine g_X0_9 dX0_hasDaysLeft_5 (by omega) ?_
  refine K_isub dX0_hasDaysLeft_8 ?_
  refine K_icmp_gt (tgt := 16) dX0_hasDaysLeft_9 (by decide) (fun c9 => ?_) (fun c9 => ?_)
  · skip
    refine K_iconstN 0 dX0_hasDaysLeft_16 rfl ?_
    exact K_zret (by simp [cLeft, c9]; rfl) dX0_hasDaysLeft_17 ⟨rfl, rfl⟩
  · skip
    refine K_iconstN 1 dX0_hasDaysLeft_12 rfl ?_
    refine K_goto (tgt := 17) dX0_hasDaysLeft_13 (by decide) ?_
    exact K_zret (by simp [cLeft, c9]; rfl) dX0_hasDaysLeft_17 ⟨rfl, rfl⟩

set_option maxHeartbeats 4000000 in
set_option maxRecDepth 100000 in
theorem C_X0_daysToBreak {l : Launch} {G : WG} {μ : Mem} {i : Nat} (hi : i < 7) {p : Nat} (hp : p < 6) (hW : WfI μ i) : Ct l G 2 yX0_daysToBreak cX0_daysToBreak 3 (some .int) [.ref (adr G 4 i 0), .int (nI p)] (μ) (some (.int (cDays μ i p (insN μ i p)))) (μ) := by
  refine Ct_of (by decide +kernel) (Nat.le_of_ble_eq_true rfl) ?_
  refine K_aload_n dX0_daysToBreak_0 rfl ?_
  refine g_X0_38 dX0_daysToBreak_1 (by omega) ?_
  refine K_iload_n dX0_daysToBreak_4 rfl ?_
  refine ald7 dX0_daysToBreak_5 (by omega) (by omega) ?_
  refine k_X2_dayOfBreak (C_X2_dayOfBreak hi hp (hW p hp).1 (hW p hp).2) (by decide) (by omega) (by omega) ml_X0_70 (Nat.le_of_ble_eq_true rfl) dX0_daysToBreak_6 ?_
  refine K_istore_n dX0_daysToBreak_9 (by decide) rfl ?_
  refine K_iload_n dX0_daysToBreak_10 rfl ?_
  refine K_iconst (v := -1) dX0_daysToBreak_11 (by decide) ?_
  refine K_icmp_ne (tgt := 19) dX0_daysToBreak_12 (by decide) (fun c12 => ?_) (fun c12 => ?_)
  · skip
    refine K_iload_n dX0_daysToBreak_19 rfl ?_
    refine K_aload_n dX0_daysToBreak_20 rfl ?_
    refine g_X0_9 dX0_daysToBreak_21 (by omega) ?_
    refine K_isub dX0_daysToBreak_24 ?_
    exact K_iret dX0_daysToBreak_25 ⟨by simp [cDays, c12], rfl⟩
  · skip
    refine K_iconst (v := -1) dX0_daysToBreak_15 (by decide) ?_
    refine K_goto (tgt := 25) dX0_daysToBreak_16 (by decide) ?_
    exact K_iret dX0_daysToBreak_25 ⟨by simp [cDays, c12], rfl⟩

set_option maxHeartbeats 4000000 in
set_option maxRecDepth 100000 in
theorem C_X0_breaksWithin {l : Launch} {G : WG} {μ : Mem} {i : Nat} (hi : i < 7) {p : Nat} (hp : p < 6) {a : Int32} (hW : WfI μ i) : Ct l G 2 yX0_breaksWithin cX0_breaksWithin 4 (some .boolean) [.ref (adr G 4 i 0), .int (nI p), .int (a)] (μ) (some (.int (b2i (cWithin μ i p (insN μ i p) a)))) (μ) := by
  refine Ct_of (by decide +kernel) (Nat.le_of_ble_eq_true rfl) ?_
  refine K_aload_n dX0_breaksWithin_0 rfl ?_
  refine g_X0_38 dX0_breaksWithin_1 (by omega) ?_
  refine K_iload_n dX0_breaksWithin_4 rfl ?_
  refine ald7 dX0_breaksWithin_5 (by omega) (by omega) ?_
  refine k_X2_dayOfBreak (C_X2_dayOfBreak hi hp (hW p hp).1 (hW p hp).2) (by decide) (by omega) (by omega) ml_X0_70 (Nat.le_of_ble_eq_true rfl) dX0_breaksWithin_6 ?_
  refine K_istore_n dX0_breaksWithin_9 (by decide) rfl ?_
  refine K_iload_n dX0_breaksWithin_10 rfl ?_
  refine K_iconst (v := -1) dX0_breaksWithin_11 (by decide) ?_
  refine K_icmp_eq (tgt := 29) dX0_breaksWithin_12 (by decide) (fun c12 => ?_) (fun c12 => ?_)
  · skip
    refine K_iconstN 0 dX0_breaksWithin_29 rfl ?_
    exact K_zret (by first | (simp [cWithin, c12]; rfl) | (simp [cWithin, c12, c22]; rfl)) dX0_breaksWithin_30 ⟨rfl, rfl⟩
  · skip
    refine K_iload_n dX0_breaksWithin_15 rfl ?_
    refine K_aload_n dX0_breaksWithin_16 rfl ?_
    refine g_X0_9 dX0_breaksWithin_17 (by omega) ?_
    refine K_isub dX0_breaksWithin_20 ?_
    refine K_iload_n dX0_breaksWithin_21 rfl ?_
    refine K_icmp_gt (tgt := 29) dX0_breaksWithin_22 (by decide) (fun c22 => ?_) (fun c22 => ?_)
    · skip
      refine K_iconstN 0 dX0_breaksWithin_29 rfl ?_
      exact K_zret (by first | (simp [cWithin, c12]; rfl) | (simp [cWithin, c12, c22]; rfl)) dX0_breaksWithin_30 ⟨rfl, rfl⟩
    · skip
      refine K_iconstN 1 dX0_breaksWithin_25 rfl ?_
      refine K_goto (tgt := 30) dX0_breaksWithin_26 (by decide) ?_
      exact K_zret (by first | (simp [cWithin, c12]; rfl) | (simp [cWithin, c12, c22]; rfl)) dX0_breaksWithin_30 ⟨rfl, rfl⟩

set_option maxHeartbeats 4000000 in
set_option maxRecDepth 100000 in
theorem C_X0_surchargeWithin {l : Launch} {G : WG} {μ : Mem} {i : Nat} (hi : i < 7) {p : Nat} (hp : p < 6) {a : Int32} (hW : WfI μ i) : Ct l G 3 yX0_surchargeWithin cX0_surchargeWithin 3 (some .int) [.ref (adr G 4 i 0), .int (nI p), .int (a)] (μ) (some (.int (cSurW μ i p (insN μ i p) a))) (μ) := by
  refine Ct_of (by decide +kernel) (Nat.le_of_ble_eq_true rfl) ?_
  refine K_aload_n dX0_surchargeWithin_0 rfl ?_
  refine K_iload_n dX0_surchargeWithin_1 rfl ?_
  refine K_iload_n dX0_surchargeWithin_2 rfl ?_
  refine k_X0_breaksWithin (C_X0_breaksWithin hi hp hW) (by decide) (by omega) ml_X0_56 (Nat.le_of_ble_eq_true rfl) dX0_surchargeWithin_3 ?_
  refine K_ifb_eq (tgt := 30) dX0_surchargeWithin_6 (by decide) (fun c6 => ?_) (fun c6 => ?_)
  · skip
    refine K_iconstN 0 dX0_surchargeWithin_30 rfl ?_
    exact K_iret dX0_surchargeWithin_31 ⟨by simp only [cSurW, c6, cond_true, cond_false], rfl⟩
  · skip
    refine K_aload_n dX0_surchargeWithin_9 rfl ?_
    refine g_X0_33 dX0_surchargeWithin_10 (by omega) ?_
    refine K_iconstN 1 dX0_surchargeWithin_13 rfl ?_
    refine ald6 dX0_surchargeWithin_14 (by omega) (by omega) ?_
    refine K_aload_n dX0_surchargeWithin_15 rfl ?_
    refine g_X0_38 dX0_surchargeWithin_16 (by omega) ?_
    refine K_iload_n dX0_surchargeWithin_19 rfl ?_
    refine ald7 dX0_surchargeWithin_20 (by omega) (by omega) ?_
    refine k_X2_owed (C_X2_owed (by omega) (by omega)) (by decide) (by omega) (by omega) ml_X0_74 (Nat.le_of_ble_eq_true rfl) dX0_surchargeWithin_21 ?_
    refine kn_X3_percentOf (C_X3_percentOf ) (by decide) (host := "LevyPhases") (by decide +kernel) (Nat.le_of_ble_eq_true rfl) dX0_surchargeWithin_24 ?_
    refine K_goto (tgt := 31) dX0_surchargeWithin_27 (by decide) ?_
    exact K_iret dX0_surchargeWithin_31 ⟨by simp only [cSurW, c6, cond_true, cond_false], rfl⟩

set_option maxHeartbeats 4000000 in
set_option maxRecDepth 100000 in
theorem C_X0_reason0 {l : Launch} {G : WG} {μ : Mem} {i : Nat} (hi : i < 7) {p : Nat} (hp : p < 6) {u : Int32} : Ct l G 1 yX0_reasonAgainst cX0_reasonAgainst 7 (some .int) [.ref (adr G 4 i 0), .int (nI 0), .int (nI p), .int (u)] (μ) (some (.int (cWhy0 μ i p))) (μ) := by
  refine Ct_of (by decide +kernel) (Nat.le_of_ble_eq_true rfl) ?_
  refine K_aload_n dX0_reasonAgainst_0 rfl ?_
  refine g_X0_38 dX0_reasonAgainst_1 (by omega) ?_
  refine K_iload_n dX0_reasonAgainst_4 rfl ?_
  refine ald7 dX0_reasonAgainst_5 (by omega) (by omega) ?_
  refine K_astore dX0_reasonAgainst_6 (by decide) rfl ?_
  refine K_iload_n dX0_reasonAgainst_8 rfl ?_
  refine K_ifN_eq (by omega) (tgt := 17) dX0_reasonAgainst_9 (by decide) (fun c9 => ?_) (fun c9 => absurd c9 (by decide))
  refine K_iconstN 1 dX0_reasonAgainst_17 rfl ?_
  refine K_goto (tgt := 22) dX0_reasonAgainst_18 (by decide) ?_
  refine K_istore dX0_reasonAgainst_22 (by decide) rfl ?_
  refine K_iload dX0_reasonAgainst_24 rfl ?_
  refine K_ifN_eq (by omega) (tgt := 39) dX0_reasonAgainst_26 (by decide) (fun c26 => absurd c26 (by decide)) (fun c26 => ?_)
  refine K_aload dX0_reasonAgainst_29 rfl ?_
  refine k_X2_hasBegun (C_X2_hasBegun (by omega) (by omega)) (by decide) (by omega) (by omega) ml_X0_48 (Nat.le_of_ble_eq_true rfl) dX0_reasonAgainst_31 ?_
  refine K_ifb_eq (tgt := 39) dX0_reasonAgainst_34 (by decide) (fun c34 => ?_) (fun c34 => ?_)
  · skip
    refine K_iload dX0_reasonAgainst_39 rfl ?_
    refine K_ifN_ne (by omega) (tgt := 54) dX0_reasonAgainst_41 (by decide) (fun c41 => ?_) (fun c41 => absurd c41 (by decide))
    refine K_iload_n dX0_reasonAgainst_54 rfl ?_
    refine K_iconstN 1 dX0_reasonAgainst_55 rfl ?_
    refine K_icmpN_ne (by omega) (by omega) (tgt := 69) dX0_reasonAgainst_56 (by decide) (fun c56 => ?_) (fun c56 => absurd c56 (by decide))
    refine K_iload_n dX0_reasonAgainst_69 rfl ?_
    refine K_iconstN 2 dX0_reasonAgainst_70 rfl ?_
    refine K_icmpN_eq (by omega) (by omega) (tgt := 79) dX0_reasonAgainst_71 (by decide) (fun c71 => absurd c71 (by decide)) (fun c71 => ?_)
    refine K_iload_n dX0_reasonAgainst_74 rfl ?_
    refine K_iconstN 3 dX0_reasonAgainst_75 rfl ?_
    refine K_icmpN_ne (by omega) (by omega) (tgt := 89) dX0_reasonAgainst_76 (by decide) (fun c76 => ?_) (fun c76 => absurd c76 (by decide))
    refine K_iload_n dX0_reasonAgainst_89 rfl ?_
    refine K_iconstN 3 dX0_reasonAgainst_90 rfl ?_
    refine K_icmpN_ne (by omega) (by omega) (tgt := 110) dX0_reasonAgainst_91 (by decide) (fun c91 => ?_) (fun c91 => absurd c91 (by decide))
    refine K_aload_n dX0_reasonAgainst_110 rfl ?_
    refine g_X0_9 dX0_reasonAgainst_111 (by omega) ?_
    refine K_aload dX0_reasonAgainst_114 rfl ?_
    refine g_X0_95 dX0_reasonAgainst_116 (by omega) (by omega) ?_
    refine K_aload_n dX0_reasonAgainst_119 rfl ?_
    refine g_X0_33 dX0_reasonAgainst_120 (by omega) ?_
    refine K_iconstN 2 dX0_reasonAgainst_123 rfl ?_
    refine ald6 dX0_reasonAgainst_124 (by omega) (by omega) ?_
    refine K_iadd dX0_reasonAgainst_125 ?_
    refine K_icmp_le (tgt := 133) dX0_reasonAgainst_126 (by decide) (fun c126 => ?_) (fun c126 => ?_)
    · skip
      refine K_iconstN 0 dX0_reasonAgainst_133 rfl ?_
      refine K_istore dX0_reasonAgainst_134 (by decide) rfl ?_
      refine K_iload_n dX0_reasonAgainst_136 rfl ?_
      refine K_iconstN 4 dX0_reasonAgainst_137 rfl ?_
      refine K_icmpN_ne (by omega) (by omega) (tgt := 160) dX0_reasonAgainst_138 (by decide) (fun c138 => ?_) (fun c138 => absurd c138 (by decide))
      refine K_iconstN 0 dX0_reasonAgainst_160 rfl ?_
      exact K_iret dX0_reasonAgainst_161 ⟨by first | (simp [cWhy0, cLate, *]; done) | (simp_all [cWhy0, cLate]; done), rfl⟩
    · skip
      refine K_iconstN 1 dX0_reasonAgainst_129 rfl ?_
      refine K_goto (tgt := 134) dX0_reasonAgainst_130 (by decide) ?_
      refine K_istore dX0_reasonAgainst_134 (by decide) rfl ?_
      refine K_iload_n dX0_reasonAgainst_136 rfl ?_
      refine K_iconstN 4 dX0_reasonAgainst_137 rfl ?_
      refine K_icmpN_ne (by omega) (by omega) (tgt := 160) dX0_reasonAgainst_138 (by decide) (fun c138 => ?_) (fun c138 => absurd c138 (by decide))
      refine K_iconstN 0 dX0_reasonAgainst_160 rfl ?_
      exact K_iret dX0_reasonAgainst_161 ⟨by first | (simp [cWhy0, cLate, *]; done) | (simp_all [cWhy0, cLate]; done), rfl⟩
  · skip
    refine K_iconstN 1 dX0_reasonAgainst_37 rfl ?_
    exact K_iret dX0_reasonAgainst_38 ⟨by first | (simp [cWhy0, cLate, *]; done) | (simp_all [cWhy0, cLate]; done), rfl⟩

set_option maxHeartbeats 4000000 in
set_option maxRecDepth 100000 in
theorem C_X0_reason1 {l : Launch} {G : WG} {μ : Mem} {i : Nat} (hi : i < 7) {p : Nat} (hp : p < 6) {u : Int32} : Ct l G 1 yX0_reasonAgainst cX0_reasonAgainst 7 (some .int) [.ref (adr G 4 i 0), .int (nI 1), .int (nI p), .int (u)] (μ) (some (.int (cWhy1 μ i p))) (μ) := by
  refine Ct_of (by decide +kernel) (Nat.le_of_ble_eq_true rfl) ?_
  refine K_aload_n dX0_reasonAgainst_0 rfl ?_
  refine g_X0_38 dX0_reasonAgainst_1 (by omega) ?_
  refine K_iload_n dX0_reasonAgainst_4 rfl ?_
  refine ald7 dX0_reasonAgainst_5 (by omega) (by omega) ?_
  refine K_astore dX0_reasonAgainst_6 (by decide) rfl ?_
  refine K_iload_n dX0_reasonAgainst_8 rfl ?_
  refine K_ifN_eq (by omega) (tgt := 17) dX0_reasonAgainst_9 (by decide) (fun c9 => absurd c9 (by decide)) (fun c9 => ?_)
  refine K_iload_n dX0_reasonAgainst_12 rfl ?_
  refine K_iconstN 1 dX0_reasonAgainst_13 rfl ?_
  refine K_icmpN_ne (by omega) (by omega) (tgt := 21) dX0_reasonAgainst_14 (by decide) (fun c14 => absurd c14 (by decide)) (fun c14 => ?_)
  refine K_iconstN 1 dX0_reasonAgainst_17 rfl ?_
  refine K_goto (tgt := 22) dX0_reasonAgainst_18 (by decide) ?_
  refine K_istore dX0_reasonAgainst_22 (by decide) rfl ?_
  refine K_iload dX0_reasonAgainst_24 rfl ?_
  refine K_ifN_eq (by omega) (tgt := 39) dX0_reasonAgainst_26 (by decide) (fun c26 => absurd c26 (by decide)) (fun c26 => ?_)
  refine K_aload dX0_reasonAgainst_29 rfl ?_
  refine k_X2_hasBegun (C_X2_hasBegun (by omega) (by omega)) (by decide) (by omega) (by omega) ml_X0_48 (Nat.le_of_ble_eq_true rfl) dX0_reasonAgainst_31 ?_
  refine K_ifb_eq (tgt := 39) dX0_reasonAgainst_34 (by decide) (fun c34 => ?_) (fun c34 => ?_)
  · skip
    refine K_iload dX0_reasonAgainst_39 rfl ?_
    refine K_ifN_ne (by omega) (tgt := 54) dX0_reasonAgainst_41 (by decide) (fun c41 => ?_) (fun c41 => absurd c41 (by decide))
    refine K_iload_n dX0_reasonAgainst_54 rfl ?_
    refine K_iconstN 1 dX0_reasonAgainst_55 rfl ?_
    refine K_icmpN_ne (by omega) (by omega) (tgt := 69) dX0_reasonAgainst_56 (by decide) (fun c56 => absurd c56 (by decide)) (fun c56 => ?_)
    refine K_aload dX0_reasonAgainst_59 rfl ?_
    refine k_X2_areaOfAllUses (C_X2_areaOfAllUses (by omega) (by omega)) (by decide) (by omega) (by omega) ml_X0_88 (Nat.le_of_ble_eq_true rfl) dX0_reasonAgainst_61 ?_
    refine K_if_ne (tgt := 69) dX0_reasonAgainst_64 (by decide) (fun c64 => ?_) (fun c64 => ?_)
    · skip
      refine K_iload_n dX0_reasonAgainst_69 rfl ?_
      refine K_iconstN 2 dX0_reasonAgainst_70 rfl ?_
      refine K_icmpN_eq (by omega) (by omega) (tgt := 79) dX0_reasonAgainst_71 (by decide) (fun c71 => absurd c71 (by decide)) (fun c71 => ?_)
      refine K_iload_n dX0_reasonAgainst_74 rfl ?_
      refine K_iconstN 3 dX0_reasonAgainst_75 rfl ?_
      refine K_icmpN_ne (by omega) (by omega) (tgt := 89) dX0_reasonAgainst_76 (by decide) (fun c76 => ?_) (fun c76 => absurd c76 (by decide))
      refine K_iload_n dX0_reasonAgainst_89 rfl ?_
      refine K_iconstN 3 dX0_reasonAgainst_90 rfl ?_
      refine K_icmpN_ne (by omega) (by omega) (tgt := 110) dX0_reasonAgainst_91 (by decide) (fun c91 => ?_) (fun c91 => absurd c91 (by decide))
      refine K_aload_n dX0_reasonAgainst_110 rfl ?_
      refine g_X0_9 dX0_reasonAgainst_111 (by omega) ?_
      refine K_aload dX0_reasonAgainst_114 rfl ?_
      refine g_X0_95 dX0_reasonAgainst_116 (by omega) (by omega) ?_
      refine K_aload_n dX0_reasonAgainst_119 rfl ?_
      refine g_X0_33 dX0_reasonAgainst_120 (by omega) ?_
      refine K_iconstN 2 dX0_reasonAgainst_123 rfl ?_
      refine ald6 dX0_reasonAgainst_124 (by omega) (by omega) ?_
      refine K_iadd dX0_reasonAgainst_125 ?_
      refine K_icmp_le (tgt := 133) dX0_reasonAgainst_126 (by decide) (fun c126 => ?_) (fun c126 => ?_)
      · skip
        refine K_iconstN 0 dX0_reasonAgainst_133 rfl ?_
        refine K_istore dX0_reasonAgainst_134 (by decide) rfl ?_
        refine K_iload_n dX0_reasonAgainst_136 rfl ?_
        refine K_iconstN 4 dX0_reasonAgainst_137 rfl ?_
        refine K_icmpN_ne (by omega) (by omega) (tgt := 160) dX0_reasonAgainst_138 (by decide) (fun c138 => ?_) (fun c138 => absurd c138 (by decide))
        refine K_iconstN 0 dX0_reasonAgainst_160 rfl ?_
        exact K_iret dX0_reasonAgainst_161 ⟨by first | (simp [cWhy1, cLate, *]; done) | (simp_all [cWhy1, cLate]; done), rfl⟩
      · skip
        refine K_iconstN 1 dX0_reasonAgainst_129 rfl ?_
        refine K_goto (tgt := 134) dX0_reasonAgainst_130 (by decide) ?_
        refine K_istore dX0_reasonAgainst_134 (by decide) rfl ?_
        refine K_iload_n dX0_reasonAgainst_136 rfl ?_
        refine K_iconstN 4 dX0_reasonAgainst_137 rfl ?_
        refine K_icmpN_ne (by omega) (by omega) (tgt := 160) dX0_reasonAgainst_138 (by decide) (fun c138 => ?_) (fun c138 => absurd c138 (by decide))
        refine K_iconstN 0 dX0_reasonAgainst_160 rfl ?_
        exact K_iret dX0_reasonAgainst_161 ⟨by first | (simp [cWhy1, cLate, *]; done) | (simp_all [cWhy1, cLate]; done), rfl⟩
    · skip
      refine K_iconstN 3 dX0_reasonAgainst_67 rfl ?_
      exact K_iret dX0_reasonAgainst_68 ⟨by first | (simp [cWhy1, cLate, *]; done) | (simp_all [cWhy1, cLate]; done), rfl⟩
  · skip
    refine K_iconstN 1 dX0_reasonAgainst_37 rfl ?_
    exact K_iret dX0_reasonAgainst_38 ⟨by first | (simp [cWhy1, cLate, *]; done) | (simp_all [cWhy1, cLate]; done), rfl⟩

set_option maxHeartbeats 4000000 in
set_option maxRecDepth 100000 in
theorem C_X0_reason2 {l : Launch} {G : WG} {μ : Mem} {i : Nat} (hi : i < 7) {p : Nat} (hp : p < 6) {u : Int32} : Ct l G 2 yX0_reasonAgainst cX0_reasonAgainst 7 (some .int) [.ref (adr G 4 i 0), .int (nI 2), .int (nI p), .int (u)] (μ) (some (.int (cWhy2 μ i p))) (μ) := by
  refine Ct_of (by decide +kernel) (Nat.le_of_ble_eq_true rfl) ?_
  refine K_aload_n dX0_reasonAgainst_0 rfl ?_
  refine g_X0_38 dX0_reasonAgainst_1 (by omega) ?_
  refine K_iload_n dX0_reasonAgainst_4 rfl ?_
  refine ald7 dX0_reasonAgainst_5 (by omega) (by omega) ?_
  refine K_astore dX0_reasonAgainst_6 (by decide) rfl ?_
  refine K_iload_n dX0_reasonAgainst_8 rfl ?_
  refine K_ifN_eq (by omega) (tgt := 17) dX0_reasonAgainst_9 (by decide) (fun c9 => absurd c9 (by decide)) (fun c9 => ?_)
  refine K_iload_n dX0_reasonAgainst_12 rfl ?_
  refine K_iconstN 1 dX0_reasonAgainst_13 rfl ?_
  refine K_icmpN_ne (by omega) (by omega) (tgt := 21) dX0_reasonAgainst_14 (by decide) (fun c14 => ?_) (fun c14 => absurd c14 (by decide))
  refine K_iconstN 0 dX0_reasonAgainst_21 rfl ?_
  refine K_istore dX0_reasonAgainst_22 (by decide) rfl ?_
  refine K_iload dX0_reasonAgainst_24 rfl ?_
  refine K_ifN_eq (by omega) (tgt := 39) dX0_reasonAgainst_26 (by decide) (fun c26 => ?_) (fun c26 => absurd c26 (by decide))
  refine K_iload dX0_reasonAgainst_39 rfl ?_
  refine K_ifN_ne (by omega) (tgt := 54) dX0_reasonAgainst_41 (by decide) (fun c41 => absurd c41 (by decide)) (fun c41 => ?_)
  refine K_aload dX0_reasonAgainst_44 rfl ?_
  refine k_X2_hasBegun (C_X2_hasBegun (by omega) (by omega)) (by decide) (by omega) (by omega) ml_X0_48 (Nat.le_of_ble_eq_true rfl) dX0_reasonAgainst_46 ?_
  refine K_ifb_ne (tgt := 54) dX0_reasonAgainst_49 (by decide) (fun c49 => ?_) (fun c49 => ?_)
  · skip
    refine K_iload_n dX0_reasonAgainst_54 rfl ?_
    refine K_iconstN 1 dX0_reasonAgainst_55 rfl ?_
    refine K_icmpN_ne (by omega) (by omega) (tgt := 69) dX0_reasonAgainst_56 (by decide) (fun c56 => ?_) (fun c56 => absurd c56 (by decide))
    refine K_iload_n dX0_reasonAgainst_69 rfl ?_
    refine K_iconstN 2 dX0_reasonAgainst_70 rfl ?_
    refine K_icmpN_eq (by omega) (by omega) (tgt := 79) dX0_reasonAgainst_71 (by decide) (fun c71 => ?_) (fun c71 => absurd c71 (by decide))
    refine K_aload dX0_reasonAgainst_79 rfl ?_
    refine k_X2_owed (C_X2_owed (by omega) (by omega)) (by decide) (by omega) (by omega) ml_X0_74 (Nat.le_of_ble_eq_true rfl) dX0_reasonAgainst_81 ?_
    refine K_if_ne (tgt := 89) dX0_reasonAgainst_84 (by decide) (fun c84 => ?_) (fun c84 => ?_)
    · skip
      refine K_iload_n dX0_reasonAgainst_89 rfl ?_
      refine K_iconstN 3 dX0_reasonAgainst_90 rfl ?_
      refine K_icmpN_ne (by omega) (by omega) (tgt := 110) dX0_reasonAgainst_91 (by decide) (fun c91 => ?_) (fun c91 => absurd c91 (by decide))
      refine K_aload_n dX0_reasonAgainst_110 rfl ?_
      refine g_X0_9 dX0_reasonAgainst_111 (by omega) ?_
      refine K_aload dX0_reasonAgainst_114 rfl ?_
      refine g_X0_95 dX0_reasonAgainst_116 (by omega) (by omega) ?_
      refine K_aload_n dX0_reasonAgainst_119 rfl ?_
      refine g_X0_33 dX0_reasonAgainst_120 (by omega) ?_
      refine K_iconstN 2 dX0_reasonAgainst_123 rfl ?_
      refine ald6 dX0_reasonAgainst_124 (by omega) (by omega) ?_
      refine K_iadd dX0_reasonAgainst_125 ?_
      refine K_icmp_le (tgt := 133) dX0_reasonAgainst_126 (by decide) (fun c126 => ?_) (fun c126 => ?_)
      · skip
        refine K_iconstN 0 dX0_reasonAgainst_133 rfl ?_
        refine K_istore dX0_reasonAgainst_134 (by decide) rfl ?_
        refine K_iload_n dX0_reasonAgainst_136 rfl ?_
        refine K_iconstN 4 dX0_reasonAgainst_137 rfl ?_
        refine K_icmpN_ne (by omega) (by omega) (tgt := 160) dX0_reasonAgainst_138 (by decide) (fun c138 => ?_) (fun c138 => absurd c138 (by decide))
        refine K_iconstN 0 dX0_reasonAgainst_160 rfl ?_
        exact K_iret dX0_reasonAgainst_161 ⟨by first | (simp [cWhy2, cLate, *]; done) | (simp_all [cWhy2, cLate]; done), rfl⟩
      · skip
        refine K_iconstN 1 dX0_reasonAgainst_129 rfl ?_
        refine K_goto (tgt := 134) dX0_reasonAgainst_130 (by decide) ?_
        refine K_istore dX0_reasonAgainst_134 (by decide) rfl ?_
        refine K_iload_n dX0_reasonAgainst_136 rfl ?_
        refine K_iconstN 4 dX0_reasonAgainst_137 rfl ?_
        refine K_icmpN_ne (by omega) (by omega) (tgt := 160) dX0_reasonAgainst_138 (by decide) (fun c138 => ?_) (fun c138 => absurd c138 (by decide))
        refine K_iconstN 0 dX0_reasonAgainst_160 rfl ?_
        exact K_iret dX0_reasonAgainst_161 ⟨by first | (simp [cWhy2, cLate, *]; done) | (simp_all [cWhy2, cLate]; done), rfl⟩
    · skip
      refine K_iconstN 4 dX0_reasonAgainst_87 rfl ?_
      exact K_iret dX0_reasonAgainst_88 ⟨by first | (simp [cWhy2, cLate, *]; done) | (simp_all [cWhy2, cLate]; done), rfl⟩
  · skip
    refine K_iconstN 2 dX0_reasonAgainst_52 rfl ?_
    exact K_iret dX0_reasonAgainst_53 ⟨by first | (simp [cWhy2, cLate, *]; done) | (simp_all [cWhy2, cLate]; done), rfl⟩

set_option maxHeartbeats 4000000 in
set_option maxRecDepth 100000 in
theorem C_X0_reason3 {l : Launch} {G : WG} {μ : Mem} {i : Nat} (hi : i < 7) {p : Nat} (hp : p < 6) {u : Int32} : Ct l G 2 yX0_reasonAgainst cX0_reasonAgainst 7 (some .int) [.ref (adr G 4 i 0), .int (nI 3), .int (nI p), .int (u)] (μ) (some (.int (cWhy3 μ i p))) (μ) := by
  refine Ct_of (by decide +kernel) (Nat.le_of_ble_eq_true rfl) ?_
  refine K_aload_n dX0_reasonAgainst_0 rfl ?_
  refine g_X0_38 dX0_reasonAgainst_1 (by omega) ?_
  refine K_iload_n dX0_reasonAgainst_4 rfl ?_
  refine ald7 dX0_reasonAgainst_5 (by omega) (by omega) ?_
  refine K_astore dX0_reasonAgainst_6 (by decide) rfl ?_
  refine K_iload_n dX0_reasonAgainst_8 rfl ?_
  refine K_ifN_eq (by omega) (tgt := 17) dX0_reasonAgainst_9 (by decide) (fun c9 => absurd c9 (by decide)) (fun c9 => ?_)
  refine K_iload_n dX0_reasonAgainst_12 rfl ?_
  refine K_iconstN 1 dX0_reasonAgainst_13 rfl ?_
  refine K_icmpN_ne (by omega) (by omega) (tgt := 21) dX0_reasonAgainst_14 (by decide) (fun c14 => ?_) (fun c14 => absurd c14 (by decide))
  refine K_iconstN 0 dX0_reasonAgainst_21 rfl ?_
  refine K_istore dX0_reasonAgainst_22 (by decide) rfl ?_
  refine K_iload dX0_reasonAgainst_24 rfl ?_
  refine K_ifN_eq (by omega) (tgt := 39) dX0_reasonAgainst_26 (by decide) (fun c26 => ?_) (fun c26 => absurd c26 (by decide))
  refine K_iload dX0_reasonAgainst_39 rfl ?_
  refine K_ifN_ne (by omega) (tgt := 54) dX0_reasonAgainst_41 (by decide) (fun c41 => absurd c41 (by decide)) (fun c41 => ?_)
  refine K_aload dX0_reasonAgainst_44 rfl ?_
  refine k_X2_hasBegun (C_X2_hasBegun (by omega) (by omega)) (by decide) (by omega) (by omega) ml_X0_48 (Nat.le_of_ble_eq_true rfl) dX0_reasonAgainst_46 ?_
  refine K_ifb_ne (tgt := 54) dX0_reasonAgainst_49 (by decide) (fun c49 => ?_) (fun c49 => ?_)
  · skip
    refine K_iload_n dX0_reasonAgainst_54 rfl ?_
    refine K_iconstN 1 dX0_reasonAgainst_55 rfl ?_
    refine K_icmpN_ne (by omega) (by omega) (tgt := 69) dX0_reasonAgainst_56 (by decide) (fun c56 => ?_) (fun c56 => absurd c56 (by decide))
    refine K_iload_n dX0_reasonAgainst_69 rfl ?_
    refine K_iconstN 2 dX0_reasonAgainst_70 rfl ?_
    refine K_icmpN_eq (by omega) (by omega) (tgt := 79) dX0_reasonAgainst_71 (by decide) (fun c71 => absurd c71 (by decide)) (fun c71 => ?_)
    refine K_iload_n dX0_reasonAgainst_74 rfl ?_
    refine K_iconstN 3 dX0_reasonAgainst_75 rfl ?_
    refine K_icmpN_ne (by omega) (by omega) (tgt := 89) dX0_reasonAgainst_76 (by decide) (fun c76 => absurd c76 (by decide)) (fun c76 => ?_)
    refine K_aload dX0_reasonAgainst_79 rfl ?_
    refine k_X2_owed (C_X2_owed (by omega) (by omega)) (by decide) (by omega) (by omega) ml_X0_74 (Nat.le_of_ble_eq_true rfl) dX0_reasonAgainst_81 ?_
    refine K_if_ne (tgt := 89) dX0_reasonAgainst_84 (by decide) (fun c84 => ?_) (fun c84 => ?_)
    · skip
      refine K_iload_n dX0_reasonAgainst_89 rfl ?_
      refine K_iconstN 3 dX0_reasonAgainst_90 rfl ?_
      refine K_icmpN_ne (by omega) (by omega) (tgt := 110) dX0_reasonAgainst_91 (by decide) (fun c91 => absurd c91 (by decide)) (fun c91 => ?_)
      refine K_aload dX0_reasonAgainst_94 rfl ?_
      refine K_aload_n dX0_reasonAgainst_96 rfl ?_
      refine g_X0_33 dX0_reasonAgainst_97 (by omega) ?_
      refine K_iconstN 3 dX0_reasonAgainst_100 rfl ?_
      refine ald6 dX0_reasonAgainst_101 (by omega) (by omega) ?_
      refine k_X2_roomForLand (C_X2_roomForLand (by omega) (by omega)) (by decide) (by omega) (by omega) ml_X0_91 (Nat.le_of_ble_eq_true rfl) dX0_reasonAgainst_102 ?_
      refine K_if_ne (tgt := 110) dX0_reasonAgainst_105 (by decide) (fun c105 => ?_) (fun c105 => ?_)
      · skip
        refine K_aload_n dX0_reasonAgainst_110 rfl ?_
        refine g_X0_9 dX0_reasonAgainst_111 (by omega) ?_
        refine K_aload dX0_reasonAgainst_114 rfl ?_
        refine g_X0_95 dX0_reasonAgainst_116 (by omega) (by omega) ?_
        refine K_aload_n dX0_reasonAgainst_119 rfl ?_
        refine g_X0_33 dX0_reasonAgainst_120 (by omega) ?_
        refine K_iconstN 2 dX0_reasonAgainst_123 rfl ?_
        refine ald6 dX0_reasonAgainst_124 (by omega) (by omega) ?_
        refine K_iadd dX0_reasonAgainst_125 ?_
        refine K_icmp_le (tgt := 133) dX0_reasonAgainst_126 (by decide) (fun c126 => ?_) (fun c126 => ?_)
        · skip
          refine K_iconstN 0 dX0_reasonAgainst_133 rfl ?_
          refine K_istore dX0_reasonAgainst_134 (by decide) rfl ?_
          refine K_iload_n dX0_reasonAgainst_136 rfl ?_
          refine K_iconstN 4 dX0_reasonAgainst_137 rfl ?_
          refine K_icmpN_ne (by omega) (by omega) (tgt := 160) dX0_reasonAgainst_138 (by decide) (fun c138 => ?_) (fun c138 => absurd c138 (by decide))
          refine K_iconstN 0 dX0_reasonAgainst_160 rfl ?_
          exact K_iret dX0_reasonAgainst_161 ⟨by first | (simp [cWhy3, cLate, *]; done) | (simp_all [cWhy3, cLate]; done), rfl⟩
        · skip
          refine K_iconstN 1 dX0_reasonAgainst_129 rfl ?_
          refine K_goto (tgt := 134) dX0_reasonAgainst_130 (by decide) ?_
          refine K_istore dX0_reasonAgainst_134 (by decide) rfl ?_
          refine K_iload_n dX0_reasonAgainst_136 rfl ?_
          refine K_iconstN 4 dX0_reasonAgainst_137 rfl ?_
          refine K_icmpN_ne (by omega) (by omega) (tgt := 160) dX0_reasonAgainst_138 (by decide) (fun c138 => ?_) (fun c138 => absurd c138 (by decide))
          refine K_iconstN 0 dX0_reasonAgainst_160 rfl ?_
          exact K_iret dX0_reasonAgainst_161 ⟨by first | (simp [cWhy3, cLate, *]; done) | (simp_all [cWhy3, cLate]; done), rfl⟩
      · skip
        refine K_iconstN 5 dX0_reasonAgainst_108 rfl ?_
        exact K_iret dX0_reasonAgainst_109 ⟨by first | (simp [cWhy3, cLate, *]; done) | (simp_all [cWhy3, cLate]; done), rfl⟩
    · skip
      refine K_iconstN 4 dX0_reasonAgainst_87 rfl ?_
      exact K_iret dX0_reasonAgainst_88 ⟨by first | (simp [cWhy3, cLate, *]; done) | (simp_all [cWhy3, cLate]; done), rfl⟩
  · skip
    refine K_iconstN 2 dX0_reasonAgainst_52 rfl ?_
    exact K_iret dX0_reasonAgainst_53 ⟨by first | (simp [cWhy3, cLate, *]; done) | (simp_all [cWhy3, cLate]; done), rfl⟩

set_option maxHeartbeats 4000000 in
set_option maxRecDepth 100000 in
theorem C_X0_reason4 {l : Launch} {G : WG} {μ : Mem} {i : Nat} (hi : i < 7) {p : Nat} (hp : p < 6) {u : Nat} (hu : u < 4) : Ct l G 1 yX0_reasonAgainst cX0_reasonAgainst 7 (some .int) [.ref (adr G 4 i 0), .int (nI 4), .int (nI p), .int (nI u)] (μ) (some (.int (cWhy4 μ i p u))) (μ) := by
  refine Ct_of (by decide +kernel) (Nat.le_of_ble_eq_true rfl) ?_
  refine K_aload_n dX0_reasonAgainst_0 rfl ?_
  refine g_X0_38 dX0_reasonAgainst_1 (by omega) ?_
  refine K_iload_n dX0_reasonAgainst_4 rfl ?_
  refine ald7 dX0_reasonAgainst_5 (by omega) (by omega) ?_
  refine K_astore dX0_reasonAgainst_6 (by decide) rfl ?_
  refine K_iload_n dX0_reasonAgainst_8 rfl ?_
  refine K_ifN_eq (by omega) (tgt := 17) dX0_reasonAgainst_9 (by decide) (fun c9 => absurd c9 (by decide)) (fun c9 => ?_)
  refine K_iload_n dX0_reasonAgainst_12 rfl ?_
  refine K_iconstN 1 dX0_reasonAgainst_13 rfl ?_
  refine K_icmpN_ne (by omega) (by omega) (tgt := 21) dX0_reasonAgainst_14 (by decide) (fun c14 => ?_) (fun c14 => absurd c14 (by decide))
  refine K_iconstN 0 dX0_reasonAgainst_21 rfl ?_
  refine K_istore dX0_reasonAgainst_22 (by decide) rfl ?_
  refine K_iload dX0_reasonAgainst_24 rfl ?_
  refine K_ifN_eq (by omega) (tgt := 39) dX0_reasonAgainst_26 (by decide) (fun c26 => ?_) (fun c26 => absurd c26 (by decide))
  refine K_iload dX0_reasonAgainst_39 rfl ?_
  refine K_ifN_ne (by omega) (tgt := 54) dX0_reasonAgainst_41 (by decide) (fun c41 => absurd c41 (by decide)) (fun c41 => ?_)
  refine K_aload dX0_reasonAgainst_44 rfl ?_
  refine k_X2_hasBegun (C_X2_hasBegun (by omega) (by omega)) (by decide) (by omega) (by omega) ml_X0_48 (Nat.le_of_ble_eq_true rfl) dX0_reasonAgainst_46 ?_
  refine K_ifb_ne (tgt := 54) dX0_reasonAgainst_49 (by decide) (fun c49 => ?_) (fun c49 => ?_)
  · skip
    refine K_iload_n dX0_reasonAgainst_54 rfl ?_
    refine K_iconstN 1 dX0_reasonAgainst_55 rfl ?_
    refine K_icmpN_ne (by omega) (by omega) (tgt := 69) dX0_reasonAgainst_56 (by decide) (fun c56 => ?_) (fun c56 => absurd c56 (by decide))
    refine K_iload_n dX0_reasonAgainst_69 rfl ?_
    refine K_iconstN 2 dX0_reasonAgainst_70 rfl ?_
    refine K_icmpN_eq (by omega) (by omega) (tgt := 79) dX0_reasonAgainst_71 (by decide) (fun c71 => absurd c71 (by decide)) (fun c71 => ?_)
    refine K_iload_n dX0_reasonAgainst_74 rfl ?_
    refine K_iconstN 3 dX0_reasonAgainst_75 rfl ?_
    refine K_icmpN_ne (by omega) (by omega) (tgt := 89) dX0_reasonAgainst_76 (by decide) (fun c76 => ?_) (fun c76 => absurd c76 (by decide))
    refine K_iload_n dX0_reasonAgainst_89 rfl ?_
    refine K_iconstN 3 dX0_reasonAgainst_90 rfl ?_
    refine K_icmpN_ne (by omega) (by omega) (tgt := 110) dX0_reasonAgainst_91 (by decide) (fun c91 => ?_) (fun c91 => absurd c91 (by decide))
    refine K_aload_n dX0_reasonAgainst_110 rfl ?_
    refine g_X0_9 dX0_reasonAgainst_111 (by omega) ?_
    refine K_aload dX0_reasonAgainst_114 rfl ?_
    refine g_X0_95 dX0_reasonAgainst_116 (by omega) (by omega) ?_
    refine K_aload_n dX0_reasonAgainst_119 rfl ?_
    refine g_X0_33 dX0_reasonAgainst_120 (by omega) ?_
    refine K_iconstN 2 dX0_reasonAgainst_123 rfl ?_
    refine ald6 dX0_reasonAgainst_124 (by omega) (by omega) ?_
    refine K_iadd dX0_reasonAgainst_125 ?_
    refine K_icmp_le (tgt := 133) dX0_reasonAgainst_126 (by decide) (fun c126 => ?_) (fun c126 => ?_)
    · skip
      refine K_iconstN 0 dX0_reasonAgainst_133 rfl ?_
      refine K_istore dX0_reasonAgainst_134 (by decide) rfl ?_
      refine K_iload_n dX0_reasonAgainst_136 rfl ?_
      refine K_iconstN 4 dX0_reasonAgainst_137 rfl ?_
      refine K_icmpN_ne (by omega) (by omega) (tgt := 160) dX0_reasonAgainst_138 (by decide) (fun c138 => absurd c138 (by decide)) (fun c138 => ?_)
      refine K_iload dX0_reasonAgainst_141 rfl ?_
      refine K_ifN_ne (by omega) (tgt := 155) dX0_reasonAgainst_143 (by decide) (fun c143 => absurd c143 (by decide)) (fun c143 => ?_)
      refine K_aload dX0_reasonAgainst_146 rfl ?_
      refine K_iload_n dX0_reasonAgainst_148 rfl ?_
      refine k_X2_reliefOfUse (C_X2_reliefOfUse (by omega) (by omega) (by omega)) (by decide) (by omega) (by omega) ml_X0_98 (Nat.le_of_ble_eq_true rfl) dX0_reasonAgainst_149 ?_
      refine K_if_ne (tgt := 160) dX0_reasonAgainst_152 (by decide) (fun c152 => ?_) (fun c152 => ?_)
      · skip
        refine K_iconstN 0 dX0_reasonAgainst_160 rfl ?_
        exact K_iret dX0_reasonAgainst_161 ⟨by first | (simp [cWhy4, cLate, *]; done) | (simp_all [cWhy4, cLate]; done), rfl⟩
      · skip
        refine K_bipush (v := nI 6) dX0_reasonAgainst_155 (by decide) ?_
        refine K_goto (tgt := 161) dX0_reasonAgainst_157 (by decide) ?_
        exact K_iret dX0_reasonAgainst_161 ⟨by first | (simp [cWhy4, cLate, *]; done) | (simp_all [cWhy4, cLate]; done), rfl⟩
    · skip
      refine K_iconstN 1 dX0_reasonAgainst_129 rfl ?_
      refine K_goto (tgt := 134) dX0_reasonAgainst_130 (by decide) ?_
      refine K_istore dX0_reasonAgainst_134 (by decide) rfl ?_
      refine K_iload_n dX0_reasonAgainst_136 rfl ?_
      refine K_iconstN 4 dX0_reasonAgainst_137 rfl ?_
      refine K_icmpN_ne (by omega) (by omega) (tgt := 160) dX0_reasonAgainst_138 (by decide) (fun c138 => absurd c138 (by decide)) (fun c138 => ?_)
      refine K_iload dX0_reasonAgainst_141 rfl ?_
      refine K_ifN_ne (by omega) (tgt := 155) dX0_reasonAgainst_143 (by decide) (fun c143 => ?_) (fun c143 => absurd c143 (by decide))
      refine K_bipush (v := nI 6) dX0_reasonAgainst_155 (by decide) ?_
      refine K_goto (tgt := 161) dX0_reasonAgainst_157 (by decide) ?_
      exact K_iret dX0_reasonAgainst_161 ⟨by first | (simp [cWhy4, cLate, *]; done) | (simp_all [cWhy4, cLate]; done), rfl⟩
  · skip
    refine K_iconstN 2 dX0_reasonAgainst_52 rfl ?_
    exact K_iret dX0_reasonAgainst_53 ⟨by first | (simp [cWhy4, cLate, *]; done) | (simp_all [cWhy4, cLate]; done), rfl⟩

set_option maxHeartbeats 4000000 in
set_option maxRecDepth 100000 in
theorem C_X0_allowsF0 {l : Launch} {G : WG} {μ : Mem} {i : Nat} (hi : i < 7) {a : Int32} {n : Nat} (hN : μ.1 4 i 0 1 = nI n) (hn : n ≤ 6) (hh : cHas n a = false) : Ct l G 1 yX0_allows cX0_allows 3 (some .boolean) [.ref (adr G 4 i 0), .int (nI 0), .int (a)] (μ) (some (.int (b2i false))) (μ) := by
  refine Ct_of (by decide +kernel) (Nat.le_of_ble_eq_true rfl) ?_
  refine K_aload_n dX0_allows_0 rfl ?_
  refine K_iload_n dX0_allows_1 rfl ?_
  refine k_X0_hasPhase (C_X0_hasPhase hi hN hn) (by decide) (by omega) ml_X0_80 (Nat.le_of_ble_eq_true rfl) dX0_allows_2 ?_
  refine K_ifb_eq (tgt := 22) dX0_allows_5 (by decide) (fun c5 => ?_) (fun c5 => ?_)
  · skip
    refine K_iconstN 0 dX0_allows_22 rfl ?_
    exact K_zret (by rfl) dX0_allows_23 ⟨rfl, rfl⟩
  · skip
    exact absurd (c5.symm.trans hh) (by decide)

set_option maxHeartbeats 4000000 in
set_option maxRecDepth 100000 in
theorem C_X0_allows0 {l : Launch} {G : WG} {μ : Mem} {i : Nat} (hi : i < 7) {p : Nat} (hp : p < 6) {n : Nat} (hN : μ.1 4 i 0 1 = nI n) (hn : n ≤ 6) (hpn : p < n) : Ct l G 2 yX0_allows cX0_allows 3 (some .boolean) [.ref (adr G 4 i 0), .int (nI 0), .int (nI p)] (μ) (some (.int (b2i (decide (cWhy0 μ i p = 0))))) (μ) := by
  refine Ct_of (by decide +kernel) (Nat.le_of_ble_eq_true rfl) ?_
  refine K_aload_n dX0_allows_0 rfl ?_
  refine K_iload_n dX0_allows_1 rfl ?_
  refine k_X0_hasPhase (C_X0_hasPhase hi hN hn) (by decide) (by omega) ml_X0_80 (Nat.le_of_ble_eq_true rfl) dX0_allows_2 ?_
  refine K_ifb_eq (tgt := 22) dX0_allows_5 (by decide) (fun c5 => ?_) (fun c5 => ?_)
  · skip
    exact absurd c5 (by rw [cHas_nat hpn hn]; decide)
  · skip
    refine K_aload_n dX0_allows_8 rfl ?_
    refine K_iload_n dX0_allows_9 rfl ?_
    refine K_iload_n dX0_allows_10 rfl ?_
    refine K_iconstN 0 dX0_allows_11 rfl ?_
    refine k_X0_reasonAgainst (C_X0_reason0 (by omega) (by omega)) (by decide) (by omega) ml_X0_84 (Nat.le_of_ble_eq_true rfl) dX0_allows_12 ?_
    refine K_if_ne (tgt := 22) dX0_allows_15 (by decide) (fun c15 => ?_) (fun c15 => ?_)
    · skip
      refine K_iconstN 0 dX0_allows_22 rfl ?_
      exact K_zret (by simp [c15]; rfl) dX0_allows_23 ⟨rfl, rfl⟩
    · skip
      refine K_iconstN 1 dX0_allows_18 rfl ?_
      refine K_goto (tgt := 23) dX0_allows_19 (by decide) ?_
      exact K_zret (by simp [c15]; rfl) dX0_allows_23 ⟨rfl, rfl⟩

set_option maxHeartbeats 4000000 in
set_option maxRecDepth 100000 in
theorem C_X0_allowsF1 {l : Launch} {G : WG} {μ : Mem} {i : Nat} (hi : i < 7) {a : Int32} {n : Nat} (hN : μ.1 4 i 0 1 = nI n) (hn : n ≤ 6) (hh : cHas n a = false) : Ct l G 1 yX0_allows cX0_allows 3 (some .boolean) [.ref (adr G 4 i 0), .int (nI 1), .int (a)] (μ) (some (.int (b2i false))) (μ) := by
  refine Ct_of (by decide +kernel) (Nat.le_of_ble_eq_true rfl) ?_
  refine K_aload_n dX0_allows_0 rfl ?_
  refine K_iload_n dX0_allows_1 rfl ?_
  refine k_X0_hasPhase (C_X0_hasPhase hi hN hn) (by decide) (by omega) ml_X0_80 (Nat.le_of_ble_eq_true rfl) dX0_allows_2 ?_
  refine K_ifb_eq (tgt := 22) dX0_allows_5 (by decide) (fun c5 => ?_) (fun c5 => ?_)
  · skip
    refine K_iconstN 0 dX0_allows_22 rfl ?_
    exact K_zret (by rfl) dX0_allows_23 ⟨rfl, rfl⟩
  · skip
    exact absurd (c5.symm.trans hh) (by decide)

set_option maxHeartbeats 4000000 in
set_option maxRecDepth 100000 in
theorem C_X0_allows1 {l : Launch} {G : WG} {μ : Mem} {i : Nat} (hi : i < 7) {p : Nat} (hp : p < 6) {n : Nat} (hN : μ.1 4 i 0 1 = nI n) (hn : n ≤ 6) (hpn : p < n) : Ct l G 2 yX0_allows cX0_allows 3 (some .boolean) [.ref (adr G 4 i 0), .int (nI 1), .int (nI p)] (μ) (some (.int (b2i (decide (cWhy1 μ i p = 0))))) (μ) := by
  refine Ct_of (by decide +kernel) (Nat.le_of_ble_eq_true rfl) ?_
  refine K_aload_n dX0_allows_0 rfl ?_
  refine K_iload_n dX0_allows_1 rfl ?_
  refine k_X0_hasPhase (C_X0_hasPhase hi hN hn) (by decide) (by omega) ml_X0_80 (Nat.le_of_ble_eq_true rfl) dX0_allows_2 ?_
  refine K_ifb_eq (tgt := 22) dX0_allows_5 (by decide) (fun c5 => ?_) (fun c5 => ?_)
  · skip
    exact absurd c5 (by rw [cHas_nat hpn hn]; decide)
  · skip
    refine K_aload_n dX0_allows_8 rfl ?_
    refine K_iload_n dX0_allows_9 rfl ?_
    refine K_iload_n dX0_allows_10 rfl ?_
    refine K_iconstN 0 dX0_allows_11 rfl ?_
    refine k_X0_reasonAgainst (C_X0_reason1 (by omega) (by omega)) (by decide) (by omega) ml_X0_84 (Nat.le_of_ble_eq_true rfl) dX0_allows_12 ?_
    refine K_if_ne (tgt := 22) dX0_allows_15 (by decide) (fun c15 => ?_) (fun c15 => ?_)
    · skip
      refine K_iconstN 0 dX0_allows_22 rfl ?_
      exact K_zret (by simp [c15]; rfl) dX0_allows_23 ⟨rfl, rfl⟩
    · skip
      refine K_iconstN 1 dX0_allows_18 rfl ?_
      refine K_goto (tgt := 23) dX0_allows_19 (by decide) ?_
      exact K_zret (by simp [c15]; rfl) dX0_allows_23 ⟨rfl, rfl⟩

set_option maxHeartbeats 4000000 in
set_option maxRecDepth 100000 in
theorem C_X0_allowsF2 {l : Launch} {G : WG} {μ : Mem} {i : Nat} (hi : i < 7) {a : Int32} {n : Nat} (hN : μ.1 4 i 0 1 = nI n) (hn : n ≤ 6) (hh : cHas n a = false) : Ct l G 1 yX0_allows cX0_allows 3 (some .boolean) [.ref (adr G 4 i 0), .int (nI 2), .int (a)] (μ) (some (.int (b2i false))) (μ) := by
  refine Ct_of (by decide +kernel) (Nat.le_of_ble_eq_true rfl) ?_
  refine K_aload_n dX0_allows_0 rfl ?_
  refine K_iload_n dX0_allows_1 rfl ?_
  refine k_X0_hasPhase (C_X0_hasPhase hi hN hn) (by decide) (by omega) ml_X0_80 (Nat.le_of_ble_eq_true rfl) dX0_allows_2 ?_
  refine K_ifb_eq (tgt := 22) dX0_allows_5 (by decide) (fun c5 => ?_) (fun c5 => ?_)
  · skip
    refine K_iconstN 0 dX0_allows_22 rfl ?_
    exact K_zret (by rfl) dX0_allows_23 ⟨rfl, rfl⟩
  · skip
    exact absurd (c5.symm.trans hh) (by decide)

set_option maxHeartbeats 4000000 in
set_option maxRecDepth 100000 in
theorem C_X0_allows2 {l : Launch} {G : WG} {μ : Mem} {i : Nat} (hi : i < 7) {p : Nat} (hp : p < 6) {n : Nat} (hN : μ.1 4 i 0 1 = nI n) (hn : n ≤ 6) (hpn : p < n) : Ct l G 3 yX0_allows cX0_allows 3 (some .boolean) [.ref (adr G 4 i 0), .int (nI 2), .int (nI p)] (μ) (some (.int (b2i (decide (cWhy2 μ i p = 0))))) (μ) := by
  refine Ct_of (by decide +kernel) (Nat.le_of_ble_eq_true rfl) ?_
  refine K_aload_n dX0_allows_0 rfl ?_
  refine K_iload_n dX0_allows_1 rfl ?_
  refine k_X0_hasPhase (C_X0_hasPhase hi hN hn) (by decide) (by omega) ml_X0_80 (Nat.le_of_ble_eq_true rfl) dX0_allows_2 ?_
  refine K_ifb_eq (tgt := 22) dX0_allows_5 (by decide) (fun c5 => ?_) (fun c5 => ?_)
  · skip
    exact absurd c5 (by rw [cHas_nat hpn hn]; decide)
  · skip
    refine K_aload_n dX0_allows_8 rfl ?_
    refine K_iload_n dX0_allows_9 rfl ?_
    refine K_iload_n dX0_allows_10 rfl ?_
    refine K_iconstN 0 dX0_allows_11 rfl ?_
    refine k_X0_reasonAgainst (C_X0_reason2 (by omega) (by omega)) (by decide) (by omega) ml_X0_84 (Nat.le_of_ble_eq_true rfl) dX0_allows_12 ?_
    refine K_if_ne (tgt := 22) dX0_allows_15 (by decide) (fun c15 => ?_) (fun c15 => ?_)
    · skip
      refine K_iconstN 0 dX0_allows_22 rfl ?_
      exact K_zret (by simp [c15]; rfl) dX0_allows_23 ⟨rfl, rfl⟩
    · skip
      refine K_iconstN 1 dX0_allows_18 rfl ?_
      refine K_goto (tgt := 23) dX0_allows_19 (by decide) ?_
      exact K_zret (by simp [c15]; rfl) dX0_allows_23 ⟨rfl, rfl⟩

set_option maxHeartbeats 4000000 in
set_option maxRecDepth 100000 in
theorem C_X0_numberOf1 {l : Launch} {G : WG} {μ : Mem} {i : Nat} (hi : i < 7) {p : Nat} (hp : p < 6) (hW : WfI μ i) : Ct l G 0 yX0_numberOf cX0_numberOf 3 (some .int) [.ref (adr G 4 i 0), .ref (adr G 8 i p), .int (nI 1)] (μ) (some (.int (cNum μ i p 1))) (μ) := by
  refine Ct_of (by decide +kernel) (Nat.le_of_ble_eq_true rfl) ?_
  refine K_iload_n dX0_numberOf_0 rfl ?_
  refine K_tableIn (tgt := 52) dX0_numberOf_1 (by decide) (by decide) rfl (by decide) ?_
  refine K_iconstN 1 dX0_numberOf_52 rfl ?_
  exact K_iret dX0_numberOf_53 ⟨by rfl, rfl⟩

set_option maxHeartbeats 4000000 in
set_option maxRecDepth 100000 in
theorem C_X0_sumOver1 {l : Launch} {G : WG} {μ : Mem} {i : Nat} (hi : i < 7) {n : Nat} (hN : μ.1 4 i 0 1 = nI n) (hn : n ≤ 6) (hW : WfI μ i) : Ct l G 1 yX0_sumOverBegunPhases cX0_sumOverBegunPhases 4 (some .int) [.ref (adr G 4 i 0), .int (nI 1)] (μ) (some (.int (cSumOver μ i 1 n))) (μ) := by
  refine Ct_of (by decide +kernel) (Nat.le_of_ble_eq_true rfl) ?_
  refine K_iconstN 0 dX0_sumOverBegunPhases_0 rfl ?_
  refine K_istore_n dX0_sumOverBegunPhases_1 (by decide) rfl ?_
  refine K_iconstN 0 dX0_sumOverBegunPhases_2 rfl ?_
  refine K_istore_n dX0_sumOverBegunPhases_3 (by decide) rfl ?_
  refine K_lv [0, 1, 2, 3] rfl ?_
  refine K_for (n) (fun k => [(0, .ref (adr G 4 i 0)), (1, .int (nI 1)), (2, .int (cSumOver μ i 1 k)), (3, .int (nI k))]) (fun _ => μ) ?_ ?_
  · skip
    refine K_iload_n dX0_sumOverBegunPhases_4 rfl ?_
    refine K_aload_n dX0_sumOverBegunPhases_5 rfl ?_
    refine g_X0_15 dX0_sumOverBegunPhases_6 (by omega) ?_
    refine K_top hN ?_
    refine K_icmpN_ge (by omega) (by omega) (tgt := 50) dX0_sumOverBegunPhases_9 (by decide) (fun c9 => ?_) (fun c9 => ?_)
    · skip
      refine K_iload_n dX0_sumOverBegunPhases_50 rfl ?_
      exact K_iret dX0_sumOverBegunPhases_51 ⟨by rfl, rfl⟩
    · skip
      exfalso; omega
  · intro k hk_k ih_1
    refine K_iload_n dX0_sumOverBegunPhases_4 rfl ?_
    refine K_aload_n dX0_sumOverBegunPhases_5 rfl ?_
    refine g_X0_15 dX0_sumOverBegunPhases_6 (by omega) ?_
    refine K_top hN ?_
    refine K_icmpN_ge (by omega) (by omega) (tgt := 50) dX0_sumOverBegunPhases_9 (by decide) (fun c9 => ?_) (fun c9 => ?_)
    · skip
      exfalso; omega
    · skip
      refine K_iload_n dX0_sumOverBegunPhases_12 rfl ?_
      refine K_bipush (v := nI 6) dX0_sumOverBegunPhases_13 (by decide) ?_
      refine K_icmpN_ge (by omega) (by omega) (tgt := 50) dX0_sumOverBegunPhases_15 (by decide) (fun c15 => ?_) (fun c15 => ?_)
      · skip
        exfalso; omega
      · skip
        refine K_aload_n dX0_sumOverBegunPhases_18 rfl ?_
        refine g_X0_38 dX0_sumOverBegunPhases_19 (by omega) ?_
        refine K_iload_n dX0_sumOverBegunPhases_22 rfl ?_
        refine ald7 dX0_sumOverBegunPhases_23 (by omega) (by omega) ?_
        refine k_X2_hasBegun (C_X2_hasBegun (by omega) (by omega)) (by decide) (by omega) (by omega) ml_X0_48 (Nat.le_of_ble_eq_true rfl) dX0_sumOverBegunPhases_24 ?_
        refine K_ifb_eq (tgt := 44) dX0_sumOverBegunPhases_27 (by decide) (fun c27 => ?_) (fun c27 => ?_)
        · skip
          refine K_iincN (b := 1) dX0_sumOverBegunPhases_44 rfl rfl (by decide) rfl ?_
          refine K_goto (tgt := 4) dX0_sumOverBegunPhases_47 (by decide) ?_
          exact K_lv [0, 1, 2, 3] (by simp [lvpick, lkp, lvset, lvdel, Nat.beq, sumB, cSumOver, *]) ih_1
        · skip
          refine K_iload_n dX0_sumOverBegunPhases_30 rfl ?_
          refine K_aload_n dX0_sumOverBegunPhases_31 rfl ?_
          refine K_aload_n dX0_sumOverBegunPhases_32 rfl ?_
          refine g_X0_38 dX0_sumOverBegunPhases_33 (by omega) ?_
          refine K_iload_n dX0_sumOverBegunPhases_36 rfl ?_
          refine ald7 dX0_sumOverBegunPhases_37 (by omega) (by omega) ?_
          refine K_iload_n dX0_sumOverBegunPhases_38 rfl ?_
          refine k_X0_numberOf (C_X0_numberOf1 hi (by omega) hW) (by decide) (by omega) ml_X0_101 (Nat.le_of_ble_eq_true rfl) dX0_sumOverBegunPhases_39 ?_
          refine K_iadd dX0_sumOverBegunPhases_42 ?_
          refine K_istore_n dX0_sumOverBegunPhases_43 (by decide) rfl ?_
          refine K_iincN (b := 1) dX0_sumOverBegunPhases_44 rfl rfl (by decide) rfl ?_
          refine K_goto (tgt := 4) dX0_sumOverBegunPhases_47 (by decide) ?_
          exact K_lv [0, 1, 2, 3] (by simp [lvpick, lkp, lvset, lvdel, Nat.beq, sumB, cSumOver, *]) ih_1

set_option maxHeartbeats 4000000 in
set_option maxRecDepth 100000 in
theorem C_X0_numberOf2 {l : Launch} {G : WG} {μ : Mem} {i : Nat} (hi : i < 7) {p : Nat} (hp : p < 6) (hW : WfI μ i) : Ct l G 0 yX0_numberOf cX0_numberOf 3 (some .int) [.ref (adr G 4 i 0), .ref (adr G 8 i p), .int (nI 2)] (μ) (some (.int (cNum μ i p 2))) (μ) := by
  refine Ct_of (by decide +kernel) (Nat.le_of_ble_eq_true rfl) ?_
  refine K_iload_n dX0_numberOf_0 rfl ?_
  refine K_tableIn (tgt := 54) dX0_numberOf_1 (by decide) (by decide) rfl (by decide) ?_
  refine K_aload_n dX0_numberOf_54 rfl ?_
  refine g_X0_63 dX0_numberOf_55 (by omega) (by omega) ?_
  refine K_if_eq (tgt := 65) dX0_numberOf_58 (by decide) (fun c58 => ?_) (fun c58 => ?_)
  · skip
    refine K_iconstN 0 dX0_numberOf_65 rfl ?_
    exact K_iret dX0_numberOf_66 ⟨by simp [cNum, c58], rfl⟩
  · skip
    refine K_iconstN 1 dX0_numberOf_61 rfl ?_
    refine K_goto (tgt := 66) dX0_numberOf_62 (by decide) ?_
    exact K_iret dX0_numberOf_66 ⟨by simp [cNum, c58], rfl⟩

set_option maxHeartbeats 4000000 in
set_option maxRecDepth 100000 in
theorem C_X0_sumOver2 {l : Launch} {G : WG} {μ : Mem} {i : Nat} (hi : i < 7) {n : Nat} (hN : μ.1 4 i 0 1 = nI n) (hn : n ≤ 6) (hW : WfI μ i) : Ct l G 1 yX0_sumOverBegunPhases cX0_sumOverBegunPhases 4 (some .int) [.ref (adr G 4 i 0), .int (nI 2)] (μ) (some (.int (cSumOver μ i 2 n))) (μ) := by
  refine Ct_of (by decide +kernel) (Nat.le_of_ble_eq_true rfl) ?_
  refine K_iconstN 0 dX0_sumOverBegunPhases_0 rfl ?_
  refine K_istore_n dX0_sumOverBegunPhases_1 (by decide) rfl ?_
  refine K_iconstN 0 dX0_sumOverBegunPhases_2 rfl ?_
  refine K_istore_n dX0_sumOverBegunPhases_3 (by decide) rfl ?_
  refine K_lv [0, 1, 2, 3] rfl ?_
  refine K_for (n) (fun k => [(0, .ref (adr G 4 i 0)), (1, .int (nI 2)), (2, .int (cSumOver μ i 2 k)), (3, .int (nI k))]) (fun _ => μ) ?_ ?_
  · skip
    refine K_iload_n dX0_sumOverBegunPhases_4 rfl ?_
    refine K_aload_n dX0_sumOverBegunPhases_5 rfl ?_
    refine g_X0_15 dX0_sumOverBegunPhases_6 (by omega) ?_
    refine K_top hN ?_
    refine K_icmpN_ge (by omega) (by omega) (tgt := 50) dX0_sumOverBegunPhases_9 (by decide) (fun c9 => ?_) (fun c9 => ?_)
    · skip
      refine K_iload_n dX0_sumOverBegunPhases_50 rfl ?_
      exact K_iret dX0_sumOverBegunPhases_51 ⟨by rfl, rfl⟩
    · skip
      exfalso; omega
  · intro k hk_k ih_1
    refine K_iload_n dX0_sumOverBegunPhases_4 rfl ?_
    refine K_aload_n dX0_sumOverBegunPhases_5 rfl ?_
    refine g_X0_15 dX0_sumOverBegunPhases_6 (by omega) ?_
    refine K_top hN ?_
    refine K_icmpN_ge (by omega) (by omega) (tgt := 50) dX0_sumOverBegunPhases_9 (by decide) (fun c9 => ?_) (fun c9 => ?_)
    · skip
      exfalso; omega
    · skip
      refine K_iload_n dX0_sumOverBegunPhases_12 rfl ?_
      refine K_bipush (v := nI 6) dX0_sumOverBegunPhases_13 (by decide) ?_
      refine K_icmpN_ge (by omega) (by omega) (tgt := 50) dX0_sumOverBegunPhases_15 (by decide) (fun c15 => ?_) (fun c15 => ?_)
      · skip
        exfalso; omega
      · skip
        refine K_aload_n dX0_sumOverBegunPhases_18 rfl ?_
        refine g_X0_38 dX0_sumOverBegunPhases_19 (by omega) ?_
        refine K_iload_n dX0_sumOverBegunPhases_22 rfl ?_
        refine ald7 dX0_sumOverBegunPhases_23 (by omega) (by omega) ?_
        refine k_X2_hasBegun (C_X2_hasBegun (by omega) (by omega)) (by decide) (by omega) (by omega) ml_X0_48 (Nat.le_of_ble_eq_true rfl) dX0_sumOverBegunPhases_24 ?_
        refine K_ifb_eq (tgt := 44) dX0_sumOverBegunPhases_27 (by decide) (fun c27 => ?_) (fun c27 => ?_)
        · skip
          refine K_iincN (b := 1) dX0_sumOverBegunPhases_44 rfl rfl (by decide) rfl ?_
          refine K_goto (tgt := 4) dX0_sumOverBegunPhases_47 (by decide) ?_
          exact K_lv [0, 1, 2, 3] (by simp [lvpick, lkp, lvset, lvdel, Nat.beq, sumB, cSumOver, *]) ih_1
        · skip
          refine K_iload_n dX0_sumOverBegunPhases_30 rfl ?_
          refine K_aload_n dX0_sumOverBegunPhases_31 rfl ?_
          refine K_aload_n dX0_sumOverBegunPhases_32 rfl ?_
          refine g_X0_38 dX0_sumOverBegunPhases_33 (by omega) ?_
          refine K_iload_n dX0_sumOverBegunPhases_36 rfl ?_
          refine ald7 dX0_sumOverBegunPhases_37 (by omega) (by omega) ?_
          refine K_iload_n dX0_sumOverBegunPhases_38 rfl ?_
          refine k_X0_numberOf (C_X0_numberOf2 hi (by omega) hW) (by decide) (by omega) ml_X0_101 (Nat.le_of_ble_eq_true rfl) dX0_sumOverBegunPhases_39 ?_
          refine K_iadd dX0_sumOverBegunPhases_42 ?_
          refine K_istore_n dX0_sumOverBegunPhases_43 (by decide) rfl ?_
          refine K_iincN (b := 1) dX0_sumOverBegunPhases_44 rfl rfl (by decide) rfl ?_
          refine K_goto (tgt := 4) dX0_sumOverBegunPhases_47 (by decide) ?_
          exact K_lv [0, 1, 2, 3] (by simp [lvpick, lkp, lvset, lvdel, Nat.beq, sumB, cSumOver, *]) ih_1

set_option maxHeartbeats 4000000 in
set_option maxRecDepth 100000 in
theorem C_X0_numberOf4 {l : Launch} {G : WG} {μ : Mem} {i : Nat} (hi : i < 7) {p : Nat} (hp : p < 6) (hW : WfI μ i) : Ct l G 1 yX0_numberOf cX0_numberOf 3 (some .int) [.ref (adr G 4 i 0), .ref (adr G 8 i p), .int (nI 4)] (μ) (some (.int (cNum μ i p 4))) (μ) := by
  refine Ct_of (by decide +kernel) (Nat.le_of_ble_eq_true rfl) ?_
  refine K_iload_n dX0_numberOf_0 rfl ?_
  refine K_tableIn (tgt := 67) dX0_numberOf_1 (by decide) (by decide) rfl (by decide) ?_
  refine K_aload_n dX0_numberOf_67 rfl ?_
  refine k_X2_charge (C_X2_charge (by omega) (by omega)) (by decide) (by omega) (by omega) ml_X0_105 (Nat.le_of_ble_eq_true rfl) dX0_numberOf_68 ?_
  exact K_iret dX0_numberOf_71 ⟨by rfl, rfl⟩

set_option maxHeartbeats 4000000 in
set_option maxRecDepth 100000 in
theorem C_X0_sumOver4 {l : Launch} {G : WG} {μ : Mem} {i : Nat} (hi : i < 7) {n : Nat} (hN : μ.1 4 i 0 1 = nI n) (hn : n ≤ 6) (hW : WfI μ i) : Ct l G 2 yX0_sumOverBegunPhases cX0_sumOverBegunPhases 4 (some .int) [.ref (adr G 4 i 0), .int (nI 4)] (μ) (some (.int (cSumOver μ i 4 n))) (μ) := by
  refine Ct_of (by decide +kernel) (Nat.le_of_ble_eq_true rfl) ?_
  refine K_iconstN 0 dX0_sumOverBegunPhases_0 rfl ?_
  refine K_istore_n dX0_sumOverBegunPhases_1 (by decide) rfl ?_
  refine K_iconstN 0 dX0_sumOverBegunPhases_2 rfl ?_
  refine K_istore_n dX0_sumOverBegunPhases_3 (by decide) rfl ?_
  refine K_lv [0, 1, 2, 3] rfl ?_
  refine K_for (n) (fun k => [(0, .ref (adr G 4 i 0)), (1, .int (nI 4)), (2, .int (cSumOver μ i 4 k)), (3, .int (nI k))]) (fun _ => μ) ?_ ?_
  · skip
    refine K_iload_n dX0_sumOverBegunPhases_4 rfl ?_
    refine K_aload_n dX0_sumOverBegunPhases_5 rfl ?_
    refine g_X0_15 dX0_sumOverBegunPhases_6 (by omega) ?_
    refine K_top hN ?_
    refine K_icmpN_ge (by omega) (by omega) (tgt := 50) dX0_sumOverBegunPhases_9 (by decide) (fun c9 => ?_) (fun c9 => ?_)
    · skip
      refine K_iload_n dX0_sumOverBegunPhases_50 rfl ?_
      exact K_iret dX0_sumOverBegunPhases_51 ⟨by rfl, rfl⟩
    · skip
      exfalso; omega
  · intro k hk_k ih_1
    refine K_iload_n dX0_sumOverBegunPhases_4 rfl ?_
    refine K_aload_n dX0_sumOverBegunPhases_5 rfl ?_
    refine g_X0_15 dX0_sumOverBegunPhases_6 (by omega) ?_
    refine K_top hN ?_
    refine K_icmpN_ge (by omega) (by omega) (tgt := 50) dX0_sumOverBegunPhases_9 (by decide) (fun c9 => ?_) (fun c9 => ?_)
    · skip
      exfalso; omega
    · skip
      refine K_iload_n dX0_sumOverBegunPhases_12 rfl ?_
      refine K_bipush (v := nI 6) dX0_sumOverBegunPhases_13 (by decide) ?_
      refine K_icmpN_ge (by omega) (by omega) (tgt := 50) dX0_sumOverBegunPhases_15 (by decide) (fun c15 => ?_) (fun c15 => ?_)
      · skip
        exfalso; omega
      · skip
        refine K_aload_n dX0_sumOverBegunPhases_18 rfl ?_
        refine g_X0_38 dX0_sumOverBegunPhases_19 (by omega) ?_
        refine K_iload_n dX0_sumOverBegunPhases_22 rfl ?_
        refine ald7 dX0_sumOverBegunPhases_23 (by omega) (by omega) ?_
        refine k_X2_hasBegun (C_X2_hasBegun (by omega) (by omega)) (by decide) (by omega) (by omega) ml_X0_48 (Nat.le_of_ble_eq_true rfl) dX0_sumOverBegunPhases_24 ?_
        refine K_ifb_eq (tgt := 44) dX0_sumOverBegunPhases_27 (by decide) (fun c27 => ?_) (fun c27 => ?_)
        · skip
          refine K_iincN (b := 1) dX0_sumOverBegunPhases_44 rfl rfl (by decide) rfl ?_
          refine K_goto (tgt := 4) dX0_sumOverBegunPhases_47 (by decide) ?_
          exact K_lv [0, 1, 2, 3] (by simp [lvpick, lkp, lvset, lvdel, Nat.beq, sumB, cSumOver, *]) ih_1
        · skip
          refine K_iload_n dX0_sumOverBegunPhases_30 rfl ?_
          refine K_aload_n dX0_sumOverBegunPhases_31 rfl ?_
          refine K_aload_n dX0_sumOverBegunPhases_32 rfl ?_
          refine g_X0_38 dX0_sumOverBegunPhases_33 (by omega) ?_
          refine K_iload_n dX0_sumOverBegunPhases_36 rfl ?_
          refine ald7 dX0_sumOverBegunPhases_37 (by omega) (by omega) ?_
          refine K_iload_n dX0_sumOverBegunPhases_38 rfl ?_
          refine k_X0_numberOf (C_X0_numberOf4 hi (by omega) hW) (by decide) (by omega) ml_X0_101 (Nat.le_of_ble_eq_true rfl) dX0_sumOverBegunPhases_39 ?_
          refine K_iadd dX0_sumOverBegunPhases_42 ?_
          refine K_istore_n dX0_sumOverBegunPhases_43 (by decide) rfl ?_
          refine K_iincN (b := 1) dX0_sumOverBegunPhases_44 rfl rfl (by decide) rfl ?_
          refine K_goto (tgt := 4) dX0_sumOverBegunPhases_47 (by decide) ?_
          exact K_lv [0, 1, 2, 3] (by simp [lvpick, lkp, lvset, lvdel, Nat.beq, sumB, cSumOver, *]) ih_1

set_option maxHeartbeats 4000000 in
set_option maxRecDepth 100000 in
theorem C_X0_numberOf5 {l : Launch} {G : WG} {μ : Mem} {i : Nat} (hi : i < 7) {p : Nat} (hp : p < 6) (hW : WfI μ i) : Ct l G 1 yX0_numberOf cX0_numberOf 3 (some .int) [.ref (adr G 4 i 0), .ref (adr G 8 i p), .int (nI 5)] (μ) (some (.int (cNum μ i p 5))) (μ) := by
  refine Ct_of (by decide +kernel) (Nat.le_of_ble_eq_true rfl) ?_
  refine K_iload_n dX0_numberOf_0 rfl ?_
  refine K_tableIn (tgt := 72) dX0_numberOf_1 (by decide) (by decide) rfl (by decide) ?_
  refine K_aload_n dX0_numberOf_72 rfl ?_
  refine k_X2_relief (C_X2_relief (by omega) (by omega)) (by decide) (by omega) (by omega) ml_X0_108 (Nat.le_of_ble_eq_true rfl) dX0_numberOf_73 ?_
  exact K_iret dX0_numberOf_76 ⟨by rfl, rfl⟩

set_option maxHeartbeats 4000000 in
set_option maxRecDepth 100000 in
theorem C_X0_sumOver5 {l : Launch} {G : WG} {μ : Mem} {i : Nat} (hi : i < 7) {n : Nat} (hN : μ.1 4 i 0 1 = nI n) (hn : n ≤ 6) (hW : WfI μ i) : Ct l G 2 yX0_sumOverBegunPhases cX0_sumOverBegunPhases 4 (some .int) [.ref (adr G 4 i 0), .int (nI 5)] (μ) (some (.int (cSumOver μ i 5 n))) (μ) := by
  refine Ct_of (by decide +kernel) (Nat.le_of_ble_eq_true rfl) ?_
  refine K_iconstN 0 dX0_sumOverBegunPhases_0 rfl ?_
  refine K_istore_n dX0_sumOverBegunPhases_1 (by decide) rfl ?_
  refine K_iconstN 0 dX0_sumOverBegunPhases_2 rfl ?_
  refine K_istore_n dX0_sumOverBegunPhases_3 (by decide) rfl ?_
  refine K_lv [0, 1, 2, 3] rfl ?_
  refine K_for (n) (fun k => [(0, .ref (adr G 4 i 0)), (1, .int (nI 5)), (2, .int (cSumOver μ i 5 k)), (3, .int (nI k))]) (fun _ => μ) ?_ ?_
  · skip
    refine K_iload_n dX0_sumOverBegunPhases_4 rfl ?_
    refine K_aload_n dX0_sumOverBegunPhases_5 rfl ?_
    refine g_X0_15 dX0_sumOverBegunPhases_6 (by omega) ?_
    refine K_top hN ?_
    refine K_icmpN_ge (by omega) (by omega) (tgt := 50) dX0_sumOverBegunPhases_9 (by decide) (fun c9 => ?_) (fun c9 => ?_)
    · skip
      refine K_iload_n dX0_sumOverBegunPhases_50 rfl ?_
      exact K_iret dX0_sumOverBegunPhases_51 ⟨by rfl, rfl⟩
    · skip
      exfalso; omega
  · intro k hk_k ih_1
    refine K_iload_n dX0_sumOverBegunPhases_4 rfl ?_
    refine K_aload_n dX0_sumOverBegunPhases_5 rfl ?_
    refine g_X0_15 dX0_sumOverBegunPhases_6 (by omega) ?_
    refine K_top hN ?_
    refine K_icmpN_ge (by omega) (by omega) (tgt := 50) dX0_sumOverBegunPhases_9 (by decide) (fun c9 => ?_) (fun c9 => ?_)
    · skip
      exfalso; omega
    · skip
      refine K_iload_n dX0_sumOverBegunPhases_12 rfl ?_
      refine K_bipush (v := nI 6) dX0_sumOverBegunPhases_13 (by decide) ?_
      refine K_icmpN_ge (by omega) (by omega) (tgt := 50) dX0_sumOverBegunPhases_15 (by decide) (fun c15 => ?_) (fun c15 => ?_)
      · skip
        exfalso; omega
      · skip
        refine K_aload_n dX0_sumOverBegunPhases_18 rfl ?_
        refine g_X0_38 dX0_sumOverBegunPhases_19 (by omega) ?_
        refine K_iload_n dX0_sumOverBegunPhases_22 rfl ?_
        refine ald7 dX0_sumOverBegunPhases_23 (by omega) (by omega) ?_
        refine k_X2_hasBegun (C_X2_hasBegun (by omega) (by omega)) (by decide) (by omega) (by omega) ml_X0_48 (Nat.le_of_ble_eq_true rfl) dX0_sumOverBegunPhases_24 ?_
        refine K_ifb_eq (tgt := 44) dX0_sumOverBegunPhases_27 (by decide) (fun c27 => ?_) (fun c27 => ?_)
        · skip
          refine K_iincN (b := 1) dX0_sumOverBegunPhases_44 rfl rfl (by decide) rfl ?_
          refine K_goto (tgt := 4) dX0_sumOverBegunPhases_47 (by decide) ?_
          exact K_lv [0, 1, 2, 3] (by simp [lvpick, lkp, lvset, lvdel, Nat.beq, sumB, cSumOver, *]) ih_1
        · skip
          refine K_iload_n dX0_sumOverBegunPhases_30 rfl ?_
          refine K_aload_n dX0_sumOverBegunPhases_31 rfl ?_
          refine K_aload_n dX0_sumOverBegunPhases_32 rfl ?_
          refine g_X0_38 dX0_sumOverBegunPhases_33 (by omega) ?_
          refine K_iload_n dX0_sumOverBegunPhases_36 rfl ?_
          refine ald7 dX0_sumOverBegunPhases_37 (by omega) (by omega) ?_
          refine K_iload_n dX0_sumOverBegunPhases_38 rfl ?_
          refine k_X0_numberOf (C_X0_numberOf5 hi (by omega) hW) (by decide) (by omega) ml_X0_101 (Nat.le_of_ble_eq_true rfl) dX0_sumOverBegunPhases_39 ?_
          refine K_iadd dX0_sumOverBegunPhases_42 ?_
          refine K_istore_n dX0_sumOverBegunPhases_43 (by decide) rfl ?_
          refine K_iincN (b := 1) dX0_sumOverBegunPhases_44 rfl rfl (by decide) rfl ?_
          refine K_goto (tgt := 4) dX0_sumOverBegunPhases_47 (by decide) ?_
          exact K_lv [0, 1, 2, 3] (by simp [lvpick, lkp, lvset, lvdel, Nat.beq, sumB, cSumOver, *]) ih_1

set_option maxHeartbeats 4000000 in
set_option maxRecDepth 100000 in
theorem C_X0_numberOf6 {l : Launch} {G : WG} {μ : Mem} {i : Nat} (hi : i < 7) {p : Nat} (hp : p < 6) (hW : WfI μ i) : Ct l G 0 yX0_numberOf cX0_numberOf 3 (some .int) [.ref (adr G 4 i 0), .ref (adr G 8 i p), .int (nI 6)] (μ) (some (.int (cNum μ i p 6))) (μ) := by
  refine Ct_of (by decide +kernel) (Nat.le_of_ble_eq_true rfl) ?_
  refine K_iload_n dX0_numberOf_0 rfl ?_
  refine K_tableIn (tgt := 77) dX0_numberOf_1 (by decide) (by decide) rfl (by decide) ?_
  refine K_aload_n dX0_numberOf_77 rfl ?_
  refine g_X0_111 dX0_numberOf_78 (by omega) (by omega) ?_
  exact K_iret dX0_numberOf_81 ⟨by rfl, rfl⟩

set_option maxHeartbeats 4000000 in
set_option maxRecDepth 100000 in
theorem C_X0_sumOver6 {l : Launch} {G : WG} {μ : Mem} {i : Nat} (hi : i < 7) {n : Nat} (hN : μ.1 4 i 0 1 = nI n) (hn : n ≤ 6) (hW : WfI μ i) : Ct l G 1 yX0_sumOverBegunPhases cX0_sumOverBegunPhases 4 (some .int) [.ref (adr G 4 i 0), .int (nI 6)] (μ) (some (.int (cSumOver μ i 6 n))) (μ) := by
  refine Ct_of (by decide +kernel) (Nat.le_of_ble_eq_true rfl) ?_
  refine K_iconstN 0 dX0_sumOverBegunPhases_0 rfl ?_
  refine K_istore_n dX0_sumOverBegunPhases_1 (by decide) rfl ?_
  refine K_iconstN 0 dX0_sumOverBegunPhases_2 rfl ?_
  refine K_istore_n dX0_sumOverBegunPhases_3 (by decide) rfl ?_
  refine K_lv [0, 1, 2, 3] rfl ?_
  refine K_for (n) (fun k => [(0, .ref (adr G 4 i 0)), (1, .int (nI 6)), (2, .int (cSumOver μ i 6 k)), (3, .int (nI k))]) (fun _ => μ) ?_ ?_
  · skip
    refine K_iload_n dX0_sumOverBegunPhases_4 rfl ?_
    refine K_aload_n dX0_sumOverBegunPhases_5 rfl ?_
    refine g_X0_15 dX0_sumOverBegunPhases_6 (by omega) ?_
    refine K_top hN ?_
    refine K_icmpN_ge (by omega) (by omega) (tgt := 50) dX0_sumOverBegunPhases_9 (by decide) (fun c9 => ?_) (fun c9 => ?_)
    · skip
      refine K_iload_n dX0_sumOverBegunPhases_50 rfl ?_
      exact K_iret dX0_sumOverBegunPhases_51 ⟨by rfl, rfl⟩
    · skip
      exfalso; omega
  · intro k hk_k ih_1
    refine K_iload_n dX0_sumOverBegunPhases_4 rfl ?_
    refine K_aload_n dX0_sumOverBegunPhases_5 rfl ?_
    refine g_X0_15 dX0_sumOverBegunPhases_6 (by omega) ?_
    refine K_top hN ?_
    refine K_icmpN_ge (by omega) (by omega) (tgt := 50) dX0_sumOverBegunPhases_9 (by decide) (fun c9 => ?_) (fun c9 => ?_)
    · skip
      exfalso; omega
    · skip
      refine K_iload_n dX0_sumOverBegunPhases_12 rfl ?_
      refine K_bipush (v := nI 6) dX0_sumOverBegunPhases_13 (by decide) ?_
      refine K_icmpN_ge (by omega) (by omega) (tgt := 50) dX0_sumOverBegunPhases_15 (by decide) (fun c15 => ?_) (fun c15 => ?_)
      · skip
        exfalso; omega
      · skip
        refine K_aload_n dX0_sumOverBegunPhases_18 rfl ?_
        refine g_X0_38 dX0_sumOverBegunPhases_19 (by omega) ?_
        refine K_iload_n dX0_sumOverBegunPhases_22 rfl ?_
        refine ald7 dX0_sumOverBegunPhases_23 (by omega) (by omega) ?_
        refine k_X2_hasBegun (C_X2_hasBegun (by omega) (by omega)) (by decide) (by omega) (by omega) ml_X0_48 (Nat.le_of_ble_eq_true rfl) dX0_sumOverBegunPhases_24 ?_
        refine K_ifb_eq (tgt := 44) dX0_sumOverBegunPhases_27 (by decide) (fun c27 => ?_) (fun c27 => ?_)
        · skip
          refine K_iincN (b := 1) dX0_sumOverBegunPhases_44 rfl rfl (by decide) rfl ?_
          refine K_goto (tgt := 4) dX0_sumOverBegunPhases_47 (by decide) ?_
          exact K_lv [0, 1, 2, 3] (by simp [lvpick, lkp, lvset, lvdel, Nat.beq, sumB, cSumOver, *]) ih_1
        · skip
          refine K_iload_n dX0_sumOverBegunPhases_30 rfl ?_
          refine K_aload_n dX0_sumOverBegunPhases_31 rfl ?_
          refine K_aload_n dX0_sumOverBegunPhases_32 rfl ?_
          refine g_X0_38 dX0_sumOverBegunPhases_33 (by omega) ?_
          refine K_iload_n dX0_sumOverBegunPhases_36 rfl ?_
          refine ald7 dX0_sumOverBegunPhases_37 (by omega) (by omega) ?_
          refine K_iload_n dX0_sumOverBegunPhases_38 rfl ?_
          refine k_X0_numberOf (C_X0_numberOf6 hi (by omega) hW) (by decide) (by omega) ml_X0_101 (Nat.le_of_ble_eq_true rfl) dX0_sumOverBegunPhases_39 ?_
          refine K_iadd dX0_sumOverBegunPhases_42 ?_
          refine K_istore_n dX0_sumOverBegunPhases_43 (by decide) rfl ?_
          refine K_iincN (b := 1) dX0_sumOverBegunPhases_44 rfl rfl (by decide) rfl ?_
          refine K_goto (tgt := 4) dX0_sumOverBegunPhases_47 (by decide) ?_
          exact K_lv [0, 1, 2, 3] (by simp [lvpick, lkp, lvset, lvdel, Nat.beq, sumB, cSumOver, *]) ih_1

set_option maxHeartbeats 4000000 in
set_option maxRecDepth 100000 in
theorem C_X0_numberOf7 {l : Launch} {G : WG} {μ : Mem} {i : Nat} (hi : i < 7) {p : Nat} (hp : p < 6) (hW : WfI μ i) : Ct l G 0 yX0_numberOf cX0_numberOf 3 (some .int) [.ref (adr G 4 i 0), .ref (adr G 8 i p), .int (nI 7)] (μ) (some (.int (cNum μ i p 7))) (μ) := by
  refine Ct_of (by decide +kernel) (Nat.le_of_ble_eq_true rfl) ?_
  refine K_iload_n dX0_numberOf_0 rfl ?_
  refine K_tableIn (tgt := 82) dX0_numberOf_1 (by decide) (by decide) rfl (by decide) ?_
  refine K_aload_n dX0_numberOf_82 rfl ?_
  refine g_X0_114 dX0_numberOf_83 (by omega) (by omega) ?_
  exact K_iret dX0_numberOf_86 ⟨by rfl, rfl⟩

set_option maxHeartbeats 4000000 in
set_option maxRecDepth 100000 in
theorem C_X0_sumOver7 {l : Launch} {G : WG} {μ : Mem} {i : Nat} (hi : i < 7) {n : Nat} (hN : μ.1 4 i 0 1 = nI n) (hn : n ≤ 6) (hW : WfI μ i) : Ct l G 1 yX0_sumOverBegunPhases cX0_sumOverBegunPhases 4 (some .int) [.ref (adr G 4 i 0), .int (nI 7)] (μ) (some (.int (cSumOver μ i 7 n))) (μ) := by
  refine Ct_of (by decide +kernel) (Nat.le_of_ble_eq_true rfl) ?_
  refine K_iconstN 0 dX0_sumOverBegunPhases_0 rfl ?_
  refine K_istore_n dX0_sumOverBegunPhases_1 (by decide) rfl ?_
  refine K_iconstN 0 dX0_sumOverBegunPhases_2 rfl ?_
  refine K_istore_n dX0_sumOverBegunPhases_3 (by decide) rfl ?_
  refine K_lv [0, 1, 2, 3] rfl ?_
  refine K_for (n) (fun k => [(0, .ref (adr G 4 i 0)), (1, .int (nI 7)), (2, .int (cSumOver μ i 7 k)), (3, .int (nI k))]) (fun _ => μ) ?_ ?_
  · skip
    refine K_iload_n dX0_sumOverBegunPhases_4 rfl ?_
    refine K_aload_n dX0_sumOverBegunPhases_5 rfl ?_
    refine g_X0_15 dX0_sumOverBegunPhases_6 (by omega) ?_
    refine K_top hN ?_
    refine K_icmpN_ge (by omega) (by omega) (tgt := 50) dX0_sumOverBegunPhases_9 (by decide) (fun c9 => ?_) (fun c9 => ?_)
    · skip
      refine K_iload_n dX0_sumOverBegunPhases_50 rfl ?_
      exact K_iret dX0_sumOverBegunPhases_51 ⟨by rfl, rfl⟩
    · skip
      exfalso; omega
  · intro k hk_k ih_1
    refine K_iload_n dX0_sumOverBegunPhases_4 rfl ?_
    refine K_aload_n dX0_sumOverBegunPhases_5 rfl ?_
    refine g_X0_15 dX0_sumOverBegunPhases_6 (by omega) ?_
    refine K_top hN ?_
    refine K_icmpN_ge (by omega) (by omega) (tgt := 50) dX0_sumOverBegunPhases_9 (by decide) (fun c9 => ?_) (fun c9 => ?_)
    · skip
      exfalso; omega
    · skip
      refine K_iload_n dX0_sumOverBegunPhases_12 rfl ?_
      refine K_bipush (v := nI 6) dX0_sumOverBegunPhases_13 (by decide) ?_
      refine K_icmpN_ge (by omega) (by omega) (tgt := 50) dX0_sumOverBegunPhases_15 (by decide) (fun c15 => ?_) (fun c15 => ?_)
      · skip
        exfalso; omega
      · skip
        refine K_aload_n dX0_sumOverBegunPhases_18 rfl ?_
        refine g_X0_38 dX0_sumOverBegunPhases_19 (by omega) ?_
        refine K_iload_n dX0_sumOverBegunPhases_22 rfl ?_
        refine ald7 dX0_sumOverBegunPhases_23 (by omega) (by omega) ?_
        refine k_X2_hasBegun (C_X2_hasBegun (by omega) (by omega)) (by decide) (by omega) (by omega) ml_X0_48 (Nat.le_of_ble_eq_true rfl) dX0_sumOverBegunPhases_24 ?_
        refine K_ifb_eq (tgt := 44) dX0_sumOverBegunPhases_27 (by decide) (fun c27 => ?_) (fun c27 => ?_)
        · skip
          refine K_iincN (b := 1) dX0_sumOverBegunPhases_44 rfl rfl (by decide) rfl ?_
          refine K_goto (tgt := 4) dX0_sumOverBegunPhases_47 (by decide) ?_
          exact K_lv [0, 1, 2, 3] (by simp [lvpick, lkp, lvset, lvdel, Nat.beq, sumB, cSumOver, *]) ih_1
        · skip
          refine K_iload_n dX0_sumOverBegunPhases_30 rfl ?_
          refine K_aload_n dX0_sumOverBegunPhases_31 rfl ?_
          refine K_aload_n dX0_sumOverBegunPhases_32 rfl ?_
          refine g_X0_38 dX0_sumOverBegunPhases_33 (by omega) ?_
          refine K_iload_n dX0_sumOverBegunPhases_36 rfl ?_
          refine ald7 dX0_sumOverBegunPhases_37 (by omega) (by omega) ?_
          refine K_iload_n dX0_sumOverBegunPhases_38 rfl ?_
          refine k_X0_numberOf (C_X0_numberOf7 hi (by omega) hW) (by decide) (by omega) ml_X0_101 (Nat.le_of_ble_eq_true rfl) dX0_sumOverBegunPhases_39 ?_
          refine K_iadd dX0_sumOverBegunPhases_42 ?_
          refine K_istore_n dX0_sumOverBegunPhases_43 (by decide) rfl ?_
          refine K_iincN (b := 1) dX0_sumOverBegunPhases_44 rfl rfl (by decide) rfl ?_
          refine K_goto (tgt := 4) dX0_sumOverBegunPhases_47 (by decide) ?_
          exact K_lv [0, 1, 2, 3] (by simp [lvpick, lkp, lvset, lvdel, Nat.beq, sumB, cSumOver, *]) ih_1

set_option maxHeartbeats 4000000 in
set_option maxRecDepth 100000 in
theorem C_X0_numberOf8 {l : Launch} {G : WG} {μ : Mem} {i : Nat} (hi : i < 7) {p : Nat} (hp : p < 6) (hW : WfI μ i) : Ct l G 0 yX0_numberOf cX0_numberOf 3 (some .int) [.ref (adr G 4 i 0), .ref (adr G 8 i p), .int (nI 8)] (μ) (some (.int (cNum μ i p 8))) (μ) := by
  refine Ct_of (by decide +kernel) (Nat.le_of_ble_eq_true rfl) ?_
  refine K_iload_n dX0_numberOf_0 rfl ?_
  refine K_tableIn (tgt := 87) dX0_numberOf_1 (by decide) (by decide) rfl (by decide) ?_
  refine K_aload_n dX0_numberOf_87 rfl ?_
  refine g_X0_67 dX0_numberOf_88 (by omega) (by omega) ?_
  exact K_iret dX0_numberOf_91 ⟨by rfl, rfl⟩

set_option maxHeartbeats 4000000 in
set_option maxRecDepth 100000 in
theorem C_X0_sumOver8 {l : Launch} {G : WG} {μ : Mem} {i : Nat} (hi : i < 7) {n : Nat} (hN : μ.1 4 i 0 1 = nI n) (hn : n ≤ 6) (hW : WfI μ i) : Ct l G 1 yX0_sumOverBegunPhases cX0_sumOverBegunPhases 4 (some .int) [.ref (adr G 4 i 0), .int (nI 8)] (μ) (some (.int (cSumOver μ i 8 n))) (μ) := by
  refine Ct_of (by decide +kernel) (Nat.le_of_ble_eq_true rfl) ?_
  refine K_iconstN 0 dX0_sumOverBegunPhases_0 rfl ?_
  refine K_istore_n dX0_sumOverBegunPhases_1 (by decide) rfl ?_
  refine K_iconstN 0 dX0_sumOverBegunPhases_2 rfl ?_
  refine K_istore_n dX0_sumOverBegunPhases_3 (by decide) rfl ?_
  refine K_lv [0, 1, 2, 3] rfl ?_
  refine K_for (n) (fun k => [(0, .ref (adr G 4 i 0)), (1, .int (nI 8)), (2, .int (cSumOver μ i 8 k)), (3, .int (nI k))]) (fun _ => μ) ?_ ?_
  · skip
    refine K_iload_n dX0_sumOverBegunPhases_4 rfl ?_
    refine K_aload_n dX0_sumOverBegunPhases_5 rfl ?_
    refine g_X0_15 dX0_sumOverBegunPhases_6 (by omega) ?_
    refine K_top hN ?_
    refine K_icmpN_ge (by omega) (by omega) (tgt := 50) dX0_sumOverBegunPhases_9 (by decide) (fun c9 => ?_) (fun c9 => ?_)
    · skip
      refine K_iload_n dX0_sumOverBegunPhases_50 rfl ?_
      exact K_iret dX0_sumOverBegunPhases_51 ⟨by rfl, rfl⟩
    · skip
      exfalso; omega
  · intro k hk_k ih_1
    refine K_iload_n dX0_sumOverBegunPhases_4 rfl ?_
    refine K_aload_n dX0_sumOverBegunPhases_5 rfl ?_
    refine g_X0_15 dX0_sumOverBegunPhases_6 (by omega) ?_
    refine K_top hN ?_
    refine K_icmpN_ge (by omega) (by omega) (tgt := 50) dX0_sumOverBegunPhases_9 (by decide) (fun c9 => ?_) (fun c9 => ?_)
    · skip
      exfalso; omega
    · skip
      refine K_iload_n dX0_sumOverBegunPhases_12 rfl ?_
      refine K_bipush (v := nI 6) dX0_sumOverBegunPhases_13 (by decide) ?_
      refine K_icmpN_ge (by omega) (by omega) (tgt := 50) dX0_sumOverBegunPhases_15 (by decide) (fun c15 => ?_) (fun c15 => ?_)
      · skip
        exfalso; omega
      · skip
        refine K_aload_n dX0_sumOverBegunPhases_18 rfl ?_
        refine g_X0_38 dX0_sumOverBegunPhases_19 (by omega) ?_
        refine K_iload_n dX0_sumOverBegunPhases_22 rfl ?_
        refine ald7 dX0_sumOverBegunPhases_23 (by omega) (by omega) ?_
        refine k_X2_hasBegun (C_X2_hasBegun (by omega) (by omega)) (by decide) (by omega) (by omega) ml_X0_48 (Nat.le_of_ble_eq_true rfl) dX0_sumOverBegunPhases_24 ?_
        refine K_ifb_eq (tgt := 44) dX0_sumOverBegunPhases_27 (by decide) (fun c27 => ?_) (fun c27 => ?_)
        · skip
          refine K_iincN (b := 1) dX0_sumOverBegunPhases_44 rfl rfl (by decide) rfl ?_
          refine K_goto (tgt := 4) dX0_sumOverBegunPhases_47 (by decide) ?_
          exact K_lv [0, 1, 2, 3] (by simp [lvpick, lkp, lvset, lvdel, Nat.beq, sumB, cSumOver, *]) ih_1
        · skip
          refine K_iload_n dX0_sumOverBegunPhases_30 rfl ?_
          refine K_aload_n dX0_sumOverBegunPhases_31 rfl ?_
          refine K_aload_n dX0_sumOverBegunPhases_32 rfl ?_
          refine g_X0_38 dX0_sumOverBegunPhases_33 (by omega) ?_
          refine K_iload_n dX0_sumOverBegunPhases_36 rfl ?_
          refine ald7 dX0_sumOverBegunPhases_37 (by omega) (by omega) ?_
          refine K_iload_n dX0_sumOverBegunPhases_38 rfl ?_
          refine k_X0_numberOf (C_X0_numberOf8 hi (by omega) hW) (by decide) (by omega) ml_X0_101 (Nat.le_of_ble_eq_true rfl) dX0_sumOverBegunPhases_39 ?_
          refine K_iadd dX0_sumOverBegunPhases_42 ?_
          refine K_istore_n dX0_sumOverBegunPhases_43 (by decide) rfl ?_
          refine K_iincN (b := 1) dX0_sumOverBegunPhases_44 rfl rfl (by decide) rfl ?_
          refine K_goto (tgt := 4) dX0_sumOverBegunPhases_47 (by decide) ?_
          exact K_lv [0, 1, 2, 3] (by simp [lvpick, lkp, lvset, lvdel, Nat.beq, sumB, cSumOver, *]) ih_1

set_option maxHeartbeats 4000000 in
set_option maxRecDepth 100000 in
theorem C_X0_numberOf9 {l : Launch} {G : WG} {μ : Mem} {i : Nat} (hi : i < 7) {p : Nat} (hp : p < 6) (hW : WfI μ i) : Ct l G 2 yX0_numberOf cX0_numberOf 3 (some .int) [.ref (adr G 4 i 0), .ref (adr G 8 i p), .int (nI 9)] (μ) (some (.int (cNum μ i p 9))) (μ) := by
  refine Ct_of (by decide +kernel) (Nat.le_of_ble_eq_true rfl) ?_
  refine K_iload_n dX0_numberOf_0 rfl ?_
  refine K_tableIn (tgt := 92) dX0_numberOf_1 (by decide) (by decide) rfl (by decide) ?_
  refine K_aload_n dX0_numberOf_92 rfl ?_
  refine k_X2_owed (C_X2_owed (by omega) (by omega)) (by decide) (by omega) (by omega) ml_X0_74 (Nat.le_of_ble_eq_true rfl) dX0_numberOf_93 ?_
  exact K_iret dX0_numberOf_96 ⟨by rfl, rfl⟩

set_option maxHeartbeats 4000000 in
set_option maxRecDepth 100000 in
theorem C_X0_sumOver9 {l : Launch} {G : WG} {μ : Mem} {i : Nat} (hi : i < 7) {n : Nat} (hN : μ.1 4 i 0 1 = nI n) (hn : n ≤ 6) (hW : WfI μ i) : Ct l G 3 yX0_sumOverBegunPhases cX0_sumOverBegunPhases 4 (some .int) [.ref (adr G 4 i 0), .int (nI 9)] (μ) (some (.int (cSumOver μ i 9 n))) (μ) := by
  refine Ct_of (by decide +kernel) (Nat.le_of_ble_eq_true rfl) ?_
  refine K_iconstN 0 dX0_sumOverBegunPhases_0 rfl ?_
  refine K_istore_n dX0_sumOverBegunPhases_1 (by decide) rfl ?_
  refine K_iconstN 0 dX0_sumOverBegunPhases_2 rfl ?_
  refine K_istore_n dX0_sumOverBegunPhases_3 (by decide) rfl ?_
  refine K_lv [0, 1, 2, 3] rfl ?_
  refine K_for (n) (fun k => [(0, .ref (adr G 4 i 0)), (1, .int (nI 9)), (2, .int (cSumOver μ i 9 k)), (3, .int (nI k))]) (fun _ => μ) ?_ ?_
  · skip
    refine K_iload_n dX0_sumOverBegunPhases_4 rfl ?_
    refine K_aload_n dX0_sumOverBegunPhases_5 rfl ?_
    refine g_X0_15 dX0_sumOverBegunPhases_6 (by omega) ?_
    refine K_top hN ?_
    refine K_icmpN_ge (by omega) (by omega) (tgt := 50) dX0_sumOverBegunPhases_9 (by decide) (fun c9 => ?_) (fun c9 => ?_)
    · skip
      refine K_iload_n dX0_sumOverBegunPhases_50 rfl ?_
      exact K_iret dX0_sumOverBegunPhases_51 ⟨by rfl, rfl⟩
    · skip
      exfalso; omega
  · intro k hk_k ih_1
    refine K_iload_n dX0_sumOverBegunPhases_4 rfl ?_
    refine K_aload_n dX0_sumOverBegunPhases_5 rfl ?_
    refine g_X0_15 dX0_sumOverBegunPhases_6 (by omega) ?_
    refine K_top hN ?_
    refine K_icmpN_ge (by omega) (by omega) (tgt := 50) dX0_sumOverBegunPhases_9 (by decide) (fun c9 => ?_) (fun c9 => ?_)
    · skip
      exfalso; omega
    · skip
      refine K_iload_n dX0_sumOverBegunPhases_12 rfl ?_
      refine K_bipush (v := nI 6) dX0_sumOverBegunPhases_13 (by decide) ?_
      refine K_icmpN_ge (by omega) (by omega) (tgt := 50) dX0_sumOverBegunPhases_15 (by decide) (fun c15 => ?_) (fun c15 => ?_)
      · skip
        exfalso; omega
      · skip
        refine K_aload_n dX0_sumOverBegunPhases_18 rfl ?_
        refine g_X0_38 dX0_sumOverBegunPhases_19 (by omega) ?_
        refine K_iload_n dX0_sumOverBegunPhases_22 rfl ?_
        refine ald7 dX0_sumOverBegunPhases_23 (by omega) (by omega) ?_
        refine k_X2_hasBegun (C_X2_hasBegun (by omega) (by omega)) (by decide) (by omega) (by omega) ml_X0_48 (Nat.le_of_ble_eq_true rfl) dX0_sumOverBegunPhases_24 ?_
        refine K_ifb_eq (tgt := 44) dX0_sumOverBegunPhases_27 (by decide) (fun c27 => ?_) (fun c27 => ?_)
        · skip
          refine K_iincN (b := 1) dX0_sumOverBegunPhases_44 rfl rfl (by decide) rfl ?_
          refine K_goto (tgt := 4) dX0_sumOverBegunPhases_47 (by decide) ?_
          exact K_lv [0, 1, 2, 3] (by simp [lvpick, lkp, lvset, lvdel, Nat.beq, sumB, cSumOver, *]) ih_1
        · skip
          refine K_iload_n dX0_sumOverBegunPhases_30 rfl ?_
          refine K_aload_n dX0_sumOverBegunPhases_31 rfl ?_
          refine K_aload_n dX0_sumOverBegunPhases_32 rfl ?_
          refine g_X0_38 dX0_sumOverBegunPhases_33 (by omega) ?_
          refine K_iload_n dX0_sumOverBegunPhases_36 rfl ?_
          refine ald7 dX0_sumOverBegunPhases_37 (by omega) (by omega) ?_
          refine K_iload_n dX0_sumOverBegunPhases_38 rfl ?_
          refine k_X0_numberOf (C_X0_numberOf9 hi (by omega) hW) (by decide) (by omega) ml_X0_101 (Nat.le_of_ble_eq_true rfl) dX0_sumOverBegunPhases_39 ?_
          refine K_iadd dX0_sumOverBegunPhases_42 ?_
          refine K_istore_n dX0_sumOverBegunPhases_43 (by decide) rfl ?_
          refine K_iincN (b := 1) dX0_sumOverBegunPhases_44 rfl rfl (by decide) rfl ?_
          refine K_goto (tgt := 4) dX0_sumOverBegunPhases_47 (by decide) ?_
          exact K_lv [0, 1, 2, 3] (by simp [lvpick, lkp, lvset, lvdel, Nat.beq, sumB, cSumOver, *]) ih_1

set_option maxHeartbeats 4000000 in
set_option maxRecDepth 100000 in
theorem C_X0_numberOf10 {l : Launch} {G : WG} {μ : Mem} {i : Nat} (hi : i < 7) {p : Nat} (hp : p < 6) (hW : WfI μ i) : Ct l G 3 yX0_numberOf cX0_numberOf 3 (some .int) [.ref (adr G 4 i 0), .ref (adr G 8 i p), .int (nI 10)] (μ) (some (.int (cNum μ i p 10))) (μ) := by
  refine Ct_of (by decide +kernel) (Nat.le_of_ble_eq_true rfl) ?_
  refine K_iload_n dX0_numberOf_0 rfl ?_
  refine K_tableOut (tgt := 97) dX0_numberOf_1 (by decide) (by decide) ?_
  refine K_aload_n dX0_numberOf_97 rfl ?_
  refine K_aload_n dX0_numberOf_98 rfl ?_
  refine g_X0_9 dX0_numberOf_99 (by omega) ?_
  refine k_X2_dueOn (C_X2_dueOn hi hp (hW p hp).1 (hW p hp).2) (by decide) (by omega) (by omega) ml_X0_117 (Nat.le_of_ble_eq_true rfl) dX0_numberOf_102 ?_
  exact K_iret dX0_numberOf_105 ⟨by rfl, rfl⟩

set_option maxHeartbeats 4000000 in
set_option maxRecDepth 100000 in
theorem C_X0_sumOver10 {l : Launch} {G : WG} {μ : Mem} {i : Nat} (hi : i < 7) {n : Nat} (hN : μ.1 4 i 0 1 = nI n) (hn : n ≤ 6) (hW : WfI μ i) : Ct l G 4 yX0_sumOverBegunPhases cX0_sumOverBegunPhases 4 (some .int) [.ref (adr G 4 i 0), .int (nI 10)] (μ) (some (.int (cSumOver μ i 10 n))) (μ) := by
  refine Ct_of (by decide +kernel) (Nat.le_of_ble_eq_true rfl) ?_
  refine K_iconstN 0 dX0_sumOverBegunPhases_0 rfl ?_
  refine K_istore_n dX0_sumOverBegunPhases_1 (by decide) rfl ?_
  refine K_iconstN 0 dX0_sumOverBegunPhases_2 rfl ?_
  refine K_istore_n dX0_sumOverBegunPhases_3 (by decide) rfl ?_
  refine K_lv [0, 1, 2, 3] rfl ?_
  refine K_for (n) (fun k => [(0, .ref (adr G 4 i 0)), (1, .int (nI 10)), (2, .int (cSumOver μ i 10 k)), (3, .int (nI k))]) (fun _ => μ) ?_ ?_
  · skip
    refine K_iload_n dX0_sumOverBegunPhases_4 rfl ?_
    refine K_aload_n dX0_sumOverBegunPhases_5 rfl ?_
    refine g_X0_15 dX0_sumOverBegunPhases_6 (by omega) ?_
    refine K_top hN ?_
    refine K_icmpN_ge (by omega) (by omega) (tgt := 50) dX0_sumOverBegunPhases_9 (by decide) (fun c9 => ?_) (fun c9 => ?_)
    · skip
      refine K_iload_n dX0_sumOverBegunPhases_50 rfl ?_
      exact K_iret dX0_sumOverBegunPhases_51 ⟨by rfl, rfl⟩
    · skip
      exfalso; omega
  · intro k hk_k ih_1
    refine K_iload_n dX0_sumOverBegunPhases_4 rfl ?_
    refine K_aload_n dX0_sumOverBegunPhases_5 rfl ?_
    refine g_X0_15 dX0_sumOverBegunPhases_6 (by omega) ?_
    refine K_top hN ?_
    refine K_icmpN_ge (by omega) (by omega) (tgt := 50) dX0_sumOverBegunPhases_9 (by decide) (fun c9 => ?_) (fun c9 => ?_)
    · skip
      exfalso; omega
    · skip
      refine K_iload_n dX0_sumOverBegunPhases_12 rfl ?_
      refine K_bipush (v := nI 6) dX0_sumOverBegunPhases_13 (by decide) ?_
      refine K_icmpN_ge (by omega) (by omega) (tgt := 50) dX0_sumOverBegunPhases_15 (by decide) (fun c15 => ?_) (fun c15 => ?_)
      · skip
        exfalso; omega
      · skip
        refine K_aload_n dX0_sumOverBegunPhases_18 rfl ?_
        refine g_X0_38 dX0_sumOverBegunPhases_19 (by omega) ?_
        refine K_iload_n dX0_sumOverBegunPhases_22 rfl ?_
        refine ald7 dX0_sumOverBegunPhases_23 (by omega) (by omega) ?_
        refine k_X2_hasBegun (C_X2_hasBegun (by omega) (by omega)) (by decide) (by omega) (by omega) ml_X0_48 (Nat.le_of_ble_eq_true rfl) dX0_sumOverBegunPhases_24 ?_
        refine K_ifb_eq (tgt := 44) dX0_sumOverBegunPhases_27 (by decide) (fun c27 => ?_) (fun c27 => ?_)
        · skip
          refine K_iincN (b := 1) dX0_sumOverBegunPhases_44 rfl rfl (by decide) rfl ?_
          refine K_goto (tgt := 4) dX0_sumOverBegunPhases_47 (by decide) ?_
          exact K_lv [0, 1, 2, 3] (by simp [lvpick, lkp, lvset, lvdel, Nat.beq, sumB, cSumOver, *]) ih_1
        · skip
          refine K_iload_n dX0_sumOverBegunPhases_30 rfl ?_
          refine K_aload_n dX0_sumOverBegunPhases_31 rfl ?_
          refine K_aload_n dX0_sumOverBegunPhases_32 rfl ?_
          refine g_X0_38 dX0_sumOverBegunPhases_33 (by omega) ?_
          refine K_iload_n dX0_sumOverBegunPhases_36 rfl ?_
          refine ald7 dX0_sumOverBegunPhases_37 (by omega) (by omega) ?_
          refine K_iload_n dX0_sumOverBegunPhases_38 rfl ?_
          refine k_X0_numberOf (C_X0_numberOf10 hi (by omega) hW) (by decide) (by omega) ml_X0_101 (Nat.le_of_ble_eq_true rfl) dX0_sumOverBegunPhases_39 ?_
          refine K_iadd dX0_sumOverBegunPhases_42 ?_
          refine K_istore_n dX0_sumOverBegunPhases_43 (by decide) rfl ?_
          refine K_iincN (b := 1) dX0_sumOverBegunPhases_44 rfl rfl (by decide) rfl ?_
          refine K_goto (tgt := 4) dX0_sumOverBegunPhases_47 (by decide) ?_
          exact K_lv [0, 1, 2, 3] (by simp [lvpick, lkp, lvset, lvdel, Nat.beq, sumB, cSumOver, *]) ih_1

set_option maxHeartbeats 4000000 in
set_option maxRecDepth 100000 in
theorem C_X0_appendPhase {l : Launch} {G : WG} {μ : Mem} {i : Nat} (hi : i < 7) {n : Nat} (hN : μ.1 4 i 0 1 = nI n) (hn : n < 6) : Ct l G 0 yX0_appendPhase cX0_appendPhase 3 (some .int) [.ref (adr G 4 i 0)] (μ) (some (.int (nI n))) (cAppend μ i n) := by
  refine Ct_of (by decide +kernel) (Nat.le_of_ble_eq_true rfl) ?_
  refine K_aload_n dX0_appendPhase_0 rfl ?_
  refine g_X0_15 dX0_appendPhase_1 (by omega) ?_
  refine K_top hN ?_
  refine K_istore_n dX0_appendPhase_4 (by decide) rfl ?_
  refine K_iload_n dX0_appendPhase_5 rfl ?_
  refine K_bipush (v := nI 6) dX0_appendPhase_6 (by decide) ?_
  refine K_icmpN_ge (by omega) (by omega) (tgt := 51) dX0_appendPhase_8 (by decide) (fun c8 => ?_) (fun c8 => ?_)
  · skip
    exfalso; omega
  · skip
    refine K_iconstN 0 dX0_appendPhase_11 rfl ?_
    refine K_istore_n dX0_appendPhase_12 (by decide) rfl ?_
    refine K_lv [0, 1, 2] rfl ?_
    refine K_for (4) (fun k => [(0, .ref (adr G 4 i 0)), (1, .int (nI n)), (2, .int (nI k))]) (fun k => appK μ i n k) ?_ ?_
    · skip
      refine K_iload_n dX0_appendPhase_13 rfl ?_
      refine K_iconstN 4 dX0_appendPhase_14 rfl ?_
      refine K_icmpN_ge (by omega) (by omega) (tgt := 41) dX0_appendPhase_15 (by decide) (fun c15 => ?_) (fun c15 => ?_)
      · skip
        refine K_aload_n dX0_appendPhase_41 rfl ?_
        refine K_dup dX0_appendPhase_42 rfl ?_
        refine g_X0_15 dX0_appendPhase_43 (by omega) ?_
        refine K_top (show _ = nI n by rw [appK_tag (by decide)]; exact hN) ?_
        refine K_iconstN 1 dX0_appendPhase_46 rfl ?_
        refine K_iaddN dX0_appendPhase_47 ?_
        refine p_X0_15 dX0_appendPhase_48 (by omega) ?_
        refine K_iload_n dX0_appendPhase_51 rfl ?_
        exact K_iret dX0_appendPhase_52 ⟨by rfl, rfl⟩
      · skip
        exfalso; omega
    · intro k hk_k ih_1
      refine K_iload_n dX0_appendPhase_13 rfl ?_
      refine K_iconstN 4 dX0_appendPhase_14 rfl ?_
      refine K_icmpN_ge (by omega) (by omega) (tgt := 41) dX0_appendPhase_15 (by decide) (fun c15 => ?_) (fun c15 => ?_)
      · skip
        exfalso; omega
      · skip
        refine K_aload_n dX0_appendPhase_18 rfl ?_
        refine g_X0_38 dX0_appendPhase_19 (by omega) ?_
        refine K_iload_n dX0_appendPhase_22 rfl ?_
        refine ald7 dX0_appendPhase_23 (by omega) (by omega) ?_
        refine g_X0_47 dX0_appendPhase_24 (by omega) (by omega) ?_
        refine K_iload_n dX0_appendPhase_27 rfl ?_
        refine K_aload_n dX0_appendPhase_28 rfl ?_
        refine g_X0_27 dX0_appendPhase_29 (by omega) ?_
        refine K_iload_n dX0_appendPhase_32 rfl ?_
        refine ald5 dX0_appendPhase_33 (by omega) (by omega) ?_
        refine ast11 dX0_appendPhase_34 (by omega) (by omega) (by omega) ?_
        refine K_iincN (b := 1) dX0_appendPhase_35 rfl rfl (by decide) rfl ?_
        refine K_goto (tgt := 13) dX0_appendPhase_38 (by decide) ?_
        exact K_lv [0, 1, 2] rfl ih_1

set_option maxHeartbeats 4000000 in
set_option maxRecDepth 100000 in
theorem C_X0_changeRate {l : Launch} {G : WG} {μ : Mem} {i : Nat} (hi : i < 7) {u : Nat} {a : Int32} (hu : u < 4) {n : Nat} (hN : μ.1 4 i 0 1 = nI n) (hn : n ≤ 6) : Ct l G 1 yX0_changeRate cX0_changeRate 5 (some .int) [.ref (adr G 4 i 0), .int (nI u), .int (a)] (μ) (some (.int (μ.1 5 i 0 u))) (rateK μ i u a n) := by
  refine Ct_of (by decide +kernel) (Nat.le_of_ble_eq_true rfl) ?_
  refine K_aload_n dX0_changeRate_0 rfl ?_
  refine g_X0_27 dX0_changeRate_1 (by omega) ?_
  refine K_iload_n dX0_changeRate_4 rfl ?_
  refine ald5 dX0_changeRate_5 (by omega) (by omega) ?_
  refine K_istore_n dX0_changeRate_6 (by decide) rfl ?_
  refine K_aload_n dX0_changeRate_7 rfl ?_
  refine g_X0_27 dX0_changeRate_8 (by omega) ?_
  refine K_iload_n dX0_changeRate_11 rfl ?_
  refine K_iload_n dX0_changeRate_12 rfl ?_
  refine ast5 dX0_changeRate_13 (by omega) (by omega) ?_
  refine K_iconstN 0 dX0_changeRate_14 rfl ?_
  refine K_istore dX0_changeRate_15 (by decide) rfl ?_
  refine K_lv [0, 1, 2, 3, 4] rfl ?_
  refine K_for (n) (fun k => [(0, .ref (adr G 4 i 0)), (1, .int (nI u)), (2, .int a), (3, .int (μ.1 5 i 0 u)), (4, .int (nI k))]) (fun k => rateK μ i u a k) ?_ ?_
  · skip
    refine K_iload dX0_changeRate_17 rfl ?_
    refine K_aload_n dX0_changeRate_19 rfl ?_
    refine g_X0_15 dX0_changeRate_20 (by omega) ?_
    refine K_top (show _ = nI n by rw [rateK_tag (by decide) (by decide)]; exact hN) ?_
    refine K_icmpN_ge (by omega) (by omega) (tgt := 65) dX0_changeRate_23 (by decide) (fun c23 => ?_) (fun c23 => ?_)
    · skip
      refine K_iload_n dX0_changeRate_65 rfl ?_
      exact K_iret dX0_changeRate_66 ⟨by rfl, rfl⟩
    · skip
      exfalso; omega
  · intro k hk_k ih_1
    refine K_iload dX0_changeRate_17 rfl ?_
    refine K_aload_n dX0_changeRate_19 rfl ?_
    refine g_X0_15 dX0_changeRate_20 (by omega) ?_
    refine K_top (show _ = nI n by rw [rateK_tag (by decide) (by decide)]; exact hN) ?_
    refine K_icmpN_ge (by omega) (by omega) (tgt := 65) dX0_changeRate_23 (by decide) (fun c23 => ?_) (fun c23 => ?_)
    · skip
      exfalso; omega
    · skip
      refine K_iload dX0_changeRate_26 rfl ?_
      refine K_bipush (v := nI 6) dX0_changeRate_28 (by decide) ?_
      refine K_icmpN_ge (by omega) (by omega) (tgt := 65) dX0_changeRate_30 (by decide) (fun c30 => ?_) (fun c30 => ?_)
      · skip
        exfalso; omega
      · skip
        refine K_aload_n dX0_changeRate_33 rfl ?_
        refine g_X0_38 dX0_changeRate_34 (by omega) ?_
        refine K_iload dX0_changeRate_37 rfl ?_
        refine ald7 dX0_changeRate_39 (by omega) (by omega) ?_
        refine k_X2_hasBegun (C_X2_hasBegun (by omega) (by omega)) (by decide) (by omega) (by omega) ml_X0_48 (Nat.le_of_ble_eq_true rfl) dX0_changeRate_40 ?_
        refine K_ifb_ne (tgt := 59) dX0_changeRate_43 (by decide) (fun c43 => ?_) (fun c43 => ?_)
        · skip
          refine K_iincN (b := 1) dX0_changeRate_59 rfl rfl (by decide) rfl ?_
          refine K_goto (tgt := 17) dX0_changeRate_62 (by decide) ?_
          refine K_mem (show _ = rateK μ i u a (k + 1) by simp only [rateK, c43, cond_true, cond_false]) ?_
          exact K_lv [0, 1, 2, 3, 4] rfl ih_1
        · skip
          refine K_aload_n dX0_changeRate_46 rfl ?_
          refine g_X0_38 dX0_changeRate_47 (by omega) ?_
          refine K_iload dX0_changeRate_50 rfl ?_
          refine ald7 dX0_changeRate_52 (by omega) (by omega) ?_
          refine g_X0_47 dX0_changeRate_53 (by omega) (by omega) ?_
          refine K_iload_n dX0_changeRate_56 rfl ?_
          refine K_iload_n dX0_changeRate_57 rfl ?_
          refine ast11 dX0_changeRate_58 (by omega) (by omega) (by omega) ?_
          refine K_iincN (b := 1) dX0_changeRate_59 rfl rfl (by decide) rfl ?_
          refine K_goto (tgt := 17) dX0_changeRate_62 (by decide) ?_
          refine K_mem (show _ = rateK μ i u a (k + 1) by simp only [rateK, c43, cond_true, cond_false]) ?_
          exact K_lv [0, 1, 2, 3, 4] rfl ih_1

set_option maxHeartbeats 4000000 in
set_option maxRecDepth 100000 in
theorem C_X0_beginPhase {l : Launch} {G : WG} {μ : Mem} {i : Nat} (hi : i < 7) {p : Nat} (hp : p < 6) : Ct l G 2 yX0_beginPhase cX0_beginPhase 2 (some .int) [.ref (adr G 4 i 0), .int (nI p)] (μ) (some (.int (cSum μ i p))) (cStart μ i p (μ.1 4 i 0 0) (μ.1 6 i 0 0)) := by
  refine Ct_of (by decide +kernel) (Nat.le_of_ble_eq_true rfl) ?_
  refine K_aload_n dX0_beginPhase_0 rfl ?_
  refine g_X0_38 dX0_beginPhase_1 (by omega) ?_
  refine K_iload_n dX0_beginPhase_4 rfl ?_
  refine ald7 dX0_beginPhase_5 (by omega) (by omega) ?_
  refine K_aload_n dX0_beginPhase_6 rfl ?_
  refine g_X0_9 dX0_beginPhase_7 (by omega) ?_
  refine K_aload_n dX0_beginPhase_10 rfl ?_
  refine g_X0_33 dX0_beginPhase_11 (by omega) ?_
  refine K_iconstN 0 dX0_beginPhase_14 rfl ?_
  refine ald6 dX0_beginPhase_15 (by omega) (by omega) ?_
  refine k_X2_startOn (C_X2_startOn (by omega) (by omega)) (by decide) (by omega) (by omega) ml_X0_52 (Nat.le_of_ble_eq_true rfl) dX0_beginPhase_16 ?_
  exact K_iret dX0_beginPhase_19 ⟨by rfl, rfl⟩

set_option maxHeartbeats 4000000 in
set_option maxRecDepth 100000 in
theorem C_X0_letDaysPass {l : Launch} {G : WG} {μ : Mem} {i : Nat} (hi : i < 7) {a : Int32} {n : Nat} (hN : μ.1 4 i 0 1 = nI n) (hn : n ≤ 6) (hW : WfI μ i) : Ct l G 4 yX0_letDaysPass cX0_letDaysPass 5 (some .int) [.ref (adr G 4 i 0), .int (a)] (μ) (some (.int ((passK μ i a n).2))) (cPass μ i n a) := by
  refine Ct_of (by decide +kernel) (Nat.le_of_ble_eq_true rfl) ?_
  refine K_iconstN 0 dX0_letDaysPass_0 rfl ?_
  refine K_istore_n dX0_letDaysPass_1 (by decide) rfl ?_
  refine K_iconstN 0 dX0_letDaysPass_2 rfl ?_
  refine K_istore_n dX0_letDaysPass_3 (by decide) rfl ?_
  refine K_lv [0, 1, 2, 3] rfl ?_
  refine K_for (n) (fun k => [(0, .ref (adr G 4 i 0)), (1, .int a), (2, .int (passK μ i a k).2), (3, .int (nI k))]) (fun k => (passK μ i a k).1) ?_ ?_
  · skip
    refine K_iload_n dX0_letDaysPass_4 rfl ?_
    refine K_aload_n dX0_letDaysPass_5 rfl ?_
    refine g_X0_15 dX0_letDaysPass_6 (by omega) ?_
    refine K_top (show _ = nI n by rw [passK_tag (by decide)]; exact hN) ?_
    refine K_icmpN_ge (by omega) (by omega) (tgt := 67) dX0_letDaysPass_9 (by decide) (fun c9 => ?_) (fun c9 => ?_)
    · skip
      refine K_aload_n dX0_letDaysPass_67 rfl ?_
      refine K_dup dX0_letDaysPass_68 rfl ?_
      refine g_X0_9 dX0_letDaysPass_69 (by omega) ?_
      refine K_iload_n dX0_letDaysPass_72 rfl ?_
      refine K_iadd dX0_letDaysPass_73 ?_
      refine p_X0_9 dX0_letDaysPass_74 (by omega) ?_
      refine K_iload_n dX0_letDaysPass_77 rfl ?_
      exact K_iret dX0_letDaysPass_78 ⟨by rfl, by simp only [cPass, passK_tag (μ := μ) (t := 4) (by decide)]⟩
    · skip
      exfalso; omega
  · intro k hk_k ih_1
    refine K_iload_n dX0_letDaysPass_4 rfl ?_
    refine K_aload_n dX0_letDaysPass_5 rfl ?_
    refine g_X0_15 dX0_letDaysPass_6 (by omega) ?_
    refine K_top (show _ = nI n by rw [passK_tag (by decide)]; exact hN) ?_
    refine K_icmpN_ge (by omega) (by omega) (tgt := 67) dX0_letDaysPass_9 (by decide) (fun c9 => ?_) (fun c9 => ?_)
    · skip
      exfalso; omega
    · skip
      refine K_iload_n dX0_letDaysPass_12 rfl ?_
      refine K_bipush (v := nI 6) dX0_letDaysPass_13 (by decide) ?_
      refine K_icmpN_ge (by omega) (by omega) (tgt := 67) dX0_letDaysPass_15 (by decide) (fun c15 => ?_) (fun c15 => ?_)
      · skip
        exfalso; omega
      · skip
        refine K_aload_n dX0_letDaysPass_18 rfl ?_
        refine K_iload_n dX0_letDaysPass_19 rfl ?_
        refine K_iload_n dX0_letDaysPass_20 rfl ?_
        refine k_X0_breaksWithin (C_X0_breaksWithin hi (by omega) (passK_Wf hW k)) (by decide) (by omega) ml_X0_56 (Nat.le_of_ble_eq_true rfl) dX0_letDaysPass_21 ?_
        refine K_ifb_eq (tgt := 61) dX0_letDaysPass_24 (by decide) (fun c24 => ?_) (fun c24 => ?_)
        · skip
          refine K_iincN (b := 1) dX0_letDaysPass_61 rfl rfl (by decide) rfl ?_
          refine K_goto (tgt := 4) dX0_letDaysPass_64 (by decide) ?_
          refine K_mem (show _ = (passK μ i a (k + 1)).1 by simp only [passK, c24, cond_true, cond_false]) ?_
          exact K_lv [0, 1, 2, 3] (by simp [lvpick, lkp, lvset, lvdel, Nat.beq, passK, c24]) ih_1
        · skip
          refine K_aload_n dX0_letDaysPass_27 rfl ?_
          refine K_iload_n dX0_letDaysPass_28 rfl ?_
          refine K_iload_n dX0_letDaysPass_29 rfl ?_
          refine k_X0_surchargeWithin (C_X0_surchargeWithin hi (by omega) (passK_Wf hW k)) (by decide) (by omega) ml_X0_60 (Nat.le_of_ble_eq_true rfl) dX0_letDaysPass_30 ?_
          refine K_istore dX0_letDaysPass_33 (by decide) rfl ?_
          refine K_aload_n dX0_letDaysPass_35 rfl ?_
          refine g_X0_38 dX0_letDaysPass_36 (by omega) ?_
          refine K_iload_n dX0_letDaysPass_39 rfl ?_
          refine ald7 dX0_letDaysPass_40 (by omega) (by omega) ?_
          refine K_iconstN 1 dX0_letDaysPass_41 rfl ?_
          refine p_X0_63 (Or.inr rfl) dX0_letDaysPass_42 (by omega) (by omega) ?_
          refine K_aload_n dX0_letDaysPass_45 rfl ?_
          refine g_X0_38 dX0_letDaysPass_46 (by omega) ?_
          refine K_iload_n dX0_letDaysPass_49 rfl ?_
          refine ald7 dX0_letDaysPass_50 (by omega) (by omega) ?_
          refine K_iload dX0_letDaysPass_51 rfl ?_
          refine p_X0_67 dX0_letDaysPass_53 (by omega) (by omega) ?_
          refine K_iload_n dX0_letDaysPass_56 rfl ?_
          refine K_iload dX0_letDaysPass_57 rfl ?_
          refine K_iadd dX0_letDaysPass_59 ?_
          refine K_istore_n dX0_letDaysPass_60 (by decide) rfl ?_
          refine K_iincN (b := 1) dX0_letDaysPass_61 rfl rfl (by decide) rfl ?_
          refine K_goto (tgt := 4) dX0_letDaysPass_64 (by decide) ?_
          refine K_mem (show _ = (passK μ i a (k + 1)).1 by simp only [passK, c24, cond_true, cond_false]) ?_
          exact K_lv [0, 1, 2, 3] (by simp [lvpick, lkp, lvset, lvdel, Nat.beq, passK, c24]) ih_1

set_option maxHeartbeats 4000000 in
set_option maxRecDepth 100000 in
theorem C_X0_copyFrom {l : Launch} {G : WG} {μ : Mem} {i j : Nat} (hi : i < 7) (hj : j < 7) : Ct l G 1 yX0_copyFrom cX0_copyFrom 3 none [.ref (adr G 4 i 0), .ref (adr G 4 j 0)] (μ) none (copyL μ i j) := by
  refine Ct_of (by decide +kernel) (Nat.le_of_ble_eq_true rfl) ?_
  refine K_aload_n dX0_copyFrom_0 rfl ?_
  refine K_aload_n dX0_copyFrom_1 rfl ?_
  refine g_X0_9 dX0_copyFrom_2 (by omega) ?_
  refine p_X0_9 dX0_copyFrom_5 (by omega) ?_
  refine K_aload_n dX0_copyFrom_8 rfl ?_
  refine K_aload_n dX0_copyFrom_9 rfl ?_
  refine g_X0_15 dX0_copyFrom_10 (by omega) ?_
  refine p_X0_15 dX0_copyFrom_13 (by omega) ?_
  refine K_iconstN 0 dX0_copyFrom_16 rfl ?_
  refine K_istore_n dX0_copyFrom_17 (by decide) rfl ?_
  refine K_lv [0, 1, 2] rfl ?_
  refine K_for (4) (fun k => [(0, .ref (adr G 4 i 0)), (1, .ref (adr G 4 j 0)), (2, .int (nI k))]) (fun k => copyR (copyH μ i j) i j k) ?_ ?_
  · skip
    refine K_iload_n dX0_copyFrom_18 rfl ?_
    refine K_iconstN 4 dX0_copyFrom_19 rfl ?_
    refine K_icmpN_ge (by omega) (by omega) (tgt := 41) dX0_copyFrom_20 (by decide) (fun c20 => ?_) (fun c20 => ?_)
    · skip
      refine K_iconstN 0 dX0_copyFrom_41 rfl ?_
      refine K_istore_n dX0_copyFrom_42 (by decide) rfl ?_
      refine K_lv [0, 1, 2] rfl ?_
      refine K_for (4) (fun k => [(0, .ref (adr G 4 i 0)), (1, .ref (adr G 4 j 0)), (2, .int (nI k))]) (fun k => copyS (copyR (copyH μ i j) i j 4) i j k) ?_ ?_
      · skip
        refine K_iload_n dX0_copyFrom_43 rfl ?_
        refine K_iconstN 4 dX0_copyFrom_44 rfl ?_
        refine K_icmpN_ge (by omega) (by omega) (tgt := 66) dX0_copyFrom_45 (by decide) (fun c45 => ?_) (fun c45 => ?_)
        · skip
          refine K_iconstN 0 dX0_copyFrom_66 rfl ?_
          refine K_istore_n dX0_copyFrom_67 (by decide) rfl ?_
          refine K_lv [0, 1, 2] rfl ?_
          refine K_for (6) (fun k => [(0, .ref (adr G 4 i 0)), (1, .ref (adr G 4 j 0)), (2, .int (nI k))]) (fun k => copyQ (copyS (copyR (copyH μ i j) i j 4) i j 4) i j k) ?_ ?_
          · skip
            refine K_iload_n dX0_copyFrom_68 rfl ?_
            refine K_bipush (v := nI 6) dX0_copyFrom_69 (by decide) ?_
            refine K_icmpN_ge (by omega) (by omega) (tgt := 95) dX0_copyFrom_71 (by decide) (fun c71 => ?_) (fun c71 => ?_)
            · skip
              exact K_vret dX0_copyFrom_95 ⟨rfl, by rfl⟩
            · skip
              exfalso; omega
          · intro k hk_k ih_3
            refine K_iload_n dX0_copyFrom_68 rfl ?_
            refine K_bipush (v := nI 6) dX0_copyFrom_69 (by decide) ?_
            refine K_icmpN_ge (by omega) (by omega) (tgt := 95) dX0_copyFrom_71 (by decide) (fun c71 => ?_) (fun c71 => ?_)
            · skip
              exfalso; omega
            · skip
              refine K_aload_n dX0_copyFrom_74 rfl ?_
              refine g_X0_38 dX0_copyFrom_75 (by omega) ?_
              refine K_iload_n dX0_copyFrom_78 rfl ?_
              refine ald7 dX0_copyFrom_79 (by omega) (by omega) ?_
              refine K_aload_n dX0_copyFrom_80 rfl ?_
              refine g_X0_38 dX0_copyFrom_81 (by omega) ?_
              refine K_iload_n dX0_copyFrom_84 rfl ?_
              refine ald7 dX0_copyFrom_85 (by omega) (by omega) ?_
              refine k_X2_copyFrom (C_X2_copyFrom hi hj (by omega)) (by decide) (by omega) (by omega) ml_X0_43 (Nat.le_of_ble_eq_true rfl) dX0_copyFrom_86 ?_
              refine K_iincN (b := 1) dX0_copyFrom_89 rfl rfl (by decide) rfl ?_
              refine K_goto (tgt := 68) dX0_copyFrom_92 (by decide) ?_
              exact K_lv [0, 1, 2] rfl ih_3
        · skip
          exfalso; omega
      · intro k hk_k ih_2
        refine K_iload_n dX0_copyFrom_43 rfl ?_
        refine K_iconstN 4 dX0_copyFrom_44 rfl ?_
        refine K_icmpN_ge (by omega) (by omega) (tgt := 66) dX0_copyFrom_45 (by decide) (fun c45 => ?_) (fun c45 => ?_)
        · skip
          exfalso; omega
        · skip
          refine K_aload_n dX0_copyFrom_48 rfl ?_
          refine g_X0_33 dX0_copyFrom_49 (by omega) ?_
          refine K_iload_n dX0_copyFrom_52 rfl ?_
          refine K_aload_n dX0_copyFrom_53 rfl ?_
          refine g_X0_33 dX0_copyFrom_54 (by omega) ?_
          refine K_iload_n dX0_copyFrom_57 rfl ?_
          refine ald6 dX0_copyFrom_58 (by omega) (by omega) ?_
          refine ast6 dX0_copyFrom_59 (by omega) (by omega) ?_
          refine K_iincN (b := 1) dX0_copyFrom_60 rfl rfl (by decide) rfl ?_
          refine K_goto (tgt := 43) dX0_copyFrom_63 (by decide) ?_
          exact K_lv [0, 1, 2] rfl ih_2
    · skip
      exfalso; omega
  · intro k hk_k ih_1
    refine K_iload_n dX0_copyFrom_18 rfl ?_
    refine K_iconstN 4 dX0_copyFrom_19 rfl ?_
    refine K_icmpN_ge (by omega) (by omega) (tgt := 41) dX0_copyFrom_20 (by decide) (fun c20 => ?_) (fun c20 => ?_)
    · skip
      exfalso; omega
    · skip
      refine K_aload_n dX0_copyFrom_23 rfl ?_
      refine g_X0_27 dX0_copyFrom_24 (by omega) ?_
      refine K_iload_n dX0_copyFrom_27 rfl ?_
      refine K_aload_n dX0_copyFrom_28 rfl ?_
      refine g_X0_27 dX0_copyFrom_29 (by omega) ?_
      refine K_iload_n dX0_copyFrom_32 rfl ?_
      refine ald5 dX0_copyFrom_33 (by omega) (by omega) ?_
      refine ast5 dX0_copyFrom_34 (by omega) (by omega) ?_
      refine K_iincN (b := 1) dX0_copyFrom_35 rfl rfl (by decide) rfl ?_
      refine K_goto (tgt := 18) dX0_copyFrom_38 (by decide) ?_
      exact K_lv [0, 1, 2] rfl ih_1
