set_option maxHeartbeats 4000000 in
set_option maxRecDepth 100000 in
theorem C_X4_within {l : Launch} {G : WG} {μ : Mem} {a b c : Int32} : Ct l G 0 yX4_within cX4_within 3 (some .boolean) [.int (a), .int (b), .int (c)] (μ) (some (.int (b2i (rOk a b c)))) (μ) := by
  refine Ct_of (by decide +kernel) (Nat.le_of_ble_eq_true rfl) ?_
  refine K_iload_n dX4_within_0 rfl ?_
  refine K_iload_n dX4_within_1 rfl ?_
  refine K_icmp_lt (tgt := 14) dX4_within_2 (by decide) (fun c2 => ?_) (fun c2 => ?_)
  · skip
    refine K_iconstN 0 dX4_within_14 rfl ?_
    exact K_zret (by first | (simp [rOk, c2]; rfl) | (simp [rOk, c2, Int32.not_le.mpr c7]; rfl) | (simp [rOk, c2, Int32.not_lt.mp c7]; rfl)) dX4_within_15 ⟨rfl, rfl⟩
  · skip
    refine K_iload_n dX4_within_5 rfl ?_
    refine K_iload_n dX4_within_6 rfl ?_
    refine K_icmp_gt (tgt := 14) dX4_within_7 (by decide) (fun c7 => ?_) (fun c7 => ?_)
    · skip
      refine K_iconstN 0 dX4_within_14 rfl ?_
      exact K_zret (by first | (simp [rOk, c2]; rfl) | (simp [rOk, c2, Int32.not_le.mpr c7]; rfl) | (simp [rOk, c2, Int32.not_lt.mp c7]; rfl)) dX4_within_15 ⟨rfl, rfl⟩
    · skip
      refine K_iconstN 1 dX4_within_10 rfl ?_
      refine K_goto (tgt := 15) dX4_within_11 (by decide) ?_
      exact K_zret (by first | (simp [rOk, c2]; rfl) | (simp [rOk, c2, Int32.not_le.mpr c7]; rfl) | (simp [rOk, c2, Int32.not_lt.mp c7]; rfl)) dX4_within_15 ⟨rfl, rfl⟩

set_option maxHeartbeats 4000000 in
set_option maxRecDepth 100000 in
theorem C_X4_isUse {l : Launch} {G : WG} {μ : Mem} {a : Int32} : Ct l G 1 yX4_isUse cX4_isUse 1 (some .boolean) [.int (a)] (μ) (some (.int (b2i (uOk a)))) (μ) := by
  refine Ct_of (by decide +kernel) (Nat.le_of_ble_eq_true rfl) ?_
  refine K_iload_n dX4_isUse_0 rfl ?_
  refine K_iconstN 0 dX4_isUse_1 rfl ?_
  refine K_iconstN 3 dX4_isUse_2 rfl ?_
  refine k_X4_within (C_X4_within ) (by decide) ml_X4_32 (Nat.le_of_ble_eq_true rfl) dX4_isUse_3 ?_
  refine K_top (congrArg b2i rOk_use) ?_
  exact K_zret (by rfl) dX4_isUse_6 ⟨rfl, rfl⟩

set_option maxHeartbeats 4000000 in
set_option maxRecDepth 100000 in
theorem C_X4_isSetting {l : Launch} {G : WG} {μ : Mem} {a : Int32} : Ct l G 1 yX4_isSetting cX4_isSetting 1 (some .boolean) [.int (a)] (μ) (some (.int (b2i (uOk a)))) (μ) := by
  refine Ct_of (by decide +kernel) (Nat.le_of_ble_eq_true rfl) ?_
  refine K_iload_n dX4_isSetting_0 rfl ?_
  refine K_iconstN 0 dX4_isSetting_1 rfl ?_
  refine K_iconstN 3 dX4_isSetting_2 rfl ?_
  refine k_X4_within (C_X4_within ) (by decide) ml_X4_32 (Nat.le_of_ble_eq_true rfl) dX4_isSetting_3 ?_
  refine K_top (congrArg b2i rOk_use) ?_
  exact K_zret (by rfl) dX4_isSetting_6 ⟨rfl, rfl⟩

set_option maxHeartbeats 4000000 in
set_option maxRecDepth 100000 in
theorem C_X4_isArea {l : Launch} {G : WG} {μ : Mem} {a : Int32} : Ct l G 1 yX4_isArea cX4_isArea 1 (some .boolean) [.int (a)] (μ) (some (.int (b2i (rOk a (nI 0) (nI 999))))) (μ) := by
  refine Ct_of (by decide +kernel) (Nat.le_of_ble_eq_true rfl) ?_
  refine K_iload_n dX4_isArea_0 rfl ?_
  refine K_iconstN 0 dX4_isArea_1 rfl ?_
  refine K_sipush (v := nI 999) dX4_isArea_2 (by decide) ?_
  refine k_X4_within (C_X4_within ) (by decide) ml_X4_32 (Nat.le_of_ble_eq_true rfl) dX4_isArea_5 ?_
  exact K_zret (by rfl) dX4_isArea_8 ⟨rfl, rfl⟩

set_option maxHeartbeats 4000000 in
set_option maxRecDepth 100000 in
theorem C_X4_isMoney {l : Launch} {G : WG} {μ : Mem} {a : Int32} : Ct l G 1 yX4_isMoney cX4_isMoney 1 (some .boolean) [.int (a)] (μ) (some (.int (b2i (rOk a (nI 1) (nI 99999))))) (μ) := by
  refine Ct_of (by decide +kernel) (Nat.le_of_ble_eq_true rfl) ?_
  refine K_iload_n dX4_isMoney_0 rfl ?_
  refine K_iconstN 1 dX4_isMoney_1 rfl ?_
  refine K_ldc dX4_isMoney_2 cst_X4_119 ?_
  refine k_X4_within (C_X4_within ) (by decide) ml_X4_32 (Nat.le_of_ble_eq_true rfl) dX4_isMoney_4 ?_
  exact K_zret (by rfl) dX4_isMoney_7 ⟨rfl, rfl⟩

set_option maxHeartbeats 4000000 in
set_option maxRecDepth 100000 in
theorem C_X4_partsFor {l : Launch} {G : WG} {μ : Mem} {a : Int32} : Ct l G 0 yX4_partsFor cX4_partsFor 1 (some .int) [.int (a)] (μ) (some (.int (nI (partsN a)))) (μ) := by
  refine Ct_of (by decide +kernel) (Nat.le_of_ble_eq_true rfl) ?_
  refine K_iload_n dX4_partsFor_0 rfl ?_
  refine K_sipush (v := nI 1000) dX4_partsFor_1 (by decide) ?_
  refine K_icmp_ge (tgt := 11) dX4_partsFor_4 (by decide) (fun c4 => ?_) (fun c4 => ?_)
  · skip
    refine K_iload_n dX4_partsFor_11 rfl ?_
    refine K_sipush (v := nI 5000) dX4_partsFor_12 (by decide) ?_
    refine K_icmp_ge (tgt := 22) dX4_partsFor_15 (by decide) (fun c15 => ?_) (fun c15 => ?_)
    · skip
      refine K_iload_n dX4_partsFor_22 rfl ?_
      refine K_sipush (v := nI 20000) dX4_partsFor_23 (by decide) ?_
      refine K_icmp_ge (tgt := 33) dX4_partsFor_26 (by decide) (fun c26 => ?_) (fun c26 => ?_)
      · skip
        refine K_iconstN 4 dX4_partsFor_33 rfl ?_
        exact K_iret dX4_partsFor_34 ⟨by first | (simp only [partsN, c4, if_true, if_false]; done) | (simp only [partsN, c4, c15, if_true, if_false]; done) | (simp only [partsN, c4, c15, c26, if_true, if_false]; done), rfl⟩
      · skip
        refine K_iconstN 3 dX4_partsFor_29 rfl ?_
        refine K_goto (tgt := 34) dX4_partsFor_30 (by decide) ?_
        exact K_iret dX4_partsFor_34 ⟨by first | (simp only [partsN, c4, if_true, if_false]; done) | (simp only [partsN, c4, c15, if_true, if_false]; done) | (simp only [partsN, c4, c15, c26, if_true, if_false]; done), rfl⟩
    · skip
      refine K_iconstN 2 dX4_partsFor_18 rfl ?_
      refine K_goto (tgt := 34) dX4_partsFor_19 (by decide) ?_
      exact K_iret dX4_partsFor_34 ⟨by first | (simp only [partsN, c4, if_true, if_false]; done) | (simp only [partsN, c4, c15, if_true, if_false]; done) | (simp only [partsN, c4, c15, c26, if_true, if_false]; done), rfl⟩
  · skip
    refine K_iconstN 1 dX4_partsFor_7 rfl ?_
    refine K_goto (tgt := 34) dX4_partsFor_8 (by decide) ?_
    exact K_iret dX4_partsFor_34 ⟨by first | (simp only [partsN, c4, if_true, if_false]; done) | (simp only [partsN, c4, c15, if_true, if_false]; done) | (simp only [partsN, c4, c15, c26, if_true, if_false]; done), rfl⟩

set_option maxHeartbeats 4000000 in
set_option maxRecDepth 100000 in
theorem C_X4_lastOf {l : Launch} {G : WG} {μ : Mem} {a : Int32} : Ct l G 1 yX4_lastOf cX4_lastOf 1 (some .int) [.int (a)] (μ) (some (.int (lastV a))) (μ) := by
  refine Ct_of (by decide +kernel) (Nat.le_of_ble_eq_true rfl) ?_
  have hpn : ¬ nI (partsN a) = 0 := nI_ne0 (partsN_le a).1 (Nat.lt_of_le_of_lt (partsN_le a).2 (by omega))
  refine K_iload_n dX4_lastOf_0 rfl ?_
  refine K_iload_n dX4_lastOf_1 rfl ?_
  refine k_X4_partsFor (C_X4_partsFor ) (by decide) ml_X4_65 (Nat.le_of_ble_eq_true rfl) dX4_lastOf_2 ?_
  refine K_idiv dX4_lastOf_5 hpn ?_
  refine K_iload_n dX4_lastOf_6 rfl ?_
  refine K_iload_n dX4_lastOf_7 rfl ?_
  refine k_X4_partsFor (C_X4_partsFor ) (by decide) ml_X4_65 (Nat.le_of_ble_eq_true rfl) dX4_lastOf_8 ?_
  refine K_irem dX4_lastOf_11 hpn ?_
  refine K_iadd dX4_lastOf_12 ?_
  exact K_iret dX4_lastOf_13 ⟨by rfl, rfl⟩

set_option maxHeartbeats 4000000 in
set_option maxRecDepth 100000 in
theorem C_X4_isValue {l : Launch} {G : WG} {μ : Mem} {u : Nat} (hu : u < 4) {a : Int32} : Ct l G 1 yX4_isValue cX4_isValue 2 (some .boolean) [.int (nI u), .int (a)] (μ) (some (.int (b2i (rOk a (leastT u) (mostT u))))) (μ) := by
  refine Ct_of (by decide +kernel) (Nat.le_of_ble_eq_true rfl) ?_
  refine K_iload_n dX4_isValue_0 rfl ?_
  refine K_ifN_ne (by omega) (tgt := 14) dX4_isValue_1 (by decide) (fun c1 => ?_) (fun c1 => ?_)
  · skip
    refine K_iload_n dX4_isValue_14 rfl ?_
    refine K_iconstN 0 dX4_isValue_15 rfl ?_
    refine K_iload_n dX4_isValue_16 rfl ?_
    refine K_iconstN 1 dX4_isValue_17 rfl ?_
    refine K_icmpN_ne (by omega) (by omega) (tgt := 26) dX4_isValue_18 (by decide) (fun c18 => ?_) (fun c18 => ?_)
    · skip
      refine K_iload_n dX4_isValue_26 rfl ?_
      refine K_iconstN 2 dX4_isValue_27 rfl ?_
      refine K_icmpN_ne (by omega) (by omega) (tgt := 37) dX4_isValue_28 (by decide) (fun c28 => ?_) (fun c28 => ?_)
      · skip
        refine K_bipush (v := nI 100) dX4_isValue_37 (by decide) ?_
        refine k_X4_within (C_X4_within ) (by decide) ml_X4_32 (Nat.le_of_ble_eq_true rfl) dX4_isValue_39 ?_
        first | (subst c1; exact K_zret rfl dX4_isValue_42 ⟨rfl, rfl⟩) | (obtain rfl : u = 1 := c18; exact K_zret rfl dX4_isValue_42 ⟨rfl, rfl⟩) | (obtain rfl : u = 2 := c28; exact K_zret rfl dX4_isValue_42 ⟨rfl, rfl⟩) | (obtain rfl : u = 3 := (by omega); exact K_zret rfl dX4_isValue_42 ⟨rfl, rfl⟩)
      · skip
        refine K_sipush (v := nI 3000) dX4_isValue_31 (by decide) ?_
        refine K_goto (tgt := 39) dX4_isValue_34 (by decide) ?_
        refine k_X4_within (C_X4_within ) (by decide) ml_X4_32 (Nat.le_of_ble_eq_true rfl) dX4_isValue_39 ?_
        first | (subst c1; exact K_zret rfl dX4_isValue_42 ⟨rfl, rfl⟩) | (obtain rfl : u = 1 := c18; exact K_zret rfl dX4_isValue_42 ⟨rfl, rfl⟩) | (obtain rfl : u = 2 := c28; exact K_zret rfl dX4_isValue_42 ⟨rfl, rfl⟩) | (obtain rfl : u = 3 := (by omega); exact K_zret rfl dX4_isValue_42 ⟨rfl, rfl⟩)
    · skip
      refine K_bipush (v := nI 50) dX4_isValue_21 (by decide) ?_
      refine K_goto (tgt := 39) dX4_isValue_23 (by decide) ?_
      refine k_X4_within (C_X4_within ) (by decide) ml_X4_32 (Nat.le_of_ble_eq_true rfl) dX4_isValue_39 ?_
      first | (subst c1; exact K_zret rfl dX4_isValue_42 ⟨rfl, rfl⟩) | (obtain rfl : u = 1 := c18; exact K_zret rfl dX4_isValue_42 ⟨rfl, rfl⟩) | (obtain rfl : u = 2 := c28; exact K_zret rfl dX4_isValue_42 ⟨rfl, rfl⟩) | (obtain rfl : u = 3 := (by omega); exact K_zret rfl dX4_isValue_42 ⟨rfl, rfl⟩)
  · skip
    refine K_iload_n dX4_isValue_4 rfl ?_
    refine K_iconstN 1 dX4_isValue_5 rfl ?_
    refine K_bipush (v := nI 120) dX4_isValue_6 (by decide) ?_
    refine k_X4_within (C_X4_within ) (by decide) ml_X4_32 (Nat.le_of_ble_eq_true rfl) dX4_isValue_8 ?_
    refine K_goto (tgt := 42) dX4_isValue_11 (by decide) ?_
    first | (subst c1; exact K_zret rfl dX4_isValue_42 ⟨rfl, rfl⟩) | (obtain rfl : u = 1 := c18; exact K_zret rfl dX4_isValue_42 ⟨rfl, rfl⟩) | (obtain rfl : u = 2 := c28; exact K_zret rfl dX4_isValue_42 ⟨rfl, rfl⟩) | (obtain rfl : u = 3 := (by omega); exact K_zret rfl dX4_isValue_42 ⟨rfl, rfl⟩)

set_option maxHeartbeats 4000000 in
set_option maxRecDepth 100000 in
theorem C_X4_thrown {l : Launch} {G : WG} {μ : Mem}  : Ct l G 0 yX4_thrown cX4_thrown 1 (some .int) [.ref (adr G 15 0 0)] (μ) (some (.int (μ.1 15 0 0 5))) (μ) := by
  refine Ct_of (by decide +kernel) (Nat.le_of_ble_eq_true rfl) ?_
  refine K_aload_n dX4_thrown_0 rfl ?_
  refine g_X4_25 dX4_thrown_1  ?_
  exact K_iret dX4_thrown_4 ⟨by rfl, rfl⟩

set_option maxHeartbeats 4000000 in
set_option maxRecDepth 100000 in
theorem C_X4_of {l : Launch} {G : WG} {μ : Mem} {z : Zr} (hz : μ.1 16 0 0 = z) {p : Nat} (hp : p < 6) {w : Nat} (hw : w < 37) : Ct l G 0 yX4_of cX4_of 3 (some .int) [.ref (adr G 15 0 0), .int (nI p), .int (nI w)] (μ) (some (.int (mo z p w))) (μ) := by
  refine Ct_of (by decide +kernel) (Nat.le_of_ble_eq_true rfl) ?_
  subst hz
  refine K_aload_n dX4_of_0 rfl ?_
  refine g_X4_7 dX4_of_1  ?_
  refine K_bipush (v := nI 10) dX4_of_4 (by decide) ?_
  refine K_bipush (v := nI 37) dX4_of_6 (by decide) ?_
  refine K_iload_n dX4_of_8 rfl ?_
  refine K_imulN dX4_of_9 ?_
  refine K_iaddN dX4_of_10 ?_
  refine K_iload_n dX4_of_11 rfl ?_
  refine K_iaddN dX4_of_12 ?_
  refine ald16 dX4_of_13 (by omega) ?_
  exact K_iret dX4_of_14 ⟨by rfl, rfl⟩

set_option maxHeartbeats 4000000 in
set_option maxRecDepth 100000 in
theorem C_X4_isPhase {l : Launch} {G : WG} {μ : Mem} {z : Zr} (hz : μ.1 16 0 0 = z) {a : Int32} {n : Nat} (hZ : ZI z n) : Ct l G 1 yX4_isPhase cX4_isPhase 2 (some .boolean) [.ref (adr G 15 0 0), .int (a)] (μ) (some (.int (b2i (cHas n a)))) (μ) := by
  refine Ct_of (by decide +kernel) (Nat.le_of_ble_eq_true rfl) ?_
  subst hz
  refine K_iload_n dX4_isPhase_0 rfl ?_
  refine K_iconstN 0 dX4_isPhase_1 rfl ?_
  refine K_aload_n dX4_isPhase_2 rfl ?_
  refine g_X4_7 dX4_isPhase_3  ?_
  refine K_bipush (v := nI 9) dX4_isPhase_6 (by decide) ?_
  refine ald16 dX4_isPhase_8 (by omega) ?_
  refine K_top hZ.1 ?_
  refine K_iconstN 1 dX4_isPhase_9 rfl ?_
  refine K_isub dX4_isPhase_10 ?_
  refine k_X4_within (C_X4_within ) (by decide) ml_X4_32 (Nat.le_of_ble_eq_true rfl) dX4_isPhase_11 ?_
  refine K_top (congrArg b2i (rOk_has hZ.2.1)) ?_
  exact K_zret (by rfl) dX4_isPhase_14 ⟨rfl, rfl⟩

set_option maxHeartbeats 4000000 in
set_option maxRecDepth 100000 in
theorem C_X4_hasBegun {l : Launch} {G : WG} {μ : Mem} {z : Zr} (hz : μ.1 16 0 0 = z) {p : Nat} (hp : p < 6) : Ct l G 1 yX4_hasBegun cX4_hasBegun 2 (some .boolean) [.ref (adr G 15 0 0), .int (nI p)] (μ) (some (.int (b2i (mBegun z p)))) (μ) := by
  refine Ct_of (by decide +kernel) (Nat.le_of_ble_eq_true rfl) ?_
  subst hz
  refine K_aload_n dX4_hasBegun_0 rfl ?_
  refine K_iload_n dX4_hasBegun_1 rfl ?_
  refine K_iconstN 0 dX4_hasBegun_2 rfl ?_
  refine k_X4_of (C_X4_of rfl (by omega) (by omega)) (by decide)  ml_X4_36 (Nat.le_of_ble_eq_true rfl) dX4_hasBegun_3 ?_
  refine K_iconst (v := -1) dX4_hasBegun_6 (by decide) ?_
  refine K_icmp_eq (tgt := 14) dX4_hasBegun_7 (by decide) (fun c7 => ?_) (fun c7 => ?_)
  · skip
    refine K_iconstN 0 dX4_hasBegun_14 rfl ?_
    exact K_zret (by simp [mBegun, c7]; rfl) dX4_hasBegun_15 ⟨rfl, rfl⟩
  · skip
    refine K_iconstN 1 dX4_hasBegun_10 rfl ?_
    refine K_goto (tgt := 15) dX4_hasBegun_11 (by decide) ?_
    exact K_zret (by simp [mBegun, c7]; rfl) dX4_hasBegun_15 ⟨rfl, rfl⟩

set_option maxHeartbeats 4000000 in
set_option maxRecDepth 100000 in
theorem C_X4_rateOf {l : Launch} {G : WG} {μ : Mem} {z : Zr} (hz : μ.1 16 0 0 = z) {p : Nat} (hp : p < 6) {u : Nat} (hu : u < 4) : Ct l G 2 yX4_rateOf cX4_rateOf 3 (some .int) [.ref (adr G 15 0 0), .int (nI p), .int (nI u)] (μ) (some (.int (mRate z p u))) (μ) := by
  refine Ct_of (by decide +kernel) (Nat.le_of_ble_eq_true rfl) ?_
  subst hz
  refine K_aload_n dX4_rateOf_0 rfl ?_
  refine K_iload_n dX4_rateOf_1 rfl ?_
  refine k_X4_hasBegun (C_X4_hasBegun rfl (by omega)) (by decide)  ml_X4_40 (Nat.le_of_ble_eq_true rfl) dX4_rateOf_2 ?_
  refine K_ifb_eq (tgt := 20) dX4_rateOf_5 (by decide) (fun c5 => ?_) (fun c5 => ?_)
  · skip
    refine K_aload_n dX4_rateOf_20 rfl ?_
    refine g_X4_7 dX4_rateOf_21  ?_
    refine K_iconstN 5 dX4_rateOf_24 rfl ?_
    refine K_iload_n dX4_rateOf_25 rfl ?_
    refine K_iaddN dX4_rateOf_26 ?_
    refine ald16 dX4_rateOf_27 (by omega) ?_
    exact K_iret dX4_rateOf_28 ⟨by simp only [mRate, c5, cond_true, cond_false], rfl⟩
  · skip
    refine K_aload_n dX4_rateOf_8 rfl ?_
    refine K_iload_n dX4_rateOf_9 rfl ?_
    refine K_bipush (v := nI 9) dX4_rateOf_10 (by decide) ?_
    refine K_iload_n dX4_rateOf_12 rfl ?_
    refine K_iaddN dX4_rateOf_13 ?_
    refine k_X4_of (C_X4_of rfl (by omega) (by omega)) (by decide)  ml_X4_36 (Nat.le_of_ble_eq_true rfl) dX4_rateOf_14 ?_
    refine K_goto (tgt := 28) dX4_rateOf_17 (by decide) ?_
    exact K_iret dX4_rateOf_28 ⟨by simp only [mRate, c5, cond_true, cond_false], rfl⟩

set_option maxHeartbeats 4000000 in
set_option maxRecDepth 100000 in
theorem C_X4_chargeOf {l : Launch} {G : WG} {μ : Mem} {z : Zr} (hz : μ.1 16 0 0 = z) {p : Nat} (hp : p < 6) {u : Nat} (hu : u < 4) : Ct l G 3 yX4_chargeOf cX4_chargeOf 3 (some .int) [.ref (adr G 15 0 0), .int (nI p), .int (nI u)] (μ) (some (.int (mChU z p u))) (μ) := by
  refine Ct_of (by decide +kernel) (Nat.le_of_ble_eq_true rfl) ?_
  subst hz
  refine K_aload_n dX4_chargeOf_0 rfl ?_
  refine K_iload_n dX4_chargeOf_1 rfl ?_
  refine K_iconstN 1 dX4_chargeOf_2 rfl ?_
  refine K_iload_n dX4_chargeOf_3 rfl ?_
  refine K_iaddN dX4_chargeOf_4 ?_
  refine k_X4_of (C_X4_of rfl (by omega) (by omega)) (by decide)  ml_X4_36 (Nat.le_of_ble_eq_true rfl) dX4_chargeOf_5 ?_
  refine K_aload_n dX4_chargeOf_8 rfl ?_
  refine K_iload_n dX4_chargeOf_9 rfl ?_
  refine K_iload_n dX4_chargeOf_10 rfl ?_
  refine k_X4_rateOf (C_X4_rateOf rfl (by omega) (by omega)) (by decide)  ml_X4_44 (Nat.le_of_ble_eq_true rfl) dX4_chargeOf_11 ?_
  refine K_imul dX4_chargeOf_14 ?_
  exact K_iret dX4_chargeOf_15 ⟨by rfl, rfl⟩

set_option maxHeartbeats 4000000 in
set_option maxRecDepth 100000 in
theorem C_X4_reliefOf {l : Launch} {G : WG} {μ : Mem} {z : Zr} (hz : μ.1 16 0 0 = z) {p : Nat} (hp : p < 6) {u : Nat} (hu : u < 4) : Ct l G 2 yX4_reliefOf cX4_reliefOf 3 (some .int) [.ref (adr G 15 0 0), .int (nI p), .int (nI u)] (μ) (some (.int (mReU z p u))) (μ) := by
  refine Ct_of (by decide +kernel) (Nat.le_of_ble_eq_true rfl) ?_
  subst hz
  refine K_aload_n dX4_reliefOf_0 rfl ?_
  refine K_iload_n dX4_reliefOf_1 rfl ?_
  refine k_X4_hasBegun (C_X4_hasBegun rfl (by omega)) (by decide)  ml_X4_40 (Nat.le_of_ble_eq_true rfl) dX4_reliefOf_2 ?_
  refine K_ifb_eq (tgt := 20) dX4_reliefOf_5 (by decide) (fun c5 => ?_) (fun c5 => ?_)
  · skip
    refine K_aload_n dX4_reliefOf_20 rfl ?_
    refine K_iload_n dX4_reliefOf_21 rfl ?_
    refine K_iconstN 5 dX4_reliefOf_22 rfl ?_
    refine K_iload_n dX4_reliefOf_23 rfl ?_
    refine K_iaddN dX4_reliefOf_24 ?_
    refine k_X4_of (C_X4_of rfl (by omega) (by omega)) (by decide)  ml_X4_36 (Nat.le_of_ble_eq_true rfl) dX4_reliefOf_25 ?_
    refine K_aload_n dX4_reliefOf_28 rfl ?_
    refine g_X4_7 dX4_reliefOf_29  ?_
    refine K_iconstN 5 dX4_reliefOf_32 rfl ?_
    refine K_iload_n dX4_reliefOf_33 rfl ?_
    refine K_iaddN dX4_reliefOf_34 ?_
    refine ald16 dX4_reliefOf_35 (by omega) ?_
    refine K_imul dX4_reliefOf_36 ?_
    exact K_iret dX4_reliefOf_37 ⟨by first | (simp only [mReU, c5, cond_true, cond_false]; done) | (simp only [mReU, c5, cond_true, cond_false]; rfl), rfl⟩
  · skip
    refine K_aload_n dX4_reliefOf_8 rfl ?_
    refine K_iload_n dX4_reliefOf_9 rfl ?_
    refine K_bipush (v := nI 13) dX4_reliefOf_10 (by decide) ?_
    refine K_iload_n dX4_reliefOf_12 rfl ?_
    refine K_iaddN dX4_reliefOf_13 ?_
    refine k_X4_of (C_X4_of rfl (by omega) (by omega)) (by decide)  ml_X4_36 (Nat.le_of_ble_eq_true rfl) dX4_reliefOf_14 ?_
    refine K_goto (tgt := 37) dX4_reliefOf_17 (by decide) ?_
    exact K_iret dX4_reliefOf_37 ⟨by first | (simp only [mReU, c5, cond_true, cond_false]; done) | (simp only [mReU, c5, cond_true, cond_false]; rfl), rfl⟩

set_option maxHeartbeats 4000000 in
set_option maxRecDepth 100000 in
theorem C_X4_charge {l : Launch} {G : WG} {μ : Mem} {z : Zr} (hz : μ.1 16 0 0 = z) {p : Nat} (hp : p < 6) : Ct l G 4 yX4_charge cX4_charge 4 (some .int) [.ref (adr G 15 0 0), .int (nI p)] (μ) (some (.int (mCharge z p))) (μ) := by
  refine Ct_of (by decide +kernel) (Nat.le_of_ble_eq_true rfl) ?_
  subst hz
  refine K_iconstN 0 dX4_charge_0 rfl ?_
  refine K_istore_n dX4_charge_1 (by decide) rfl ?_
  refine K_iconstN 0 dX4_charge_2 rfl ?_
  refine K_istore_n dX4_charge_3 (by decide) rfl ?_
  refine K_lv [0, 1, 2, 3] rfl ?_
  refine K_for (4) (fun k => [(0, .ref (adr G 15 0 0)), (1, .int (nI p)), (2, .int (sumI (fun u => mChU (μ.1 16 0 0) p u) k)), (3, .int (nI k))]) (fun _ => μ) ?_ ?_
  · skip
    refine K_iload_n dX4_charge_4 rfl ?_
    refine K_iconstN 4 dX4_charge_5 rfl ?_
    refine K_icmpN_ge (by omega) (by omega) (tgt := 24) dX4_charge_6 (by decide) (fun c6 => ?_) (fun c6 => ?_)
    · skip
      refine K_iload_n dX4_charge_24 rfl ?_
      exact K_iret dX4_charge_25 ⟨by rfl, rfl⟩
    · skip
      exfalso; omega
  · intro k hk_k ih_1
    refine K_iload_n dX4_charge_4 rfl ?_
    refine K_iconstN 4 dX4_charge_5 rfl ?_
    refine K_icmpN_ge (by omega) (by omega) (tgt := 24) dX4_charge_6 (by decide) (fun c6 => ?_) (fun c6 => ?_)
    · skip
      exfalso; omega
    · skip
      refine K_iload_n dX4_charge_9 rfl ?_
      refine K_aload_n dX4_charge_10 rfl ?_
      refine K_iload_n dX4_charge_11 rfl ?_
      refine K_iload_n dX4_charge_12 rfl ?_
      refine k_X4_chargeOf (C_X4_chargeOf rfl (by omega) (by omega)) (by decide)  ml_X4_47 (Nat.le_of_ble_eq_true rfl) dX4_charge_13 ?_
      refine K_iadd dX4_charge_16 ?_
      refine K_istore_n dX4_charge_17 (by decide) rfl ?_
      refine K_iincN (b := 1) dX4_charge_18 rfl rfl (by decide) rfl ?_
      refine K_goto (tgt := 4) dX4_charge_21 (by decide) ?_
      exact K_lv [0, 1, 2, 3] rfl ih_1

set_option maxHeartbeats 4000000 in
set_option maxRecDepth 100000 in
theorem C_X4_relief {l : Launch} {G : WG} {μ : Mem} {z : Zr} (hz : μ.1 16 0 0 = z) {p : Nat} (hp : p < 6) : Ct l G 3 yX4_relief cX4_relief 4 (some .int) [.ref (adr G 15 0 0), .int (nI p)] (μ) (some (.int (mRelief z p))) (μ) := by
  refine Ct_of (by decide +kernel) (Nat.le_of_ble_eq_true rfl) ?_
  subst hz
  refine K_iconstN 0 dX4_relief_0 rfl ?_
  refine K_istore_n dX4_relief_1 (by decide) rfl ?_
  refine K_iconstN 0 dX4_relief_2 rfl ?_
  refine K_istore_n dX4_relief_3 (by decide) rfl ?_
  refine K_lv [0, 1, 2, 3] rfl ?_
  refine K_for (4) (fun k => [(0, .ref (adr G 15 0 0)), (1, .int (nI p)), (2, .int (sumI (fun u => mReU (μ.1 16 0 0) p u) k)), (3, .int (nI k))]) (fun _ => μ) ?_ ?_
  · skip
    refine K_iload_n dX4_relief_4 rfl ?_
    refine K_iconstN 4 dX4_relief_5 rfl ?_
    refine K_icmpN_ge (by omega) (by omega) (tgt := 24) dX4_relief_6 (by decide) (fun c6 => ?_) (fun c6 => ?_)
    · skip
      refine K_iload_n dX4_relief_24 rfl ?_
      exact K_iret dX4_relief_25 ⟨by rfl, rfl⟩
    · skip
      exfalso; omega
  · intro k hk_k ih_1
    refine K_iload_n dX4_relief_4 rfl ?_
    refine K_iconstN 4 dX4_relief_5 rfl ?_
    refine K_icmpN_ge (by omega) (by omega) (tgt := 24) dX4_relief_6 (by decide) (fun c6 => ?_) (fun c6 => ?_)
    · skip
      exfalso; omega
    · skip
      refine K_iload_n dX4_relief_9 rfl ?_
      refine K_aload_n dX4_relief_10 rfl ?_
      refine K_iload_n dX4_relief_11 rfl ?_
      refine K_iload_n dX4_relief_12 rfl ?_
      refine k_X4_reliefOf (C_X4_reliefOf rfl (by omega) (by omega)) (by decide)  ml_X4_50 (Nat.le_of_ble_eq_true rfl) dX4_relief_13 ?_
      refine K_iadd dX4_relief_16 ?_
      refine K_istore_n dX4_relief_17 (by decide) rfl ?_
      refine K_iincN (b := 1) dX4_relief_18 rfl rfl (by decide) rfl ?_
      refine K_goto (tgt := 4) dX4_relief_21 (by decide) ?_
      exact K_lv [0, 1, 2, 3] rfl ih_1

set_option maxHeartbeats 4000000 in
set_option maxRecDepth 100000 in
theorem C_X4_areaOf {l : Launch} {G : WG} {μ : Mem} {z : Zr} (hz : μ.1 16 0 0 = z) {p : Nat} (hp : p < 6) : Ct l G 1 yX4_areaOf cX4_areaOf 4 (some .int) [.ref (adr G 15 0 0), .int (nI p)] (μ) (some (.int (mArea z p))) (μ) := by
  refine Ct_of (by decide +kernel) (Nat.le_of_ble_eq_true rfl) ?_
  subst hz
  refine K_iconstN 0 dX4_areaOf_0 rfl ?_
  refine K_istore_n dX4_areaOf_1 (by decide) rfl ?_
  refine K_iconstN 0 dX4_areaOf_2 rfl ?_
  refine K_istore_n dX4_areaOf_3 (by decide) rfl ?_
  refine K_lv [0, 1, 2, 3] rfl ?_
  refine K_for (4) (fun k => [(0, .ref (adr G 15 0 0)), (1, .int (nI p)), (2, .int (sumI (fun u => mo (μ.1 16 0 0) p (1 + u)) k)), (3, .int (nI k))]) (fun _ => μ) ?_ ?_
  · skip
    refine K_iload_n dX4_areaOf_4 rfl ?_
    refine K_iconstN 4 dX4_areaOf_5 rfl ?_
    refine K_icmpN_ge (by omega) (by omega) (tgt := 26) dX4_areaOf_6 (by decide) (fun c6 => ?_) (fun c6 => ?_)
    · skip
      refine K_iload_n dX4_areaOf_26 rfl ?_
      exact K_iret dX4_areaOf_27 ⟨by rfl, rfl⟩
    · skip
      exfalso; omega
  · intro k hk_k ih_1
    refine K_iload_n dX4_areaOf_4 rfl ?_
    refine K_iconstN 4 dX4_areaOf_5 rfl ?_
    refine K_icmpN_ge (by omega) (by omega) (tgt := 26) dX4_areaOf_6 (by decide) (fun c6 => ?_) (fun c6 => ?_)
    · skip
      exfalso; omega
    · skip
      refine K_iload_n dX4_areaOf_9 rfl ?_
      refine K_aload_n dX4_areaOf_10 rfl ?_
      refine K_iload_n dX4_areaOf_11 rfl ?_
      refine K_iconstN 1 dX4_areaOf_12 rfl ?_
      refine K_iload_n dX4_areaOf_13 rfl ?_
      refine K_iaddN dX4_areaOf_14 ?_
      refine k_X4_of (C_X4_of rfl (by omega) (by omega)) (by decide)  ml_X4_36 (Nat.le_of_ble_eq_true rfl) dX4_areaOf_15 ?_
      refine K_iadd dX4_areaOf_18 ?_
      refine K_istore_n dX4_areaOf_19 (by decide) rfl ?_
      refine K_iincN (b := 1) dX4_areaOf_20 rfl rfl (by decide) rfl ?_
      refine K_goto (tgt := 4) dX4_areaOf_23 (by decide) ?_
      exact K_lv [0, 1, 2, 3] rfl ih_1

set_option maxHeartbeats 4000000 in
set_option maxRecDepth 100000 in
theorem C_X4_owed {l : Launch} {G : WG} {μ : Mem} {z : Zr} (hz : μ.1 16 0 0 = z) {p : Nat} (hp : p < 6) {n : Nat} (hZ : ZI z n) : Ct l G 2 yX4_owed cX4_owed 4 (some .int) [.ref (adr G 15 0 0), .int (nI p)] (μ) (some (.int (mOwed z p))) (μ) := by
  refine Ct_of (by decide +kernel) (Nat.le_of_ble_eq_true rfl) ?_
  subst hz
  have hm4 := (hZ.2.2 p hp).2
  refine K_aload_n dX4_owed_0 rfl ?_
  refine K_iload_n dX4_owed_1 rfl ?_
  refine K_bipush (v := nI 30) dX4_owed_2 (by decide) ?_
  refine k_X4_of (C_X4_of rfl (by omega) (by omega)) (by decide)  ml_X4_36 (Nat.le_of_ble_eq_true rfl) dX4_owed_4 ?_
  refine K_aload_n dX4_owed_7 rfl ?_
  refine K_iload_n dX4_owed_8 rfl ?_
  refine K_bipush (v := nI 33) dX4_owed_9 (by decide) ?_
  refine k_X4_of (C_X4_of rfl (by omega) (by omega)) (by decide)  ml_X4_36 (Nat.le_of_ble_eq_true rfl) dX4_owed_11 ?_
  refine K_iadd dX4_owed_14 ?_
  refine K_istore_n dX4_owed_15 (by decide) rfl ?_
  refine K_iconstN 0 dX4_owed_16 rfl ?_
  refine K_istore_n dX4_owed_17 (by decide) rfl ?_
  refine K_lv [0, 1, 2, 3] rfl ?_
  refine K_for (zp (μ.1 16 0 0) p) (fun k => [(0, .ref (adr G 15 0 0)), (1, .int (nI p)), (2, .int (mOwe (μ.1 16 0 0) p k)), (3, .int (nI k))]) (fun _ => μ) ?_ ?_
  · skip
    refine K_iload_n dX4_owed_18 rfl ?_
    refine K_aload_n dX4_owed_19 rfl ?_
    refine K_iload_n dX4_owed_20 rfl ?_
    refine K_bipush (v := nI 17) dX4_owed_21 (by decide) ?_
    refine k_X4_of (C_X4_of rfl (by omega) (by omega)) (by decide)  ml_X4_36 (Nat.le_of_ble_eq_true rfl) dX4_owed_23 ?_
    refine K_top (hZ.2.2 p hp).1 ?_
    refine K_icmpN_ge (by omega) (by omega) (tgt := 47) dX4_owed_26 (by decide) (fun c26 => ?_) (fun c26 => ?_)
    · skip
      refine K_aload_n dX4_owed_47 rfl ?_
      refine K_iload_n dX4_owed_48 rfl ?_
      refine k_X4_hasBegun (C_X4_hasBegun rfl (by omega)) (by decide)  ml_X4_40 (Nat.le_of_ble_eq_true rfl) dX4_owed_49 ?_
      refine K_ifb_eq (tgt := 59) dX4_owed_52 (by decide) (fun c52 => ?_) (fun c52 => ?_)
      · skip
        refine K_iconstN 0 dX4_owed_59 rfl ?_
        exact K_iret dX4_owed_60 ⟨by simp only [mOwed, c52, cond_true, cond_false], rfl⟩
      · skip
        refine K_iload_n dX4_owed_55 rfl ?_
        refine K_goto (tgt := 60) dX4_owed_56 (by decide) ?_
        exact K_iret dX4_owed_60 ⟨by simp only [mOwed, c52, cond_true, cond_false], rfl⟩
    · skip
      exfalso; omega
  · intro k hk_k ih_1
    refine K_iload_n dX4_owed_18 rfl ?_
    refine K_aload_n dX4_owed_19 rfl ?_
    refine K_iload_n dX4_owed_20 rfl ?_
    refine K_bipush (v := nI 17) dX4_owed_21 (by decide) ?_
    refine k_X4_of (C_X4_of rfl (by omega) (by omega)) (by decide)  ml_X4_36 (Nat.le_of_ble_eq_true rfl) dX4_owed_23 ?_
    refine K_top (hZ.2.2 p hp).1 ?_
    refine K_icmpN_ge (by omega) (by omega) (tgt := 47) dX4_owed_26 (by decide) (fun c26 => ?_) (fun c26 => ?_)
    · skip
      exfalso; omega
    · skip
      refine K_iload_n dX4_owed_29 rfl ?_
      refine K_aload_n dX4_owed_30 rfl ?_
      refine K_iload_n dX4_owed_31 rfl ?_
      refine K_bipush (v := nI 22) dX4_owed_32 (by decide) ?_
      refine K_iload_n dX4_owed_34 rfl ?_
      refine K_iaddN dX4_owed_35 ?_
      refine k_X4_of (C_X4_of rfl (by omega) (by omega)) (by decide)  ml_X4_36 (Nat.le_of_ble_eq_true rfl) dX4_owed_36 ?_
      refine K_iadd dX4_owed_39 ?_
      refine K_istore_n dX4_owed_40 (by decide) rfl ?_
      refine K_iincN (b := 1) dX4_owed_41 rfl rfl (by decide) rfl ?_
      refine K_goto (tgt := 18) dX4_owed_44 (by decide) ?_
      exact K_lv [0, 1, 2, 3] rfl ih_1

set_option maxHeartbeats 4000000 in
set_option maxRecDepth 100000 in
theorem C_X4_dueNow {l : Launch} {G : WG} {μ : Mem} {z : Zr} (hz : μ.1 16 0 0 = z) {p : Nat} (hp : p < 6) {n : Nat} (hZ : ZI z n) : Ct l G 3 yX4_dueNow cX4_dueNow 4 (some .int) [.ref (adr G 15 0 0), .int (nI p)] (μ) (some (.int (mDueNow z p))) (μ) := by
  refine Ct_of (by decide +kernel) (Nat.le_of_ble_eq_true rfl) ?_
  subst hz
  have hm4 := (hZ.2.2 p hp).2
  refine K_aload_n dX4_dueNow_0 rfl ?_
  refine K_iload_n dX4_dueNow_1 rfl ?_
  refine k_X4_hasBegun (C_X4_hasBegun rfl (by omega)) (by decide)  ml_X4_40 (Nat.le_of_ble_eq_true rfl) dX4_dueNow_2 ?_
  refine K_ifb_ne (tgt := 10) dX4_dueNow_5 (by decide) (fun c5 => ?_) (fun c5 => ?_)
  · skip
    refine K_aload_n dX4_dueNow_10 rfl ?_
    refine K_iload_n dX4_dueNow_11 rfl ?_
    refine K_bipush (v := nI 30) dX4_dueNow_12 (by decide) ?_
    refine k_X4_of (C_X4_of rfl (by omega) (by omega)) (by decide)  ml_X4_36 (Nat.le_of_ble_eq_true rfl) dX4_dueNow_14 ?_
    refine K_istore_n dX4_dueNow_17 (by decide) rfl ?_
    refine K_iconstN 0 dX4_dueNow_18 rfl ?_
    refine K_istore_n dX4_dueNow_19 (by decide) rfl ?_
    refine K_lv [0, 1, 2, 3] rfl ?_
    refine K_for (zp (μ.1 16 0 0) p) (fun k => [(0, .ref (adr G 15 0 0)), (1, .int (nI p)), (2, .int (mDue (μ.1 16 0 0) p k)), (3, .int (nI k))]) (fun _ => μ) ?_ ?_
    · skip
      refine K_iload_n dX4_dueNow_20 rfl ?_
      refine K_aload_n dX4_dueNow_21 rfl ?_
      refine K_iload_n dX4_dueNow_22 rfl ?_
      refine K_bipush (v := nI 17) dX4_dueNow_23 (by decide) ?_
      refine k_X4_of (C_X4_of rfl (by omega) (by omega)) (by decide)  ml_X4_36 (Nat.le_of_ble_eq_true rfl) dX4_dueNow_25 ?_
      refine K_top (hZ.2.2 p hp).1 ?_
      refine K_icmpN_ge (by omega) (by omega) (tgt := 71) dX4_dueNow_28 (by decide) (fun c28 => ?_) (fun c28 => ?_)
      · skip
        refine K_aload_n dX4_dueNow_71 rfl ?_
        refine K_iload_n dX4_dueNow_72 rfl ?_
        refine K_bipush (v := nI 36) dX4_dueNow_73 (by decide) ?_
        refine k_X4_of (C_X4_of rfl (by omega) (by omega)) (by decide)  ml_X4_36 (Nat.le_of_ble_eq_true rfl) dX4_dueNow_75 ?_
        refine K_iconstN 1 dX4_dueNow_78 rfl ?_
        refine K_icmp_ne (tgt := 90) dX4_dueNow_79 (by decide) (fun c79 => ?_) (fun c79 => ?_)
        · skip
          refine K_iload_n dX4_dueNow_90 rfl ?_
          exact K_iret dX4_dueNow_91 ⟨by simp [mDueNow, c5, c79], rfl⟩
        · skip
          refine K_aload_n dX4_dueNow_82 rfl ?_
          refine K_iload_n dX4_dueNow_83 rfl ?_
          refine k_X4_owed (C_X4_owed rfl (by omega) hZ) (by decide)  ml_X4_53 (Nat.le_of_ble_eq_true rfl) dX4_dueNow_84 ?_
          refine K_goto (tgt := 91) dX4_dueNow_87 (by decide) ?_
          exact K_iret dX4_dueNow_91 ⟨by simp [mDueNow, c5, c79], rfl⟩
      · skip
        exfalso; omega
    · intro k hk_k ih_1
      refine K_iload_n dX4_dueNow_20 rfl ?_
      refine K_aload_n dX4_dueNow_21 rfl ?_
      refine K_iload_n dX4_dueNow_22 rfl ?_
      refine K_bipush (v := nI 17) dX4_dueNow_23 (by decide) ?_
      refine k_X4_of (C_X4_of rfl (by omega) (by omega)) (by decide)  ml_X4_36 (Nat.le_of_ble_eq_true rfl) dX4_dueNow_25 ?_
      refine K_top (hZ.2.2 p hp).1 ?_
      refine K_icmpN_ge (by omega) (by omega) (tgt := 71) dX4_dueNow_28 (by decide) (fun c28 => ?_) (fun c28 => ?_)
      · skip
        exfalso; omega
      · skip
        refine K_iload_n dX4_dueNow_31 rfl ?_
        refine K_aload_n dX4_dueNow_32 rfl ?_
        refine K_iload_n dX4_dueNow_33 rfl ?_
        refine K_bipush (v := nI 26) dX4_dueNow_34 (by decide) ?_
        refine K_iload_n dX4_dueNow_36 rfl ?_
        refine K_iaddN dX4_dueNow_37 ?_
        refine k_X4_of (C_X4_of rfl (by omega) (by omega)) (by decide)  ml_X4_36 (Nat.le_of_ble_eq_true rfl) dX4_dueNow_38 ?_
        refine K_aload_n dX4_dueNow_41 rfl ?_
        refine g_X4_7 dX4_dueNow_42  ?_
        refine K_iconstN 4 dX4_dueNow_45 rfl ?_
        refine ald16 dX4_dueNow_46 (by omega) ?_
        refine K_icmp_gt (tgt := 62) dX4_dueNow_47 (by decide) (fun c47 => ?_) (fun c47 => ?_)
        · skip
          refine K_iconstN 0 dX4_dueNow_62 rfl ?_
          refine K_iadd dX4_dueNow_63 ?_
          refine K_istore_n dX4_dueNow_64 (by decide) rfl ?_
          refine K_iincN (b := 1) dX4_dueNow_65 rfl rfl (by decide) rfl ?_
          refine K_goto (tgt := 20) dX4_dueNow_68 (by decide) ?_
          exact K_lv [0, 1, 2, 3] (by first | (simp [lvpick, lkp, lvset, lvdel, Nat.beq, accK, mDue, c47]; done) | (simp [lvpick, lkp, lvset, lvdel, Nat.beq, accK, mDue, Int32.not_lt.mp c47]; done) | (simp [lvpick, lkp, lvset, lvdel, Nat.beq, accK, mDue, Int32.not_lt.mpr (Int32.not_lt.mp c47)]; done)) ih_1
        · skip
          refine K_aload_n dX4_dueNow_50 rfl ?_
          refine K_iload_n dX4_dueNow_51 rfl ?_
          refine K_bipush (v := nI 22) dX4_dueNow_52 (by decide) ?_
          refine K_iload_n dX4_dueNow_54 rfl ?_
          refine K_iaddN dX4_dueNow_55 ?_
          refine k_X4_of (C_X4_of rfl (by omega) (by omega)) (by decide)  ml_X4_36 (Nat.le_of_ble_eq_true rfl) dX4_dueNow_56 ?_
          refine K_goto (tgt := 63) dX4_dueNow_59 (by decide) ?_
          refine K_iadd dX4_dueNow_63 ?_
          refine K_istore_n dX4_dueNow_64 (by decide) rfl ?_
          refine K_iincN (b := 1) dX4_dueNow_65 rfl rfl (by decide) rfl ?_
          refine K_goto (tgt := 20) dX4_dueNow_68 (by decide) ?_
          exact K_lv [0, 1, 2, 3] (by first | (simp [lvpick, lkp, lvset, lvdel, Nat.beq, accK, mDue, c47]; done) | (simp [lvpick, lkp, lvset, lvdel, Nat.beq, accK, mDue, Int32.not_lt.mp c47]; done) | (simp [lvpick, lkp, lvset, lvdel, Nat.beq, accK, mDue, Int32.not_lt.mpr (Int32.not_lt.mp c47)]; done)) ih_1
  · skip
    refine K_iconstN 0 dX4_dueNow_8 rfl ?_
    exact K_iret dX4_dueNow_9 ⟨by simp only [mDueNow, c5, cond_false], rfl⟩

set_option maxHeartbeats 4000000 in
set_option maxRecDepth 100000 in
theorem C_X4_roomForLand {l : Launch} {G : WG} {μ : Mem} {z : Zr} (hz : μ.1 16 0 0 = z) {p : Nat} (hp : p < 6) : Ct l G 5 yX4_roomForLand cX4_roomForLand 3 (some .int) [.ref (adr G 15 0 0), .int (nI p)] (μ) (some (.int (mRoom z p))) (μ) := by
  refine Ct_of (by decide +kernel) (Nat.le_of_ble_eq_true rfl) ?_
  subst hz
  refine K_aload_n dX4_roomForLand_0 rfl ?_
  refine K_iload_n dX4_roomForLand_1 rfl ?_
  refine k_X4_charge (C_X4_charge rfl (by omega)) (by decide)  ml_X4_57 (Nat.le_of_ble_eq_true rfl) dX4_roomForLand_2 ?_
  refine K_aload_n dX4_roomForLand_5 rfl ?_
  refine K_iload_n dX4_roomForLand_6 rfl ?_
  refine k_X4_relief (C_X4_relief rfl (by omega)) (by decide)  ml_X4_60 (Nat.le_of_ble_eq_true rfl) dX4_roomForLand_7 ?_
  refine K_isub dX4_roomForLand_10 ?_
  refine K_i2l dX4_roomForLand_11 ?_
  refine K_aload_n dX4_roomForLand_12 rfl ?_
  refine g_X4_7 dX4_roomForLand_13  ?_
  refine K_iconstN 3 dX4_roomForLand_16 rfl ?_
  refine ald16 dX4_roomForLand_17 (by omega) ?_
  refine K_i2l dX4_roomForLand_18 ?_
  refine K_lmul dX4_roomForLand_19 ?_
  refine K_ldc2 dX4_roomForLand_20 cst_X4_63 ?_
  refine K_ldiv dX4_roomForLand_23 (by decide) ?_
  refine K_l2i dX4_roomForLand_24 ?_
  refine K_aload_n dX4_roomForLand_25 rfl ?_
  refine K_iload_n dX4_roomForLand_26 rfl ?_
  refine K_bipush (v := nI 35) dX4_roomForLand_27 (by decide) ?_
  refine k_X4_of (C_X4_of rfl (by omega) (by omega)) (by decide)  ml_X4_36 (Nat.le_of_ble_eq_true rfl) dX4_roomForLand_29 ?_
  refine K_isub dX4_roomForLand_32 ?_
  refine K_top (show _ = mRoomR (μ.1 16 0 0) p from rfl) ?_
  refine K_istore_n dX4_roomForLand_33 (by decide) rfl ?_
  refine K_aload_n dX4_roomForLand_34 rfl ?_
  refine K_iload_n dX4_roomForLand_35 rfl ?_
  refine k_X4_hasBegun (C_X4_hasBegun rfl (by omega)) (by decide)  ml_X4_40 (Nat.le_of_ble_eq_true rfl) dX4_roomForLand_36 ?_
  refine K_ifb_eq (tgt := 50) dX4_roomForLand_39 (by decide) (fun c39 => ?_) (fun c39 => ?_)
  · skip
    refine K_iconstN 0 dX4_roomForLand_50 rfl ?_
    exact K_iret dX4_roomForLand_51 ⟨by first | (simp [mRoom, c39]; done) | (simp [mRoom, c39, c43]; done), rfl⟩
  · skip
    refine K_iload_n dX4_roomForLand_42 rfl ?_
    refine K_if_le (tgt := 50) dX4_roomForLand_43 (by decide) (fun c43 => ?_) (fun c43 => ?_)
    · skip
      refine K_iconstN 0 dX4_roomForLand_50 rfl ?_
      exact K_iret dX4_roomForLand_51 ⟨by first | (simp [mRoom, c39]; done) | (simp [mRoom, c39, c43]; done), rfl⟩
    · skip
      refine K_iload_n dX4_roomForLand_46 rfl ?_
      refine K_goto (tgt := 51) dX4_roomForLand_47 (by decide) ?_
      exact K_iret dX4_roomForLand_51 ⟨by first | (simp [mRoom, c39]; done) | (simp [mRoom, c39, c43]; done), rfl⟩

set_option maxHeartbeats 4000000 in
set_option maxRecDepth 100000 in
theorem C_X4_whyNoBeginning {l : Launch} {G : WG} {μ : Mem} {z : Zr} (hz : μ.1 16 0 0 = z) {p : Nat} (hp : p < 6) : Ct l G 2 yX4_whyNoBeginning cX4_whyNoBeginning 2 (some .int) [.ref (adr G 15 0 0), .int (nI p)] (μ) (some (.int (mWhy1 z p))) (μ) := by
  refine Ct_of (by decide +kernel) (Nat.le_of_ble_eq_true rfl) ?_
  subst hz
  refine K_aload_n dX4_whyNoBeginning_0 rfl ?_
  refine K_iload_n dX4_whyNoBeginning_1 rfl ?_
  refine k_X4_hasBegun (C_X4_hasBegun rfl (by omega)) (by decide)  ml_X4_40 (Nat.le_of_ble_eq_true rfl) dX4_whyNoBeginning_2 ?_
  refine K_ifb_eq (tgt := 12) dX4_whyNoBeginning_5 (by decide) (fun c5 => ?_) (fun c5 => ?_)
  · skip
    refine K_aload_n dX4_whyNoBeginning_12 rfl ?_
    refine K_iload_n dX4_whyNoBeginning_13 rfl ?_
    refine k_X4_areaOf (C_X4_areaOf rfl (by omega)) (by decide)  ml_X4_68 (Nat.le_of_ble_eq_true rfl) dX4_whyNoBeginning_14 ?_
    refine K_if_ne (tgt := 24) dX4_whyNoBeginning_17 (by decide) (fun c17 => ?_) (fun c17 => ?_)
    · skip
      refine K_iconstN 0 dX4_whyNoBeginning_24 rfl ?_
      exact K_iret dX4_whyNoBeginning_25 ⟨by first | (simp [mWhy1, c5]; done) | (simp [mWhy1, c5, c17]; done), rfl⟩
    · skip
      refine K_iconstN 3 dX4_whyNoBeginning_20 rfl ?_
      refine K_goto (tgt := 25) dX4_whyNoBeginning_21 (by decide) ?_
      exact K_iret dX4_whyNoBeginning_25 ⟨by first | (simp [mWhy1, c5]; done) | (simp [mWhy1, c5, c17]; done), rfl⟩
  · skip
    refine K_iconstN 1 dX4_whyNoBeginning_8 rfl ?_
    refine K_goto (tgt := 25) dX4_whyNoBeginning_9 (by decide) ?_
    exact K_iret dX4_whyNoBeginning_25 ⟨by first | (simp [mWhy1, c5]; done) | (simp [mWhy1, c5, c17]; done), rfl⟩

set_option maxHeartbeats 4000000 in
set_option maxRecDepth 100000 in
theorem C_X4_whyNoPayment {l : Launch} {G : WG} {μ : Mem} {z : Zr} (hz : μ.1 16 0 0 = z) {p : Nat} (hp : p < 6) {n : Nat} (hZ : ZI z n) : Ct l G 3 yX4_whyNoPayment cX4_whyNoPayment 2 (some .int) [.ref (adr G 15 0 0), .int (nI p)] (μ) (some (.int (mWhy2 z p))) (μ) := by
  refine Ct_of (by decide +kernel) (Nat.le_of_ble_eq_true rfl) ?_
  subst hz
  refine K_aload_n dX4_whyNoPayment_0 rfl ?_
  refine K_iload_n dX4_whyNoPayment_1 rfl ?_
  refine k_X4_hasBegun (C_X4_hasBegun rfl (by omega)) (by decide)  ml_X4_40 (Nat.le_of_ble_eq_true rfl) dX4_whyNoPayment_2 ?_
  refine K_ifb_ne (tgt := 12) dX4_whyNoPayment_5 (by decide) (fun c5 => ?_) (fun c5 => ?_)
  · skip
    refine K_aload_n dX4_whyNoPayment_12 rfl ?_
    refine K_iload_n dX4_whyNoPayment_13 rfl ?_
    refine k_X4_owed (C_X4_owed rfl (by omega) hZ) (by decide)  ml_X4_53 (Nat.le_of_ble_eq_true rfl) dX4_whyNoPayment_14 ?_
    refine K_if_ne (tgt := 24) dX4_whyNoPayment_17 (by decide) (fun c17 => ?_) (fun c17 => ?_)
    · skip
      refine K_iconstN 0 dX4_whyNoPayment_24 rfl ?_
      exact K_iret dX4_whyNoPayment_25 ⟨by first | (simp [mWhy2, c5]; done) | (simp [mWhy2, c5, c17]; done), rfl⟩
    · skip
      refine K_iconstN 4 dX4_whyNoPayment_20 rfl ?_
      refine K_goto (tgt := 25) dX4_whyNoPayment_21 (by decide) ?_
      exact K_iret dX4_whyNoPayment_25 ⟨by first | (simp [mWhy2, c5]; done) | (simp [mWhy2, c5, c17]; done), rfl⟩
  · skip
    refine K_iconstN 2 dX4_whyNoPayment_8 rfl ?_
    refine K_goto (tgt := 25) dX4_whyNoPayment_9 (by decide) ?_
    exact K_iret dX4_whyNoPayment_25 ⟨by first | (simp [mWhy2, c5]; done) | (simp [mWhy2, c5, c17]; done), rfl⟩

set_option maxHeartbeats 4000000 in
set_option maxRecDepth 100000 in
theorem C_X4_whyNoLand {l : Launch} {G : WG} {μ : Mem} {z : Zr} (hz : μ.1 16 0 0 = z) {p : Nat} (hp : p < 6) {n : Nat} (hZ : ZI z n) : Ct l G 6 yX4_whyNoLand cX4_whyNoLand 3 (some .int) [.ref (adr G 15 0 0), .int (nI p)] (μ) (some (.int (mWhy3 z p))) (μ) := by
  refine Ct_of (by decide +kernel) (Nat.le_of_ble_eq_true rfl) ?_
  subst hz
  refine K_aload_n dX4_whyNoLand_0 rfl ?_
  refine K_iload_n dX4_whyNoLand_1 rfl ?_
  refine k_X4_whyNoPayment (C_X4_whyNoPayment rfl (by omega) hZ) (by decide)  ml_X4_71 (Nat.le_of_ble_eq_true rfl) dX4_whyNoLand_2 ?_
  refine K_istore_n dX4_whyNoLand_5 (by decide) rfl ?_
  refine K_iload_n dX4_whyNoLand_6 rfl ?_
  refine K_if_ne (tgt := 22) dX4_whyNoLand_7 (by decide) (fun c7 => ?_) (fun c7 => ?_)
  · skip
    refine K_iload_n dX4_whyNoLand_22 rfl ?_
    exact K_iret dX4_whyNoLand_23 ⟨by first | (simp [mWhy3, c7]; done) | (simp [mWhy3, c7, c15]; done), rfl⟩
  · skip
    refine K_aload_n dX4_whyNoLand_10 rfl ?_
    refine K_iload_n dX4_whyNoLand_11 rfl ?_
    refine k_X4_roomForLand (C_X4_roomForLand rfl (by omega)) (by decide)  ml_X4_74 (Nat.le_of_ble_eq_true rfl) dX4_whyNoLand_12 ?_
    refine K_if_ne (tgt := 22) dX4_whyNoLand_15 (by decide) (fun c15 => ?_) (fun c15 => ?_)
    · skip
      refine K_iload_n dX4_whyNoLand_22 rfl ?_
      exact K_iret dX4_whyNoLand_23 ⟨by first | (simp [mWhy3, c7]; done) | (simp [mWhy3, c7, c15]; done), rfl⟩
    · skip
      refine K_iconstN 5 dX4_whyNoLand_18 rfl ?_
      refine K_goto (tgt := 23) dX4_whyNoLand_19 (by decide) ?_
      exact K_iret dX4_whyNoLand_23 ⟨by first | (simp [mWhy3, c7]; done) | (simp [mWhy3, c7, c15]; done), rfl⟩

set_option maxHeartbeats 4000000 in
set_option maxRecDepth 100000 in
theorem C_X4_whyNoLapse {l : Launch} {G : WG} {μ : Mem} {z : Zr} (hz : μ.1 16 0 0 = z) {p : Nat} (hp : p < 6) {u : Nat} (hu : u < 4) : Ct l G 2 yX4_whyNoLapse cX4_whyNoLapse 3 (some .int) [.ref (adr G 15 0 0), .int (nI p), .int (nI u)] (μ) (some (.int (mWhy4 z p u))) (μ) := by
  refine Ct_of (by decide +kernel) (Nat.le_of_ble_eq_true rfl) ?_
  subst hz
  refine K_aload_n dX4_whyNoLapse_0 rfl ?_
  refine K_iload_n dX4_whyNoLapse_1 rfl ?_
  refine k_X4_hasBegun (C_X4_hasBegun rfl (by omega)) (by decide)  ml_X4_40 (Nat.le_of_ble_eq_true rfl) dX4_whyNoLapse_2 ?_
  refine K_ifb_ne (tgt := 10) dX4_whyNoLapse_5 (by decide) (fun c5 => ?_) (fun c5 => ?_)
  · skip
    refine K_aload_n dX4_whyNoLapse_10 rfl ?_
    refine K_iload_n dX4_whyNoLapse_11 rfl ?_
    refine K_bipush (v := nI 13) dX4_whyNoLapse_12 (by decide) ?_
    refine K_iload_n dX4_whyNoLapse_14 rfl ?_
    refine K_iaddN dX4_whyNoLapse_15 ?_
    refine k_X4_of (C_X4_of rfl (by omega) (by omega)) (by decide)  ml_X4_36 (Nat.le_of_ble_eq_true rfl) dX4_whyNoLapse_16 ?_
    refine K_if_eq (tgt := 44) dX4_whyNoLapse_19 (by decide) (fun c19 => ?_) (fun c19 => ?_)
    · skip
      refine K_bipush (v := nI 6) dX4_whyNoLapse_44 (by decide) ?_
      refine K_goto (tgt := 50) dX4_whyNoLapse_46 (by decide) ?_
      exact K_iret dX4_whyNoLapse_50 ⟨by first | (simp [mWhy4, c5]; done) | (simp [mWhy4, c5, c19]; done) | (simp [mWhy4, c5, c19, c41]; done), rfl⟩
    · skip
      refine K_aload_n dX4_whyNoLapse_22 rfl ?_
      refine g_X4_7 dX4_whyNoLapse_23  ?_
      refine K_iconstN 4 dX4_whyNoLapse_26 rfl ?_
      refine ald16 dX4_whyNoLapse_27 (by omega) ?_
      refine K_aload_n dX4_whyNoLapse_28 rfl ?_
      refine K_iload_n dX4_whyNoLapse_29 rfl ?_
      refine K_iconstN 0 dX4_whyNoLapse_30 rfl ?_
      refine k_X4_of (C_X4_of rfl (by omega) (by omega)) (by decide)  ml_X4_36 (Nat.le_of_ble_eq_true rfl) dX4_whyNoLapse_31 ?_
      refine K_aload_n dX4_whyNoLapse_34 rfl ?_
      refine g_X4_7 dX4_whyNoLapse_35  ?_
      refine K_iconstN 2 dX4_whyNoLapse_38 rfl ?_
      refine ald16 dX4_whyNoLapse_39 (by omega) ?_
      refine K_iadd dX4_whyNoLapse_40 ?_
      refine K_icmp_le (tgt := 49) dX4_whyNoLapse_41 (by decide) (fun c41 => ?_) (fun c41 => ?_)
      · skip
        refine K_iconstN 0 dX4_whyNoLapse_49 rfl ?_
        exact K_iret dX4_whyNoLapse_50 ⟨by first | (simp [mWhy4, c5]; done) | (simp [mWhy4, c5, c19]; done) | (simp [mWhy4, c5, c19, c41]; done), rfl⟩
      · skip
        refine K_bipush (v := nI 6) dX4_whyNoLapse_44 (by decide) ?_
        refine K_goto (tgt := 50) dX4_whyNoLapse_46 (by decide) ?_
        exact K_iret dX4_whyNoLapse_50 ⟨by first | (simp [mWhy4, c5]; done) | (simp [mWhy4, c5, c19]; done) | (simp [mWhy4, c5, c19, c41]; done), rfl⟩
  · skip
    refine K_iconstN 2 dX4_whyNoLapse_8 rfl ?_
    exact K_iret dX4_whyNoLapse_9 ⟨by first | (simp [mWhy4, c5]; done) | (simp [mWhy4, c5, c19]; done) | (simp [mWhy4, c5, c19, c41]; done), rfl⟩

set_option maxHeartbeats 4000000 in
set_option maxRecDepth 100000 in
theorem C_X4_firstDue {l : Launch} {G : WG} {μ : Mem} {z : Zr} (hz : μ.1 16 0 0 = z) {p : Nat} (hp : p < 6) {n : Nat} (hZ : ZI z n) : Ct l G 1 yX4_firstDue cX4_firstDue 3 (some .int) [.ref (adr G 15 0 0), .int (nI p)] (μ) (some (.int (mFd z p))) (μ) := by
  refine Ct_of (by decide +kernel) (Nat.le_of_ble_eq_true rfl) ?_
  subst hz
  have hm4 := (hZ.2.2 p hp).2
  refine K_iconstN 0 dX4_firstDue_0 rfl ?_
  refine K_istore_n dX4_firstDue_1 (by decide) rfl ?_
  refine K_lv [0, 1, 2] rfl ?_
  refine K_whl (S := Nat) (fun _ k => [(0, .ref (adr G 15 0 0)), (1, .int (nI p)), (2, .int (nI k))]) (fun _ _ => μ) (fun f k => f + k = zp (μ.1 16 0 0) p ∧ mFd (μ.1 16 0 0) p = fd (μ.1 16 0 0) p f k) (fun f k hP ih => ?_) (zp (μ.1 16 0 0) p) 0 ⟨rfl, rfl⟩
  obtain ⟨hP1, hP2⟩ := hP
  refine K_iload_n dX4_firstDue_2 rfl ?_
  refine K_aload_n dX4_firstDue_3 rfl ?_
  refine K_iload_n dX4_firstDue_4 rfl ?_
  refine K_bipush (v := nI 17) dX4_firstDue_5 (by decide) ?_
  refine k_X4_of (C_X4_of rfl (by omega) (by omega)) (by decide)  ml_X4_36 (Nat.le_of_ble_eq_true rfl) dX4_firstDue_7 ?_
  refine K_top (hZ.2.2 p hp).1 ?_
  refine K_icmpN_ge (by omega) (by omega) (tgt := 41) dX4_firstDue_10 (by decide) (fun c10 => ?_) (fun c10 => ?_)
  · skip
    refine K_iconst (v := -1) dX4_firstDue_41 (by decide) ?_
    obtain rfl : f = 0 := by omega
    exact K_iret dX4_firstDue_42 ⟨by rw [hP2]; rfl, rfl⟩
  · skip
    refine K_aload_n dX4_firstDue_13 rfl ?_
    refine K_iload_n dX4_firstDue_14 rfl ?_
    refine K_bipush (v := nI 22) dX4_firstDue_15 (by decide) ?_
    refine K_iload_n dX4_firstDue_17 rfl ?_
    refine K_iaddN dX4_firstDue_18 ?_
    refine k_X4_of (C_X4_of rfl (by omega) (by omega)) (by decide)  ml_X4_36 (Nat.le_of_ble_eq_true rfl) dX4_firstDue_19 ?_
    refine K_if_le (tgt := 35) dX4_firstDue_22 (by decide) (fun c22 => ?_) (fun c22 => ?_)
    · skip
      refine K_iincN (b := 1) dX4_firstDue_35 rfl rfl (by decide) rfl ?_
      refine K_goto (tgt := 2) dX4_firstDue_38 (by decide) ?_
      exact K_lv [0, 1, 2] rfl (ih (f - 1) (k + 1) (by omega) ⟨by omega, by obtain ⟨f, rfl⟩ : ∃ g, f = g + 1 := ⟨f - 1, by omega⟩; rw [hP2]; simp only [fd, show decide (mo (μ.1 16 0 0) p (22 + k) ≤ 0) = true from decide_eq_true c22, cond_true, Nat.add_sub_cancel]⟩)
    · skip
      refine K_aload_n dX4_firstDue_25 rfl ?_
      refine K_iload_n dX4_firstDue_26 rfl ?_
      refine K_bipush (v := nI 26) dX4_firstDue_27 (by decide) ?_
      refine K_iload_n dX4_firstDue_29 rfl ?_
      refine K_iaddN dX4_firstDue_30 ?_
      refine k_X4_of (C_X4_of rfl (by omega) (by omega)) (by decide)  ml_X4_36 (Nat.le_of_ble_eq_true rfl) dX4_firstDue_31 ?_
      obtain ⟨f, rfl⟩ : ∃ g, f = g + 1 := ⟨f - 1, by omega⟩
      exact K_iret dX4_firstDue_34 ⟨by rw [hP2]; simp only [fd, show decide (mo (μ.1 16 0 0) p (22 + k) ≤ 0) = false from decide_eq_false c22, cond_false], rfl⟩

set_option maxHeartbeats 4000000 in
set_option maxRecDepth 100000 in
theorem C_X4_canBreak {l : Launch} {G : WG} {μ : Mem} {z : Zr} (hz : μ.1 16 0 0 = z) {p : Nat} (hp : p < 6) {n : Nat} (hZ : ZI z n) : Ct l G 2 yX4_canBreak cX4_canBreak 2 (some .boolean) [.ref (adr G 15 0 0), .int (nI p)] (μ) (some (.int (b2i (mCan z p)))) (μ) := by
  refine Ct_of (by decide +kernel) (Nat.le_of_ble_eq_true rfl) ?_
  subst hz
  refine K_aload_n dX4_canBreak_0 rfl ?_
  refine K_iload_n dX4_canBreak_1 rfl ?_
  refine k_X4_hasBegun (C_X4_hasBegun rfl (by omega)) (by decide)  ml_X4_40 (Nat.le_of_ble_eq_true rfl) dX4_canBreak_2 ?_
  refine K_ifb_eq (tgt := 31) dX4_canBreak_5 (by decide) (fun c5 => ?_) (fun c5 => ?_)
  · skip
    refine K_iconstN 0 dX4_canBreak_31 rfl ?_
    exact K_zret (by first | (simp [mCan, c5]; rfl) | (simp [mCan, c5, c15]; rfl) | (simp [mCan, c5, c15, c24]; rfl)) dX4_canBreak_32 ⟨rfl, rfl⟩
  · skip
    refine K_aload_n dX4_canBreak_8 rfl ?_
    refine K_iload_n dX4_canBreak_9 rfl ?_
    refine K_bipush (v := nI 36) dX4_canBreak_10 (by decide) ?_
    refine k_X4_of (C_X4_of rfl (by omega) (by omega)) (by decide)  ml_X4_36 (Nat.le_of_ble_eq_true rfl) dX4_canBreak_12 ?_
    refine K_if_ne (tgt := 31) dX4_canBreak_15 (by decide) (fun c15 => ?_) (fun c15 => ?_)
    · skip
      refine K_iconstN 0 dX4_canBreak_31 rfl ?_
      exact K_zret (by first | (simp [mCan, c5]; rfl) | (simp [mCan, c5, c15]; rfl) | (simp [mCan, c5, c15, c24]; rfl)) dX4_canBreak_32 ⟨rfl, rfl⟩
    · skip
      refine K_aload_n dX4_canBreak_18 rfl ?_
      refine K_iload_n dX4_canBreak_19 rfl ?_
      refine k_X4_firstDue (C_X4_firstDue rfl (by omega) hZ) (by decide)  ml_X4_132 (Nat.le_of_ble_eq_true rfl) dX4_canBreak_20 ?_
      refine K_iconst (v := -1) dX4_canBreak_23 (by decide) ?_
      refine K_icmp_eq (tgt := 31) dX4_canBreak_24 (by decide) (fun c24 => ?_) (fun c24 => ?_)
      · skip
        refine K_iconstN 0 dX4_canBreak_31 rfl ?_
        exact K_zret (by first | (simp [mCan, c5]; rfl) | (simp [mCan, c5, c15]; rfl) | (simp [mCan, c5, c15, c24]; rfl)) dX4_canBreak_32 ⟨rfl, rfl⟩
      · skip
        refine K_iconstN 1 dX4_canBreak_27 rfl ?_
        refine K_goto (tgt := 32) dX4_canBreak_28 (by decide) ?_
        exact K_zret (by first | (simp [mCan, c5]; rfl) | (simp [mCan, c5, c15]; rfl) | (simp [mCan, c5, c15, c24]; rfl)) dX4_canBreak_32 ⟨rfl, rfl⟩

set_option maxHeartbeats 4000000 in
set_option maxRecDepth 100000 in
theorem C_X4_breaksNow {l : Launch} {G : WG} {μ : Mem} {z : Zr} (hz : μ.1 16 0 0 = z) {p : Nat} (hp : p < 6) {n : Nat} (hZ : ZI z n) : Ct l G 3 yX4_breaksNow cX4_breaksNow 3 (some .int) [.ref (adr G 15 0 0), .int (nI p)] (μ) (some (.int (mBreaks z p))) (μ) := by
  refine Ct_of (by decide +kernel) (Nat.le_of_ble_eq_true rfl) ?_
  subst hz
  refine K_aload_n dX4_breaksNow_0 rfl ?_
  refine K_iload_n dX4_breaksNow_1 rfl ?_
  refine k_X4_canBreak (C_X4_canBreak rfl (by omega) hZ) (by decide)  ml_X4_135 (Nat.le_of_ble_eq_true rfl) dX4_breaksNow_2 ?_
  refine K_ifb_ne (tgt := 10) dX4_breaksNow_5 (by decide) (fun c5 => ?_) (fun c5 => ?_)
  · skip
    refine K_aload_n dX4_breaksNow_10 rfl ?_
    refine K_iload_n dX4_breaksNow_11 rfl ?_
    refine k_X4_firstDue (C_X4_firstDue rfl (by omega) hZ) (by decide)  ml_X4_132 (Nat.le_of_ble_eq_true rfl) dX4_breaksNow_12 ?_
    refine K_iconstN 1 dX4_breaksNow_15 rfl ?_
    refine K_iadd dX4_breaksNow_16 ?_
    refine K_aload_n dX4_breaksNow_17 rfl ?_
    refine g_X4_7 dX4_breaksNow_18  ?_
    refine K_iconstN 4 dX4_breaksNow_21 rfl ?_
    refine ald16 dX4_breaksNow_22 (by omega) ?_
    refine K_isub dX4_breaksNow_23 ?_
    refine K_istore_n dX4_breaksNow_24 (by decide) rfl ?_
    refine K_iload_n dX4_breaksNow_25 rfl ?_
    refine K_iconstN 1 dX4_breaksNow_26 rfl ?_
    refine K_icmp_ge (tgt := 34) dX4_breaksNow_27 (by decide) (fun c27 => ?_) (fun c27 => ?_)
    · skip
      refine K_iload_n dX4_breaksNow_34 rfl ?_
      exact K_iret dX4_breaksNow_35 ⟨by first | (simp [mBreaks, c5]; done) | (simp [mBreaks, c5, c27]; done), rfl⟩
    · skip
      refine K_iconstN 1 dX4_breaksNow_30 rfl ?_
      refine K_goto (tgt := 35) dX4_breaksNow_31 (by decide) ?_
      exact K_iret dX4_breaksNow_35 ⟨by first | (simp [mBreaks, c5]; done) | (simp [mBreaks, c5, c27]; done), rfl⟩
  · skip
    refine K_iconst (v := -1) dX4_breaksNow_8 (by decide) ?_
    exact K_iret dX4_breaksNow_9 ⟨by first | (simp [mBreaks, c5]; done) | (simp [mBreaks, c5, c27]; done), rfl⟩

set_option maxHeartbeats 4000000 in
set_option maxRecDepth 100000 in
theorem C_X4_paidWhole {l : Launch} {G : WG} {μ : Mem} {z : Zr} (hz : μ.1 16 0 0 = z) {p : Nat} (hp : p < 6) {n : Nat} (hZ : ZI z n) : Ct l G 1 yX4_paidWhole cX4_paidWhole 4 (some .int) [.ref (adr G 15 0 0), .int (nI p)] (μ) (some (.int (mWholeK z p (zp z p)))) (μ) := by
  refine Ct_of (by decide +kernel) (Nat.le_of_ble_eq_true rfl) ?_
  subst hz
  have hm4 := (hZ.2.2 p hp).2
  refine K_iconstN 0 dX4_paidWhole_0 rfl ?_
  refine K_istore_n dX4_paidWhole_1 (by decide) rfl ?_
  refine K_iconstN 0 dX4_paidWhole_2 rfl ?_
  refine K_istore_n dX4_paidWhole_3 (by decide) rfl ?_
  refine K_lv [0, 1, 2, 3] rfl ?_
  refine K_for (zp (μ.1 16 0 0) p) (fun k => [(0, .ref (adr G 15 0 0)), (1, .int (nI p)), (2, .int (mWholeK (μ.1 16 0 0) p k)), (3, .int (nI k))]) (fun _ => μ) ?_ ?_
  · skip
    refine K_iload_n dX4_paidWhole_4 rfl ?_
    refine K_aload_n dX4_paidWhole_5 rfl ?_
    refine K_iload_n dX4_paidWhole_6 rfl ?_
    refine K_bipush (v := nI 17) dX4_paidWhole_7 (by decide) ?_
    refine k_X4_of (C_X4_of rfl (by omega) (by omega)) (by decide)  ml_X4_36 (Nat.le_of_ble_eq_true rfl) dX4_paidWhole_9 ?_
    refine K_top (hZ.2.2 p hp).1 ?_
    refine K_icmpN_ge (by omega) (by omega) (tgt := 41) dX4_paidWhole_12 (by decide) (fun c12 => ?_) (fun c12 => ?_)
    · skip
      refine K_iload_n dX4_paidWhole_41 rfl ?_
      exact K_iret dX4_paidWhole_42 ⟨by rfl, rfl⟩
    · skip
      exfalso; omega
  · intro k hk_k ih_1
    refine K_iload_n dX4_paidWhole_4 rfl ?_
    refine K_aload_n dX4_paidWhole_5 rfl ?_
    refine K_iload_n dX4_paidWhole_6 rfl ?_
    refine K_bipush (v := nI 17) dX4_paidWhole_7 (by decide) ?_
    refine k_X4_of (C_X4_of rfl (by omega) (by omega)) (by decide)  ml_X4_36 (Nat.le_of_ble_eq_true rfl) dX4_paidWhole_9 ?_
    refine K_top (hZ.2.2 p hp).1 ?_
    refine K_icmpN_ge (by omega) (by omega) (tgt := 41) dX4_paidWhole_12 (by decide) (fun c12 => ?_) (fun c12 => ?_)
    · skip
      exfalso; omega
    · skip
      refine K_iload_n dX4_paidWhole_15 rfl ?_
      refine K_aload_n dX4_paidWhole_16 rfl ?_
      refine K_iload_n dX4_paidWhole_17 rfl ?_
      refine K_bipush (v := nI 22) dX4_paidWhole_18 (by decide) ?_
      refine K_iload_n dX4_paidWhole_20 rfl ?_
      refine K_iaddN dX4_paidWhole_21 ?_
      refine k_X4_of (C_X4_of rfl (by omega) (by omega)) (by decide)  ml_X4_36 (Nat.le_of_ble_eq_true rfl) dX4_paidWhole_22 ?_
      refine K_if_ne (tgt := 32) dX4_paidWhole_25 (by decide) (fun c25 => ?_) (fun c25 => ?_)
      · skip
        refine K_iconstN 0 dX4_paidWhole_32 rfl ?_
        refine K_iadd dX4_paidWhole_33 ?_
        refine K_istore_n dX4_paidWhole_34 (by decide) rfl ?_
        refine K_iincN (b := 1) dX4_paidWhole_35 rfl rfl (by decide) rfl ?_
        refine K_goto (tgt := 4) dX4_paidWhole_38 (by decide) ?_
        exact K_lv [0, 1, 2, 3] (by simp [lvpick, lkp, lvset, lvdel, Nat.beq, mWholeK, c25]) ih_1
      · skip
        refine K_iconstN 1 dX4_paidWhole_28 rfl ?_
        refine K_goto (tgt := 33) dX4_paidWhole_29 (by decide) ?_
        refine K_iadd dX4_paidWhole_33 ?_
        refine K_istore_n dX4_paidWhole_34 (by decide) rfl ?_
        refine K_iincN (b := 1) dX4_paidWhole_35 rfl rfl (by decide) rfl ?_
        refine K_goto (tgt := 4) dX4_paidWhole_38 (by decide) ?_
        exact K_lv [0, 1, 2, 3] (by simp [lvpick, lkp, lvset, lvdel, Nat.beq, mWholeK, c25]) ih_1

set_option maxHeartbeats 4000000 in
set_option maxRecDepth 100000 in
theorem C_X4_phaseNow0 {l : Launch} {G : WG} {μ : Mem} {z : Zr} (hz : μ.1 16 0 0 = z) {p : Nat} (hp : p < 6) {n : Nat} (hZ : ZI z n) : Ct l G 1 yX4_phaseNow cX4_phaseNow 3 (some .int) [.ref (adr G 15 0 0), .int (nI p), .int (nI 0)] (μ) (some (.int (mPhase z p 0))) (μ) := by
  refine Ct_of (by decide +kernel) (Nat.le_of_ble_eq_true rfl) ?_
  subst hz
  refine K_iload_n dX4_phaseNow_0 rfl ?_
  refine K_tableIn (tgt := 68) dX4_phaseNow_1 (by decide) (by decide) rfl (by decide) ?_
  refine K_aload_n dX4_phaseNow_68 rfl ?_
  refine K_iload_n dX4_phaseNow_69 rfl ?_
  refine K_iconstN 0 dX4_phaseNow_70 rfl ?_
  refine k_X4_of (C_X4_of rfl (by omega) (by omega)) (by decide)  ml_X4_36 (Nat.le_of_ble_eq_true rfl) dX4_phaseNow_71 ?_
  exact K_iret dX4_phaseNow_74 ⟨by rfl, rfl⟩

set_option maxHeartbeats 4000000 in
set_option maxRecDepth 100000 in
theorem C_X4_phaseNow1 {l : Launch} {G : WG} {μ : Mem} {z : Zr} (hz : μ.1 16 0 0 = z) {p : Nat} (hp : p < 6) {n : Nat} (hZ : ZI z n) : Ct l G 5 yX4_phaseNow cX4_phaseNow 3 (some .int) [.ref (adr G 15 0 0), .int (nI p), .int (nI 1)] (μ) (some (.int (mPhase z p 1))) (μ) := by
  refine Ct_of (by decide +kernel) (Nat.le_of_ble_eq_true rfl) ?_
  subst hz
  refine K_iload_n dX4_phaseNow_0 rfl ?_
  refine K_tableIn (tgt := 75) dX4_phaseNow_1 (by decide) (by decide) rfl (by decide) ?_
  refine K_aload_n dX4_phaseNow_75 rfl ?_
  refine K_iload_n dX4_phaseNow_76 rfl ?_
  refine k_X4_charge (C_X4_charge rfl (by omega)) (by decide)  ml_X4_57 (Nat.le_of_ble_eq_true rfl) dX4_phaseNow_77 ?_
  exact K_iret dX4_phaseNow_80 ⟨by rfl, rfl⟩

set_option maxHeartbeats 4000000 in
set_option maxRecDepth 100000 in
theorem C_X4_phaseNow2 {l : Launch} {G : WG} {μ : Mem} {z : Zr} (hz : μ.1 16 0 0 = z) {p : Nat} (hp : p < 6) {n : Nat} (hZ : ZI z n) : Ct l G 4 yX4_phaseNow cX4_phaseNow 3 (some .int) [.ref (adr G 15 0 0), .int (nI p), .int (nI 2)] (μ) (some (.int (mPhase z p 2))) (μ) := by
  refine Ct_of (by decide +kernel) (Nat.le_of_ble_eq_true rfl) ?_
  subst hz
  refine K_iload_n dX4_phaseNow_0 rfl ?_
  refine K_tableIn (tgt := 81) dX4_phaseNow_1 (by decide) (by decide) rfl (by decide) ?_
  refine K_aload_n dX4_phaseNow_81 rfl ?_
  refine K_iload_n dX4_phaseNow_82 rfl ?_
  refine k_X4_relief (C_X4_relief rfl (by omega)) (by decide)  ml_X4_60 (Nat.le_of_ble_eq_true rfl) dX4_phaseNow_83 ?_
  exact K_iret dX4_phaseNow_86 ⟨by rfl, rfl⟩

set_option maxHeartbeats 4000000 in
set_option maxRecDepth 100000 in
theorem C_X4_phaseNow3 {l : Launch} {G : WG} {μ : Mem} {z : Zr} (hz : μ.1 16 0 0 = z) {p : Nat} (hp : p < 6) {n : Nat} (hZ : ZI z n) : Ct l G 3 yX4_phaseNow cX4_phaseNow 3 (some .int) [.ref (adr G 15 0 0), .int (nI p), .int (nI 3)] (μ) (some (.int (mPhase z p 3))) (μ) := by
  refine Ct_of (by decide +kernel) (Nat.le_of_ble_eq_true rfl) ?_
  subst hz
  refine K_iload_n dX4_phaseNow_0 rfl ?_
  refine K_tableIn (tgt := 87) dX4_phaseNow_1 (by decide) (by decide) rfl (by decide) ?_
  refine K_aload_n dX4_phaseNow_87 rfl ?_
  refine K_iload_n dX4_phaseNow_88 rfl ?_
  refine k_X4_owed (C_X4_owed rfl (by omega) hZ) (by decide)  ml_X4_53 (Nat.le_of_ble_eq_true rfl) dX4_phaseNow_89 ?_
  exact K_iret dX4_phaseNow_92 ⟨by rfl, rfl⟩

set_option maxHeartbeats 4000000 in
set_option maxRecDepth 100000 in
theorem C_X4_phaseNow4 {l : Launch} {G : WG} {μ : Mem} {z : Zr} (hz : μ.1 16 0 0 = z) {p : Nat} (hp : p < 6) {n : Nat} (hZ : ZI z n) : Ct l G 4 yX4_phaseNow cX4_phaseNow 3 (some .int) [.ref (adr G 15 0 0), .int (nI p), .int (nI 4)] (μ) (some (.int (mPhase z p 4))) (μ) := by
  refine Ct_of (by decide +kernel) (Nat.le_of_ble_eq_true rfl) ?_
  subst hz
  refine K_iload_n dX4_phaseNow_0 rfl ?_
  refine K_tableIn (tgt := 93) dX4_phaseNow_1 (by decide) (by decide) rfl (by decide) ?_
  refine K_aload_n dX4_phaseNow_93 rfl ?_
  refine K_iload_n dX4_phaseNow_94 rfl ?_
  refine k_X4_dueNow (C_X4_dueNow rfl (by omega) hZ) (by decide)  ml_X4_188 (Nat.le_of_ble_eq_true rfl) dX4_phaseNow_95 ?_
  exact K_iret dX4_phaseNow_98 ⟨by rfl, rfl⟩

set_option maxHeartbeats 4000000 in
set_option maxRecDepth 100000 in
theorem C_X4_phaseNow5 {l : Launch} {G : WG} {μ : Mem} {z : Zr} (hz : μ.1 16 0 0 = z) {p : Nat} (hp : p < 6) {n : Nat} (hZ : ZI z n) : Ct l G 1 yX4_phaseNow cX4_phaseNow 3 (some .int) [.ref (adr G 15 0 0), .int (nI p), .int (nI 5)] (μ) (some (.int (mPhase z p 5))) (μ) := by
  refine Ct_of (by decide +kernel) (Nat.le_of_ble_eq_true rfl) ?_
  subst hz
  refine K_iload_n dX4_phaseNow_0 rfl ?_
  refine K_tableIn (tgt := 99) dX4_phaseNow_1 (by decide) (by decide) rfl (by decide) ?_
  refine K_aload_n dX4_phaseNow_99 rfl ?_
  refine K_iload_n dX4_phaseNow_100 rfl ?_
  refine K_bipush (v := nI 34) dX4_phaseNow_101 (by decide) ?_
  refine k_X4_of (C_X4_of rfl (by omega) (by omega)) (by decide)  ml_X4_36 (Nat.le_of_ble_eq_true rfl) dX4_phaseNow_103 ?_
  exact K_iret dX4_phaseNow_106 ⟨by rfl, rfl⟩

set_option maxHeartbeats 4000000 in
set_option maxRecDepth 100000 in
theorem C_X4_phaseNow6 {l : Launch} {G : WG} {μ : Mem} {z : Zr} (hz : μ.1 16 0 0 = z) {p : Nat} (hp : p < 6) {n : Nat} (hZ : ZI z n) : Ct l G 1 yX4_phaseNow cX4_phaseNow 3 (some .int) [.ref (adr G 15 0 0), .int (nI p), .int (nI 6)] (μ) (some (.int (mPhase z p 6))) (μ) := by
  refine Ct_of (by decide +kernel) (Nat.le_of_ble_eq_true rfl) ?_
  subst hz
  refine K_iload_n dX4_phaseNow_0 rfl ?_
  refine K_tableIn (tgt := 107) dX4_phaseNow_1 (by decide) (by decide) rfl (by decide) ?_
  refine K_aload_n dX4_phaseNow_107 rfl ?_
  refine K_iload_n dX4_phaseNow_108 rfl ?_
  refine K_bipush (v := nI 35) dX4_phaseNow_109 (by decide) ?_
  refine k_X4_of (C_X4_of rfl (by omega) (by omega)) (by decide)  ml_X4_36 (Nat.le_of_ble_eq_true rfl) dX4_phaseNow_111 ?_
  exact K_iret dX4_phaseNow_114 ⟨by rfl, rfl⟩

set_option maxHeartbeats 4000000 in
set_option maxRecDepth 100000 in
theorem C_X4_phaseNow7 {l : Launch} {G : WG} {μ : Mem} {z : Zr} (hz : μ.1 16 0 0 = z) {p : Nat} (hp : p < 6) {n : Nat} (hZ : ZI z n) : Ct l G 1 yX4_phaseNow cX4_phaseNow 3 (some .int) [.ref (adr G 15 0 0), .int (nI p), .int (nI 7)] (μ) (some (.int (mPhase z p 7))) (μ) := by
  refine Ct_of (by decide +kernel) (Nat.le_of_ble_eq_true rfl) ?_
  subst hz
  refine K_iload_n dX4_phaseNow_0 rfl ?_
  refine K_tableIn (tgt := 115) dX4_phaseNow_1 (by decide) (by decide) rfl (by decide) ?_
  refine K_aload_n dX4_phaseNow_115 rfl ?_
  refine K_iload_n dX4_phaseNow_116 rfl ?_
  refine K_bipush (v := nI 32) dX4_phaseNow_117 (by decide) ?_
  refine k_X4_of (C_X4_of rfl (by omega) (by omega)) (by decide)  ml_X4_36 (Nat.le_of_ble_eq_true rfl) dX4_phaseNow_119 ?_
  exact K_iret dX4_phaseNow_122 ⟨by rfl, rfl⟩

set_option maxHeartbeats 4000000 in
set_option maxRecDepth 100000 in
theorem C_X4_phaseNow8 {l : Launch} {G : WG} {μ : Mem} {z : Zr} (hz : μ.1 16 0 0 = z) {p : Nat} (hp : p < 6) {n : Nat} (hZ : ZI z n) : Ct l G 1 yX4_phaseNow cX4_phaseNow 3 (some .int) [.ref (adr G 15 0 0), .int (nI p), .int (nI 8)] (μ) (some (.int (mPhase z p 8))) (μ) := by
  refine Ct_of (by decide +kernel) (Nat.le_of_ble_eq_true rfl) ?_
  subst hz
  refine K_iload_n dX4_phaseNow_0 rfl ?_
  refine K_tableIn (tgt := 123) dX4_phaseNow_1 (by decide) (by decide) rfl (by decide) ?_
  refine K_aload_n dX4_phaseNow_123 rfl ?_
  refine K_iload_n dX4_phaseNow_124 rfl ?_
  refine K_bipush (v := nI 31) dX4_phaseNow_125 (by decide) ?_
  refine k_X4_of (C_X4_of rfl (by omega) (by omega)) (by decide)  ml_X4_36 (Nat.le_of_ble_eq_true rfl) dX4_phaseNow_127 ?_
  exact K_iret dX4_phaseNow_130 ⟨by rfl, rfl⟩

set_option maxHeartbeats 4000000 in
set_option maxRecDepth 100000 in
theorem C_X4_phaseNow9 {l : Launch} {G : WG} {μ : Mem} {z : Zr} (hz : μ.1 16 0 0 = z) {p : Nat} (hp : p < 6) {n : Nat} (hZ : ZI z n) : Ct l G 1 yX4_phaseNow cX4_phaseNow 3 (some .int) [.ref (adr G 15 0 0), .int (nI p), .int (nI 9)] (μ) (some (.int (mPhase z p 9))) (μ) := by
  refine Ct_of (by decide +kernel) (Nat.le_of_ble_eq_true rfl) ?_
  subst hz
  refine K_iload_n dX4_phaseNow_0 rfl ?_
  refine K_tableIn (tgt := 131) dX4_phaseNow_1 (by decide) (by decide) rfl (by decide) ?_
  refine K_aload_n dX4_phaseNow_131 rfl ?_
  refine K_iload_n dX4_phaseNow_132 rfl ?_
  refine K_bipush (v := nI 36) dX4_phaseNow_133 (by decide) ?_
  refine k_X4_of (C_X4_of rfl (by omega) (by omega)) (by decide)  ml_X4_36 (Nat.le_of_ble_eq_true rfl) dX4_phaseNow_135 ?_
  exact K_iret dX4_phaseNow_138 ⟨by rfl, rfl⟩

set_option maxHeartbeats 4000000 in
set_option maxRecDepth 100000 in
theorem C_X4_phaseNow10 {l : Launch} {G : WG} {μ : Mem} {z : Zr} (hz : μ.1 16 0 0 = z) {p : Nat} (hp : p < 6) {n : Nat} (hZ : ZI z n) : Ct l G 1 yX4_phaseNow cX4_phaseNow 3 (some .int) [.ref (adr G 15 0 0), .int (nI p), .int (nI 10)] (μ) (some (.int (mPhase z p 10))) (μ) := by
  refine Ct_of (by decide +kernel) (Nat.le_of_ble_eq_true rfl) ?_
  subst hz
  refine K_iload_n dX4_phaseNow_0 rfl ?_
  refine K_tableIn (tgt := 139) dX4_phaseNow_1 (by decide) (by decide) rfl (by decide) ?_
  refine K_aload_n dX4_phaseNow_139 rfl ?_
  refine K_iload_n dX4_phaseNow_140 rfl ?_
  refine K_bipush (v := nI 17) dX4_phaseNow_141 (by decide) ?_
  refine k_X4_of (C_X4_of rfl (by omega) (by omega)) (by decide)  ml_X4_36 (Nat.le_of_ble_eq_true rfl) dX4_phaseNow_143 ?_
  exact K_iret dX4_phaseNow_146 ⟨by rfl, rfl⟩

set_option maxHeartbeats 4000000 in
set_option maxRecDepth 100000 in
theorem C_X4_phaseNow11 {l : Launch} {G : WG} {μ : Mem} {z : Zr} (hz : μ.1 16 0 0 = z) {p : Nat} (hp : p < 6) {n : Nat} (hZ : ZI z n) : Ct l G 2 yX4_phaseNow cX4_phaseNow 3 (some .int) [.ref (adr G 15 0 0), .int (nI p), .int (nI 11)] (μ) (some (.int (mPhase z p 11))) (μ) := by
  refine Ct_of (by decide +kernel) (Nat.le_of_ble_eq_true rfl) ?_
  subst hz
  refine K_iload_n dX4_phaseNow_0 rfl ?_
  refine K_tableIn (tgt := 147) dX4_phaseNow_1 (by decide) (by decide) rfl (by decide) ?_
  refine K_aload_n dX4_phaseNow_147 rfl ?_
  refine K_iload_n dX4_phaseNow_148 rfl ?_
  refine k_X4_paidWhole (C_X4_paidWhole rfl (by omega) hZ) (by decide)  ml_X4_191 (Nat.le_of_ble_eq_true rfl) dX4_phaseNow_149 ?_
  exact K_iret dX4_phaseNow_152 ⟨by rfl, rfl⟩

set_option maxHeartbeats 4000000 in
set_option maxRecDepth 100000 in
theorem C_X4_phaseNow12 {l : Launch} {G : WG} {μ : Mem} {z : Zr} (hz : μ.1 16 0 0 = z) {p : Nat} (hp : p < 6) {n : Nat} (hZ : ZI z n) : Ct l G 2 yX4_phaseNow cX4_phaseNow 3 (some .int) [.ref (adr G 15 0 0), .int (nI p), .int (nI 12)] (μ) (some (.int (mPhase z p 12))) (μ) := by
  refine Ct_of (by decide +kernel) (Nat.le_of_ble_eq_true rfl) ?_
  subst hz
  refine K_iload_n dX4_phaseNow_0 rfl ?_
  refine K_tableIn (tgt := 153) dX4_phaseNow_1 (by decide) (by decide) rfl (by decide) ?_
  refine K_aload_n dX4_phaseNow_153 rfl ?_
  refine K_iload_n dX4_phaseNow_154 rfl ?_
  refine k_X4_areaOf (C_X4_areaOf rfl (by omega)) (by decide)  ml_X4_68 (Nat.le_of_ble_eq_true rfl) dX4_phaseNow_155 ?_
  exact K_iret dX4_phaseNow_158 ⟨by rfl, rfl⟩

set_option maxHeartbeats 4000000 in
set_option maxRecDepth 100000 in
theorem C_X4_phaseNow13 {l : Launch} {G : WG} {μ : Mem} {z : Zr} (hz : μ.1 16 0 0 = z) {p : Nat} (hp : p < 6) {n : Nat} (hZ : ZI z n) : Ct l G 6 yX4_phaseNow cX4_phaseNow 3 (some .int) [.ref (adr G 15 0 0), .int (nI p), .int (nI 13)] (μ) (some (.int (mPhase z p 13))) (μ) := by
  refine Ct_of (by decide +kernel) (Nat.le_of_ble_eq_true rfl) ?_
  subst hz
  refine K_iload_n dX4_phaseNow_0 rfl ?_
  refine K_tableOut (tgt := 159) dX4_phaseNow_1 (by decide) (by decide) ?_
  refine K_aload_n dX4_phaseNow_159 rfl ?_
  refine K_iload_n dX4_phaseNow_160 rfl ?_
  refine k_X4_roomForLand (C_X4_roomForLand rfl (by omega)) (by decide)  ml_X4_74 (Nat.le_of_ble_eq_true rfl) dX4_phaseNow_161 ?_
  exact K_iret dX4_phaseNow_164 ⟨by rfl, rfl⟩

set_option maxHeartbeats 4000000 in
set_option maxRecDepth 100000 in
theorem C_X4_useNow0 {l : Launch} {G : WG} {μ : Mem} {z : Zr} (hz : μ.1 16 0 0 = z) {p : Nat} (hp : p < 6) {u : Nat} (hu : u < 4) : Ct l G 1 yX4_useNow cX4_useNow 4 (some .int) [.ref (adr G 15 0 0), .int (nI p), .int (nI u), .int (nI 0)] (μ) (some (.int (mUse z p u 0))) (μ) := by
  refine Ct_of (by decide +kernel) (Nat.le_of_ble_eq_true rfl) ?_
  subst hz
  refine K_iload_n dX4_useNow_0 rfl ?_
  refine K_tableIn (tgt := 32) dX4_useNow_1 (by decide) (by decide) rfl (by decide) ?_
  refine K_aload_n dX4_useNow_32 rfl ?_
  refine K_iload_n dX4_useNow_33 rfl ?_
  refine K_iconstN 1 dX4_useNow_34 rfl ?_
  refine K_iload_n dX4_useNow_35 rfl ?_
  refine K_iaddN dX4_useNow_36 ?_
  refine k_X4_of (C_X4_of rfl (by omega) (by omega)) (by decide)  ml_X4_36 (Nat.le_of_ble_eq_true rfl) dX4_useNow_37 ?_
  exact K_iret dX4_useNow_40 ⟨by rfl, rfl⟩

set_option maxHeartbeats 4000000 in
set_option maxRecDepth 100000 in
theorem C_X4_whyNotNow0 {l : Launch} {G : WG} {μ : Mem} {z : Zr} (hz : μ.1 16 0 0 = z) {p : Nat} (hp : p < 6) {u : Nat} (hu : u < 4) {n : Nat} (hZ : ZI z n) : Ct l G 2 yX4_whyNotNow cX4_whyNotNow 4 (some .int) [.ref (adr G 15 0 0), .int (nI 0), .int (nI p), .int (nI u)] (μ) (some (.int (mWhy z p u 0))) (μ) := by
  refine Ct_of (by decide +kernel) (Nat.le_of_ble_eq_true rfl) ?_
  subst hz
  refine K_iload_n dX4_whyNotNow_0 rfl ?_
  refine K_tableIn (tgt := 32) dX4_whyNotNow_1 (by decide) (by decide) rfl (by decide) ?_
  refine K_aload_n dX4_whyNotNow_32 rfl ?_
  refine K_iload_n dX4_whyNotNow_33 rfl ?_
  refine k_X4_hasBegun (C_X4_hasBegun rfl (by omega)) (by decide)  ml_X4_40 (Nat.le_of_ble_eq_true rfl) dX4_whyNotNow_34 ?_
  refine K_ifb_eq (tgt := 44) dX4_whyNotNow_37 (by decide) (fun c37 => ?_) (fun c37 => ?_)
  · skip
    refine K_iconstN 0 dX4_whyNotNow_44 rfl ?_
    exact K_iret dX4_whyNotNow_45 ⟨by simp only [mWhy, c37, cond_true, cond_false], rfl⟩
  · skip
    refine K_iconstN 1 dX4_whyNotNow_40 rfl ?_
    refine K_goto (tgt := 45) dX4_whyNotNow_41 (by decide) ?_
    exact K_iret dX4_whyNotNow_45 ⟨by simp only [mWhy, c37, cond_true, cond_false], rfl⟩

set_option maxHeartbeats 4000000 in
set_option maxRecDepth 100000 in
theorem C_X4_useNow1 {l : Launch} {G : WG} {μ : Mem} {z : Zr} (hz : μ.1 16 0 0 = z) {p : Nat} (hp : p < 6) {u : Nat} (hu : u < 4) : Ct l G 1 yX4_useNow cX4_useNow 4 (some .int) [.ref (adr G 15 0 0), .int (nI p), .int (nI u), .int (nI 1)] (μ) (some (.int (mUse z p u 1))) (μ) := by
  refine Ct_of (by decide +kernel) (Nat.le_of_ble_eq_true rfl) ?_
  subst hz
  refine K_iload_n dX4_useNow_0 rfl ?_
  refine K_tableIn (tgt := 41) dX4_useNow_1 (by decide) (by decide) rfl (by decide) ?_
  refine K_aload_n dX4_useNow_41 rfl ?_
  refine K_iload_n dX4_useNow_42 rfl ?_
  refine K_iconstN 5 dX4_useNow_43 rfl ?_
  refine K_iload_n dX4_useNow_44 rfl ?_
  refine K_iaddN dX4_useNow_45 ?_
  refine k_X4_of (C_X4_of rfl (by omega) (by omega)) (by decide)  ml_X4_36 (Nat.le_of_ble_eq_true rfl) dX4_useNow_46 ?_
  exact K_iret dX4_useNow_49 ⟨by rfl, rfl⟩

set_option maxHeartbeats 4000000 in
set_option maxRecDepth 100000 in
theorem C_X4_whyNotNow1 {l : Launch} {G : WG} {μ : Mem} {z : Zr} (hz : μ.1 16 0 0 = z) {p : Nat} (hp : p < 6) {u : Nat} (hu : u < 4) {n : Nat} (hZ : ZI z n) : Ct l G 3 yX4_whyNotNow cX4_whyNotNow 4 (some .int) [.ref (adr G 15 0 0), .int (nI 1), .int (nI p), .int (nI u)] (μ) (some (.int (mWhy z p u 1))) (μ) := by
  refine Ct_of (by decide +kernel) (Nat.le_of_ble_eq_true rfl) ?_
  subst hz
  refine K_iload_n dX4_whyNotNow_0 rfl ?_
  refine K_tableIn (tgt := 46) dX4_whyNotNow_1 (by decide) (by decide) rfl (by decide) ?_
  refine K_aload_n dX4_whyNotNow_46 rfl ?_
  refine K_iload_n dX4_whyNotNow_47 rfl ?_
  refine k_X4_whyNoBeginning (C_X4_whyNoBeginning rfl (by omega)) (by decide)  ml_X4_106 (Nat.le_of_ble_eq_true rfl) dX4_whyNotNow_48 ?_
  exact K_iret dX4_whyNotNow_51 ⟨by rfl, rfl⟩

set_option maxHeartbeats 4000000 in
set_option maxRecDepth 100000 in
theorem C_X4_useNow2 {l : Launch} {G : WG} {μ : Mem} {z : Zr} (hz : μ.1 16 0 0 = z) {p : Nat} (hp : p < 6) {u : Nat} (hu : u < 4) : Ct l G 3 yX4_useNow cX4_useNow 4 (some .int) [.ref (adr G 15 0 0), .int (nI p), .int (nI u), .int (nI 2)] (μ) (some (.int (mUse z p u 2))) (μ) := by
  refine Ct_of (by decide +kernel) (Nat.le_of_ble_eq_true rfl) ?_
  subst hz
  refine K_iload_n dX4_useNow_0 rfl ?_
  refine K_tableIn (tgt := 50) dX4_useNow_1 (by decide) (by decide) rfl (by decide) ?_
  refine K_aload_n dX4_useNow_50 rfl ?_
  refine K_iload_n dX4_useNow_51 rfl ?_
  refine K_iload_n dX4_useNow_52 rfl ?_
  refine k_X4_rateOf (C_X4_rateOf rfl (by omega) (by omega)) (by decide)  ml_X4_44 (Nat.le_of_ble_eq_true rfl) dX4_useNow_53 ?_
  exact K_iret dX4_useNow_56 ⟨by rfl, rfl⟩

set_option maxHeartbeats 4000000 in
set_option maxRecDepth 100000 in
theorem C_X4_whyNotNow2 {l : Launch} {G : WG} {μ : Mem} {z : Zr} (hz : μ.1 16 0 0 = z) {p : Nat} (hp : p < 6) {u : Nat} (hu : u < 4) {n : Nat} (hZ : ZI z n) : Ct l G 4 yX4_whyNotNow cX4_whyNotNow 4 (some .int) [.ref (adr G 15 0 0), .int (nI 2), .int (nI p), .int (nI u)] (μ) (some (.int (mWhy z p u 2))) (μ) := by
  refine Ct_of (by decide +kernel) (Nat.le_of_ble_eq_true rfl) ?_
  subst hz
  refine K_iload_n dX4_whyNotNow_0 rfl ?_
  refine K_tableIn (tgt := 52) dX4_whyNotNow_1 (by decide) (by decide) rfl (by decide) ?_
  refine K_aload_n dX4_whyNotNow_52 rfl ?_
  refine K_iload_n dX4_whyNotNow_53 rfl ?_
  refine k_X4_whyNoPayment (C_X4_whyNoPayment rfl (by omega) hZ) (by decide)  ml_X4_71 (Nat.le_of_ble_eq_true rfl) dX4_whyNotNow_54 ?_
  exact K_iret dX4_whyNotNow_57 ⟨by rfl, rfl⟩

set_option maxHeartbeats 4000000 in
set_option maxRecDepth 100000 in
theorem C_X4_useNow3 {l : Launch} {G : WG} {μ : Mem} {z : Zr} (hz : μ.1 16 0 0 = z) {p : Nat} (hp : p < 6) {u : Nat} (hu : u < 4) : Ct l G 4 yX4_useNow cX4_useNow 4 (some .int) [.ref (adr G 15 0 0), .int (nI p), .int (nI u), .int (nI 3)] (μ) (some (.int (mUse z p u 3))) (μ) := by
  refine Ct_of (by decide +kernel) (Nat.le_of_ble_eq_true rfl) ?_
  subst hz
  refine K_iload_n dX4_useNow_0 rfl ?_
  refine K_tableIn (tgt := 57) dX4_useNow_1 (by decide) (by decide) rfl (by decide) ?_
  refine K_aload_n dX4_useNow_57 rfl ?_
  refine K_iload_n dX4_useNow_58 rfl ?_
  refine K_iload_n dX4_useNow_59 rfl ?_
  refine k_X4_chargeOf (C_X4_chargeOf rfl (by omega) (by omega)) (by decide)  ml_X4_47 (Nat.le_of_ble_eq_true rfl) dX4_useNow_60 ?_
  exact K_iret dX4_useNow_63 ⟨by rfl, rfl⟩

set_option maxHeartbeats 4000000 in
set_option maxRecDepth 100000 in
theorem C_X4_whyNotNow3 {l : Launch} {G : WG} {μ : Mem} {z : Zr} (hz : μ.1 16 0 0 = z) {p : Nat} (hp : p < 6) {u : Nat} (hu : u < 4) {n : Nat} (hZ : ZI z n) : Ct l G 7 yX4_whyNotNow cX4_whyNotNow 4 (some .int) [.ref (adr G 15 0 0), .int (nI 3), .int (nI p), .int (nI u)] (μ) (some (.int (mWhy z p u 3))) (μ) := by
  refine Ct_of (by decide +kernel) (Nat.le_of_ble_eq_true rfl) ?_
  subst hz
  refine K_iload_n dX4_whyNotNow_0 rfl ?_
  refine K_tableIn (tgt := 58) dX4_whyNotNow_1 (by decide) (by decide) rfl (by decide) ?_
  refine K_aload_n dX4_whyNotNow_58 rfl ?_
  refine K_iload_n dX4_whyNotNow_59 rfl ?_
  refine k_X4_whyNoLand (C_X4_whyNoLand rfl (by omega) hZ) (by decide)  ml_X4_126 (Nat.le_of_ble_eq_true rfl) dX4_whyNotNow_60 ?_
  exact K_iret dX4_whyNotNow_63 ⟨by rfl, rfl⟩

set_option maxHeartbeats 4000000 in
set_option maxRecDepth 100000 in
theorem C_X4_useNow4 {l : Launch} {G : WG} {μ : Mem} {z : Zr} (hz : μ.1 16 0 0 = z) {p : Nat} (hp : p < 6) {u : Nat} (hu : u < 4) : Ct l G 3 yX4_useNow cX4_useNow 4 (some .int) [.ref (adr G 15 0 0), .int (nI p), .int (nI u), .int (nI 4)] (μ) (some (.int (mUse z p u 4))) (μ) := by
  refine Ct_of (by decide +kernel) (Nat.le_of_ble_eq_true rfl) ?_
  subst hz
  refine K_iload_n dX4_useNow_0 rfl ?_
  refine K_tableOut (tgt := 64) dX4_useNow_1 (by decide) (by decide) ?_
  refine K_aload_n dX4_useNow_64 rfl ?_
  refine K_iload_n dX4_useNow_65 rfl ?_
  refine K_iload_n dX4_useNow_66 rfl ?_
  refine k_X4_reliefOf (C_X4_reliefOf rfl (by omega) (by omega)) (by decide)  ml_X4_50 (Nat.le_of_ble_eq_true rfl) dX4_useNow_67 ?_
  exact K_iret dX4_useNow_70 ⟨by rfl, rfl⟩

set_option maxHeartbeats 4000000 in
set_option maxRecDepth 100000 in
theorem C_X4_whyNotNow4 {l : Launch} {G : WG} {μ : Mem} {z : Zr} (hz : μ.1 16 0 0 = z) {p : Nat} (hp : p < 6) {u : Nat} (hu : u < 4) {n : Nat} (hZ : ZI z n) : Ct l G 3 yX4_whyNotNow cX4_whyNotNow 4 (some .int) [.ref (adr G 15 0 0), .int (nI 4), .int (nI p), .int (nI u)] (μ) (some (.int (mWhy z p u 4))) (μ) := by
  refine Ct_of (by decide +kernel) (Nat.le_of_ble_eq_true rfl) ?_
  subst hz
  refine K_iload_n dX4_whyNotNow_0 rfl ?_
  refine K_tableOut (tgt := 64) dX4_whyNotNow_1 (by decide) (by decide) ?_
  refine K_aload_n dX4_whyNotNow_64 rfl ?_
  refine K_iload_n dX4_whyNotNow_65 rfl ?_
  refine K_iload_n dX4_whyNotNow_66 rfl ?_
  refine k_X4_whyNoLapse (C_X4_whyNoLapse rfl (by omega) (by omega)) (by decide)  ml_X4_129 (Nat.le_of_ble_eq_true rfl) dX4_whyNotNow_67 ?_
  exact K_iret dX4_whyNotNow_70 ⟨by rfl, rfl⟩

set_option maxHeartbeats 4000000 in
set_option maxRecDepth 100000 in
theorem C_X4_instalmentNow0 {l : Launch} {G : WG} {μ : Mem} {z : Zr} (hz : μ.1 16 0 0 = z) {p : Nat} (hp : p < 6) {k : Nat} (hk : k < 4) {n : Nat} (hZ : ZI z n) : Ct l G 1 yX4_instalmentNow cX4_instalmentNow 4 (some .int) [.ref (adr G 15 0 0), .int (nI p), .int (nI k), .int (nI 0)] (μ) (some (.int (mInst z p k 0))) (μ) := by
  refine Ct_of (by decide +kernel) (Nat.le_of_ble_eq_true rfl) ?_
  subst hz
  have hm4 := (hZ.2.2 p hp).2
  refine K_iload_n dX4_instalmentNow_0 rfl ?_
  refine K_aload_n dX4_instalmentNow_1 rfl ?_
  refine K_iload_n dX4_instalmentNow_2 rfl ?_
  refine K_bipush (v := nI 17) dX4_instalmentNow_3 (by decide) ?_
  refine k_X4_of (C_X4_of rfl (by omega) (by omega)) (by decide)  ml_X4_36 (Nat.le_of_ble_eq_true rfl) dX4_instalmentNow_5 ?_
  refine K_top (hZ.2.2 p hp).1 ?_
  refine K_icmpN_ge (by omega) (by omega) (tgt := 27) dX4_instalmentNow_8 (by decide) (fun c8 => ?_) (fun c8 => ?_)
  · skip
    refine K_iconst (v := -1) dX4_instalmentNow_27 (by decide) ?_
    exact K_iret dX4_instalmentNow_28 ⟨by first | (simp only [mInst, show decide (k < zp (μ.1 16 0 0) p) = true from decide_eq_true c8, cond_true]; done) | (simp only [mInst, show decide (k < zp (μ.1 16 0 0) p) = false from decide_eq_false (Nat.not_lt.mpr c8), cond_false]; done), rfl⟩
  · skip
    refine K_aload_n dX4_instalmentNow_11 rfl ?_
    refine K_iload_n dX4_instalmentNow_12 rfl ?_
    refine K_bipush (v := nI 18) dX4_instalmentNow_13 (by decide) ?_
    refine K_iconstN 4 dX4_instalmentNow_15 rfl ?_
    refine K_iload_n dX4_instalmentNow_16 rfl ?_
    refine K_imulN dX4_instalmentNow_17 ?_
    refine K_iaddN dX4_instalmentNow_18 ?_
    refine K_iload_n dX4_instalmentNow_19 rfl ?_
    refine K_iaddN dX4_instalmentNow_20 ?_
    refine k_X4_of (C_X4_of rfl (by omega) (by omega)) (by decide)  ml_X4_36 (Nat.le_of_ble_eq_true rfl) dX4_instalmentNow_21 ?_
    refine K_goto (tgt := 28) dX4_instalmentNow_24 (by decide) ?_
    exact K_iret dX4_instalmentNow_28 ⟨by first | (simp only [mInst, show decide (k < zp (μ.1 16 0 0) p) = true from decide_eq_true c8, cond_true]; done) | (simp only [mInst, show decide (k < zp (μ.1 16 0 0) p) = false from decide_eq_false (Nat.not_lt.mpr c8), cond_false]; done), rfl⟩

set_option maxHeartbeats 4000000 in
set_option maxRecDepth 100000 in
theorem C_X4_begunThen0 {l : Launch} {G : WG} {μ : Mem} {z : Zr} (hz : μ.1 16 0 0 = z) {p : Nat} (hp : p < 6) : Ct l G 5 yX4_begunThen cX4_begunThen 4 (some .int) [.ref (adr G 15 0 0), .int (nI p), .int (nI 0)] (μ) (some (.int (mThen z p 0))) (μ) := by
  refine Ct_of (by decide +kernel) (Nat.le_of_ble_eq_true rfl) ?_
  subst hz
  refine K_aload_n dX4_begunThen_0 rfl ?_
  refine K_iload_n dX4_begunThen_1 rfl ?_
  refine k_X4_whyNoBeginning (C_X4_whyNoBeginning rfl (by omega)) (by decide)  ml_X4_106 (Nat.le_of_ble_eq_true rfl) dX4_begunThen_2 ?_
  refine K_if_le (tgt := 10) dX4_begunThen_5 (by decide) (fun c5 => ?_) (fun c5 => ?_)
  · skip
    refine K_aload_n dX4_begunThen_10 rfl ?_
    refine K_iload_n dX4_begunThen_11 rfl ?_
    refine k_X4_charge (C_X4_charge rfl (by omega)) (by decide)  ml_X4_57 (Nat.le_of_ble_eq_true rfl) dX4_begunThen_12 ?_
    refine K_aload_n dX4_begunThen_15 rfl ?_
    refine K_iload_n dX4_begunThen_16 rfl ?_
    refine k_X4_relief (C_X4_relief rfl (by omega)) (by decide)  ml_X4_60 (Nat.le_of_ble_eq_true rfl) dX4_begunThen_17 ?_
    refine K_isub dX4_begunThen_20 ?_
    refine K_istore_n dX4_begunThen_21 (by decide) rfl ?_
    refine K_iload_n dX4_begunThen_22 rfl ?_
    refine K_ifN_ne (by omega) (tgt := 30) dX4_begunThen_23 (by decide) (fun c23 => absurd c23 (by decide)) (fun c23 => ?_)
    refine K_iload_n dX4_begunThen_26 rfl ?_
    refine K_goto (tgt := 46) dX4_begunThen_27 (by decide) ?_
    exact K_iret dX4_begunThen_46 ⟨by simp [mThen, c5], rfl⟩
  · skip
    refine K_iconst (v := -1) dX4_begunThen_8 (by decide) ?_
    exact K_iret dX4_begunThen_9 ⟨by simp [mThen, c5], rfl⟩

set_option maxHeartbeats 4000000 in
set_option maxRecDepth 100000 in
theorem C_X4_instalmentNow1 {l : Launch} {G : WG} {μ : Mem} {z : Zr} (hz : μ.1 16 0 0 = z) {p : Nat} (hp : p < 6) {k : Nat} (hk : k < 4) {n : Nat} (hZ : ZI z n) : Ct l G 1 yX4_instalmentNow cX4_instalmentNow 4 (some .int) [.ref (adr G 15 0 0), .int (nI p), .int (nI k), .int (nI 1)] (μ) (some (.int (mInst z p k 1))) (μ) := by
  refine Ct_of (by decide +kernel) (Nat.le_of_ble_eq_true rfl) ?_
  subst hz
  have hm4 := (hZ.2.2 p hp).2
  refine K_iload_n dX4_instalmentNow_0 rfl ?_
  refine K_aload_n dX4_instalmentNow_1 rfl ?_
  refine K_iload_n dX4_instalmentNow_2 rfl ?_
  refine K_bipush (v := nI 17) dX4_instalmentNow_3 (by decide) ?_
  refine k_X4_of (C_X4_of rfl (by omega) (by omega)) (by decide)  ml_X4_36 (Nat.le_of_ble_eq_true rfl) dX4_instalmentNow_5 ?_
  refine K_top (hZ.2.2 p hp).1 ?_
  refine K_icmpN_ge (by omega) (by omega) (tgt := 27) dX4_instalmentNow_8 (by decide) (fun c8 => ?_) (fun c8 => ?_)
  · skip
    refine K_iconst (v := -1) dX4_instalmentNow_27 (by decide) ?_
    exact K_iret dX4_instalmentNow_28 ⟨by first | (simp only [mInst, show decide (k < zp (μ.1 16 0 0) p) = true from decide_eq_true c8, cond_true]; done) | (simp only [mInst, show decide (k < zp (μ.1 16 0 0) p) = false from decide_eq_false (Nat.not_lt.mpr c8), cond_false]; done), rfl⟩
  · skip
    refine K_aload_n dX4_instalmentNow_11 rfl ?_
    refine K_iload_n dX4_instalmentNow_12 rfl ?_
    refine K_bipush (v := nI 18) dX4_instalmentNow_13 (by decide) ?_
    refine K_iconstN 4 dX4_instalmentNow_15 rfl ?_
    refine K_iload_n dX4_instalmentNow_16 rfl ?_
    refine K_imulN dX4_instalmentNow_17 ?_
    refine K_iaddN dX4_instalmentNow_18 ?_
    refine K_iload_n dX4_instalmentNow_19 rfl ?_
    refine K_iaddN dX4_instalmentNow_20 ?_
    refine k_X4_of (C_X4_of rfl (by omega) (by omega)) (by decide)  ml_X4_36 (Nat.le_of_ble_eq_true rfl) dX4_instalmentNow_21 ?_
    refine K_goto (tgt := 28) dX4_instalmentNow_24 (by decide) ?_
    exact K_iret dX4_instalmentNow_28 ⟨by first | (simp only [mInst, show decide (k < zp (μ.1 16 0 0) p) = true from decide_eq_true c8, cond_true]; done) | (simp only [mInst, show decide (k < zp (μ.1 16 0 0) p) = false from decide_eq_false (Nat.not_lt.mpr c8), cond_false]; done), rfl⟩

set_option maxHeartbeats 4000000 in
set_option maxRecDepth 100000 in
theorem C_X4_begunThen1 {l : Launch} {G : WG} {μ : Mem} {z : Zr} (hz : μ.1 16 0 0 = z) {p : Nat} (hp : p < 6) : Ct l G 5 yX4_begunThen cX4_begunThen 4 (some .int) [.ref (adr G 15 0 0), .int (nI p), .int (nI 1)] (μ) (some (.int (mThen z p 1))) (μ) := by
  refine Ct_of (by decide +kernel) (Nat.le_of_ble_eq_true rfl) ?_
  subst hz
  refine K_aload_n dX4_begunThen_0 rfl ?_
  refine K_iload_n dX4_begunThen_1 rfl ?_
  refine k_X4_whyNoBeginning (C_X4_whyNoBeginning rfl (by omega)) (by decide)  ml_X4_106 (Nat.le_of_ble_eq_true rfl) dX4_begunThen_2 ?_
  refine K_if_le (tgt := 10) dX4_begunThen_5 (by decide) (fun c5 => ?_) (fun c5 => ?_)
  · skip
    refine K_aload_n dX4_begunThen_10 rfl ?_
    refine K_iload_n dX4_begunThen_11 rfl ?_
    refine k_X4_charge (C_X4_charge rfl (by omega)) (by decide)  ml_X4_57 (Nat.le_of_ble_eq_true rfl) dX4_begunThen_12 ?_
    refine K_aload_n dX4_begunThen_15 rfl ?_
    refine K_iload_n dX4_begunThen_16 rfl ?_
    refine k_X4_relief (C_X4_relief rfl (by omega)) (by decide)  ml_X4_60 (Nat.le_of_ble_eq_true rfl) dX4_begunThen_17 ?_
    refine K_isub dX4_begunThen_20 ?_
    refine K_istore_n dX4_begunThen_21 (by decide) rfl ?_
    refine K_iload_n dX4_begunThen_22 rfl ?_
    refine K_ifN_ne (by omega) (tgt := 30) dX4_begunThen_23 (by decide) (fun c23 => ?_) (fun c23 => absurd c23 (by decide))
    refine K_iload_n dX4_begunThen_30 rfl ?_
    refine K_iconstN 1 dX4_begunThen_31 rfl ?_
    refine K_icmpN_ne (by omega) (by omega) (tgt := 42) dX4_begunThen_32 (by decide) (fun c32 => absurd c32 (by decide)) (fun c32 => ?_)
    refine K_iload_n dX4_begunThen_35 rfl ?_
    refine k_X4_partsFor (C_X4_partsFor ) (by decide) ml_X4_65 (Nat.le_of_ble_eq_true rfl) dX4_begunThen_36 ?_
    refine K_goto (tgt := 46) dX4_begunThen_39 (by decide) ?_
    exact K_iret dX4_begunThen_46 ⟨by simp [mThen, c5], rfl⟩
  · skip
    refine K_iconst (v := -1) dX4_begunThen_8 (by decide) ?_
    exact K_iret dX4_begunThen_9 ⟨by simp [mThen, c5], rfl⟩

set_option maxHeartbeats 4000000 in
set_option maxRecDepth 100000 in
theorem C_X4_instalmentNow2 {l : Launch} {G : WG} {μ : Mem} {z : Zr} (hz : μ.1 16 0 0 = z) {p : Nat} (hp : p < 6) {k : Nat} (hk : k < 4) {n : Nat} (hZ : ZI z n) : Ct l G 1 yX4_instalmentNow cX4_instalmentNow 4 (some .int) [.ref (adr G 15 0 0), .int (nI p), .int (nI k), .int (nI 2)] (μ) (some (.int (mInst z p k 2))) (μ) := by
  refine Ct_of (by decide +kernel) (Nat.le_of_ble_eq_true rfl) ?_
  subst hz
  have hm4 := (hZ.2.2 p hp).2
  refine K_iload_n dX4_instalmentNow_0 rfl ?_
  refine K_aload_n dX4_instalmentNow_1 rfl ?_
  refine K_iload_n dX4_instalmentNow_2 rfl ?_
  refine K_bipush (v := nI 17) dX4_instalmentNow_3 (by decide) ?_
  refine k_X4_of (C_X4_of rfl (by omega) (by omega)) (by decide)  ml_X4_36 (Nat.le_of_ble_eq_true rfl) dX4_instalmentNow_5 ?_
  refine K_top (hZ.2.2 p hp).1 ?_
  refine K_icmpN_ge (by omega) (by omega) (tgt := 27) dX4_instalmentNow_8 (by decide) (fun c8 => ?_) (fun c8 => ?_)
  · skip
    refine K_iconst (v := -1) dX4_instalmentNow_27 (by decide) ?_
    exact K_iret dX4_instalmentNow_28 ⟨by first | (simp only [mInst, show decide (k < zp (μ.1 16 0 0) p) = true from decide_eq_true c8, cond_true]; done) | (simp only [mInst, show decide (k < zp (μ.1 16 0 0) p) = false from decide_eq_false (Nat.not_lt.mpr c8), cond_false]; done), rfl⟩
  · skip
    refine K_aload_n dX4_instalmentNow_11 rfl ?_
    refine K_iload_n dX4_instalmentNow_12 rfl ?_
    refine K_bipush (v := nI 18) dX4_instalmentNow_13 (by decide) ?_
    refine K_iconstN 4 dX4_instalmentNow_15 rfl ?_
    refine K_iload_n dX4_instalmentNow_16 rfl ?_
    refine K_imulN dX4_instalmentNow_17 ?_
    refine K_iaddN dX4_instalmentNow_18 ?_
    refine K_iload_n dX4_instalmentNow_19 rfl ?_
    refine K_iaddN dX4_instalmentNow_20 ?_
    refine k_X4_of (C_X4_of rfl (by omega) (by omega)) (by decide)  ml_X4_36 (Nat.le_of_ble_eq_true rfl) dX4_instalmentNow_21 ?_
    refine K_goto (tgt := 28) dX4_instalmentNow_24 (by decide) ?_
    exact K_iret dX4_instalmentNow_28 ⟨by first | (simp only [mInst, show decide (k < zp (μ.1 16 0 0) p) = true from decide_eq_true c8, cond_true]; done) | (simp only [mInst, show decide (k < zp (μ.1 16 0 0) p) = false from decide_eq_false (Nat.not_lt.mpr c8), cond_false]; done), rfl⟩

set_option maxHeartbeats 4000000 in
set_option maxRecDepth 100000 in
theorem C_X4_begunThen2 {l : Launch} {G : WG} {μ : Mem} {z : Zr} (hz : μ.1 16 0 0 = z) {p : Nat} (hp : p < 6) : Ct l G 5 yX4_begunThen cX4_begunThen 4 (some .int) [.ref (adr G 15 0 0), .int (nI p), .int (nI 2)] (μ) (some (.int (mThen z p 2))) (μ) := by
  refine Ct_of (by decide +kernel) (Nat.le_of_ble_eq_true rfl) ?_
  subst hz
  refine K_aload_n dX4_begunThen_0 rfl ?_
  refine K_iload_n dX4_begunThen_1 rfl ?_
  refine k_X4_whyNoBeginning (C_X4_whyNoBeginning rfl (by omega)) (by decide)  ml_X4_106 (Nat.le_of_ble_eq_true rfl) dX4_begunThen_2 ?_
  refine K_if_le (tgt := 10) dX4_begunThen_5 (by decide) (fun c5 => ?_) (fun c5 => ?_)
  · skip
    refine K_aload_n dX4_begunThen_10 rfl ?_
    refine K_iload_n dX4_begunThen_11 rfl ?_
    refine k_X4_charge (C_X4_charge rfl (by omega)) (by decide)  ml_X4_57 (Nat.le_of_ble_eq_true rfl) dX4_begunThen_12 ?_
    refine K_aload_n dX4_begunThen_15 rfl ?_
    refine K_iload_n dX4_begunThen_16 rfl ?_
    refine k_X4_relief (C_X4_relief rfl (by omega)) (by decide)  ml_X4_60 (Nat.le_of_ble_eq_true rfl) dX4_begunThen_17 ?_
    refine K_isub dX4_begunThen_20 ?_
    refine K_istore_n dX4_begunThen_21 (by decide) rfl ?_
    refine K_iload_n dX4_begunThen_22 rfl ?_
    refine K_ifN_ne (by omega) (tgt := 30) dX4_begunThen_23 (by decide) (fun c23 => ?_) (fun c23 => absurd c23 (by decide))
    refine K_iload_n dX4_begunThen_30 rfl ?_
    refine K_iconstN 1 dX4_begunThen_31 rfl ?_
    refine K_icmpN_ne (by omega) (by omega) (tgt := 42) dX4_begunThen_32 (by decide) (fun c32 => ?_) (fun c32 => absurd c32 (by decide))
    refine K_iload_n dX4_begunThen_42 rfl ?_
    refine k_X4_lastOf (C_X4_lastOf ) (by decide) ml_X4_103 (Nat.le_of_ble_eq_true rfl) dX4_begunThen_43 ?_
    exact K_iret dX4_begunThen_46 ⟨by simp [mThen, c5], rfl⟩
  · skip
    refine K_iconst (v := -1) dX4_begunThen_8 (by decide) ?_
    exact K_iret dX4_begunThen_9 ⟨by simp [mThen, c5], rfl⟩

set_option maxHeartbeats 4000000 in
set_option maxRecDepth 100000 in
theorem C_X4_sumOf1 {l : Launch} {G : WG} {μ : Mem} {z : Zr} (hz : μ.1 16 0 0 = z) {n : Nat} (hZ : ZI z n) : Ct l G 6 yX4_sumOf cX4_sumOf 4 (some .int) [.ref (adr G 15 0 0), .int (nI 1)] (μ) (some (.int (mSumK z 1 n))) (μ) := by
  refine Ct_of (by decide +kernel) (Nat.le_of_ble_eq_true rfl) ?_
  subst hz
  have hn6 := hZ.2.1
  refine K_iconstN 0 dX4_sumOf_0 rfl ?_
  refine K_istore_n dX4_sumOf_1 (by decide) rfl ?_
  refine K_iconstN 0 dX4_sumOf_2 rfl ?_
  refine K_istore_n dX4_sumOf_3 (by decide) rfl ?_
  refine K_lv [0, 1, 2, 3] rfl ?_
  refine K_for (n) (fun k => [(0, .ref (adr G 15 0 0)), (1, .int (nI 1)), (2, .int (mSumK (μ.1 16 0 0) 1 k)), (3, .int (nI k))]) (fun _ => μ) ?_ ?_
  · skip
    refine K_iload_n dX4_sumOf_4 rfl ?_
    refine K_aload_n dX4_sumOf_5 rfl ?_
    refine g_X4_7 dX4_sumOf_6  ?_
    refine K_bipush (v := nI 9) dX4_sumOf_9 (by decide) ?_
    refine ald16 dX4_sumOf_11 (by omega) ?_
    refine K_top hZ.1 ?_
    refine K_icmpN_ge (by omega) (by omega) (tgt := 42) dX4_sumOf_12 (by decide) (fun c12 => ?_) (fun c12 => ?_)
    · skip
      refine K_iload_n dX4_sumOf_42 rfl ?_
      exact K_iret dX4_sumOf_43 ⟨by rfl, rfl⟩
    · skip
      exfalso; omega
  · intro k hk_k ih_1
    refine K_iload_n dX4_sumOf_4 rfl ?_
    refine K_aload_n dX4_sumOf_5 rfl ?_
    refine g_X4_7 dX4_sumOf_6  ?_
    refine K_bipush (v := nI 9) dX4_sumOf_9 (by decide) ?_
    refine ald16 dX4_sumOf_11 (by omega) ?_
    refine K_top hZ.1 ?_
    refine K_icmpN_ge (by omega) (by omega) (tgt := 42) dX4_sumOf_12 (by decide) (fun c12 => ?_) (fun c12 => ?_)
    · skip
      exfalso; omega
    · skip
      refine K_iload_n dX4_sumOf_15 rfl ?_
      refine K_aload_n dX4_sumOf_16 rfl ?_
      refine K_iload_n dX4_sumOf_17 rfl ?_
      refine k_X4_hasBegun (C_X4_hasBegun rfl (by omega)) (by decide)  ml_X4_40 (Nat.le_of_ble_eq_true rfl) dX4_sumOf_18 ?_
      refine K_ifb_eq (tgt := 33) dX4_sumOf_21 (by decide) (fun c21 => ?_) (fun c21 => ?_)
      · skip
        refine K_iconstN 0 dX4_sumOf_33 rfl ?_
        refine K_iadd dX4_sumOf_34 ?_
        refine K_istore_n dX4_sumOf_35 (by decide) rfl ?_
        refine K_iincN (b := 1) dX4_sumOf_36 rfl rfl (by decide) rfl ?_
        refine K_goto (tgt := 4) dX4_sumOf_39 (by decide) ?_
        exact K_lv [0, 1, 2, 3] (by simp [lvpick, lkp, lvset, lvdel, Nat.beq, mSumK, c21]) ih_1
      · skip
        refine K_aload_n dX4_sumOf_24 rfl ?_
        refine K_iload_n dX4_sumOf_25 rfl ?_
        refine K_iload_n dX4_sumOf_26 rfl ?_
        refine k_X4_phaseNow (C_X4_phaseNow1 rfl (by omega) hZ) (by decide)  ml_X4_194 (Nat.le_of_ble_eq_true rfl) dX4_sumOf_27 ?_
        refine K_goto (tgt := 34) dX4_sumOf_30 (by decide) ?_
        refine K_iadd dX4_sumOf_34 ?_
        refine K_istore_n dX4_sumOf_35 (by decide) rfl ?_
        refine K_iincN (b := 1) dX4_sumOf_36 rfl rfl (by decide) rfl ?_
        refine K_goto (tgt := 4) dX4_sumOf_39 (by decide) ?_
        exact K_lv [0, 1, 2, 3] (by simp [lvpick, lkp, lvset, lvdel, Nat.beq, mSumK, c21]) ih_1

set_option maxHeartbeats 4000000 in
set_option maxRecDepth 100000 in
theorem C_X4_sumOf2 {l : Launch} {G : WG} {μ : Mem} {z : Zr} (hz : μ.1 16 0 0 = z) {n : Nat} (hZ : ZI z n) : Ct l G 5 yX4_sumOf cX4_sumOf 4 (some .int) [.ref (adr G 15 0 0), .int (nI 2)] (μ) (some (.int (mSumK z 2 n))) (μ) := by
  refine Ct_of (by decide +kernel) (Nat.le_of_ble_eq_true rfl) ?_
  subst hz
  have hn6 := hZ.2.1
  refine K_iconstN 0 dX4_sumOf_0 rfl ?_
  refine K_istore_n dX4_sumOf_1 (by decide) rfl ?_
  refine K_iconstN 0 dX4_sumOf_2 rfl ?_
  refine K_istore_n dX4_sumOf_3 (by decide) rfl ?_
  refine K_lv [0, 1, 2, 3] rfl ?_
  refine K_for (n) (fun k => [(0, .ref (adr G 15 0 0)), (1, .int (nI 2)), (2, .int (mSumK (μ.1 16 0 0) 2 k)), (3, .int (nI k))]) (fun _ => μ) ?_ ?_
  · skip
    refine K_iload_n dX4_sumOf_4 rfl ?_
    refine K_aload_n dX4_sumOf_5 rfl ?_
    refine g_X4_7 dX4_sumOf_6  ?_
    refine K_bipush (v := nI 9) dX4_sumOf_9 (by decide) ?_
    refine ald16 dX4_sumOf_11 (by omega) ?_
    refine K_top hZ.1 ?_
    refine K_icmpN_ge (by omega) (by omega) (tgt := 42) dX4_sumOf_12 (by decide) (fun c12 => ?_) (fun c12 => ?_)
    · skip
      refine K_iload_n dX4_sumOf_42 rfl ?_
      exact K_iret dX4_sumOf_43 ⟨by rfl, rfl⟩
    · skip
      exfalso; omega
  · intro k hk_k ih_1
    refine K_iload_n dX4_sumOf_4 rfl ?_
    refine K_aload_n dX4_sumOf_5 rfl ?_
    refine g_X4_7 dX4_sumOf_6  ?_
    refine K_bipush (v := nI 9) dX4_sumOf_9 (by decide) ?_
    refine ald16 dX4_sumOf_11 (by omega) ?_
    refine K_top hZ.1 ?_
    refine K_icmpN_ge (by omega) (by omega) (tgt := 42) dX4_sumOf_12 (by decide) (fun c12 => ?_) (fun c12 => ?_)
    · skip
      exfalso; omega
    · skip
      refine K_iload_n dX4_sumOf_15 rfl ?_
      refine K_aload_n dX4_sumOf_16 rfl ?_
      refine K_iload_n dX4_sumOf_17 rfl ?_
      refine k_X4_hasBegun (C_X4_hasBegun rfl (by omega)) (by decide)  ml_X4_40 (Nat.le_of_ble_eq_true rfl) dX4_sumOf_18 ?_
      refine K_ifb_eq (tgt := 33) dX4_sumOf_21 (by decide) (fun c21 => ?_) (fun c21 => ?_)
      · skip
        refine K_iconstN 0 dX4_sumOf_33 rfl ?_
        refine K_iadd dX4_sumOf_34 ?_
        refine K_istore_n dX4_sumOf_35 (by decide) rfl ?_
        refine K_iincN (b := 1) dX4_sumOf_36 rfl rfl (by decide) rfl ?_
        refine K_goto (tgt := 4) dX4_sumOf_39 (by decide) ?_
        exact K_lv [0, 1, 2, 3] (by simp [lvpick, lkp, lvset, lvdel, Nat.beq, mSumK, c21]) ih_1
      · skip
        refine K_aload_n dX4_sumOf_24 rfl ?_
        refine K_iload_n dX4_sumOf_25 rfl ?_
        refine K_iload_n dX4_sumOf_26 rfl ?_
        refine k_X4_phaseNow (C_X4_phaseNow2 rfl (by omega) hZ) (by decide)  ml_X4_194 (Nat.le_of_ble_eq_true rfl) dX4_sumOf_27 ?_
        refine K_goto (tgt := 34) dX4_sumOf_30 (by decide) ?_
        refine K_iadd dX4_sumOf_34 ?_
        refine K_istore_n dX4_sumOf_35 (by decide) rfl ?_
        refine K_iincN (b := 1) dX4_sumOf_36 rfl rfl (by decide) rfl ?_
        refine K_goto (tgt := 4) dX4_sumOf_39 (by decide) ?_
        exact K_lv [0, 1, 2, 3] (by simp [lvpick, lkp, lvset, lvdel, Nat.beq, mSumK, c21]) ih_1

set_option maxHeartbeats 4000000 in
set_option maxRecDepth 100000 in
theorem C_X4_sumOf3 {l : Launch} {G : WG} {μ : Mem} {z : Zr} (hz : μ.1 16 0 0 = z) {n : Nat} (hZ : ZI z n) : Ct l G 4 yX4_sumOf cX4_sumOf 4 (some .int) [.ref (adr G 15 0 0), .int (nI 3)] (μ) (some (.int (mSumK z 3 n))) (μ) := by
  refine Ct_of (by decide +kernel) (Nat.le_of_ble_eq_true rfl) ?_
  subst hz
  have hn6 := hZ.2.1
  refine K_iconstN 0 dX4_sumOf_0 rfl ?_
  refine K_istore_n dX4_sumOf_1 (by decide) rfl ?_
  refine K_iconstN 0 dX4_sumOf_2 rfl ?_
  refine K_istore_n dX4_sumOf_3 (by decide) rfl ?_
  refine K_lv [0, 1, 2, 3] rfl ?_
  refine K_for (n) (fun k => [(0, .ref (adr G 15 0 0)), (1, .int (nI 3)), (2, .int (mSumK (μ.1 16 0 0) 3 k)), (3, .int (nI k))]) (fun _ => μ) ?_ ?_
  · skip
    refine K_iload_n dX4_sumOf_4 rfl ?_
    refine K_aload_n dX4_sumOf_5 rfl ?_
    refine g_X4_7 dX4_sumOf_6  ?_
    refine K_bipush (v := nI 9) dX4_sumOf_9 (by decide) ?_
    refine ald16 dX4_sumOf_11 (by omega) ?_
    refine K_top hZ.1 ?_
    refine K_icmpN_ge (by omega) (by omega) (tgt := 42) dX4_sumOf_12 (by decide) (fun c12 => ?_) (fun c12 => ?_)
    · skip
      refine K_iload_n dX4_sumOf_42 rfl ?_
      exact K_iret dX4_sumOf_43 ⟨by rfl, rfl⟩
    · skip
      exfalso; omega
  · intro k hk_k ih_1
    refine K_iload_n dX4_sumOf_4 rfl ?_
    refine K_aload_n dX4_sumOf_5 rfl ?_
    refine g_X4_7 dX4_sumOf_6  ?_
    refine K_bipush (v := nI 9) dX4_sumOf_9 (by decide) ?_
    refine ald16 dX4_sumOf_11 (by omega) ?_
    refine K_top hZ.1 ?_
    refine K_icmpN_ge (by omega) (by omega) (tgt := 42) dX4_sumOf_12 (by decide) (fun c12 => ?_) (fun c12 => ?_)
    · skip
      exfalso; omega
    · skip
      refine K_iload_n dX4_sumOf_15 rfl ?_
      refine K_aload_n dX4_sumOf_16 rfl ?_
      refine K_iload_n dX4_sumOf_17 rfl ?_
      refine k_X4_hasBegun (C_X4_hasBegun rfl (by omega)) (by decide)  ml_X4_40 (Nat.le_of_ble_eq_true rfl) dX4_sumOf_18 ?_
      refine K_ifb_eq (tgt := 33) dX4_sumOf_21 (by decide) (fun c21 => ?_) (fun c21 => ?_)
      · skip
        refine K_iconstN 0 dX4_sumOf_33 rfl ?_
        refine K_iadd dX4_sumOf_34 ?_
        refine K_istore_n dX4_sumOf_35 (by decide) rfl ?_
        refine K_iincN (b := 1) dX4_sumOf_36 rfl rfl (by decide) rfl ?_
        refine K_goto (tgt := 4) dX4_sumOf_39 (by decide) ?_
        exact K_lv [0, 1, 2, 3] (by simp [lvpick, lkp, lvset, lvdel, Nat.beq, mSumK, c21]) ih_1
      · skip
        refine K_aload_n dX4_sumOf_24 rfl ?_
        refine K_iload_n dX4_sumOf_25 rfl ?_
        refine K_iload_n dX4_sumOf_26 rfl ?_
        refine k_X4_phaseNow (C_X4_phaseNow3 rfl (by omega) hZ) (by decide)  ml_X4_194 (Nat.le_of_ble_eq_true rfl) dX4_sumOf_27 ?_
        refine K_goto (tgt := 34) dX4_sumOf_30 (by decide) ?_
        refine K_iadd dX4_sumOf_34 ?_
        refine K_istore_n dX4_sumOf_35 (by decide) rfl ?_
        refine K_iincN (b := 1) dX4_sumOf_36 rfl rfl (by decide) rfl ?_
        refine K_goto (tgt := 4) dX4_sumOf_39 (by decide) ?_
        exact K_lv [0, 1, 2, 3] (by simp [lvpick, lkp, lvset, lvdel, Nat.beq, mSumK, c21]) ih_1

set_option maxHeartbeats 4000000 in
set_option maxRecDepth 100000 in
theorem C_X4_sumOf4 {l : Launch} {G : WG} {μ : Mem} {z : Zr} (hz : μ.1 16 0 0 = z) {n : Nat} (hZ : ZI z n) : Ct l G 5 yX4_sumOf cX4_sumOf 4 (some .int) [.ref (adr G 15 0 0), .int (nI 4)] (μ) (some (.int (mSumK z 4 n))) (μ) := by
  refine Ct_of (by decide +kernel) (Nat.le_of_ble_eq_true rfl) ?_
  subst hz
  have hn6 := hZ.2.1
  refine K_iconstN 0 dX4_sumOf_0 rfl ?_
  refine K_istore_n dX4_sumOf_1 (by decide) rfl ?_
  refine K_iconstN 0 dX4_sumOf_2 rfl ?_
  refine K_istore_n dX4_sumOf_3 (by decide) rfl ?_
  refine K_lv [0, 1, 2, 3] rfl ?_
  refine K_for (n) (fun k => [(0, .ref (adr G 15 0 0)), (1, .int (nI 4)), (2, .int (mSumK (μ.1 16 0 0) 4 k)), (3, .int (nI k))]) (fun _ => μ) ?_ ?_
  · skip
    refine K_iload_n dX4_sumOf_4 rfl ?_
    refine K_aload_n dX4_sumOf_5 rfl ?_
    refine g_X4_7 dX4_sumOf_6  ?_
    refine K_bipush (v := nI 9) dX4_sumOf_9 (by decide) ?_
    refine ald16 dX4_sumOf_11 (by omega) ?_
    refine K_top hZ.1 ?_
    refine K_icmpN_ge (by omega) (by omega) (tgt := 42) dX4_sumOf_12 (by decide) (fun c12 => ?_) (fun c12 => ?_)
    · skip
      refine K_iload_n dX4_sumOf_42 rfl ?_
      exact K_iret dX4_sumOf_43 ⟨by rfl, rfl⟩
    · skip
      exfalso; omega
  · intro k hk_k ih_1
    refine K_iload_n dX4_sumOf_4 rfl ?_
    refine K_aload_n dX4_sumOf_5 rfl ?_
    refine g_X4_7 dX4_sumOf_6  ?_
    refine K_bipush (v := nI 9) dX4_sumOf_9 (by decide) ?_
    refine ald16 dX4_sumOf_11 (by omega) ?_
    refine K_top hZ.1 ?_
    refine K_icmpN_ge (by omega) (by omega) (tgt := 42) dX4_sumOf_12 (by decide) (fun c12 => ?_) (fun c12 => ?_)
    · skip
      exfalso; omega
    · skip
      refine K_iload_n dX4_sumOf_15 rfl ?_
      refine K_aload_n dX4_sumOf_16 rfl ?_
      refine K_iload_n dX4_sumOf_17 rfl ?_
      refine k_X4_hasBegun (C_X4_hasBegun rfl (by omega)) (by decide)  ml_X4_40 (Nat.le_of_ble_eq_true rfl) dX4_sumOf_18 ?_
      refine K_ifb_eq (tgt := 33) dX4_sumOf_21 (by decide) (fun c21 => ?_) (fun c21 => ?_)
      · skip
        refine K_iconstN 0 dX4_sumOf_33 rfl ?_
        refine K_iadd dX4_sumOf_34 ?_
        refine K_istore_n dX4_sumOf_35 (by decide) rfl ?_
        refine K_iincN (b := 1) dX4_sumOf_36 rfl rfl (by decide) rfl ?_
        refine K_goto (tgt := 4) dX4_sumOf_39 (by decide) ?_
        exact K_lv [0, 1, 2, 3] (by simp [lvpick, lkp, lvset, lvdel, Nat.beq, mSumK, c21]) ih_1
      · skip
        refine K_aload_n dX4_sumOf_24 rfl ?_
        refine K_iload_n dX4_sumOf_25 rfl ?_
        refine K_iload_n dX4_sumOf_26 rfl ?_
        refine k_X4_phaseNow (C_X4_phaseNow4 rfl (by omega) hZ) (by decide)  ml_X4_194 (Nat.le_of_ble_eq_true rfl) dX4_sumOf_27 ?_
        refine K_goto (tgt := 34) dX4_sumOf_30 (by decide) ?_
        refine K_iadd dX4_sumOf_34 ?_
        refine K_istore_n dX4_sumOf_35 (by decide) rfl ?_
        refine K_iincN (b := 1) dX4_sumOf_36 rfl rfl (by decide) rfl ?_
        refine K_goto (tgt := 4) dX4_sumOf_39 (by decide) ?_
        exact K_lv [0, 1, 2, 3] (by simp [lvpick, lkp, lvset, lvdel, Nat.beq, mSumK, c21]) ih_1

set_option maxHeartbeats 4000000 in
set_option maxRecDepth 100000 in
theorem C_X4_sumOf5 {l : Launch} {G : WG} {μ : Mem} {z : Zr} (hz : μ.1 16 0 0 = z) {n : Nat} (hZ : ZI z n) : Ct l G 2 yX4_sumOf cX4_sumOf 4 (some .int) [.ref (adr G 15 0 0), .int (nI 5)] (μ) (some (.int (mSumK z 5 n))) (μ) := by
  refine Ct_of (by decide +kernel) (Nat.le_of_ble_eq_true rfl) ?_
  subst hz
  have hn6 := hZ.2.1
  refine K_iconstN 0 dX4_sumOf_0 rfl ?_
  refine K_istore_n dX4_sumOf_1 (by decide) rfl ?_
  refine K_iconstN 0 dX4_sumOf_2 rfl ?_
  refine K_istore_n dX4_sumOf_3 (by decide) rfl ?_
  refine K_lv [0, 1, 2, 3] rfl ?_
  refine K_for (n) (fun k => [(0, .ref (adr G 15 0 0)), (1, .int (nI 5)), (2, .int (mSumK (μ.1 16 0 0) 5 k)), (3, .int (nI k))]) (fun _ => μ) ?_ ?_
  · skip
    refine K_iload_n dX4_sumOf_4 rfl ?_
    refine K_aload_n dX4_sumOf_5 rfl ?_
    refine g_X4_7 dX4_sumOf_6  ?_
    refine K_bipush (v := nI 9) dX4_sumOf_9 (by decide) ?_
    refine ald16 dX4_sumOf_11 (by omega) ?_
    refine K_top hZ.1 ?_
    refine K_icmpN_ge (by omega) (by omega) (tgt := 42) dX4_sumOf_12 (by decide) (fun c12 => ?_) (fun c12 => ?_)
    · skip
      refine K_iload_n dX4_sumOf_42 rfl ?_
      exact K_iret dX4_sumOf_43 ⟨by rfl, rfl⟩
    · skip
      exfalso; omega
  · intro k hk_k ih_1
    refine K_iload_n dX4_sumOf_4 rfl ?_
    refine K_aload_n dX4_sumOf_5 rfl ?_
    refine g_X4_7 dX4_sumOf_6  ?_
    refine K_bipush (v := nI 9) dX4_sumOf_9 (by decide) ?_
    refine ald16 dX4_sumOf_11 (by omega) ?_
    refine K_top hZ.1 ?_
    refine K_icmpN_ge (by omega) (by omega) (tgt := 42) dX4_sumOf_12 (by decide) (fun c12 => ?_) (fun c12 => ?_)
    · skip
      exfalso; omega
    · skip
      refine K_iload_n dX4_sumOf_15 rfl ?_
      refine K_aload_n dX4_sumOf_16 rfl ?_
      refine K_iload_n dX4_sumOf_17 rfl ?_
      refine k_X4_hasBegun (C_X4_hasBegun rfl (by omega)) (by decide)  ml_X4_40 (Nat.le_of_ble_eq_true rfl) dX4_sumOf_18 ?_
      refine K_ifb_eq (tgt := 33) dX4_sumOf_21 (by decide) (fun c21 => ?_) (fun c21 => ?_)
      · skip
        refine K_iconstN 0 dX4_sumOf_33 rfl ?_
        refine K_iadd dX4_sumOf_34 ?_
        refine K_istore_n dX4_sumOf_35 (by decide) rfl ?_
        refine K_iincN (b := 1) dX4_sumOf_36 rfl rfl (by decide) rfl ?_
        refine K_goto (tgt := 4) dX4_sumOf_39 (by decide) ?_
        exact K_lv [0, 1, 2, 3] (by simp [lvpick, lkp, lvset, lvdel, Nat.beq, mSumK, c21]) ih_1
      · skip
        refine K_aload_n dX4_sumOf_24 rfl ?_
        refine K_iload_n dX4_sumOf_25 rfl ?_
        refine K_iload_n dX4_sumOf_26 rfl ?_
        refine k_X4_phaseNow (C_X4_phaseNow5 rfl (by omega) hZ) (by decide)  ml_X4_194 (Nat.le_of_ble_eq_true rfl) dX4_sumOf_27 ?_
        refine K_goto (tgt := 34) dX4_sumOf_30 (by decide) ?_
        refine K_iadd dX4_sumOf_34 ?_
        refine K_istore_n dX4_sumOf_35 (by decide) rfl ?_
        refine K_iincN (b := 1) dX4_sumOf_36 rfl rfl (by decide) rfl ?_
        refine K_goto (tgt := 4) dX4_sumOf_39 (by decide) ?_
        exact K_lv [0, 1, 2, 3] (by simp [lvpick, lkp, lvset, lvdel, Nat.beq, mSumK, c21]) ih_1

set_option maxHeartbeats 4000000 in
set_option maxRecDepth 100000 in
theorem C_X4_sumOf6 {l : Launch} {G : WG} {μ : Mem} {z : Zr} (hz : μ.1 16 0 0 = z) {n : Nat} (hZ : ZI z n) : Ct l G 2 yX4_sumOf cX4_sumOf 4 (some .int) [.ref (adr G 15 0 0), .int (nI 6)] (μ) (some (.int (mSumK z 6 n))) (μ) := by
  refine Ct_of (by decide +kernel) (Nat.le_of_ble_eq_true rfl) ?_
  subst hz
  have hn6 := hZ.2.1
  refine K_iconstN 0 dX4_sumOf_0 rfl ?_
  refine K_istore_n dX4_sumOf_1 (by decide) rfl ?_
  refine K_iconstN 0 dX4_sumOf_2 rfl ?_
  refine K_istore_n dX4_sumOf_3 (by decide) rfl ?_
  refine K_lv [0, 1, 2, 3] rfl ?_
  refine K_for (n) (fun k => [(0, .ref (adr G 15 0 0)), (1, .int (nI 6)), (2, .int (mSumK (μ.1 16 0 0) 6 k)), (3, .int (nI k))]) (fun _ => μ) ?_ ?_
  · skip
    refine K_iload_n dX4_sumOf_4 rfl ?_
    refine K_aload_n dX4_sumOf_5 rfl ?_
    refine g_X4_7 dX4_sumOf_6  ?_
    refine K_bipush (v := nI 9) dX4_sumOf_9 (by decide) ?_
    refine ald16 dX4_sumOf_11 (by omega) ?_
    refine K_top hZ.1 ?_
    refine K_icmpN_ge (by omega) (by omega) (tgt := 42) dX4_sumOf_12 (by decide) (fun c12 => ?_) (fun c12 => ?_)
    · skip
      refine K_iload_n dX4_sumOf_42 rfl ?_
      exact K_iret dX4_sumOf_43 ⟨by rfl, rfl⟩
    · skip
      exfalso; omega
  · intro k hk_k ih_1
    refine K_iload_n dX4_sumOf_4 rfl ?_
    refine K_aload_n dX4_sumOf_5 rfl ?_
    refine g_X4_7 dX4_sumOf_6  ?_
    refine K_bipush (v := nI 9) dX4_sumOf_9 (by decide) ?_
    refine ald16 dX4_sumOf_11 (by omega) ?_
    refine K_top hZ.1 ?_
    refine K_icmpN_ge (by omega) (by omega) (tgt := 42) dX4_sumOf_12 (by decide) (fun c12 => ?_) (fun c12 => ?_)
    · skip
      exfalso; omega
    · skip
      refine K_iload_n dX4_sumOf_15 rfl ?_
      refine K_aload_n dX4_sumOf_16 rfl ?_
      refine K_iload_n dX4_sumOf_17 rfl ?_
      refine k_X4_hasBegun (C_X4_hasBegun rfl (by omega)) (by decide)  ml_X4_40 (Nat.le_of_ble_eq_true rfl) dX4_sumOf_18 ?_
      refine K_ifb_eq (tgt := 33) dX4_sumOf_21 (by decide) (fun c21 => ?_) (fun c21 => ?_)
      · skip
        refine K_iconstN 0 dX4_sumOf_33 rfl ?_
        refine K_iadd dX4_sumOf_34 ?_
        refine K_istore_n dX4_sumOf_35 (by decide) rfl ?_
        refine K_iincN (b := 1) dX4_sumOf_36 rfl rfl (by decide) rfl ?_
        refine K_goto (tgt := 4) dX4_sumOf_39 (by decide) ?_
        exact K_lv [0, 1, 2, 3] (by simp [lvpick, lkp, lvset, lvdel, Nat.beq, mSumK, c21]) ih_1
      · skip
        refine K_aload_n dX4_sumOf_24 rfl ?_
        refine K_iload_n dX4_sumOf_25 rfl ?_
        refine K_iload_n dX4_sumOf_26 rfl ?_
        refine k_X4_phaseNow (C_X4_phaseNow6 rfl (by omega) hZ) (by decide)  ml_X4_194 (Nat.le_of_ble_eq_true rfl) dX4_sumOf_27 ?_
        refine K_goto (tgt := 34) dX4_sumOf_30 (by decide) ?_
        refine K_iadd dX4_sumOf_34 ?_
        refine K_istore_n dX4_sumOf_35 (by decide) rfl ?_
        refine K_iincN (b := 1) dX4_sumOf_36 rfl rfl (by decide) rfl ?_
        refine K_goto (tgt := 4) dX4_sumOf_39 (by decide) ?_
        exact K_lv [0, 1, 2, 3] (by simp [lvpick, lkp, lvset, lvdel, Nat.beq, mSumK, c21]) ih_1

set_option maxHeartbeats 4000000 in
set_option maxRecDepth 100000 in
theorem C_X4_sumOf7 {l : Launch} {G : WG} {μ : Mem} {z : Zr} (hz : μ.1 16 0 0 = z) {n : Nat} (hZ : ZI z n) : Ct l G 2 yX4_sumOf cX4_sumOf 4 (some .int) [.ref (adr G 15 0 0), .int (nI 7)] (μ) (some (.int (mSumK z 7 n))) (μ) := by
  refine Ct_of (by decide +kernel) (Nat.le_of_ble_eq_true rfl) ?_
  subst hz
  have hn6 := hZ.2.1
  refine K_iconstN 0 dX4_sumOf_0 rfl ?_
  refine K_istore_n dX4_sumOf_1 (by decide) rfl ?_
  refine K_iconstN 0 dX4_sumOf_2 rfl ?_
  refine K_istore_n dX4_sumOf_3 (by decide) rfl ?_
  refine K_lv [0, 1, 2, 3] rfl ?_
  refine K_for (n) (fun k => [(0, .ref (adr G 15 0 0)), (1, .int (nI 7)), (2, .int (mSumK (μ.1 16 0 0) 7 k)), (3, .int (nI k))]) (fun _ => μ) ?_ ?_
  · skip
    refine K_iload_n dX4_sumOf_4 rfl ?_
    refine K_aload_n dX4_sumOf_5 rfl ?_
    refine g_X4_7 dX4_sumOf_6  ?_
    refine K_bipush (v := nI 9) dX4_sumOf_9 (by decide) ?_
    refine ald16 dX4_sumOf_11 (by omega) ?_
    refine K_top hZ.1 ?_
    refine K_icmpN_ge (by omega) (by omega) (tgt := 42) dX4_sumOf_12 (by decide) (fun c12 => ?_) (fun c12 => ?_)
    · skip
      refine K_iload_n dX4_sumOf_42 rfl ?_
      exact K_iret dX4_sumOf_43 ⟨by rfl, rfl⟩
    · skip
      exfalso; omega
  · intro k hk_k ih_1
    refine K_iload_n dX4_sumOf_4 rfl ?_
    refine K_aload_n dX4_sumOf_5 rfl ?_
    refine g_X4_7 dX4_sumOf_6  ?_
    refine K_bipush (v := nI 9) dX4_sumOf_9 (by decide) ?_
    refine ald16 dX4_sumOf_11 (by omega) ?_
    refine K_top hZ.1 ?_
    refine K_icmpN_ge (by omega) (by omega) (tgt := 42) dX4_sumOf_12 (by decide) (fun c12 => ?_) (fun c12 => ?_)
    · skip
      exfalso; omega
    · skip
      refine K_iload_n dX4_sumOf_15 rfl ?_
      refine K_aload_n dX4_sumOf_16 rfl ?_
      refine K_iload_n dX4_sumOf_17 rfl ?_
      refine k_X4_hasBegun (C_X4_hasBegun rfl (by omega)) (by decide)  ml_X4_40 (Nat.le_of_ble_eq_true rfl) dX4_sumOf_18 ?_
      refine K_ifb_eq (tgt := 33) dX4_sumOf_21 (by decide) (fun c21 => ?_) (fun c21 => ?_)
      · skip
        refine K_iconstN 0 dX4_sumOf_33 rfl ?_
        refine K_iadd dX4_sumOf_34 ?_
        refine K_istore_n dX4_sumOf_35 (by decide) rfl ?_
        refine K_iincN (b := 1) dX4_sumOf_36 rfl rfl (by decide) rfl ?_
        refine K_goto (tgt := 4) dX4_sumOf_39 (by decide) ?_
        exact K_lv [0, 1, 2, 3] (by simp [lvpick, lkp, lvset, lvdel, Nat.beq, mSumK, c21]) ih_1
      · skip
        refine K_aload_n dX4_sumOf_24 rfl ?_
        refine K_iload_n dX4_sumOf_25 rfl ?_
        refine K_iload_n dX4_sumOf_26 rfl ?_
        refine k_X4_phaseNow (C_X4_phaseNow7 rfl (by omega) hZ) (by decide)  ml_X4_194 (Nat.le_of_ble_eq_true rfl) dX4_sumOf_27 ?_
        refine K_goto (tgt := 34) dX4_sumOf_30 (by decide) ?_
        refine K_iadd dX4_sumOf_34 ?_
        refine K_istore_n dX4_sumOf_35 (by decide) rfl ?_
        refine K_iincN (b := 1) dX4_sumOf_36 rfl rfl (by decide) rfl ?_
        refine K_goto (tgt := 4) dX4_sumOf_39 (by decide) ?_
        exact K_lv [0, 1, 2, 3] (by simp [lvpick, lkp, lvset, lvdel, Nat.beq, mSumK, c21]) ih_1

set_option maxHeartbeats 4000000 in
set_option maxRecDepth 100000 in
theorem C_X4_sumOf9 {l : Launch} {G : WG} {μ : Mem} {z : Zr} (hz : μ.1 16 0 0 = z) {n : Nat} (hZ : ZI z n) : Ct l G 2 yX4_sumOf cX4_sumOf 4 (some .int) [.ref (adr G 15 0 0), .int (nI 9)] (μ) (some (.int (mSumK z 9 n))) (μ) := by
  refine Ct_of (by decide +kernel) (Nat.le_of_ble_eq_true rfl) ?_
  subst hz
  have hn6 := hZ.2.1
  refine K_iconstN 0 dX4_sumOf_0 rfl ?_
  refine K_istore_n dX4_sumOf_1 (by decide) rfl ?_
  refine K_iconstN 0 dX4_sumOf_2 rfl ?_
  refine K_istore_n dX4_sumOf_3 (by decide) rfl ?_
  refine K_lv [0, 1, 2, 3] rfl ?_
  refine K_for (n) (fun k => [(0, .ref (adr G 15 0 0)), (1, .int (nI 9)), (2, .int (mSumK (μ.1 16 0 0) 9 k)), (3, .int (nI k))]) (fun _ => μ) ?_ ?_
  · skip
    refine K_iload_n dX4_sumOf_4 rfl ?_
    refine K_aload_n dX4_sumOf_5 rfl ?_
    refine g_X4_7 dX4_sumOf_6  ?_
    refine K_bipush (v := nI 9) dX4_sumOf_9 (by decide) ?_
    refine ald16 dX4_sumOf_11 (by omega) ?_
    refine K_top hZ.1 ?_
    refine K_icmpN_ge (by omega) (by omega) (tgt := 42) dX4_sumOf_12 (by decide) (fun c12 => ?_) (fun c12 => ?_)
    · skip
      refine K_iload_n dX4_sumOf_42 rfl ?_
      exact K_iret dX4_sumOf_43 ⟨by rfl, rfl⟩
    · skip
      exfalso; omega
  · intro k hk_k ih_1
    refine K_iload_n dX4_sumOf_4 rfl ?_
    refine K_aload_n dX4_sumOf_5 rfl ?_
    refine g_X4_7 dX4_sumOf_6  ?_
    refine K_bipush (v := nI 9) dX4_sumOf_9 (by decide) ?_
    refine ald16 dX4_sumOf_11 (by omega) ?_
    refine K_top hZ.1 ?_
    refine K_icmpN_ge (by omega) (by omega) (tgt := 42) dX4_sumOf_12 (by decide) (fun c12 => ?_) (fun c12 => ?_)
    · skip
      exfalso; omega
    · skip
      refine K_iload_n dX4_sumOf_15 rfl ?_
      refine K_aload_n dX4_sumOf_16 rfl ?_
      refine K_iload_n dX4_sumOf_17 rfl ?_
      refine k_X4_hasBegun (C_X4_hasBegun rfl (by omega)) (by decide)  ml_X4_40 (Nat.le_of_ble_eq_true rfl) dX4_sumOf_18 ?_
      refine K_ifb_eq (tgt := 33) dX4_sumOf_21 (by decide) (fun c21 => ?_) (fun c21 => ?_)
      · skip
        refine K_iconstN 0 dX4_sumOf_33 rfl ?_
        refine K_iadd dX4_sumOf_34 ?_
        refine K_istore_n dX4_sumOf_35 (by decide) rfl ?_
        refine K_iincN (b := 1) dX4_sumOf_36 rfl rfl (by decide) rfl ?_
        refine K_goto (tgt := 4) dX4_sumOf_39 (by decide) ?_
        exact K_lv [0, 1, 2, 3] (by simp [lvpick, lkp, lvset, lvdel, Nat.beq, mSumK, c21]) ih_1
      · skip
        refine K_aload_n dX4_sumOf_24 rfl ?_
        refine K_iload_n dX4_sumOf_25 rfl ?_
        refine K_iload_n dX4_sumOf_26 rfl ?_
        refine k_X4_phaseNow (C_X4_phaseNow9 rfl (by omega) hZ) (by decide)  ml_X4_194 (Nat.le_of_ble_eq_true rfl) dX4_sumOf_27 ?_
        refine K_goto (tgt := 34) dX4_sumOf_30 (by decide) ?_
        refine K_iadd dX4_sumOf_34 ?_
        refine K_istore_n dX4_sumOf_35 (by decide) rfl ?_
        refine K_iincN (b := 1) dX4_sumOf_36 rfl rfl (by decide) rfl ?_
        refine K_goto (tgt := 4) dX4_sumOf_39 (by decide) ?_
        exact K_lv [0, 1, 2, 3] (by simp [lvpick, lkp, lvset, lvdel, Nat.beq, mSumK, c21]) ih_1

set_option maxHeartbeats 4000000 in
set_option maxRecDepth 100000 in
theorem C_X4_begunOnes {l : Launch} {G : WG} {μ : Mem} {z : Zr} (hz : μ.1 16 0 0 = z) {n : Nat} (hZ : ZI z n) : Ct l G 2 yX4_begunOnes cX4_begunOnes 3 (some .int) [.ref (adr G 15 0 0)] (μ) (some (.int (mOnesK z n))) (μ) := by
  refine Ct_of (by decide +kernel) (Nat.le_of_ble_eq_true rfl) ?_
  subst hz
  have hn6 := hZ.2.1
  refine K_iconstN 0 dX4_begunOnes_0 rfl ?_
  refine K_istore_n dX4_begunOnes_1 (by decide) rfl ?_
  refine K_iconstN 0 dX4_begunOnes_2 rfl ?_
  refine K_istore_n dX4_begunOnes_3 (by decide) rfl ?_
  refine K_lv [0, 1, 2] rfl ?_
  refine K_for (n) (fun k => [(0, .ref (adr G 15 0 0)), (1, .int (mOnesK (μ.1 16 0 0) k)), (2, .int (nI k))]) (fun _ => μ) ?_ ?_
  · skip
    refine K_iload_n dX4_begunOnes_4 rfl ?_
    refine K_aload_n dX4_begunOnes_5 rfl ?_
    refine g_X4_7 dX4_begunOnes_6  ?_
    refine K_bipush (v := nI 9) dX4_begunOnes_9 (by decide) ?_
    refine ald16 dX4_begunOnes_11 (by omega) ?_
    refine K_top hZ.1 ?_
    refine K_icmpN_ge (by omega) (by omega) (tgt := 37) dX4_begunOnes_12 (by decide) (fun c12 => ?_) (fun c12 => ?_)
    · skip
      refine K_iload_n dX4_begunOnes_37 rfl ?_
      exact K_iret dX4_begunOnes_38 ⟨by rfl, rfl⟩
    · skip
      exfalso; omega
  · intro k hk_k ih_1
    refine K_iload_n dX4_begunOnes_4 rfl ?_
    refine K_aload_n dX4_begunOnes_5 rfl ?_
    refine g_X4_7 dX4_begunOnes_6  ?_
    refine K_bipush (v := nI 9) dX4_begunOnes_9 (by decide) ?_
    refine ald16 dX4_begunOnes_11 (by omega) ?_
    refine K_top hZ.1 ?_
    refine K_icmpN_ge (by omega) (by omega) (tgt := 37) dX4_begunOnes_12 (by decide) (fun c12 => ?_) (fun c12 => ?_)
    · skip
      exfalso; omega
    · skip
      refine K_iload_n dX4_begunOnes_15 rfl ?_
      refine K_aload_n dX4_begunOnes_16 rfl ?_
      refine K_iload_n dX4_begunOnes_17 rfl ?_
      refine k_X4_hasBegun (C_X4_hasBegun rfl (by omega)) (by decide)  ml_X4_40 (Nat.le_of_ble_eq_true rfl) dX4_begunOnes_18 ?_
      refine K_ifb_eq (tgt := 28) dX4_begunOnes_21 (by decide) (fun c21 => ?_) (fun c21 => ?_)
      · skip
        refine K_iconstN 0 dX4_begunOnes_28 rfl ?_
        refine K_iadd dX4_begunOnes_29 ?_
        refine K_istore_n dX4_begunOnes_30 (by decide) rfl ?_
        refine K_iincN (b := 1) dX4_begunOnes_31 rfl rfl (by decide) rfl ?_
        refine K_goto (tgt := 4) dX4_begunOnes_34 (by decide) ?_
        exact K_lv [0, 1, 2] (by simp [lvpick, lkp, lvset, lvdel, Nat.beq, mOnesK, c21]) ih_1
      · skip
        refine K_iconstN 1 dX4_begunOnes_24 rfl ?_
        refine K_goto (tgt := 29) dX4_begunOnes_25 (by decide) ?_
        refine K_iadd dX4_begunOnes_29 ?_
        refine K_istore_n dX4_begunOnes_30 (by decide) rfl ?_
        refine K_iincN (b := 1) dX4_begunOnes_31 rfl rfl (by decide) rfl ?_
        refine K_goto (tgt := 4) dX4_begunOnes_34 (by decide) ?_
        exact K_lv [0, 1, 2] (by simp [lvpick, lkp, lvset, lvdel, Nat.beq, mOnesK, c21]) ih_1

set_option maxHeartbeats 4000000 in
set_option maxRecDepth 100000 in
theorem C_X4_counted0 {l : Launch} {G : WG} {μ : Mem} {z : Zr} (hz : μ.1 16 0 0 = z) {n : Nat} (hZ : ZI z n) {sc : Nat} (hs : μ.1 15 0 0 1 = nI sc) : Ct l G 0 yX4_counted cX4_counted 2 (some .int) [.ref (adr G 15 0 0), .int (nI 0)] (μ) (some (.int (mCount z sc n 0))) (μ) := by
  refine Ct_of (by decide +kernel) (Nat.le_of_ble_eq_true rfl) ?_
  subst hz
  refine K_iload_n dX4_counted_0 rfl ?_
  refine K_tableIn (tgt := 80) dX4_counted_1 (by decide) (by decide) rfl (by decide) ?_
  refine K_aload_n dX4_counted_80 rfl ?_
  refine g_X4_7 dX4_counted_81  ?_
  refine K_bipush (v := nI 9) dX4_counted_84 (by decide) ?_
  refine ald16 dX4_counted_86 (by omega) ?_
  exact K_iret dX4_counted_87 ⟨by rfl, rfl⟩

set_option maxHeartbeats 4000000 in
set_option maxRecDepth 100000 in
theorem C_X4_counted1 {l : Launch} {G : WG} {μ : Mem} {z : Zr} (hz : μ.1 16 0 0 = z) {n : Nat} (hZ : ZI z n) {sc : Nat} (hs : μ.1 15 0 0 1 = nI sc) : Ct l G 3 yX4_counted cX4_counted 2 (some .int) [.ref (adr G 15 0 0), .int (nI 1)] (μ) (some (.int (mCount z sc n 1))) (μ) := by
  refine Ct_of (by decide +kernel) (Nat.le_of_ble_eq_true rfl) ?_
  subst hz
  refine K_iload_n dX4_counted_0 rfl ?_
  refine K_tableIn (tgt := 88) dX4_counted_1 (by decide) (by decide) rfl (by decide) ?_
  refine K_aload_n dX4_counted_88 rfl ?_
  refine k_X4_begunOnes (C_X4_begunOnes rfl hZ) (by decide)  ml_X4_203 (Nat.le_of_ble_eq_true rfl) dX4_counted_89 ?_
  exact K_iret dX4_counted_92 ⟨by rfl, rfl⟩

set_option maxHeartbeats 4000000 in
set_option maxRecDepth 100000 in
theorem C_X4_counted2 {l : Launch} {G : WG} {μ : Mem} {z : Zr} (hz : μ.1 16 0 0 = z) {n : Nat} (hZ : ZI z n) {sc : Nat} (hs : μ.1 15 0 0 1 = nI sc) : Ct l G 3 yX4_counted cX4_counted 2 (some .int) [.ref (adr G 15 0 0), .int (nI 2)] (μ) (some (.int (mCount z sc n 2))) (μ) := by
  refine Ct_of (by decide +kernel) (Nat.le_of_ble_eq_true rfl) ?_
  subst hz
  refine K_iload_n dX4_counted_0 rfl ?_
  refine K_tableIn (tgt := 93) dX4_counted_1 (by decide) (by decide) rfl (by decide) ?_
  refine K_aload_n dX4_counted_93 rfl ?_
  refine K_bipush (v := nI 9) dX4_counted_94 (by decide) ?_
  refine k_X4_sumOf (C_X4_sumOf9 rfl hZ) (by decide)  ml_X4_206 (Nat.le_of_ble_eq_true rfl) dX4_counted_96 ?_
  exact K_iret dX4_counted_99 ⟨by rfl, rfl⟩

set_option maxHeartbeats 4000000 in
set_option maxRecDepth 100000 in
theorem C_X4_counted3 {l : Launch} {G : WG} {μ : Mem} {z : Zr} (hz : μ.1 16 0 0 = z) {n : Nat} (hZ : ZI z n) {sc : Nat} (hs : μ.1 15 0 0 1 = nI sc) : Ct l G 0 yX4_counted cX4_counted 2 (some .int) [.ref (adr G 15 0 0), .int (nI 3)] (μ) (some (.int (mCount z sc n 3))) (μ) := by
  refine Ct_of (by decide +kernel) (Nat.le_of_ble_eq_true rfl) ?_
  subst hz
  refine K_iload_n dX4_counted_0 rfl ?_
  refine K_tableIn (tgt := 100) dX4_counted_1 (by decide) (by decide) rfl (by decide) ?_
  refine K_aload_n dX4_counted_100 rfl ?_
  refine g_X4_7 dX4_counted_101  ?_
  refine K_iconstN 4 dX4_counted_104 rfl ?_
  refine ald16 dX4_counted_105 (by omega) ?_
  exact K_iret dX4_counted_106 ⟨by rfl, rfl⟩

set_option maxHeartbeats 4000000 in
set_option maxRecDepth 100000 in
theorem C_X4_counted4 {l : Launch} {G : WG} {μ : Mem} {z : Zr} (hz : μ.1 16 0 0 = z) {n : Nat} (hZ : ZI z n) {sc : Nat} (hs : μ.1 15 0 0 1 = nI sc) : Ct l G 7 yX4_counted cX4_counted 2 (some .int) [.ref (adr G 15 0 0), .int (nI 4)] (μ) (some (.int (mCount z sc n 4))) (μ) := by
  refine Ct_of (by decide +kernel) (Nat.le_of_ble_eq_true rfl) ?_
  subst hz
  refine K_iload_n dX4_counted_0 rfl ?_
  refine K_tableIn (tgt := 107) dX4_counted_1 (by decide) (by decide) rfl (by decide) ?_
  refine K_aload_n dX4_counted_107 rfl ?_
  refine K_iload_n dX4_counted_108 rfl ?_
  refine K_iconstN 3 dX4_counted_109 rfl ?_
  refine K_isubN (by omega) dX4_counted_110 ?_
  refine k_X4_sumOf (C_X4_sumOf1 rfl hZ) (by decide)  ml_X4_206 (Nat.le_of_ble_eq_true rfl) dX4_counted_111 ?_
  exact K_iret dX4_counted_114 ⟨by rfl, rfl⟩

set_option maxHeartbeats 4000000 in
set_option maxRecDepth 100000 in
theorem C_X4_counted5 {l : Launch} {G : WG} {μ : Mem} {z : Zr} (hz : μ.1 16 0 0 = z) {n : Nat} (hZ : ZI z n) {sc : Nat} (hs : μ.1 15 0 0 1 = nI sc) : Ct l G 6 yX4_counted cX4_counted 2 (some .int) [.ref (adr G 15 0 0), .int (nI 5)] (μ) (some (.int (mCount z sc n 5))) (μ) := by
  refine Ct_of (by decide +kernel) (Nat.le_of_ble_eq_true rfl) ?_
  subst hz
  refine K_iload_n dX4_counted_0 rfl ?_
  refine K_tableIn (tgt := 107) dX4_counted_1 (by decide) (by decide) rfl (by decide) ?_
  refine K_aload_n dX4_counted_107 rfl ?_
  refine K_iload_n dX4_counted_108 rfl ?_
  refine K_iconstN 3 dX4_counted_109 rfl ?_
  refine K_isubN (by omega) dX4_counted_110 ?_
  refine k_X4_sumOf (C_X4_sumOf2 rfl hZ) (by decide)  ml_X4_206 (Nat.le_of_ble_eq_true rfl) dX4_counted_111 ?_
  exact K_iret dX4_counted_114 ⟨by rfl, rfl⟩

set_option maxHeartbeats 4000000 in
set_option maxRecDepth 100000 in
theorem C_X4_counted6 {l : Launch} {G : WG} {μ : Mem} {z : Zr} (hz : μ.1 16 0 0 = z) {n : Nat} (hZ : ZI z n) {sc : Nat} (hs : μ.1 15 0 0 1 = nI sc) : Ct l G 3 yX4_counted cX4_counted 2 (some .int) [.ref (adr G 15 0 0), .int (nI 6)] (μ) (some (.int (mCount z sc n 6))) (μ) := by
  refine Ct_of (by decide +kernel) (Nat.le_of_ble_eq_true rfl) ?_
  subst hz
  refine K_iload_n dX4_counted_0 rfl ?_
  refine K_tableIn (tgt := 115) dX4_counted_1 (by decide) (by decide) rfl (by decide) ?_
  refine K_aload_n dX4_counted_115 rfl ?_
  refine K_iload_n dX4_counted_116 rfl ?_
  refine K_iconstN 1 dX4_counted_117 rfl ?_
  refine K_isubN (by omega) dX4_counted_118 ?_
  refine k_X4_sumOf (C_X4_sumOf5 rfl hZ) (by decide)  ml_X4_206 (Nat.le_of_ble_eq_true rfl) dX4_counted_119 ?_
  exact K_iret dX4_counted_122 ⟨by rfl, rfl⟩

set_option maxHeartbeats 4000000 in
set_option maxRecDepth 100000 in
theorem C_X4_counted7 {l : Launch} {G : WG} {μ : Mem} {z : Zr} (hz : μ.1 16 0 0 = z) {n : Nat} (hZ : ZI z n) {sc : Nat} (hs : μ.1 15 0 0 1 = nI sc) : Ct l G 3 yX4_counted cX4_counted 2 (some .int) [.ref (adr G 15 0 0), .int (nI 7)] (μ) (some (.int (mCount z sc n 7))) (μ) := by
  refine Ct_of (by decide +kernel) (Nat.le_of_ble_eq_true rfl) ?_
  subst hz
  refine K_iload_n dX4_counted_0 rfl ?_
  refine K_tableIn (tgt := 115) dX4_counted_1 (by decide) (by decide) rfl (by decide) ?_
  refine K_aload_n dX4_counted_115 rfl ?_
  refine K_iload_n dX4_counted_116 rfl ?_
  refine K_iconstN 1 dX4_counted_117 rfl ?_
  refine K_isubN (by omega) dX4_counted_118 ?_
  refine k_X4_sumOf (C_X4_sumOf6 rfl hZ) (by decide)  ml_X4_206 (Nat.le_of_ble_eq_true rfl) dX4_counted_119 ?_
  exact K_iret dX4_counted_122 ⟨by rfl, rfl⟩

set_option maxHeartbeats 4000000 in
set_option maxRecDepth 100000 in
theorem C_X4_counted8 {l : Launch} {G : WG} {μ : Mem} {z : Zr} (hz : μ.1 16 0 0 = z) {n : Nat} (hZ : ZI z n) {sc : Nat} (hs : μ.1 15 0 0 1 = nI sc) : Ct l G 3 yX4_counted cX4_counted 2 (some .int) [.ref (adr G 15 0 0), .int (nI 8)] (μ) (some (.int (mCount z sc n 8))) (μ) := by
  refine Ct_of (by decide +kernel) (Nat.le_of_ble_eq_true rfl) ?_
  subst hz
  refine K_iload_n dX4_counted_0 rfl ?_
  refine K_tableIn (tgt := 115) dX4_counted_1 (by decide) (by decide) rfl (by decide) ?_
  refine K_aload_n dX4_counted_115 rfl ?_
  refine K_iload_n dX4_counted_116 rfl ?_
  refine K_iconstN 1 dX4_counted_117 rfl ?_
  refine K_isubN (by omega) dX4_counted_118 ?_
  refine k_X4_sumOf (C_X4_sumOf7 rfl hZ) (by decide)  ml_X4_206 (Nat.le_of_ble_eq_true rfl) dX4_counted_119 ?_
  exact K_iret dX4_counted_122 ⟨by rfl, rfl⟩

set_option maxHeartbeats 4000000 in
set_option maxRecDepth 100000 in
theorem C_X4_counted9 {l : Launch} {G : WG} {μ : Mem} {z : Zr} (hz : μ.1 16 0 0 = z) {n : Nat} (hZ : ZI z n) {sc : Nat} (hs : μ.1 15 0 0 1 = nI sc) : Ct l G 5 yX4_counted cX4_counted 2 (some .int) [.ref (adr G 15 0 0), .int (nI 9)] (μ) (some (.int (mCount z sc n 9))) (μ) := by
  refine Ct_of (by decide +kernel) (Nat.le_of_ble_eq_true rfl) ?_
  subst hz
  refine K_iload_n dX4_counted_0 rfl ?_
  refine K_tableIn (tgt := 123) dX4_counted_1 (by decide) (by decide) rfl (by decide) ?_
  refine K_aload_n dX4_counted_123 rfl ?_
  refine K_iload_n dX4_counted_124 rfl ?_
  refine K_bipush (v := nI 6) dX4_counted_125 (by decide) ?_
  refine K_isubN (by omega) dX4_counted_127 ?_
  refine k_X4_sumOf (C_X4_sumOf3 rfl hZ) (by decide)  ml_X4_206 (Nat.le_of_ble_eq_true rfl) dX4_counted_128 ?_
  exact K_iret dX4_counted_131 ⟨by rfl, rfl⟩

set_option maxHeartbeats 4000000 in
set_option maxRecDepth 100000 in
theorem C_X4_counted10 {l : Launch} {G : WG} {μ : Mem} {z : Zr} (hz : μ.1 16 0 0 = z) {n : Nat} (hZ : ZI z n) {sc : Nat} (hs : μ.1 15 0 0 1 = nI sc) : Ct l G 6 yX4_counted cX4_counted 2 (some .int) [.ref (adr G 15 0 0), .int (nI 10)] (μ) (some (.int (mCount z sc n 10))) (μ) := by
  refine Ct_of (by decide +kernel) (Nat.le_of_ble_eq_true rfl) ?_
  subst hz
  refine K_iload_n dX4_counted_0 rfl ?_
  refine K_tableIn (tgt := 123) dX4_counted_1 (by decide) (by decide) rfl (by decide) ?_
  refine K_aload_n dX4_counted_123 rfl ?_
  refine K_iload_n dX4_counted_124 rfl ?_
  refine K_bipush (v := nI 6) dX4_counted_125 (by decide) ?_
  refine K_isubN (by omega) dX4_counted_127 ?_
  refine k_X4_sumOf (C_X4_sumOf4 rfl hZ) (by decide)  ml_X4_206 (Nat.le_of_ble_eq_true rfl) dX4_counted_128 ?_
  exact K_iret dX4_counted_131 ⟨by rfl, rfl⟩

set_option maxHeartbeats 4000000 in
set_option maxRecDepth 100000 in
theorem C_X4_counted11 {l : Launch} {G : WG} {μ : Mem} {z : Zr} (hz : μ.1 16 0 0 = z) {n : Nat} (hZ : ZI z n) {sc : Nat} (hs : μ.1 15 0 0 1 = nI sc) : Ct l G 0 yX4_counted cX4_counted 2 (some .int) [.ref (adr G 15 0 0), .int (nI 11)] (μ) (some (.int (mCount z sc n 11))) (μ) := by
  refine Ct_of (by decide +kernel) (Nat.le_of_ble_eq_true rfl) ?_
  subst hz
  refine K_iload_n dX4_counted_0 rfl ?_
  refine K_tableIn (tgt := 137) dX4_counted_1 (by decide) (by decide) rfl (by decide) ?_
  refine K_aload_n dX4_counted_137 rfl ?_
  refine g_X4_7 dX4_counted_138  ?_
  refine K_iconstN 5 dX4_counted_141 rfl ?_
  refine K_iload_n dX4_counted_142 rfl ?_
  refine K_iaddN dX4_counted_143 ?_
  refine K_bipush (v := nI 11) dX4_counted_144 (by decide) ?_
  refine K_isubN (by omega) dX4_counted_146 ?_
  refine ald16 dX4_counted_147 (by omega) ?_
  exact K_iret dX4_counted_148 ⟨by rfl, rfl⟩

set_option maxHeartbeats 4000000 in
set_option maxRecDepth 100000 in
theorem C_X4_counted12 {l : Launch} {G : WG} {μ : Mem} {z : Zr} (hz : μ.1 16 0 0 = z) {n : Nat} (hZ : ZI z n) {sc : Nat} (hs : μ.1 15 0 0 1 = nI sc) : Ct l G 0 yX4_counted cX4_counted 2 (some .int) [.ref (adr G 15 0 0), .int (nI 12)] (μ) (some (.int (mCount z sc n 12))) (μ) := by
  refine Ct_of (by decide +kernel) (Nat.le_of_ble_eq_true rfl) ?_
  subst hz
  refine K_iload_n dX4_counted_0 rfl ?_
  refine K_tableIn (tgt := 137) dX4_counted_1 (by decide) (by decide) rfl (by decide) ?_
  refine K_aload_n dX4_counted_137 rfl ?_
  refine g_X4_7 dX4_counted_138  ?_
  refine K_iconstN 5 dX4_counted_141 rfl ?_
  refine K_iload_n dX4_counted_142 rfl ?_
  refine K_iaddN dX4_counted_143 ?_
  refine K_bipush (v := nI 11) dX4_counted_144 (by decide) ?_
  refine K_isubN (by omega) dX4_counted_146 ?_
  refine ald16 dX4_counted_147 (by omega) ?_
  exact K_iret dX4_counted_148 ⟨by rfl, rfl⟩

set_option maxHeartbeats 4000000 in
set_option maxRecDepth 100000 in
theorem C_X4_counted13 {l : Launch} {G : WG} {μ : Mem} {z : Zr} (hz : μ.1 16 0 0 = z) {n : Nat} (hZ : ZI z n) {sc : Nat} (hs : μ.1 15 0 0 1 = nI sc) : Ct l G 0 yX4_counted cX4_counted 2 (some .int) [.ref (adr G 15 0 0), .int (nI 13)] (μ) (some (.int (mCount z sc n 13))) (μ) := by
  refine Ct_of (by decide +kernel) (Nat.le_of_ble_eq_true rfl) ?_
  subst hz
  refine K_iload_n dX4_counted_0 rfl ?_
  refine K_tableIn (tgt := 137) dX4_counted_1 (by decide) (by decide) rfl (by decide) ?_
  refine K_aload_n dX4_counted_137 rfl ?_
  refine g_X4_7 dX4_counted_138  ?_
  refine K_iconstN 5 dX4_counted_141 rfl ?_
  refine K_iload_n dX4_counted_142 rfl ?_
  refine K_iaddN dX4_counted_143 ?_
  refine K_bipush (v := nI 11) dX4_counted_144 (by decide) ?_
  refine K_isubN (by omega) dX4_counted_146 ?_
  refine ald16 dX4_counted_147 (by omega) ?_
  exact K_iret dX4_counted_148 ⟨by rfl, rfl⟩

set_option maxHeartbeats 4000000 in
set_option maxRecDepth 100000 in
theorem C_X4_counted14 {l : Launch} {G : WG} {μ : Mem} {z : Zr} (hz : μ.1 16 0 0 = z) {n : Nat} (hZ : ZI z n) {sc : Nat} (hs : μ.1 15 0 0 1 = nI sc) : Ct l G 0 yX4_counted cX4_counted 2 (some .int) [.ref (adr G 15 0 0), .int (nI 14)] (μ) (some (.int (mCount z sc n 14))) (μ) := by
  refine Ct_of (by decide +kernel) (Nat.le_of_ble_eq_true rfl) ?_
  subst hz
  refine K_iload_n dX4_counted_0 rfl ?_
  refine K_tableIn (tgt := 137) dX4_counted_1 (by decide) (by decide) rfl (by decide) ?_
  refine K_aload_n dX4_counted_137 rfl ?_
  refine g_X4_7 dX4_counted_138  ?_
  refine K_iconstN 5 dX4_counted_141 rfl ?_
  refine K_iload_n dX4_counted_142 rfl ?_
  refine K_iaddN dX4_counted_143 ?_
  refine K_bipush (v := nI 11) dX4_counted_144 (by decide) ?_
  refine K_isubN (by omega) dX4_counted_146 ?_
  refine ald16 dX4_counted_147 (by omega) ?_
  exact K_iret dX4_counted_148 ⟨by rfl, rfl⟩

set_option maxHeartbeats 4000000 in
set_option maxRecDepth 100000 in
theorem C_X4_counted15 {l : Launch} {G : WG} {μ : Mem} {z : Zr} (hz : μ.1 16 0 0 = z) {n : Nat} (hZ : ZI z n) {sc : Nat} (hs : μ.1 15 0 0 1 = nI sc) : Ct l G 0 yX4_counted cX4_counted 2 (some .int) [.ref (adr G 15 0 0), .int (nI 15)] (μ) (some (.int (mCount z sc n 15))) (μ) := by
  refine Ct_of (by decide +kernel) (Nat.le_of_ble_eq_true rfl) ?_
  subst hz
  refine K_iload_n dX4_counted_0 rfl ?_
  refine K_tableIn (tgt := 132) dX4_counted_1 (by decide) (by decide) rfl (by decide) ?_
  refine K_aload_n dX4_counted_132 rfl ?_
  refine g_X4_29 dX4_counted_133  ?_
  exact K_iret dX4_counted_136 ⟨by exact congrArg (fun x => some (Value.int x)) hs, rfl⟩

set_option maxHeartbeats 4000000 in
set_option maxRecDepth 100000 in
theorem C_X4_urgentNow {l : Launch} {G : WG} {μ : Mem} {z : Zr} (hz : μ.1 16 0 0 = z) {n : Nat} (hZ : ZI z n) : Ct l G 4 yX4_urgentNow cX4_urgentNow 4 (some .int) [.ref (adr G 15 0 0)] (μ) (some (.int (mUrgK z n))) (μ) := by
  refine Ct_of (by decide +kernel) (Nat.le_of_ble_eq_true rfl) ?_
  subst hz
  have hn6 := hZ.2.1
  have hu : ∀ k, k ≤ n → mUrgK (μ.1 16 0 0) k = -1 ∨ ∃ j, j < 6 ∧ mUrgK (μ.1 16 0 0) k = nI j := fun k hk => mUrgK_in _ k (by omega)
  refine K_iconst (v := -1) dX4_urgentNow_0 (by decide) ?_
  refine K_istore_n dX4_urgentNow_1 (by decide) rfl ?_
  refine K_iconstN 0 dX4_urgentNow_2 rfl ?_
  refine K_istore_n dX4_urgentNow_3 (by decide) rfl ?_
  refine K_lv [0, 1, 2] rfl ?_
  refine K_for (n) (fun k => [(0, .ref (adr G 15 0 0)), (1, .int (mUrgK (μ.1 16 0 0) k)), (2, .int (nI k))]) (fun _ => μ) ?_ ?_
  · skip
    refine K_iload_n dX4_urgentNow_4 rfl ?_
    refine K_aload_n dX4_urgentNow_5 rfl ?_
    refine g_X4_7 dX4_urgentNow_6  ?_
    refine K_bipush (v := nI 9) dX4_urgentNow_9 (by decide) ?_
    refine ald16 dX4_urgentNow_11 (by omega) ?_
    refine K_top hZ.1 ?_
    refine K_icmpN_ge (by omega) (by omega) (tgt := 77) dX4_urgentNow_12 (by decide) (fun c12 => ?_) (fun c12 => ?_)
    · skip
      refine K_iload_n dX4_urgentNow_77 rfl ?_
      exact K_iret dX4_urgentNow_78 ⟨by rfl, rfl⟩
    · skip
      exfalso; omega
  · intro k hk_k ih_1
    refine K_iload_n dX4_urgentNow_4 rfl ?_
    refine K_aload_n dX4_urgentNow_5 rfl ?_
    refine g_X4_7 dX4_urgentNow_6  ?_
    refine K_bipush (v := nI 9) dX4_urgentNow_9 (by decide) ?_
    refine ald16 dX4_urgentNow_11 (by omega) ?_
    refine K_top hZ.1 ?_
    refine K_icmpN_ge (by omega) (by omega) (tgt := 77) dX4_urgentNow_12 (by decide) (fun c12 => ?_) (fun c12 => ?_)
    · skip
      exfalso; omega
    · skip
      refine K_aload_n dX4_urgentNow_15 rfl ?_
      refine K_iload_n dX4_urgentNow_16 rfl ?_
      refine k_X4_canBreak (C_X4_canBreak rfl (by omega) hZ) (by decide)  ml_X4_135 (Nat.le_of_ble_eq_true rfl) dX4_urgentNow_17 ?_
      refine K_ifb_eq (tgt := 71) dX4_urgentNow_20 (by decide) (fun c20 => ?_) (fun c20 => ?_)
      · skip
        refine K_iincN (b := 1) dX4_urgentNow_71 rfl rfl (by decide) rfl ?_
        refine K_goto (tgt := 4) dX4_urgentNow_74 (by decide) ?_
        exact K_lv [0, 1, 2] (by simp [lvpick, lkp, lvset, lvdel, Nat.beq, mUrgK, c20]) ih_1
      · skip
        refine K_iload_n dX4_urgentNow_23 rfl ?_
        refine K_iconst (v := -1) dX4_urgentNow_24 (by decide) ?_
        refine K_icmp_ne (tgt := 32) dX4_urgentNow_25 (by decide) (fun c25 => ?_) (fun c25 => ?_)
        · skip
          obtain ⟨j, hj, hjj⟩ := (hu k (by omega)).resolve_left c25
          have hjc : (mUrgK (μ.1 16 0 0) k).toNatClampNeg = j := by rw [hjj]; exact nI_clamp (by omega)
          refine K_aload_n dX4_urgentNow_32 rfl ?_
          refine K_iload_n dX4_urgentNow_33 rfl ?_
          refine K_top hjj ?_
          refine k_X4_breaksNow (C_X4_breaksNow rfl hj hZ) (by decide)  ml_X4_218 (Nat.le_of_ble_eq_true rfl) dX4_urgentNow_34 ?_
          refine K_aload_n dX4_urgentNow_37 rfl ?_
          refine K_iload_n dX4_urgentNow_38 rfl ?_
          refine k_X4_breaksNow (C_X4_breaksNow rfl (by omega) hZ) (by decide)  ml_X4_218 (Nat.le_of_ble_eq_true rfl) dX4_urgentNow_39 ?_
          refine K_isub dX4_urgentNow_42 ?_
          refine K_istore_n dX4_urgentNow_43 (by decide) rfl ?_
          refine K_iload_n dX4_urgentNow_44 rfl ?_
          refine K_if_gt (tgt := 65) dX4_urgentNow_45 (by decide) (fun c45 => ?_) (fun c45 => ?_)
          · skip
            refine K_iload_n dX4_urgentNow_65 rfl ?_
            refine K_goto (tgt := 70) dX4_urgentNow_66 (by decide) ?_
            refine K_istore_n dX4_urgentNow_70 (by decide) rfl ?_
            refine K_iincN (b := 1) dX4_urgentNow_71 rfl rfl (by decide) rfl ?_
            refine K_goto (tgt := 4) dX4_urgentNow_74 (by decide) ?_
            exact K_lv [0, 1, 2] (by simp [lvpick, lkp, lvset, lvdel, Nat.beq, mUrgK, hjc, c20, c25, c45]) ih_1
          · skip
            refine K_iload_n dX4_urgentNow_48 rfl ?_
            refine K_if_ne (tgt := 69) dX4_urgentNow_49 (by decide) (fun c49 => ?_) (fun c49 => ?_)
            · skip
              refine K_iload_n dX4_urgentNow_69 rfl ?_
              refine K_istore_n dX4_urgentNow_70 (by decide) rfl ?_
              refine K_iincN (b := 1) dX4_urgentNow_71 rfl rfl (by decide) rfl ?_
              refine K_goto (tgt := 4) dX4_urgentNow_74 (by decide) ?_
              exact K_lv [0, 1, 2] (by simp [lvpick, lkp, lvset, lvdel, Nat.beq, mUrgK, hjc, c20, c25, c45, c49]) ih_1
            · skip
              refine K_aload_n dX4_urgentNow_52 rfl ?_
              refine K_iload_n dX4_urgentNow_53 rfl ?_
              refine k_X4_owed (C_X4_owed rfl (by omega) hZ) (by decide)  ml_X4_53 (Nat.le_of_ble_eq_true rfl) dX4_urgentNow_54 ?_
              refine K_aload_n dX4_urgentNow_57 rfl ?_
              refine K_iload_n dX4_urgentNow_58 rfl ?_
              refine K_top hjj ?_
              refine k_X4_owed (C_X4_owed rfl hj hZ) (by decide)  ml_X4_53 (Nat.le_of_ble_eq_true rfl) dX4_urgentNow_59 ?_
              refine K_icmp_le (tgt := 69) dX4_urgentNow_62 (by decide) (fun c62 => ?_) (fun c62 => ?_)
              · skip
                refine K_iload_n dX4_urgentNow_69 rfl ?_
                refine K_istore_n dX4_urgentNow_70 (by decide) rfl ?_
                refine K_iincN (b := 1) dX4_urgentNow_71 rfl rfl (by decide) rfl ?_
                refine K_goto (tgt := 4) dX4_urgentNow_74 (by decide) ?_
                exact K_lv [0, 1, 2] (by simp [lvpick, lkp, lvset, lvdel, Nat.beq, mUrgK, hjc, c20, c25, c45, c49, c62]) ih_1
              · skip
                refine K_iload_n dX4_urgentNow_65 rfl ?_
                refine K_goto (tgt := 70) dX4_urgentNow_66 (by decide) ?_
                refine K_istore_n dX4_urgentNow_70 (by decide) rfl ?_
                refine K_iincN (b := 1) dX4_urgentNow_71 rfl rfl (by decide) rfl ?_
                refine K_goto (tgt := 4) dX4_urgentNow_74 (by decide) ?_
                exact K_lv [0, 1, 2] (by simp [lvpick, lkp, lvset, lvdel, Nat.beq, mUrgK, hjc, c20, c25, c45, c49, c62]) ih_1
        · skip
          refine K_iconstN 1 dX4_urgentNow_28 rfl ?_
          refine K_goto (tgt := 43) dX4_urgentNow_29 (by decide) ?_
          refine K_istore_n dX4_urgentNow_43 (by decide) rfl ?_
          refine K_iload_n dX4_urgentNow_44 rfl ?_
          refine K_ifN_gt (by omega) (tgt := 65) dX4_urgentNow_45 (by decide) (fun c45 => ?_) (fun c45 => absurd c45 (by decide))
          refine K_iload_n dX4_urgentNow_65 rfl ?_
          refine K_goto (tgt := 70) dX4_urgentNow_66 (by decide) ?_
          refine K_istore_n dX4_urgentNow_70 (by decide) rfl ?_
          refine K_iincN (b := 1) dX4_urgentNow_71 rfl rfl (by decide) rfl ?_
          refine K_goto (tgt := 4) dX4_urgentNow_74 (by decide) ?_
          exact K_lv [0, 1, 2] (by simp [lvpick, lkp, lvset, lvdel, Nat.beq, mUrgK, c20, c25]) ih_1
