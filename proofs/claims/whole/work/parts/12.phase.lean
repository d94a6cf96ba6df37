set_option maxHeartbeats 4000000 in
set_option maxRecDepth 100000 in
theorem C_X3_percentOf {l : Launch} {G : WG} {μ : Mem} {a b : Int32} : Ct l G 0 yX3_percentOf cX3_percentOf 2 (some .int) [.int a, .int b] (μ) (some (.int (pctV a b))) (μ) := by
  refine Ct_of (by decide +kernel) (Nat.le_of_ble_eq_true rfl) ?_
  refine K_iload_n dX3_percentOf_0 rfl ?_
  refine K_iload_n dX3_percentOf_1 rfl ?_
  refine K_imul dX3_percentOf_2 ?_
  refine K_bipush (v := nI 100) dX3_percentOf_3 (by decide) ?_
  refine K_idiv dX3_percentOf_5 (by decide) ?_
  exact K_iret dX3_percentOf_6 ⟨by rfl, rfl⟩

set_option maxHeartbeats 4000000 in
set_option maxRecDepth 100000 in
theorem C_X3_instalmentsFor {l : Launch} {G : WG} {μ : Mem} {a : Int32} : Ct l G 0 yX3_instalmentsFor cX3_instalmentsFor 1 (some .int) [.int a] (μ) (some (.int (nI (partsN a)))) (μ) := by
  refine Ct_of (by decide +kernel) (Nat.le_of_ble_eq_true rfl) ?_
  refine K_iload_n dX3_instalmentsFor_0 rfl ?_
  refine K_sipush (v := nI 1000) dX3_instalmentsFor_1 (by decide) ?_
  refine K_icmp_ge (tgt := 9) dX3_instalmentsFor_4 (by decide) (fun c4 => ?_) (fun c4 => ?_)
  · skip
    refine K_iload_n dX3_instalmentsFor_9 rfl ?_
    refine K_sipush (v := nI 5000) dX3_instalmentsFor_10 (by decide) ?_
    refine K_icmp_ge (tgt := 18) dX3_instalmentsFor_13 (by decide) (fun c13 => ?_) (fun c13 => ?_)
    · skip
      refine K_iload_n dX3_instalmentsFor_18 rfl ?_
      refine K_sipush (v := nI 20000) dX3_instalmentsFor_19 (by decide) ?_
      refine K_icmp_ge (tgt := 29) dX3_instalmentsFor_22 (by decide) (fun c22 => ?_) (fun c22 => ?_)
      · skip
        refine K_iconstN 4 dX3_instalmentsFor_29 rfl ?_
        exact K_iret dX3_instalmentsFor_30 ⟨by simp only [partsN, c4, c13, c22, if_true, if_false], rfl⟩
      · skip
        refine K_iconstN 3 dX3_instalmentsFor_25 rfl ?_
        refine K_goto (tgt := 30) dX3_instalmentsFor_26 (by decide) ?_
        exact K_iret dX3_instalmentsFor_30 ⟨by simp only [partsN, c4, c13, c22, if_true, if_false], rfl⟩
    · skip
      refine K_iconstN 2 dX3_instalmentsFor_16 rfl ?_
      exact K_iret dX3_instalmentsFor_17 ⟨by simp only [partsN, c4, c13, if_true, if_false], rfl⟩
  · skip
    refine K_iconstN 1 dX3_instalmentsFor_7 rfl ?_
    exact K_iret dX3_instalmentsFor_8 ⟨by simp only [partsN, c4, if_false], rfl⟩

set_option maxHeartbeats 4000000 in
set_option maxRecDepth 100000 in
theorem C_X3_partOf {l : Launch} {G : WG} {μ : Mem} {a : Int32} {n k : Nat} (hk : k < n) (hn : n ≤ 4) : Ct l G 0 yX3_partOf cX3_partOf 4 (some .int) [.int a, .int (nI n), .int (nI k)] (μ) (some (.int (partV a n k))) (μ) := by
  refine Ct_of (by decide +kernel) (Nat.le_of_ble_eq_true rfl) ?_
  refine K_iload_n dX3_partOf_0 rfl ?_
  refine K_ifN_lt (by omega) (tgt := 9) dX3_partOf_1 (by decide) ?_
  refine K_iload_n dX3_partOf_4 rfl ?_
  refine K_iload_n dX3_partOf_5 rfl ?_
  refine K_icmpN_lt (by omega) (by omega) (tgt := 11) dX3_partOf_6 (by decide) (fun c6 => ?_) (fun c6 => ?_)
  · skip
    refine K_iload_n dX3_partOf_11 rfl ?_
    refine K_iload_n dX3_partOf_12 rfl ?_
    refine K_idiv dX3_partOf_13 (nI_ne0 (by omega) (by omega)) ?_
    refine K_istore_n dX3_partOf_14 (by decide) rfl ?_
    refine K_iload_n dX3_partOf_15 rfl ?_
    refine K_iload_n dX3_partOf_16 rfl ?_
    refine K_iconstN 1 dX3_partOf_17 rfl ?_
    refine K_isubN (by omega) dX3_partOf_18 ?_
    refine K_icmpN_ne (by omega) (by omega) (tgt := 30) dX3_partOf_19 (by decide) (fun c19 => ?_) (fun c19 => ?_)
    · skip
      refine K_iload_n dX3_partOf_30 rfl ?_
      exact K_iret dX3_partOf_31 ⟨by simp only [partV, c19, if_true, if_false], rfl⟩
    · skip
      refine K_iload_n dX3_partOf_22 rfl ?_
      refine K_iload_n dX3_partOf_23 rfl ?_
      refine K_iload_n dX3_partOf_24 rfl ?_
      refine K_imul dX3_partOf_25 ?_
      refine K_isub dX3_partOf_26 ?_
      refine K_goto (tgt := 31) dX3_partOf_27 (by decide) ?_
      exact K_iret dX3_partOf_31 ⟨by simp only [partV, c19, if_true, if_false], rfl⟩
  · skip
    exfalso; omega

set_option maxHeartbeats 4000000 in
set_option maxRecDepth 100000 in
theorem C_X2_hasBegun {l : Launch} {G : WG} {μ : Mem} {i p : Nat} (hi : i < 7) (hp : p < 6) : Ct l G 0 yX2_hasBegun cX2_hasBegun 1 (some .boolean) [.ref (adr G 8 i p)] (μ) (some (.int (b2i (cBegun μ i p)))) (μ) := by
  refine Ct_of (by decide +kernel) (Nat.le_of_ble_eq_true rfl) ?_
  refine K_aload_n dX2_hasBegun_0 rfl ?_
  refine g_X2_30 dX2_hasBegun_1 (by omega) (by omega) ?_
  refine K_iconst (v := -1) dX2_hasBegun_4 (by decide) ?_
  refine K_icmp_eq (tgt := 12) dX2_hasBegun_5 (by decide) (fun c5 => ?_) (fun c5 => ?_)
  · skip
    refine K_iconstN 0 dX2_hasBegun_12 rfl ?_
    exact K_zret (by simp [cBegun, c5, b2i, nI]) dX2_hasBegun_13 ⟨rfl, rfl⟩
  · skip
    refine K_iconstN 1 dX2_hasBegun_8 rfl ?_
    refine K_goto (tgt := 13) dX2_hasBegun_9 (by decide) ?_
    exact K_zret (by simp [cBegun, c5, b2i, nI]) dX2_hasBegun_13 ⟨rfl, rfl⟩

set_option maxHeartbeats 4000000 in
set_option maxRecDepth 100000 in
theorem C_X2_chargeOfUse {l : Launch} {G : WG} {μ : Mem} {i p : Nat} (hi : i < 7) (hp : p < 6) {u : Nat} (hu : u < 4) : Ct l G 0 yX2_chargeOfUse cX2_chargeOfUse 2 (some .int) [.ref (adr G 8 i p), .int (nI u)] (μ) (some (.int (μ.1 9 i p u * μ.1 11 i p u))) (μ) := by
  refine Ct_of (by decide +kernel) (Nat.le_of_ble_eq_true rfl) ?_
  refine K_aload_n dX2_chargeOfUse_0 rfl ?_
  refine g_X2_9 dX2_chargeOfUse_1 (by omega) (by omega) ?_
  refine K_iload_n dX2_chargeOfUse_4 rfl ?_
  refine ald9 dX2_chargeOfUse_5 (by omega) (by omega) (by omega) ?_
  refine K_aload_n dX2_chargeOfUse_6 rfl ?_
  refine g_X2_18 dX2_chargeOfUse_7 (by omega) (by omega) ?_
  refine K_iload_n dX2_chargeOfUse_10 rfl ?_
  refine ald11 dX2_chargeOfUse_11 (by omega) (by omega) (by omega) ?_
  refine K_imul dX2_chargeOfUse_12 ?_
  exact K_iret dX2_chargeOfUse_13 ⟨by rfl, rfl⟩

set_option maxHeartbeats 4000000 in
set_option maxRecDepth 100000 in
theorem C_X2_reliefOfUse {l : Launch} {G : WG} {μ : Mem} {i p : Nat} (hi : i < 7) (hp : p < 6) {u : Nat} (hu : u < 4) : Ct l G 0 yX2_reliefOfUse cX2_reliefOfUse 2 (some .int) [.ref (adr G 8 i p), .int (nI u)] (μ) (some (.int (cRel μ i p u))) (μ) := by
  refine Ct_of (by decide +kernel) (Nat.le_of_ble_eq_true rfl) ?_
  refine K_aload_n dX2_reliefOfUse_0 rfl ?_
  refine g_X2_15 dX2_reliefOfUse_1 (by omega) (by omega) ?_
  refine K_iload_n dX2_reliefOfUse_4 rfl ?_
  refine ald10 dX2_reliefOfUse_5 (by omega) (by omega) (by omega) ?_
  refine K_aload_n dX2_reliefOfUse_6 rfl ?_
  refine g_X2_18 dX2_reliefOfUse_7 (by omega) (by omega) ?_
  refine K_iload_n dX2_reliefOfUse_10 rfl ?_
  refine ald11 dX2_reliefOfUse_11 (by omega) (by omega) (by omega) ?_
  refine K_imul dX2_reliefOfUse_12 ?_
  refine K_aload_n dX2_reliefOfUse_13 rfl ?_
  refine g_X2_21 dX2_reliefOfUse_14 (by omega) (by omega) ?_
  refine K_iload_n dX2_reliefOfUse_17 rfl ?_
  refine ald12 dX2_reliefOfUse_18 (by omega) (by omega) (by omega) ?_
  refine K_isub dX2_reliefOfUse_19 ?_
  exact K_iret dX2_reliefOfUse_20 ⟨by rfl, rfl⟩

set_option maxHeartbeats 4000000 in
set_option maxRecDepth 100000 in
theorem C_X2_charge {l : Launch} {G : WG} {μ : Mem} {i p : Nat} (hi : i < 7) (hp : p < 6) : Ct l G 0 yX2_charge cX2_charge 3 (some .int) [.ref (adr G 8 i p)] (μ) (some (.int (cCharge μ i p))) (μ) := by
  refine Ct_of (by decide +kernel) (Nat.le_of_ble_eq_true rfl) ?_
  refine K_iconstN 0 dX2_charge_0 rfl ?_
  refine K_istore_n dX2_charge_1 (by decide) rfl ?_
  refine K_iconstN 0 dX2_charge_2 rfl ?_
  refine K_istore_n dX2_charge_3 (by decide) rfl ?_
  refine K_lv [0, 1, 2] rfl ?_
  refine K_for (4) (fun k => [(0, .ref (adr G 8 i p)), (1, .int (sumI (fun u => μ.1 9 i p u * μ.1 11 i p u) k)), (2, .int (nI k))]) (fun _ => μ) ?_ ?_
  · skip
    refine K_iload_n dX2_charge_4 rfl ?_
    refine K_iconstN 4 dX2_charge_5 rfl ?_
    refine K_icmpN_ge (by omega) (by omega) (tgt := 31) dX2_charge_6 (by decide) (fun c6 => ?_) (fun c6 => ?_)
    · skip
      refine K_iload_n dX2_charge_31 rfl ?_
      exact K_iret dX2_charge_32 ⟨by rfl, rfl⟩
    · skip
      exfalso; omega
  · intro k hk_k ih_1
    refine K_iload_n dX2_charge_4 rfl ?_
    refine K_iconstN 4 dX2_charge_5 rfl ?_
    refine K_icmpN_ge (by omega) (by omega) (tgt := 31) dX2_charge_6 (by decide) (fun c6 => ?_) (fun c6 => ?_)
    · skip
      exfalso; omega
    · skip
      refine K_iload_n dX2_charge_9 rfl ?_
      refine K_aload_n dX2_charge_10 rfl ?_
      refine g_X2_9 dX2_charge_11 (by omega) (by omega) ?_
      refine K_iload_n dX2_charge_14 rfl ?_
      refine ald9 dX2_charge_15 (by omega) (by omega) (by omega) ?_
      refine K_aload_n dX2_charge_16 rfl ?_
      refine g_X2_18 dX2_charge_17 (by omega) (by omega) ?_
      refine K_iload_n dX2_charge_20 rfl ?_
      refine ald11 dX2_charge_21 (by omega) (by omega) (by omega) ?_
      refine K_imul dX2_charge_22 ?_
      refine K_iadd dX2_charge_23 ?_
      refine K_istore_n dX2_charge_24 (by decide) rfl ?_
      refine K_iincN (b := 1) dX2_charge_25 rfl rfl (by decide) rfl ?_
      refine K_goto (tgt := 4) dX2_charge_28 (by decide) ?_
      exact K_lv [0, 1, 2] rfl ih_1

set_option maxHeartbeats 4000000 in
set_option maxRecDepth 100000 in
theorem C_X2_relief {l : Launch} {G : WG} {μ : Mem} {i p : Nat} (hi : i < 7) (hp : p < 6) : Ct l G 0 yX2_relief cX2_relief 3 (some .int) [.ref (adr G 8 i p)] (μ) (some (.int (cRelief μ i p))) (μ) := by
  refine Ct_of (by decide +kernel) (Nat.le_of_ble_eq_true rfl) ?_
  refine K_iconstN 0 dX2_relief_0 rfl ?_
  refine K_istore_n dX2_relief_1 (by decide) rfl ?_
  refine K_iconstN 0 dX2_relief_2 rfl ?_
  refine K_istore_n dX2_relief_3 (by decide) rfl ?_
  refine K_lv [0, 1, 2] rfl ?_
  refine K_for (4) (fun k => [(0, .ref (adr G 8 i p)), (1, .int (sumI (fun u => cRel μ i p u) k)), (2, .int (nI k))]) (fun _ => μ) ?_ ?_
  · skip
    refine K_iload_n dX2_relief_4 rfl ?_
    refine K_iconstN 4 dX2_relief_5 rfl ?_
    refine K_icmpN_ge (by omega) (by omega) (tgt := 38) dX2_relief_6 (by decide) (fun c6 => ?_) (fun c6 => ?_)
    · skip
      refine K_iload_n dX2_relief_38 rfl ?_
      exact K_iret dX2_relief_39 ⟨by rfl, rfl⟩
    · skip
      exfalso; omega
  · intro k hk_k ih_1
    refine K_iload_n dX2_relief_4 rfl ?_
    refine K_iconstN 4 dX2_relief_5 rfl ?_
    refine K_icmpN_ge (by omega) (by omega) (tgt := 38) dX2_relief_6 (by decide) (fun c6 => ?_) (fun c6 => ?_)
    · skip
      exfalso; omega
    · skip
      refine K_iload_n dX2_relief_9 rfl ?_
      refine K_aload_n dX2_relief_10 rfl ?_
      refine g_X2_15 dX2_relief_11 (by omega) (by omega) ?_
      refine K_iload_n dX2_relief_14 rfl ?_
      refine ald10 dX2_relief_15 (by omega) (by omega) (by omega) ?_
      refine K_aload_n dX2_relief_16 rfl ?_
      refine g_X2_18 dX2_relief_17 (by omega) (by omega) ?_
      refine K_iload_n dX2_relief_20 rfl ?_
      refine ald11 dX2_relief_21 (by omega) (by omega) (by omega) ?_
      refine K_imul dX2_relief_22 ?_
      refine K_aload_n dX2_relief_23 rfl ?_
      refine g_X2_21 dX2_relief_24 (by omega) (by omega) ?_
      refine K_iload_n dX2_relief_27 rfl ?_
      refine ald12 dX2_relief_28 (by omega) (by omega) (by omega) ?_
      refine K_isub dX2_relief_29 ?_
      refine K_iadd dX2_relief_30 ?_
      refine K_istore_n dX2_relief_31 (by decide) rfl ?_
      refine K_iincN (b := 1) dX2_relief_32 rfl rfl (by decide) rfl ?_
      refine K_goto (tgt := 4) dX2_relief_35 (by decide) ?_
      exact K_lv [0, 1, 2] rfl ih_1

set_option maxHeartbeats 4000000 in
set_option maxRecDepth 100000 in
theorem C_X2_lapsedSoFar {l : Launch} {G : WG} {μ : Mem} {i p : Nat} (hi : i < 7) (hp : p < 6) : Ct l G 0 yX2_lapsedSoFar cX2_lapsedSoFar 3 (some .int) [.ref (adr G 8 i p)] (μ) (some (.int (cLapsed μ i p))) (μ) := by
  refine Ct_of (by decide +kernel) (Nat.le_of_ble_eq_true rfl) ?_
  refine K_iconstN 0 dX2_lapsedSoFar_0 rfl ?_
  refine K_istore_n dX2_lapsedSoFar_1 (by decide) rfl ?_
  refine K_iconstN 0 dX2_lapsedSoFar_2 rfl ?_
  refine K_istore_n dX2_lapsedSoFar_3 (by decide) rfl ?_
  refine K_lv [0, 1, 2] rfl ?_
  refine K_for (4) (fun k => [(0, .ref (adr G 8 i p)), (1, .int (sumI (fun u => μ.1 12 i p u) k)), (2, .int (nI k))]) (fun _ => μ) ?_ ?_
  · skip
    refine K_iload_n dX2_lapsedSoFar_4 rfl ?_
    refine K_iconstN 4 dX2_lapsedSoFar_5 rfl ?_
    refine K_icmpN_ge (by omega) (by omega) (tgt := 24) dX2_lapsedSoFar_6 (by decide) (fun c6 => ?_) (fun c6 => ?_)
    · skip
      refine K_iload_n dX2_lapsedSoFar_24 rfl ?_
      exact K_iret dX2_lapsedSoFar_25 ⟨by rfl, rfl⟩
    · skip
      exfalso; omega
  · intro k hk_k ih_1
    refine K_iload_n dX2_lapsedSoFar_4 rfl ?_
    refine K_iconstN 4 dX2_lapsedSoFar_5 rfl ?_
    refine K_icmpN_ge (by omega) (by omega) (tgt := 24) dX2_lapsedSoFar_6 (by decide) (fun c6 => ?_) (fun c6 => ?_)
    · skip
      exfalso; omega
    · skip
      refine K_iload_n dX2_lapsedSoFar_9 rfl ?_
      refine K_aload_n dX2_lapsedSoFar_10 rfl ?_
      refine g_X2_21 dX2_lapsedSoFar_11 (by omega) (by omega) ?_
      refine K_iload_n dX2_lapsedSoFar_14 rfl ?_
      refine ald12 dX2_lapsedSoFar_15 (by omega) (by omega) (by omega) ?_
      refine K_iadd dX2_lapsedSoFar_16 ?_
      refine K_istore_n dX2_lapsedSoFar_17 (by decide) rfl ?_
      refine K_iincN (b := 1) dX2_lapsedSoFar_18 rfl rfl (by decide) rfl ?_
      refine K_goto (tgt := 4) dX2_lapsedSoFar_21 (by decide) ?_
      exact K_lv [0, 1, 2] rfl ih_1

set_option maxHeartbeats 4000000 in
set_option maxRecDepth 100000 in
theorem C_X2_areaOfAllUses {l : Launch} {G : WG} {μ : Mem} {i p : Nat} (hi : i < 7) (hp : p < 6) : Ct l G 0 yX2_areaOfAllUses cX2_areaOfAllUses 3 (some .int) [.ref (adr G 8 i p)] (μ) (some (.int (cArea μ i p))) (μ) := by
  refine Ct_of (by decide +kernel) (Nat.le_of_ble_eq_true rfl) ?_
  refine K_iconstN 0 dX2_areaOfAllUses_0 rfl ?_
  refine K_istore_n dX2_areaOfAllUses_1 (by decide) rfl ?_
  refine K_iconstN 0 dX2_areaOfAllUses_2 rfl ?_
  refine K_istore_n dX2_areaOfAllUses_3 (by decide) rfl ?_
  refine K_lv [0, 1, 2] rfl ?_
  refine K_for (4) (fun k => [(0, .ref (adr G 8 i p)), (1, .int (sumI (fun u => μ.1 9 i p u) k)), (2, .int (nI k))]) (fun _ => μ) ?_ ?_
  · skip
    refine K_iload_n dX2_areaOfAllUses_4 rfl ?_
    refine K_iconstN 4 dX2_areaOfAllUses_5 rfl ?_
    refine K_icmpN_ge (by omega) (by omega) (tgt := 24) dX2_areaOfAllUses_6 (by decide) (fun c6 => ?_) (fun c6 => ?_)
    · skip
      refine K_iload_n dX2_areaOfAllUses_24 rfl ?_
      exact K_iret dX2_areaOfAllUses_25 ⟨by rfl, rfl⟩
    · skip
      exfalso; omega
  · intro k hk_k ih_1
    refine K_iload_n dX2_areaOfAllUses_4 rfl ?_
    refine K_iconstN 4 dX2_areaOfAllUses_5 rfl ?_
    refine K_icmpN_ge (by omega) (by omega) (tgt := 24) dX2_areaOfAllUses_6 (by decide) (fun c6 => ?_) (fun c6 => ?_)
    · skip
      exfalso; omega
    · skip
      refine K_iload_n dX2_areaOfAllUses_9 rfl ?_
      refine K_aload_n dX2_areaOfAllUses_10 rfl ?_
      refine g_X2_9 dX2_areaOfAllUses_11 (by omega) (by omega) ?_
      refine K_iload_n dX2_areaOfAllUses_14 rfl ?_
      refine ald9 dX2_areaOfAllUses_15 (by omega) (by omega) (by omega) ?_
      refine K_iadd dX2_areaOfAllUses_16 ?_
      refine K_istore_n dX2_areaOfAllUses_17 (by decide) rfl ?_
      refine K_iincN (b := 1) dX2_areaOfAllUses_18 rfl rfl (by decide) rfl ?_
      refine K_goto (tgt := 4) dX2_areaOfAllUses_21 (by decide) ?_
      exact K_lv [0, 1, 2] rfl ih_1

set_option maxHeartbeats 4000000 in
set_option maxRecDepth 100000 in
theorem C_X2_owed {l : Launch} {G : WG} {μ : Mem} {i p : Nat} (hi : i < 7) (hp : p < 6) : Ct l G 1 yX2_owed cX2_owed 1 (some .int) [.ref (adr G 8 i p)] (μ) (some (.int (cOwed μ i p))) (μ) := by
  refine Ct_of (by decide +kernel) (Nat.le_of_ble_eq_true rfl) ?_
  refine K_aload_n dX2_owed_0 rfl ?_
  refine k_X2_hasBegun (C_X2_hasBegun (by omega) (by omega)) (by decide) (by omega) (by omega) ml_X2_87 (Nat.le_of_ble_eq_true rfl) dX2_owed_1 ?_
  refine K_ifb_eq (tgt := 34) dX2_owed_4 (by decide) (fun c4 => ?_) (fun c4 => ?_)
  · skip
    refine K_iconstN 0 dX2_owed_34 rfl ?_
    exact K_iret dX2_owed_35 ⟨by simp only [cOwed, c4, cond_true, cond_false], rfl⟩
  · skip
    refine K_aload_n dX2_owed_7 rfl ?_
    refine k_X2_charge (C_X2_charge (by omega) (by omega)) (by decide) (by omega) (by omega) ml_X2_59 (Nat.le_of_ble_eq_true rfl) dX2_owed_8 ?_
    refine K_aload_n dX2_owed_11 rfl ?_
    refine k_X2_relief (C_X2_relief (by omega) (by omega)) (by decide) (by omega) (by omega) ml_X2_63 (Nat.le_of_ble_eq_true rfl) dX2_owed_12 ?_
    refine K_isub dX2_owed_15 ?_
    refine K_aload_n dX2_owed_16 rfl ?_
    refine g_X2_46 dX2_owed_17 (by omega) (by omega) ?_
    refine K_iadd dX2_owed_20 ?_
    refine K_aload_n dX2_owed_21 rfl ?_
    refine g_X2_40 dX2_owed_22 (by omega) (by omega) ?_
    refine K_isub dX2_owed_25 ?_
    refine K_aload_n dX2_owed_26 rfl ?_
    refine g_X2_43 dX2_owed_27 (by omega) (by omega) ?_
    refine K_isub dX2_owed_30 ?_
    refine K_goto (tgt := 35) dX2_owed_31 (by decide) ?_
    exact K_iret dX2_owed_35 ⟨by simp only [cOwed, c4, cond_true, cond_false], rfl⟩

set_option maxHeartbeats 4000000 in
set_option maxRecDepth 100000 in
theorem C_X2_roomForLand {l : Launch} {G : WG} {μ : Mem} {i p : Nat} (hi : i < 7) (hp : p < 6) {a : Int32} : Ct l G 1 yX2_roomForLand cX2_roomForLand 2 (some .int) [.ref (adr G 8 i p), .int (a)] (μ) (some (.int (cRoom μ i p a))) (μ) := by
  refine Ct_of (by decide +kernel) (Nat.le_of_ble_eq_true rfl) ?_
  refine K_aload_n dX2_roomForLand_0 rfl ?_
  refine k_X2_hasBegun (C_X2_hasBegun (by omega) (by omega)) (by decide) (by omega) (by omega) ml_X2_87 (Nat.le_of_ble_eq_true rfl) dX2_roomForLand_1 ?_
  refine K_ifb_eq (tgt := 32) dX2_roomForLand_4 (by decide) (fun c4 => ?_) (fun c4 => ?_)
  · skip
    refine K_iconstN 0 dX2_roomForLand_32 rfl ?_
    exact K_iret dX2_roomForLand_33 ⟨by simp only [cRoom, c4, cond_true, cond_false], rfl⟩
  · skip
    refine K_iconstN 0 dX2_roomForLand_7 rfl ?_
    refine K_iload_n dX2_roomForLand_8 rfl ?_
    refine K_aload_n dX2_roomForLand_9 rfl ?_
    refine k_X2_charge (C_X2_charge (by omega) (by omega)) (by decide) (by omega) (by omega) ml_X2_59 (Nat.le_of_ble_eq_true rfl) dX2_roomForLand_10 ?_
    refine K_aload_n dX2_roomForLand_13 rfl ?_
    refine k_X2_relief (C_X2_relief (by omega) (by omega)) (by decide) (by omega) (by omega) ml_X2_63 (Nat.le_of_ble_eq_true rfl) dX2_roomForLand_14 ?_
    refine K_isub dX2_roomForLand_17 ?_
    refine kn_X3_percentOf (C_X3_percentOf ) (by decide) (host := "LevyPhases") (by decide +kernel) (Nat.le_of_ble_eq_true rfl) dX2_roomForLand_18 ?_
    refine K_aload_n dX2_roomForLand_21 rfl ?_
    refine g_X2_43 dX2_roomForLand_22 (by omega) (by omega) ?_
    refine K_isub dX2_roomForLand_25 ?_
    refine K_max dX2_roomForLand_26 ml_X2_94 st_max in_math cd_max (by decide) (Nat.le_of_ble_eq_true rfl) ?_
    refine K_goto (tgt := 33) dX2_roomForLand_29 (by decide) ?_
    exact K_iret dX2_roomForLand_33 ⟨by simp only [cRoom, c4, cond_true, cond_false], rfl⟩

set_option maxHeartbeats 4000000 in
set_option maxRecDepth 100000 in
theorem C_X2_lastDayOfInstalment {l : Launch} {G : WG} {μ : Mem} {i p : Nat} (hi : i < 7) (hp : p < 6) {a : Int32} : Ct l G 0 yX2_lastDayOfInstalment cX2_lastDayOfInstalment 2 (some .int) [.ref (adr G 8 i p), .int (a)] (μ) (some (.int (cLast μ i p a))) (μ) := by
  refine Ct_of (by decide +kernel) (Nat.le_of_ble_eq_true rfl) ?_
  refine K_aload_n dX2_lastDayOfInstalment_0 rfl ?_
  refine g_X2_30 dX2_lastDayOfInstalment_1 (by omega) (by omega) ?_
  refine K_iload_n dX2_lastDayOfInstalment_4 rfl ?_
  refine K_iconstN 1 dX2_lastDayOfInstalment_5 rfl ?_
  refine K_iadd dX2_lastDayOfInstalment_6 ?_
  refine K_aload_n dX2_lastDayOfInstalment_7 rfl ?_
  refine g_X2_34 dX2_lastDayOfInstalment_8 (by omega) (by omega) ?_
  refine K_imul dX2_lastDayOfInstalment_11 ?_
  refine K_iadd dX2_lastDayOfInstalment_12 ?_
  exact K_iret dX2_lastDayOfInstalment_13 ⟨by rfl, rfl⟩

set_option maxHeartbeats 4000000 in
set_option maxRecDepth 100000 in
theorem C_X2_instalmentsPaidWhole {l : Launch} {G : WG} {μ : Mem} {i p : Nat} (hi : i < 7) (hp : p < 6) {n : Nat} (hN : μ.1 8 i p 8 = nI n) (hn : n ≤ 4) : Ct l G 0 yX2_instalmentsPaidWhole cX2_instalmentsPaidWhole 3 (some .int) [.ref (adr G 8 i p)] (μ) (some (.int (nI (cWhole μ i p n)))) (μ) := by
  refine Ct_of (by decide +kernel) (Nat.le_of_ble_eq_true rfl) ?_
  refine K_iconstN 0 dX2_instalmentsPaidWhole_0 rfl ?_
  refine K_istore_n dX2_instalmentsPaidWhole_1 (by decide) rfl ?_
  refine K_iconstN 0 dX2_instalmentsPaidWhole_2 rfl ?_
  refine K_istore_n dX2_instalmentsPaidWhole_3 (by decide) rfl ?_
  refine K_lv [0, 1, 2] rfl ?_
  refine K_for (n) (fun k => [(0, .ref (adr G 8 i p)), (1, .int (nI (cntZ (fun k => μ.1 14 i p k) k))), (2, .int (nI k))]) (fun _ => μ) ?_ ?_
  · skip
    refine K_iload_n dX2_instalmentsPaidWhole_4 rfl ?_
    refine K_aload_n dX2_instalmentsPaidWhole_5 rfl ?_
    refine g_X2_37 dX2_instalmentsPaidWhole_6 (by omega) (by omega) ?_
    refine K_top hN ?_
    refine K_icmpN_ge (by omega) (by omega) (tgt := 35) dX2_instalmentsPaidWhole_9 (by decide) (fun c9 => ?_) (fun c9 => ?_)
    · skip
      refine K_iload_n dX2_instalmentsPaidWhole_35 rfl ?_
      exact K_iret dX2_instalmentsPaidWhole_36 ⟨by rfl, rfl⟩
    · skip
      exfalso; omega
  · intro k hk_k ih_1
    refine K_iload_n dX2_instalmentsPaidWhole_4 rfl ?_
    refine K_aload_n dX2_instalmentsPaidWhole_5 rfl ?_
    refine g_X2_37 dX2_instalmentsPaidWhole_6 (by omega) (by omega) ?_
    refine K_top hN ?_
    refine K_icmpN_ge (by omega) (by omega) (tgt := 35) dX2_instalmentsPaidWhole_9 (by decide) (fun c9 => ?_) (fun c9 => ?_)
    · skip
      exfalso; omega
    · skip
      refine K_iload_n dX2_instalmentsPaidWhole_12 rfl ?_
      refine K_iconstN 4 dX2_instalmentsPaidWhole_13 rfl ?_
      refine K_icmpN_ge (by omega) (by omega) (tgt := 35) dX2_instalmentsPaidWhole_14 (by decide) (fun c14 => ?_) (fun c14 => ?_)
      · skip
        exfalso; omega
      · skip
        refine K_aload_n dX2_instalmentsPaidWhole_17 rfl ?_
        refine g_X2_27 dX2_instalmentsPaidWhole_18 (by omega) (by omega) ?_
        refine K_iload_n dX2_instalmentsPaidWhole_21 rfl ?_
        refine ald14 dX2_instalmentsPaidWhole_22 (by omega) (by omega) (by omega) ?_
        refine K_if_ne (tgt := 29) dX2_instalmentsPaidWhole_23 (by decide) (fun c23 => ?_) (fun c23 => ?_)
        · skip
          refine K_iincN (b := 1) dX2_instalmentsPaidWhole_29 rfl rfl (by decide) rfl ?_
          refine K_goto (tgt := 4) dX2_instalmentsPaidWhole_32 (by decide) ?_
          exact K_lv [0, 1, 2] (by simp [lvpick, lkp, lvset, lvdel, Nat.beq, cntZ, cNotDue, sumB, *]) ih_1
        · skip
          refine K_iincN (b := 1) dX2_instalmentsPaidWhole_26 rfl rfl (by decide) rfl ?_
          refine K_iincN (b := 1) dX2_instalmentsPaidWhole_29 rfl rfl (by decide) rfl ?_
          refine K_goto (tgt := 4) dX2_instalmentsPaidWhole_32 (by decide) ?_
          exact K_lv [0, 1, 2] (by simp [lvpick, lkp, lvset, lvdel, Nat.beq, cntZ, cNotDue, sumB, *]) ih_1

set_option maxHeartbeats 4000000 in
set_option maxRecDepth 100000 in
theorem C_X2_dueOn {l : Launch} {G : WG} {μ : Mem} {i p : Nat} (hi : i < 7) (hp : p < 6) {a : Int32} {n : Nat} (hN : μ.1 8 i p 8 = nI n) (hn : n ≤ 4) : Ct l G 2 yX2_dueOn cX2_dueOn 4 (some .int) [.ref (adr G 8 i p), .int (a)] (μ) (some (.int (cDueOn μ i p n a))) (μ) := by
  refine Ct_of (by decide +kernel) (Nat.le_of_ble_eq_true rfl) ?_
  refine K_aload_n dX2_dueOn_0 rfl ?_
  refine g_X2_49 dX2_dueOn_1 (by omega) (by omega) ?_
  refine K_if_eq (tgt := 12) dX2_dueOn_4 (by decide) (fun c4 => ?_) (fun c4 => ?_)
  · skip
    refine K_iconstN 0 dX2_dueOn_12 rfl ?_
    refine K_istore_n dX2_dueOn_13 (by decide) rfl ?_
    refine K_iconstN 0 dX2_dueOn_14 rfl ?_
    refine K_istore_n dX2_dueOn_15 (by decide) rfl ?_
    refine K_lv [0, 1, 2, 3] rfl ?_
    refine K_for (n) (fun k => [(0, .ref (adr G 8 i p)), (1, .int a), (2, .int (cNotDue μ i p a k)), (3, .int (nI k))]) (fun _ => μ) ?_ ?_
    · skip
      refine K_iload_n dX2_dueOn_16 rfl ?_
      refine K_aload_n dX2_dueOn_17 rfl ?_
      refine g_X2_37 dX2_dueOn_18 (by omega) (by omega) ?_
      refine K_top hN ?_
      refine K_icmpN_ge (by omega) (by omega) (tgt := 53) dX2_dueOn_21 (by decide) (fun c21 => ?_) (fun c21 => ?_)
      · skip
        refine K_aload_n dX2_dueOn_53 rfl ?_
        refine k_X2_owed (C_X2_owed (by omega) (by omega)) (by decide) (by omega) (by omega) ml_X2_74 (Nat.le_of_ble_eq_true rfl) dX2_dueOn_54 ?_
        refine K_iload_n dX2_dueOn_57 rfl ?_
        refine K_isub dX2_dueOn_58 ?_
        exact K_iret dX2_dueOn_59 ⟨by simp [cDueOn, c4], rfl⟩
      · skip
        exfalso; omega
    · intro k hk_k ih_1
      refine K_iload_n dX2_dueOn_16 rfl ?_
      refine K_aload_n dX2_dueOn_17 rfl ?_
      refine g_X2_37 dX2_dueOn_18 (by omega) (by omega) ?_
      refine K_top hN ?_
      refine K_icmpN_ge (by omega) (by omega) (tgt := 53) dX2_dueOn_21 (by decide) (fun c21 => ?_) (fun c21 => ?_)
      · skip
        exfalso; omega
      · skip
        refine K_iload_n dX2_dueOn_24 rfl ?_
        refine K_iconstN 4 dX2_dueOn_25 rfl ?_
        refine K_icmpN_ge (by omega) (by omega) (tgt := 53) dX2_dueOn_26 (by decide) (fun c26 => ?_) (fun c26 => ?_)
        · skip
          exfalso; omega
        · skip
          refine K_aload_n dX2_dueOn_29 rfl ?_
          refine K_iload_n dX2_dueOn_30 rfl ?_
          refine k_X2_lastDayOfInstalment (C_X2_lastDayOfInstalment (by omega) (by omega)) (by decide) (by omega) (by omega) ml_X2_97 (Nat.le_of_ble_eq_true rfl) dX2_dueOn_31 ?_
          refine K_iload_n dX2_dueOn_34 rfl ?_
          refine K_icmp_le (tgt := 47) dX2_dueOn_35 (by decide) (fun c35 => ?_) (fun c35 => ?_)
          · skip
            refine K_iincN (b := 1) dX2_dueOn_47 rfl rfl (by decide) rfl ?_
            refine K_goto (tgt := 16) dX2_dueOn_50 (by decide) ?_
            exact K_lv [0, 1, 2, 3] (by simp [lvpick, lkp, lvset, lvdel, Nat.beq, cntZ, cNotDue, sumB, *]) ih_1
          · skip
            refine K_iload_n dX2_dueOn_38 rfl ?_
            refine K_aload_n dX2_dueOn_39 rfl ?_
            refine g_X2_27 dX2_dueOn_40 (by omega) (by omega) ?_
            refine K_iload_n dX2_dueOn_43 rfl ?_
            refine ald14 dX2_dueOn_44 (by omega) (by omega) (by omega) ?_
            refine K_iadd dX2_dueOn_45 ?_
            refine K_istore_n dX2_dueOn_46 (by decide) rfl ?_
            refine K_iincN (b := 1) dX2_dueOn_47 rfl rfl (by decide) rfl ?_
            refine K_goto (tgt := 16) dX2_dueOn_50 (by decide) ?_
            exact K_lv [0, 1, 2, 3] (by simp [lvpick, lkp, lvset, lvdel, Nat.beq, cntZ, cNotDue, sumB, *]) ih_1
  · skip
    refine K_aload_n dX2_dueOn_7 rfl ?_
    refine k_X2_owed (C_X2_owed (by omega) (by omega)) (by decide) (by omega) (by omega) ml_X2_74 (Nat.le_of_ble_eq_true rfl) dX2_dueOn_8 ?_
    exact K_iret dX2_dueOn_11 ⟨by simp [cDueOn, c4], rfl⟩

set_option maxHeartbeats 4000000 in
set_option maxRecDepth 100000 in
theorem C_X2_dayOfBreak {l : Launch} {G : WG} {μ : Mem} {i p : Nat} (hi : i < 7) (hp : p < 6) {n : Nat} (hN : μ.1 8 i p 8 = nI n) (hn : n ≤ 4) : Ct l G 1 yX2_dayOfBreak cX2_dayOfBreak 2 (some .int) [.ref (adr G 8 i p)] (μ) (some (.int (cBreak μ i p n))) (μ) := by
  refine Ct_of (by decide +kernel) (Nat.le_of_ble_eq_true rfl) ?_
  have hw : cWhole μ i p n < 2 ^ 31 := Nat.lt_of_le_of_lt (cntZ_le _ n) (by omega)
  refine K_aload_n dX2_dayOfBreak_0 rfl ?_
  refine k_X2_instalmentsPaidWhole (C_X2_instalmentsPaidWhole hi hp hN hn) (by decide) (by omega) (by omega) ml_X2_100 (Nat.le_of_ble_eq_true rfl) dX2_dayOfBreak_1 ?_
  refine K_istore_n dX2_dayOfBreak_4 (by decide) rfl ?_
  refine K_aload_n dX2_dayOfBreak_5 rfl ?_
  refine g_X2_49 dX2_dayOfBreak_6 (by omega) (by omega) ?_
  refine K_if_ne (tgt := 20) dX2_dayOfBreak_9 (by decide) (fun c9 => ?_) (fun c9 => ?_)
  · skip
    refine K_iconst (v := -1) dX2_dayOfBreak_20 (by decide) ?_
    refine K_goto (tgt := 31) dX2_dayOfBreak_21 (by decide) ?_
    exact K_iret dX2_dayOfBreak_31 ⟨by first | (simp [cBreak, c9]; done) | (simp [cBreak, c9, c17]; done) | (simp [cBreak, c9, Nat.not_lt.mpr c17]; done), rfl⟩
  · skip
    refine K_iload_n dX2_dayOfBreak_12 rfl ?_
    refine K_aload_n dX2_dayOfBreak_13 rfl ?_
    refine g_X2_37 dX2_dayOfBreak_14 (by omega) (by omega) ?_
    refine K_top hN ?_
    refine K_icmpN_lt (by omega) (by omega) (tgt := 24) dX2_dayOfBreak_17 (by decide) (fun c17 => ?_) (fun c17 => ?_)
    · skip
      refine K_aload_n dX2_dayOfBreak_24 rfl ?_
      refine K_iload_n dX2_dayOfBreak_25 rfl ?_
      refine k_X2_lastDayOfInstalment (C_X2_lastDayOfInstalment (by omega) (by omega)) (by decide) (by omega) (by omega) ml_X2_97 (Nat.le_of_ble_eq_true rfl) dX2_dayOfBreak_26 ?_
      refine K_iconstN 1 dX2_dayOfBreak_29 rfl ?_
      refine K_iadd dX2_dayOfBreak_30 ?_
      exact K_iret dX2_dayOfBreak_31 ⟨by first | (simp [cBreak, c9]; done) | (simp [cBreak, c9, c17]; done) | (simp [cBreak, c9, Nat.not_lt.mpr c17]; done), rfl⟩
    · skip
      refine K_iconst (v := -1) dX2_dayOfBreak_20 (by decide) ?_
      refine K_goto (tgt := 31) dX2_dayOfBreak_21 (by decide) ?_
      exact K_iret dX2_dayOfBreak_31 ⟨by first | (simp [cBreak, c9]; done) | (simp [cBreak, c9, c17]; done) | (simp [cBreak, c9, Nat.not_lt.mpr c17]; done), rfl⟩

set_option maxHeartbeats 4000000 in
set_option maxRecDepth 100000 in
theorem C_X2_settle {l : Launch} {G : WG} {μ : Mem} {i p : Nat} (hi : i < 7) (hp : p < 6) {a : Int32} {n : Nat} (hN : μ.1 8 i p 8 = nI n) (hn : n ≤ 4) : Ct l G 1 yX2_settle cX2_settle 5 none [.ref (adr G 8 i p), .int (a)] (μ) none (cSettle μ i p n a) := by
  refine Ct_of (by decide +kernel) (Nat.le_of_ble_eq_true rfl) ?_
  refine K_iload_n dX2_settle_0 rfl ?_
  refine K_istore_n dX2_settle_1 (by decide) rfl ?_
  refine K_iconstN 0 dX2_settle_2 rfl ?_
  refine K_istore_n dX2_settle_3 (by decide) rfl ?_
  refine K_lv [0, 1, 2, 3] rfl ?_
  refine K_for (n) (fun k => [(0, .ref (adr G 8 i p)), (1, .int a), (2, .int (settleK μ i p a k).2), (3, .int (nI k))]) (fun k => (settleK μ i p a k).1) ?_ ?_
  · skip
    refine K_iload_n dX2_settle_4 rfl ?_
    refine K_aload_n dX2_settle_5 rfl ?_
    refine g_X2_37 dX2_settle_6 (by omega) (by omega) ?_
    refine K_top (show _ = nI n by rw [settleK_8]; exact hN) ?_
    refine K_icmpN_ge (by omega) (by omega) (tgt := 51) dX2_settle_9 (by decide) (fun c9 => ?_) (fun c9 => ?_)
    · skip
      exact K_vret dX2_settle_51 ⟨rfl, by rfl⟩
    · skip
      exfalso; omega
  · intro k hk_k ih_1
    refine K_iload_n dX2_settle_4 rfl ?_
    refine K_aload_n dX2_settle_5 rfl ?_
    refine g_X2_37 dX2_settle_6 (by omega) (by omega) ?_
    refine K_top (show _ = nI n by rw [settleK_8]; exact hN) ?_
    refine K_icmpN_ge (by omega) (by omega) (tgt := 51) dX2_settle_9 (by decide) (fun c9 => ?_) (fun c9 => ?_)
    · skip
      exfalso; omega
    · skip
      refine K_iload_n dX2_settle_12 rfl ?_
      refine K_iconstN 4 dX2_settle_13 rfl ?_
      refine K_icmpN_ge (by omega) (by omega) (tgt := 51) dX2_settle_14 (by decide) (fun c14 => ?_) (fun c14 => ?_)
      · skip
        exfalso; omega
      · skip
        refine K_iload_n dX2_settle_17 rfl ?_
        refine K_aload_n dX2_settle_18 rfl ?_
        refine g_X2_27 dX2_settle_19 (by omega) (by omega) ?_
        refine K_iload_n dX2_settle_22 rfl ?_
        refine ald14 dX2_settle_23 (by omega) (by omega) (by omega) ?_
        refine K_min dX2_settle_24 ml_X2_53 st_min in_math cd_min (by decide) (Nat.le_of_ble_eq_true rfl) ?_
        refine K_istore dX2_settle_27 (by decide) rfl ?_
        refine K_aload_n dX2_settle_29 rfl ?_
        refine g_X2_27 dX2_settle_30 (by omega) (by omega) ?_
        refine K_iload_n dX2_settle_33 rfl ?_
        refine K_dup2_11 dX2_settle_34 rfl rfl ?_
        refine ald14 dX2_settle_35 (by omega) (by omega) (by omega) ?_
        refine K_iload dX2_settle_36 rfl ?_
        refine K_isub dX2_settle_38 ?_
        refine ast14 dX2_settle_39 (by omega) (by omega) (by omega) ?_
        refine K_iload_n dX2_settle_40 rfl ?_
        refine K_iload dX2_settle_41 rfl ?_
        refine K_isub dX2_settle_43 ?_
        refine K_istore_n dX2_settle_44 (by decide) rfl ?_
        refine K_iincN (b := 1) dX2_settle_45 rfl rfl (by decide) rfl ?_
        refine K_goto (tgt := 4) dX2_settle_48 (by decide) ?_
        exact K_lv [0, 1, 2, 3] rfl ih_1

set_option maxHeartbeats 4000000 in
set_option maxRecDepth 100000 in
theorem C_X2_takeMoney {l : Launch} {G : WG} {μ : Mem} {i p : Nat} (hi : i < 7) (hp : p < 6) {a : Int32} {n : Nat} (hN : μ.1 8 i p 8 = nI n) (hn : n ≤ 4) : Ct l G 2 yX2_takeMoney cX2_takeMoney 3 (some .int) [.ref (adr G 8 i p), .int (a)] (μ) (some (.int (cTaken μ i p a))) (cPay μ i p n a) := by
  refine Ct_of (by decide +kernel) (Nat.le_of_ble_eq_true rfl) ?_
  refine K_iload_n dX2_takeMoney_0 rfl ?_
  refine K_aload_n dX2_takeMoney_1 rfl ?_
  refine k_X2_owed (C_X2_owed (by omega) (by omega)) (by decide) (by omega) (by omega) ml_X2_74 (Nat.le_of_ble_eq_true rfl) dX2_takeMoney_2 ?_
  refine K_min dX2_takeMoney_5 ml_X2_53 st_min in_math cd_min (by decide) (Nat.le_of_ble_eq_true rfl) ?_
  refine K_istore_n dX2_takeMoney_8 (by decide) rfl ?_
  refine K_aload_n dX2_takeMoney_9 rfl ?_
  refine K_dup dX2_takeMoney_10 rfl ?_
  refine g_X2_40 dX2_takeMoney_11 (by omega) (by omega) ?_
  refine K_iload_n dX2_takeMoney_14 rfl ?_
  refine K_iadd dX2_takeMoney_15 ?_
  refine p_X2_40 dX2_takeMoney_16 (by omega) (by omega) ?_
  refine K_aload_n dX2_takeMoney_19 rfl ?_
  refine K_iload_n dX2_takeMoney_20 rfl ?_
  refine k_X2_settle (C_X2_settle (n := n) hi hp (by simpa [mset] using hN) hn) (by decide) (by omega) (by omega) ml_X2_77 (Nat.le_of_ble_eq_true rfl) dX2_takeMoney_21 ?_
  refine K_iload_n dX2_takeMoney_24 rfl ?_
  exact K_iret dX2_takeMoney_25 ⟨by rfl, rfl⟩

set_option maxHeartbeats 4000000 in
set_option maxRecDepth 100000 in
theorem C_X2_takeLand {l : Launch} {G : WG} {μ : Mem} {i p : Nat} (hi : i < 7) (hp : p < 6) {a b : Int32} {n : Nat} (hN : μ.1 8 i p 8 = nI n) (hn : n ≤ 4) : Ct l G 2 yX2_takeLand cX2_takeLand 4 (some .int) [.ref (adr G 8 i p), .int (a), .int (b)] (μ) (some (.int (cLandTaken μ i p a b))) (cLand μ i p n a b) := by
  refine Ct_of (by decide +kernel) (Nat.le_of_ble_eq_true rfl) ?_
  refine K_iload_n dX2_takeLand_0 rfl ?_
  refine K_aload_n dX2_takeLand_1 rfl ?_
  refine k_X2_owed (C_X2_owed (by omega) (by omega)) (by decide) (by omega) (by omega) ml_X2_74 (Nat.le_of_ble_eq_true rfl) dX2_takeLand_2 ?_
  refine K_aload_n dX2_takeLand_5 rfl ?_
  refine K_iload_n dX2_takeLand_6 rfl ?_
  refine k_X2_roomForLand (C_X2_roomForLand (by omega) (by omega)) (by decide) (by omega) (by omega) ml_X2_81 (Nat.le_of_ble_eq_true rfl) dX2_takeLand_7 ?_
  refine K_min dX2_takeLand_10 ml_X2_53 st_min in_math cd_min (by decide) (Nat.le_of_ble_eq_true rfl) ?_
  refine K_min dX2_takeLand_13 ml_X2_53 st_min in_math cd_min (by decide) (Nat.le_of_ble_eq_true rfl) ?_
  refine K_istore_n dX2_takeLand_16 (by decide) rfl ?_
  refine K_aload_n dX2_takeLand_17 rfl ?_
  refine K_dup dX2_takeLand_18 rfl ?_
  refine g_X2_43 dX2_takeLand_19 (by omega) (by omega) ?_
  refine K_iload_n dX2_takeLand_22 rfl ?_
  refine K_iadd dX2_takeLand_23 ?_
  refine p_X2_43 dX2_takeLand_24 (by omega) (by omega) ?_
  refine K_aload_n dX2_takeLand_27 rfl ?_
  refine K_iload_n dX2_takeLand_28 rfl ?_
  refine k_X2_settle (C_X2_settle (n := n) hi hp (by simpa [mset] using hN) hn) (by decide) (by omega) (by omega) ml_X2_77 (Nat.le_of_ble_eq_true rfl) dX2_takeLand_29 ?_
  refine K_iload_n dX2_takeLand_32 rfl ?_
  exact K_iret dX2_takeLand_33 ⟨by rfl, rfl⟩

set_option maxHeartbeats 4000000 in
set_option maxRecDepth 100000 in
theorem C_X2_endRelief {l : Launch} {G : WG} {μ : Mem} {i p : Nat} (hi : i < 7) (hp : p < 6) {u : Nat} (hu : u < 4) : Ct l G 1 yX2_endRelief cX2_endRelief 3 (some .int) [.ref (adr G 8 i p), .int (nI u)] (μ) (some (.int (cRel μ i p u))) (mset μ 12 i p u (μ.1 12 i p u + cRel μ i p u)) := by
  refine Ct_of (by decide +kernel) (Nat.le_of_ble_eq_true rfl) ?_
  refine K_aload_n dX2_endRelief_0 rfl ?_
  refine K_iload_n dX2_endRelief_1 rfl ?_
  refine k_X2_reliefOfUse (C_X2_reliefOfUse (by omega) (by omega) (by omega)) (by decide) (by omega) (by omega) ml_X2_84 (Nat.le_of_ble_eq_true rfl) dX2_endRelief_2 ?_
  refine K_istore_n dX2_endRelief_5 (by decide) rfl ?_
  refine K_aload_n dX2_endRelief_6 rfl ?_
  refine g_X2_21 dX2_endRelief_7 (by omega) (by omega) ?_
  refine K_iload_n dX2_endRelief_10 rfl ?_
  refine K_dup2_11 dX2_endRelief_11 rfl rfl ?_
  refine ald12 dX2_endRelief_12 (by omega) (by omega) (by omega) ?_
  refine K_iload_n dX2_endRelief_13 rfl ?_
  refine K_iadd dX2_endRelief_14 ?_
  refine ast12 dX2_endRelief_15 (by omega) (by omega) (by omega) ?_
  refine K_iload_n dX2_endRelief_16 rfl ?_
  exact K_iret dX2_endRelief_17 ⟨by rfl, rfl⟩

set_option maxHeartbeats 4000000 in
set_option maxRecDepth 100000 in
theorem C_X2_changeArea {l : Launch} {G : WG} {μ : Mem} {i p : Nat} (hi : i < 7) (hp : p < 6) {u : Nat} {a : Int32} (hu : u < 4) : Ct l G 1 yX2_changeArea cX2_changeArea 4 (some .int) [.ref (adr G 8 i p), .int (nI u), .int (a)] (μ) (some (.int (μ.1 9 i p u))) (mset (mset μ 9 i p u a) 10 i p u (mini (μ.1 10 i p u) a)) := by
  refine Ct_of (by decide +kernel) (Nat.le_of_ble_eq_true rfl) ?_
  refine K_aload_n dX2_changeArea_0 rfl ?_
  refine g_X2_9 dX2_changeArea_1 (by omega) (by omega) ?_
  refine K_iload_n dX2_changeArea_4 rfl ?_
  refine ald9 dX2_changeArea_5 (by omega) (by omega) (by omega) ?_
  refine K_istore_n dX2_changeArea_6 (by decide) rfl ?_
  refine K_aload_n dX2_changeArea_7 rfl ?_
  refine g_X2_9 dX2_changeArea_8 (by omega) (by omega) ?_
  refine K_iload_n dX2_changeArea_11 rfl ?_
  refine K_iload_n dX2_changeArea_12 rfl ?_
  refine ast9 dX2_changeArea_13 (by omega) (by omega) (by omega) ?_
  refine K_aload_n dX2_changeArea_14 rfl ?_
  refine g_X2_15 dX2_changeArea_15 (by omega) (by omega) ?_
  refine K_iload_n dX2_changeArea_18 rfl ?_
  refine K_aload_n dX2_changeArea_19 rfl ?_
  refine g_X2_15 dX2_changeArea_20 (by omega) (by omega) ?_
  refine K_iload_n dX2_changeArea_23 rfl ?_
  refine ald10 dX2_changeArea_24 (by omega) (by omega) (by omega) ?_
  refine K_iload_n dX2_changeArea_25 rfl ?_
  refine K_min dX2_changeArea_26 ml_X2_53 st_min in_math cd_min (by decide) (Nat.le_of_ble_eq_true rfl) ?_
  refine ast10 dX2_changeArea_29 (by omega) (by omega) (by omega) ?_
  refine K_iload_n dX2_changeArea_30 rfl ?_
  exact K_iret dX2_changeArea_31 ⟨by rfl, rfl⟩

set_option maxHeartbeats 4000000 in
set_option maxRecDepth 100000 in
theorem C_X2_changeExemptArea {l : Launch} {G : WG} {μ : Mem} {i p : Nat} (hi : i < 7) (hp : p < 6) {u : Nat} {a : Int32} (hu : u < 4) : Ct l G 0 yX2_changeExemptArea cX2_changeExemptArea 4 (some .int) [.ref (adr G 8 i p), .int (nI u), .int (a)] (μ) (some (.int (μ.1 10 i p u))) (mset μ 10 i p u a) := by
  refine Ct_of (by decide +kernel) (Nat.le_of_ble_eq_true rfl) ?_
  refine K_aload_n dX2_changeExemptArea_0 rfl ?_
  refine g_X2_15 dX2_changeExemptArea_1 (by omega) (by omega) ?_
  refine K_iload_n dX2_changeExemptArea_4 rfl ?_
  refine ald10 dX2_changeExemptArea_5 (by omega) (by omega) (by omega) ?_
  refine K_istore_n dX2_changeExemptArea_6 (by decide) rfl ?_
  refine K_aload_n dX2_changeExemptArea_7 rfl ?_
  refine g_X2_15 dX2_changeExemptArea_8 (by omega) (by omega) ?_
  refine K_iload_n dX2_changeExemptArea_11 rfl ?_
  refine K_iload_n dX2_changeExemptArea_12 rfl ?_
  refine ast10 dX2_changeExemptArea_13 (by omega) (by omega) (by omega) ?_
  refine K_iload_n dX2_changeExemptArea_14 rfl ?_
  exact K_iret dX2_changeExemptArea_15 ⟨by rfl, rfl⟩

set_option maxHeartbeats 4000000 in
set_option maxRecDepth 100000 in
theorem C_X2_startOn {l : Launch} {G : WG} {μ : Mem} {i p : Nat} (hi : i < 7) (hp : p < 6) {a b : Int32} : Ct l G 1 yX2_startOn cX2_startOn 5 (some .int) [.ref (adr G 8 i p), .int (a), .int (b)] (μ) (some (.int (cSum μ i p))) (cStart μ i p a b) := by
  refine Ct_of (by decide +kernel) (Nat.le_of_ble_eq_true rfl) ?_
  obtain ⟨hn1, hn4⟩ := partsN_le (cSum μ i p)
  refine K_aload_n dX2_startOn_0 rfl ?_
  refine K_iload_n dX2_startOn_1 rfl ?_
  refine p_X2_30 dX2_startOn_2 (by omega) (by omega) ?_
  refine K_aload_n dX2_startOn_5 rfl ?_
  refine K_iload_n dX2_startOn_6 rfl ?_
  refine p_X2_34 dX2_startOn_7 (by omega) (by omega) ?_
  refine K_aload_n dX2_startOn_10 rfl ?_
  refine k_X2_charge (C_X2_charge (by omega) (by omega)) (by decide) (by omega) (by omega) ml_X2_59 (Nat.le_of_ble_eq_true rfl) dX2_startOn_11 ?_
  refine K_aload_n dX2_startOn_14 rfl ?_
  refine k_X2_relief (C_X2_relief (by omega) (by omega)) (by decide) (by omega) (by omega) ml_X2_63 (Nat.le_of_ble_eq_true rfl) dX2_startOn_15 ?_
  refine K_isub dX2_startOn_18 ?_
  refine K_top (show _ = cSum μ i p from rfl) ?_
  refine K_istore_n dX2_startOn_19 (by decide) rfl ?_
  refine K_aload_n dX2_startOn_20 rfl ?_
  refine K_iload_n dX2_startOn_21 rfl ?_
  refine kn_X3_instalmentsFor (C_X3_instalmentsFor ) (by decide) (host := "LevyPhases") (by decide +kernel) (Nat.le_of_ble_eq_true rfl) dX2_startOn_22 ?_
  refine p_X2_37 dX2_startOn_25 (by omega) (by omega) ?_
  refine K_iconstN 0 dX2_startOn_28 rfl ?_
  refine K_istore dX2_startOn_29 (by decide) rfl ?_
  refine K_lv [0, 1, 2, 3, 4] rfl ?_
  refine K_for (partsN (cSum μ i p)) (fun k => [(0, .ref (adr G 8 i p)), (1, .int a), (2, .int b), (3, .int (cSum μ i p)), (4, .int (nI k))]) (fun k => startK (mset (mset (mset μ 8 i p 6 a) 8 i p 7 b) 8 i p 8 (nI (partsN (cSum μ i p)))) i p (cSum μ i p) (partsN (cSum μ i p)) k) ?_ ?_
  · skip
    refine K_iload dX2_startOn_31 rfl ?_
    refine K_aload_n dX2_startOn_33 rfl ?_
    refine g_X2_37 dX2_startOn_34 (by omega) (by omega) ?_
    refine K_top (show _ = nI (partsN (cSum μ i p)) by rw [startK_8]; simp [mset]) ?_
    refine K_icmpN_ge (by omega) (by omega) (tgt := 83) dX2_startOn_37 (by decide) (fun c37 => ?_) (fun c37 => ?_)
    · skip
      refine K_iload_n dX2_startOn_83 rfl ?_
      exact K_iret dX2_startOn_84 ⟨by rfl, rfl⟩
    · skip
      exfalso; omega
  · intro k hk_k ih_1
    refine K_iload dX2_startOn_31 rfl ?_
    refine K_aload_n dX2_startOn_33 rfl ?_
    refine g_X2_37 dX2_startOn_34 (by omega) (by omega) ?_
    refine K_top (show _ = nI (partsN (cSum μ i p)) by rw [startK_8]; simp [mset]) ?_
    refine K_icmpN_ge (by omega) (by omega) (tgt := 83) dX2_startOn_37 (by decide) (fun c37 => ?_) (fun c37 => ?_)
    · skip
      exfalso; omega
    · skip
      refine K_iload dX2_startOn_40 rfl ?_
      refine K_iconstN 4 dX2_startOn_42 rfl ?_
      refine K_icmpN_ge (by omega) (by omega) (tgt := 83) dX2_startOn_43 (by decide) (fun c43 => ?_) (fun c43 => ?_)
      · skip
        exfalso; omega
      · skip
        refine K_aload_n dX2_startOn_46 rfl ?_
        refine g_X2_24 dX2_startOn_47 (by omega) (by omega) ?_
        refine K_iload dX2_startOn_50 rfl ?_
        refine K_iload_n dX2_startOn_52 rfl ?_
        refine K_aload_n dX2_startOn_53 rfl ?_
        refine g_X2_37 dX2_startOn_54 (by omega) (by omega) ?_
        refine K_top (show _ = nI (partsN (cSum μ i p)) by rw [show ∀ m : Mem, m.1 8 i p 8 = (m.1 8) i p 8 from fun _ => rfl, startK_8]; simp [mset]) ?_
        refine K_iload dX2_startOn_57 rfl ?_
        refine kn_X3_partOf (C_X3_partOf (n := partsN (cSum μ i p)) (by omega) (by omega)) (by decide) (host := "LevyPhases") (by decide +kernel) (Nat.le_of_ble_eq_true rfl) dX2_startOn_59 ?_
        refine ast13 dX2_startOn_62 (by omega) (by omega) (by omega) ?_
        refine K_aload_n dX2_startOn_63 rfl ?_
        refine g_X2_27 dX2_startOn_64 (by omega) (by omega) ?_
        refine K_iload dX2_startOn_67 rfl ?_
        refine K_aload_n dX2_startOn_69 rfl ?_
        refine g_X2_24 dX2_startOn_70 (by omega) (by omega) ?_
        refine K_iload dX2_startOn_73 rfl ?_
        refine ald13 dX2_startOn_75 (by omega) (by omega) (by omega) ?_
        refine K_top mset_at ?_
        refine ast14 dX2_startOn_76 (by omega) (by omega) (by omega) ?_
        refine K_iincN (b := 1) dX2_startOn_77 rfl rfl (by decide) rfl ?_
        refine K_goto (tgt := 31) dX2_startOn_80 (by decide) ?_
        exact K_lv [0, 1, 2, 3, 4] rfl ih_1

set_option maxHeartbeats 4000000 in
set_option maxRecDepth 100000 in
theorem C_X2_copyFrom {l : Launch} {G : WG} {μ : Mem} {i j p : Nat} (hi : i < 7) (hj : j < 7) (hp : p < 6) : Ct l G 0 yX2_copyFrom cX2_copyFrom 3 none [.ref (adr G 8 i p), .ref (adr G 8 j p)] (μ) none (copyP μ i j p) := by
  refine Ct_of (by decide +kernel) (Nat.le_of_ble_eq_true rfl) ?_
  refine K_iconstN 0 dX2_copyFrom_0 rfl ?_
  refine K_istore_n dX2_copyFrom_1 (by decide) rfl ?_
  refine K_lv [0, 1, 2] rfl ?_
  refine K_for (4) (fun k => [(0, .ref (adr G 8 i p)), (1, .ref (adr G 8 j p)), (2, .int (nI k))]) (fun k => copyA μ i j p k) ?_ ?_
  · skip
    refine K_iload_n dX2_copyFrom_2 rfl ?_
    refine K_iconstN 4 dX2_copyFrom_3 rfl ?_
    refine K_icmpN_ge (by omega) (by omega) (tgt := 61) dX2_copyFrom_4 (by decide) (fun c4 => ?_) (fun c4 => ?_)
    · skip
      refine K_iconstN 0 dX2_copyFrom_61 rfl ?_
      refine K_istore_n dX2_copyFrom_62 (by decide) rfl ?_
      refine K_lv [0, 1, 2] rfl ?_
      refine K_for (4) (fun k => [(0, .ref (adr G 8 i p)), (1, .ref (adr G 8 j p)), (2, .int (nI k))]) (fun k => copyB (copyA μ i j p 4) i j p k) ?_ ?_
      · skip
        refine K_iload_n dX2_copyFrom_63 rfl ?_
        refine K_iconstN 4 dX2_copyFrom_64 rfl ?_
        refine K_icmpN_ge (by omega) (by omega) (tgt := 98) dX2_copyFrom_65 (by decide) (fun c65 => ?_) (fun c65 => ?_)
        · skip
          refine K_rep (fun hz => ?_)
          have hz9 : ∀ x, x = (copyB (copyA μ i j p 4) i j p 4).1 8 j p 12 → x = 0 ∨ x = 1 := fun x hx => by rw [hx]; exact hz j p hj hp
          refine K_aload_n dX2_copyFrom_98 rfl ?_
          refine K_aload_n dX2_copyFrom_99 rfl ?_
          refine g_X2_30 dX2_copyFrom_100 (by omega) (by omega) ?_
          refine p_X2_30 dX2_copyFrom_103 (by omega) (by omega) ?_
          refine K_aload_n dX2_copyFrom_106 rfl ?_
          refine K_aload_n dX2_copyFrom_107 rfl ?_
          refine g_X2_34 dX2_copyFrom_108 (by omega) (by omega) ?_
          refine p_X2_34 dX2_copyFrom_111 (by omega) (by omega) ?_
          refine K_aload_n dX2_copyFrom_114 rfl ?_
          refine K_aload_n dX2_copyFrom_115 rfl ?_
          refine g_X2_37 dX2_copyFrom_116 (by omega) (by omega) ?_
          refine p_X2_37 dX2_copyFrom_119 (by omega) (by omega) ?_
          refine K_aload_n dX2_copyFrom_122 rfl ?_
          refine K_aload_n dX2_copyFrom_123 rfl ?_
          refine g_X2_40 dX2_copyFrom_124 (by omega) (by omega) ?_
          refine p_X2_40 dX2_copyFrom_127 (by omega) (by omega) ?_
          refine K_aload_n dX2_copyFrom_130 rfl ?_
          refine K_aload_n dX2_copyFrom_131 rfl ?_
          refine g_X2_43 dX2_copyFrom_132 (by omega) (by omega) ?_
          refine p_X2_43 dX2_copyFrom_135 (by omega) (by omega) ?_
          refine K_aload_n dX2_copyFrom_138 rfl ?_
          refine K_aload_n dX2_copyFrom_139 rfl ?_
          refine g_X2_46 dX2_copyFrom_140 (by omega) (by omega) ?_
          refine p_X2_46 dX2_copyFrom_143 (by omega) (by omega) ?_
          refine K_aload_n dX2_copyFrom_146 rfl ?_
          refine K_aload_n dX2_copyFrom_147 rfl ?_
          refine g_X2_49 dX2_copyFrom_148 (by omega) (by omega) ?_
          refine p_X2_49 (hz9 _ (by simp [mset])) dX2_copyFrom_151 (by omega) (by omega) ?_
          exact K_vret dX2_copyFrom_154 ⟨rfl, by rfl⟩
        · skip
          exfalso; omega
      · intro k hk_k ih_2
        refine K_iload_n dX2_copyFrom_63 rfl ?_
        refine K_iconstN 4 dX2_copyFrom_64 rfl ?_
        refine K_icmpN_ge (by omega) (by omega) (tgt := 98) dX2_copyFrom_65 (by decide) (fun c65 => ?_) (fun c65 => ?_)
        · skip
          exfalso; omega
        · skip
          refine K_aload_n dX2_copyFrom_68 rfl ?_
          refine g_X2_24 dX2_copyFrom_69 (by omega) (by omega) ?_
          refine K_iload_n dX2_copyFrom_72 rfl ?_
          refine K_aload_n dX2_copyFrom_73 rfl ?_
          refine g_X2_24 dX2_copyFrom_74 (by omega) (by omega) ?_
          refine K_iload_n dX2_copyFrom_77 rfl ?_
          refine ald13 dX2_copyFrom_78 (by omega) (by omega) (by omega) ?_
          refine ast13 dX2_copyFrom_79 (by omega) (by omega) (by omega) ?_
          refine K_aload_n dX2_copyFrom_80 rfl ?_
          refine g_X2_27 dX2_copyFrom_81 (by omega) (by omega) ?_
          refine K_iload_n dX2_copyFrom_84 rfl ?_
          refine K_aload_n dX2_copyFrom_85 rfl ?_
          refine g_X2_27 dX2_copyFrom_86 (by omega) (by omega) ?_
          refine K_iload_n dX2_copyFrom_89 rfl ?_
          refine ald14 dX2_copyFrom_90 (by omega) (by omega) (by omega) ?_
          refine ast14 dX2_copyFrom_91 (by omega) (by omega) (by omega) ?_
          refine K_iincN (b := 1) dX2_copyFrom_92 rfl rfl (by decide) rfl ?_
          refine K_goto (tgt := 63) dX2_copyFrom_95 (by decide) ?_
          exact K_lv [0, 1, 2] rfl ih_2
    · skip
      exfalso; omega
  · intro k hk_k ih_1
    refine K_iload_n dX2_copyFrom_2 rfl ?_
    refine K_iconstN 4 dX2_copyFrom_3 rfl ?_
    refine K_icmpN_ge (by omega) (by omega) (tgt := 61) dX2_copyFrom_4 (by decide) (fun c4 => ?_) (fun c4 => ?_)
    · skip
      exfalso; omega
    · skip
      refine K_aload_n dX2_copyFrom_7 rfl ?_
      refine g_X2_9 dX2_copyFrom_8 (by omega) (by omega) ?_
      refine K_iload_n dX2_copyFrom_11 rfl ?_
      refine K_aload_n dX2_copyFrom_12 rfl ?_
      refine g_X2_9 dX2_copyFrom_13 (by omega) (by omega) ?_
      refine K_iload_n dX2_copyFrom_16 rfl ?_
      refine ald9 dX2_copyFrom_17 (by omega) (by omega) (by omega) ?_
      refine ast9 dX2_copyFrom_18 (by omega) (by omega) (by omega) ?_
      refine K_aload_n dX2_copyFrom_19 rfl ?_
      refine g_X2_15 dX2_copyFrom_20 (by omega) (by omega) ?_
      refine K_iload_n dX2_copyFrom_23 rfl ?_
      refine K_aload_n dX2_copyFrom_24 rfl ?_
      refine g_X2_15 dX2_copyFrom_25 (by omega) (by omega) ?_
      refine K_iload_n dX2_copyFrom_28 rfl ?_
      refine ald10 dX2_copyFrom_29 (by omega) (by omega) (by omega) ?_
      refine ast10 dX2_copyFrom_30 (by omega) (by omega) (by omega) ?_
      refine K_aload_n dX2_copyFrom_31 rfl ?_
      refine g_X2_18 dX2_copyFrom_32 (by omega) (by omega) ?_
      refine K_iload_n dX2_copyFrom_35 rfl ?_
      refine K_aload_n dX2_copyFrom_36 rfl ?_
      refine g_X2_18 dX2_copyFrom_37 (by omega) (by omega) ?_
      refine K_iload_n dX2_copyFrom_40 rfl ?_
      refine ald11 dX2_copyFrom_41 (by omega) (by omega) (by omega) ?_
      refine ast11 dX2_copyFrom_42 (by omega) (by omega) (by omega) ?_
      refine K_aload_n dX2_copyFrom_43 rfl ?_
      refine g_X2_21 dX2_copyFrom_44 (by omega) (by omega) ?_
      refine K_iload_n dX2_copyFrom_47 rfl ?_
      refine K_aload_n dX2_copyFrom_48 rfl ?_
      refine g_X2_21 dX2_copyFrom_49 (by omega) (by omega) ?_
      refine K_iload_n dX2_copyFrom_52 rfl ?_
      refine ald12 dX2_copyFrom_53 (by omega) (by omega) (by omega) ?_
      refine ast12 dX2_copyFrom_54 (by omega) (by omega) (by omega) ?_
      refine K_iincN (b := 1) dX2_copyFrom_55 rfl rfl (by decide) rfl ?_
      refine K_goto (tgt := 2) dX2_copyFrom_58 (by decide) ?_
      exact K_lv [0, 1, 2] rfl ih_1
