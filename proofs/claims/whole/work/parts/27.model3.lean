set_option maxHeartbeats 4000000 in
set_option maxRecDepth 100000 in
theorem C_X4_area {l : Launch} {G : WG} {μ : Mem} {z : Zr} (hz : μ.1 16 0 0 = z) {n : Nat} (hZ : ZI z n) {sc : Nat} (hs : μ.1 15 0 0 1 = nI sc) (hs6 : sc ≤ 6) {p : Nat} (hp : p < n) {u : Nat} (hu : u < 4) {a : Int32} (hr : rOk a (nI 0) (nI 999) = true) (hb : mBegun z p = false) : Ct l G 2 yX4_area cX4_area 5 (some .int) [.ref (adr G 15 0 0), .int (nI p), .int (nI u), .int (a)] (μ) (some (.int (mo z p (1 + u)))) (zmem (mSave (mset μ 15 0 0 5 (nI 0)) sc) (zArea z p u a)) := by
  refine Ct_of (by decide +kernel) (Nat.le_of_ble_eq_true rfl) ?_
  subst hz
  have hp6 : p < 6 := Nat.lt_of_lt_of_le hp hZ.2.1
  have hph := cHas_nat hp hZ.2.1
  have huu := uOk_nat hu
  refine K_aload_n dX4_area_0 rfl ?_
  refine K_aload_n dX4_area_1 rfl ?_
  refine K_iload_n dX4_area_2 rfl ?_
  refine k_X4_isPhase (C_X4_isPhase rfl hZ) (by decide)  ml_X4_84 (Nat.le_of_ble_eq_true rfl) dX4_area_3 ?_
  refine K_ifb_eq (tgt := 16) dX4_area_6 (by decide) (fun c6 => ?_) (fun c6 => ?_)
  · skip
    exact absurd (c6.symm.trans hph) (by decide)
  · skip
    refine K_iload_n dX4_area_9 rfl ?_
    refine k_X4_isUse (C_X4_isUse ) (by decide) ml_X4_87 (Nat.le_of_ble_eq_true rfl) dX4_area_10 ?_
    refine K_ifb_ne (tgt := 20) dX4_area_13 (by decide) (fun c13 => ?_) (fun c13 => ?_)
    · skip
      refine K_iload_n dX4_area_20 rfl ?_
      refine k_X4_isArea (C_X4_isArea ) (by decide) ml_X4_90 (Nat.le_of_ble_eq_true rfl) dX4_area_21 ?_
      refine K_ifb_ne (tgt := 31) dX4_area_24 (by decide) (fun c24 => ?_) (fun c24 => ?_)
      · skip
        refine K_aload_n dX4_area_31 rfl ?_
        refine K_iload_n dX4_area_32 rfl ?_
        refine k_X4_hasBegun (C_X4_hasBegun rfl (by omega)) (by decide)  ml_X4_40 (Nat.le_of_ble_eq_true rfl) dX4_area_33 ?_
        refine K_ifb_eq (tgt := 43) dX4_area_36 (by decide) (fun c36 => ?_) (fun c36 => ?_)
        · skip
          refine K_iconstN 0 dX4_area_43 rfl ?_
          refine p_X4_25 dX4_area_44  ?_
          refine K_aload_n dX4_area_47 rfl ?_
          refine g_X4_25 dX4_area_48  ?_
          refine K_top mset_at ?_
          refine K_ifN_le (by omega) (tgt := 56) dX4_area_51 (by decide) (fun c51 => ?_) (fun c51 => absurd c51 (by decide))
          refine K_aload_n dX4_area_56 rfl ?_
          refine k_X4_save (C_X4_save (sc := sc) (by exact hs) hs6) (by decide)  ml_X4_77 (Nat.le_of_ble_eq_true rfl) dX4_area_57 ?_
          refine K_mem (zself (show (mSave (mset μ 15 0 0 5 (nI 0)) sc).1 16 0 0 = μ.1 16 0 0 by rw [mSave_16]; rfl)).symm ?_
          refine K_aload_n dX4_area_60 rfl ?_
          refine K_iload_n dX4_area_61 rfl ?_
          refine K_iconstN 1 dX4_area_62 rfl ?_
          refine K_iload_n dX4_area_63 rfl ?_
          refine K_iaddN dX4_area_64 ?_
          refine k_X4_of (C_X4_of rfl (by omega) (by omega)) (by decide)  ml_X4_36 (Nat.le_of_ble_eq_true rfl) dX4_area_65 ?_
          refine K_istore dX4_area_68 (by decide) rfl ?_
          refine K_aload_n dX4_area_70 rfl ?_
          refine K_iload_n dX4_area_71 rfl ?_
          refine K_iload_n dX4_area_72 rfl ?_
          refine K_iload_n dX4_area_73 rfl ?_
          refine k_X4_changeArea (C_X4_changeArea (by omega) (by omega)) (by decide)  ml_X4_93 (Nat.le_of_ble_eq_true rfl) dX4_area_74 ?_
          refine K_iload dX4_area_77 rfl ?_
          exact K_iret dX4_area_79 ⟨by rfl, rfl⟩
        · skip
          exact absurd (c36.symm.trans hb) (by decide)
      · skip
        exact absurd (c24.symm.trans hr) (by decide)
    · skip
      exact absurd (c13.symm.trans huu) (by decide)

set_option maxHeartbeats 4000000 in
set_option maxRecDepth 100000 in
theorem C_X4_area_e1 {l : Launch} {G : WG} {μ : Mem} {z : Zr} (hz : μ.1 16 0 0 = z) {n : Nat} (hZ : ZI z n) {a b c : Int32} (h : cHas n a = false) : Ct l G 2 yX4_area cX4_area 5 (some .int) [.ref (adr G 15 0 0), .int (a), .int (b), .int (c)] (μ) (some (.int (nI 0))) (mset μ 15 0 0 5 (nI 1)) := by
  refine Ct_of (by decide +kernel) (Nat.le_of_ble_eq_true rfl) ?_
  subst hz
  refine K_aload_n dX4_area_0 rfl ?_
  refine K_aload_n dX4_area_1 rfl ?_
  refine K_iload_n dX4_area_2 rfl ?_
  refine k_X4_isPhase (C_X4_isPhase rfl hZ) (by decide)  ml_X4_84 (Nat.le_of_ble_eq_true rfl) dX4_area_3 ?_
  refine K_ifb_eq (tgt := 16) dX4_area_6 (by decide) (fun c6 => ?_) (fun c6 => ?_)
  · skip
    refine K_iconstN 1 dX4_area_16 rfl ?_
    refine K_goto (tgt := 44) dX4_area_17 (by decide) ?_
    refine p_X4_25 dX4_area_44  ?_
    refine K_aload_n dX4_area_47 rfl ?_
    refine g_X4_25 dX4_area_48  ?_
    refine K_top mset_at ?_
    refine K_ifN_le (by omega) (tgt := 56) dX4_area_51 (by decide) (fun c51 => absurd c51 (by decide)) (fun c51 => ?_)
    refine K_iconstN 0 dX4_area_54 rfl ?_
    exact K_iret dX4_area_55 ⟨by rfl, rfl⟩
  · skip
    exact absurd (c6.symm.trans h) (by decide)

set_option maxHeartbeats 4000000 in
set_option maxRecDepth 100000 in
theorem C_X4_area_e2 {l : Launch} {G : WG} {μ : Mem} {z : Zr} (hz : μ.1 16 0 0 = z) {n : Nat} (hZ : ZI z n) {p : Nat} (hp : p < n) {b c : Int32} (h : uOk b = false) : Ct l G 2 yX4_area cX4_area 5 (some .int) [.ref (adr G 15 0 0), .int (nI p), .int (b), .int (c)] (μ) (some (.int (nI 0))) (mset μ 15 0 0 5 (nI 1)) := by
  refine Ct_of (by decide +kernel) (Nat.le_of_ble_eq_true rfl) ?_
  subst hz
  have hp6 : p < 6 := Nat.lt_of_lt_of_le hp hZ.2.1
  have hph := cHas_nat hp hZ.2.1
  refine K_aload_n dX4_area_0 rfl ?_
  refine K_aload_n dX4_area_1 rfl ?_
  refine K_iload_n dX4_area_2 rfl ?_
  refine k_X4_isPhase (C_X4_isPhase rfl hZ) (by decide)  ml_X4_84 (Nat.le_of_ble_eq_true rfl) dX4_area_3 ?_
  refine K_ifb_eq (tgt := 16) dX4_area_6 (by decide) (fun c6 => ?_) (fun c6 => ?_)
  · skip
    exact absurd (c6.symm.trans hph) (by decide)
  · skip
    refine K_iload_n dX4_area_9 rfl ?_
    refine k_X4_isUse (C_X4_isUse ) (by decide) ml_X4_87 (Nat.le_of_ble_eq_true rfl) dX4_area_10 ?_
    refine K_ifb_ne (tgt := 20) dX4_area_13 (by decide) (fun c13 => ?_) (fun c13 => ?_)
    · skip
      exact absurd (c13.symm.trans h) (by decide)
    · skip
      refine K_iconstN 1 dX4_area_16 rfl ?_
      refine K_goto (tgt := 44) dX4_area_17 (by decide) ?_
      refine p_X4_25 dX4_area_44  ?_
      refine K_aload_n dX4_area_47 rfl ?_
      refine g_X4_25 dX4_area_48  ?_
      refine K_top mset_at ?_
      refine K_ifN_le (by omega) (tgt := 56) dX4_area_51 (by decide) (fun c51 => absurd c51 (by decide)) (fun c51 => ?_)
      refine K_iconstN 0 dX4_area_54 rfl ?_
      exact K_iret dX4_area_55 ⟨by rfl, rfl⟩

set_option maxHeartbeats 4000000 in
set_option maxRecDepth 100000 in
theorem C_X4_area_e3 {l : Launch} {G : WG} {μ : Mem} {z : Zr} (hz : μ.1 16 0 0 = z) {n : Nat} (hZ : ZI z n) {p : Nat} (hp : p < n) {u : Nat} (hu : u < 4) {c : Int32} (h : rOk c (nI 0) (nI 999) = false) : Ct l G 2 yX4_area cX4_area 5 (some .int) [.ref (adr G 15 0 0), .int (nI p), .int (nI u), .int (c)] (μ) (some (.int (nI 0))) (mset μ 15 0 0 5 (nI 2)) := by
  refine Ct_of (by decide +kernel) (Nat.le_of_ble_eq_true rfl) ?_
  subst hz
  have hp6 : p < 6 := Nat.lt_of_lt_of_le hp hZ.2.1
  have hph := cHas_nat hp hZ.2.1
  have huu := uOk_nat hu
  refine K_aload_n dX4_area_0 rfl ?_
  refine K_aload_n dX4_area_1 rfl ?_
  refine K_iload_n dX4_area_2 rfl ?_
  refine k_X4_isPhase (C_X4_isPhase rfl hZ) (by decide)  ml_X4_84 (Nat.le_of_ble_eq_true rfl) dX4_area_3 ?_
  refine K_ifb_eq (tgt := 16) dX4_area_6 (by decide) (fun c6 => ?_) (fun c6 => ?_)
  · skip
    exact absurd (c6.symm.trans hph) (by decide)
  · skip
    refine K_iload_n dX4_area_9 rfl ?_
    refine k_X4_isUse (C_X4_isUse ) (by decide) ml_X4_87 (Nat.le_of_ble_eq_true rfl) dX4_area_10 ?_
    refine K_ifb_ne (tgt := 20) dX4_area_13 (by decide) (fun c13 => ?_) (fun c13 => ?_)
    · skip
      refine K_iload_n dX4_area_20 rfl ?_
      refine k_X4_isArea (C_X4_isArea ) (by decide) ml_X4_90 (Nat.le_of_ble_eq_true rfl) dX4_area_21 ?_
      refine K_ifb_ne (tgt := 31) dX4_area_24 (by decide) (fun c24 => ?_) (fun c24 => ?_)
      · skip
        exact absurd (c24.symm.trans h) (by decide)
      · skip
        refine K_iconstN 2 dX4_area_27 rfl ?_
        refine K_goto (tgt := 44) dX4_area_28 (by decide) ?_
        refine p_X4_25 dX4_area_44  ?_
        refine K_aload_n dX4_area_47 rfl ?_
        refine g_X4_25 dX4_area_48  ?_
        refine K_top mset_at ?_
        refine K_ifN_le (by omega) (tgt := 56) dX4_area_51 (by decide) (fun c51 => absurd c51 (by decide)) (fun c51 => ?_)
        refine K_iconstN 0 dX4_area_54 rfl ?_
        exact K_iret dX4_area_55 ⟨by rfl, rfl⟩
    · skip
      exact absurd (c13.symm.trans huu) (by decide)

set_option maxHeartbeats 4000000 in
set_option maxRecDepth 100000 in
theorem C_X4_area_e4 {l : Launch} {G : WG} {μ : Mem} {z : Zr} (hz : μ.1 16 0 0 = z) {n : Nat} (hZ : ZI z n) {p : Nat} (hp : p < n) {u : Nat} (hu : u < 4) {c : Int32} (hr : rOk c (nI 0) (nI 999) = true) (h : mBegun z p = true) : Ct l G 2 yX4_area cX4_area 5 (some .int) [.ref (adr G 15 0 0), .int (nI p), .int (nI u), .int (c)] (μ) (some (.int (nI 0))) (mset μ 15 0 0 5 (nI 3)) := by
  refine Ct_of (by decide +kernel) (Nat.le_of_ble_eq_true rfl) ?_
  subst hz
  have hp6 : p < 6 := Nat.lt_of_lt_of_le hp hZ.2.1
  have hph := cHas_nat hp hZ.2.1
  have huu := uOk_nat hu
  refine K_aload_n dX4_area_0 rfl ?_
  refine K_aload_n dX4_area_1 rfl ?_
  refine K_iload_n dX4_area_2 rfl ?_
  refine k_X4_isPhase (C_X4_isPhase rfl hZ) (by decide)  ml_X4_84 (Nat.le_of_ble_eq_true rfl) dX4_area_3 ?_
  refine K_ifb_eq (tgt := 16) dX4_area_6 (by decide) (fun c6 => ?_) (fun c6 => ?_)
  · skip
    exact absurd (c6.symm.trans hph) (by decide)
  · skip
    refine K_iload_n dX4_area_9 rfl ?_
    refine k_X4_isUse (C_X4_isUse ) (by decide) ml_X4_87 (Nat.le_of_ble_eq_true rfl) dX4_area_10 ?_
    refine K_ifb_ne (tgt := 20) dX4_area_13 (by decide) (fun c13 => ?_) (fun c13 => ?_)
    · skip
      refine K_iload_n dX4_area_20 rfl ?_
      refine k_X4_isArea (C_X4_isArea ) (by decide) ml_X4_90 (Nat.le_of_ble_eq_true rfl) dX4_area_21 ?_
      refine K_ifb_ne (tgt := 31) dX4_area_24 (by decide) (fun c24 => ?_) (fun c24 => ?_)
      · skip
        refine K_aload_n dX4_area_31 rfl ?_
        refine K_iload_n dX4_area_32 rfl ?_
        refine k_X4_hasBegun (C_X4_hasBegun rfl (by omega)) (by decide)  ml_X4_40 (Nat.le_of_ble_eq_true rfl) dX4_area_33 ?_
        refine K_ifb_eq (tgt := 43) dX4_area_36 (by decide) (fun c36 => ?_) (fun c36 => ?_)
        · skip
          exact absurd (c36.symm.trans h) (by decide)
        · skip
          refine K_iconstN 3 dX4_area_39 rfl ?_
          refine K_goto (tgt := 44) dX4_area_40 (by decide) ?_
          refine p_X4_25 dX4_area_44  ?_
          refine K_aload_n dX4_area_47 rfl ?_
          refine g_X4_25 dX4_area_48  ?_
          refine K_top mset_at ?_
          refine K_ifN_le (by omega) (tgt := 56) dX4_area_51 (by decide) (fun c51 => absurd c51 (by decide)) (fun c51 => ?_)
          refine K_iconstN 0 dX4_area_54 rfl ?_
          exact K_iret dX4_area_55 ⟨by rfl, rfl⟩
      · skip
        exact absurd (c24.symm.trans hr) (by decide)
    · skip
      exact absurd (c13.symm.trans huu) (by decide)

set_option maxHeartbeats 4000000 in
set_option maxRecDepth 100000 in
theorem C_X4_exempt {l : Launch} {G : WG} {μ : Mem} {z : Zr} (hz : μ.1 16 0 0 = z) {n : Nat} (hZ : ZI z n) {sc : Nat} (hs : μ.1 15 0 0 1 = nI sc) (hs6 : sc ≤ 6) {p : Nat} (hp : p < n) {u : Nat} (hu : u < 4) {a : Int32} (hr : rOk a (nI 0) (mo z p (1 + u)) = true) (hb : mBegun z p = false) : Ct l G 2 yX4_exempt cX4_exempt 5 (some .int) [.ref (adr G 15 0 0), .int (nI p), .int (nI u), .int (a)] (μ) (some (.int (mo z p (5 + u)))) (zmem (mSave (mset μ 15 0 0 5 (nI 0)) sc) (zput z p (5 + u) a)) := by
  refine Ct_of (by decide +kernel) (Nat.le_of_ble_eq_true rfl) ?_
  subst hz
  have hp6 : p < 6 := Nat.lt_of_lt_of_le hp hZ.2.1
  have hph := cHas_nat hp hZ.2.1
  have huu := uOk_nat hu
  refine K_aload_n dX4_exempt_0 rfl ?_
  refine K_aload_n dX4_exempt_1 rfl ?_
  refine K_iload_n dX4_exempt_2 rfl ?_
  refine k_X4_isPhase (C_X4_isPhase rfl hZ) (by decide)  ml_X4_84 (Nat.le_of_ble_eq_true rfl) dX4_exempt_3 ?_
  refine K_ifb_eq (tgt := 16) dX4_exempt_6 (by decide) (fun c6 => ?_) (fun c6 => ?_)
  · skip
    exact absurd (c6.symm.trans hph) (by decide)
  · skip
    refine K_iload_n dX4_exempt_9 rfl ?_
    refine k_X4_isUse (C_X4_isUse ) (by decide) ml_X4_87 (Nat.le_of_ble_eq_true rfl) dX4_exempt_10 ?_
    refine K_ifb_ne (tgt := 20) dX4_exempt_13 (by decide) (fun c13 => ?_) (fun c13 => ?_)
    · skip
      refine K_iload_n dX4_exempt_20 rfl ?_
      refine K_iconstN 0 dX4_exempt_21 rfl ?_
      refine K_aload_n dX4_exempt_22 rfl ?_
      refine K_iload_n dX4_exempt_23 rfl ?_
      refine K_iconstN 1 dX4_exempt_24 rfl ?_
      refine K_iload_n dX4_exempt_25 rfl ?_
      refine K_iaddN dX4_exempt_26 ?_
      refine k_X4_of (C_X4_of rfl (by omega) (by omega)) (by decide)  ml_X4_36 (Nat.le_of_ble_eq_true rfl) dX4_exempt_27 ?_
      refine k_X4_within (C_X4_within ) (by decide) ml_X4_32 (Nat.le_of_ble_eq_true rfl) dX4_exempt_30 ?_
      refine K_ifb_ne (tgt := 40) dX4_exempt_33 (by decide) (fun c33 => ?_) (fun c33 => ?_)
      · skip
        refine K_aload_n dX4_exempt_40 rfl ?_
        refine K_iload_n dX4_exempt_41 rfl ?_
        refine k_X4_hasBegun (C_X4_hasBegun rfl (by omega)) (by decide)  ml_X4_40 (Nat.le_of_ble_eq_true rfl) dX4_exempt_42 ?_
        refine K_ifb_eq (tgt := 52) dX4_exempt_45 (by decide) (fun c45 => ?_) (fun c45 => ?_)
        · skip
          refine K_iconstN 0 dX4_exempt_52 rfl ?_
          refine p_X4_25 dX4_exempt_53  ?_
          refine K_aload_n dX4_exempt_56 rfl ?_
          refine g_X4_25 dX4_exempt_57  ?_
          refine K_top mset_at ?_
          refine K_ifN_le (by omega) (tgt := 65) dX4_exempt_60 (by decide) (fun c60 => ?_) (fun c60 => absurd c60 (by decide))
          refine K_aload_n dX4_exempt_65 rfl ?_
          refine k_X4_save (C_X4_save (sc := sc) (by exact hs) hs6) (by decide)  ml_X4_77 (Nat.le_of_ble_eq_true rfl) dX4_exempt_66 ?_
          refine K_mem (zself (show (mSave (mset μ 15 0 0 5 (nI 0)) sc).1 16 0 0 = μ.1 16 0 0 by rw [mSave_16]; rfl)).symm ?_
          refine K_aload_n dX4_exempt_69 rfl ?_
          refine K_iload_n dX4_exempt_70 rfl ?_
          refine K_iconstN 5 dX4_exempt_71 rfl ?_
          refine K_iload_n dX4_exempt_72 rfl ?_
          refine K_iaddN dX4_exempt_73 ?_
          refine k_X4_of (C_X4_of rfl (by omega) (by omega)) (by decide)  ml_X4_36 (Nat.le_of_ble_eq_true rfl) dX4_exempt_74 ?_
          refine K_istore dX4_exempt_77 (by decide) rfl ?_
          refine K_aload_n dX4_exempt_79 rfl ?_
          refine K_iload_n dX4_exempt_80 rfl ?_
          refine K_iconstN 5 dX4_exempt_81 rfl ?_
          refine K_iload_n dX4_exempt_82 rfl ?_
          refine K_iaddN dX4_exempt_83 ?_
          refine K_iload_n dX4_exempt_84 rfl ?_
          refine k_X4_put (C_X4_put (by omega) (by omega)) (by decide)  ml_X4_80 (Nat.le_of_ble_eq_true rfl) dX4_exempt_85 ?_
          refine K_iload dX4_exempt_88 rfl ?_
          exact K_iret dX4_exempt_90 ⟨by rfl, rfl⟩
        · skip
          exact absurd (c45.symm.trans hb) (by decide)
      · skip
        exact absurd (c33.symm.trans hr) (by decide)
    · skip
      exact absurd (c13.symm.trans huu) (by decide)

set_option maxHeartbeats 4000000 in
set_option maxRecDepth 100000 in
theorem C_X4_exempt_e1 {l : Launch} {G : WG} {μ : Mem} {z : Zr} (hz : μ.1 16 0 0 = z) {n : Nat} (hZ : ZI z n) {a b c : Int32} (h : cHas n a = false) : Ct l G 2 yX4_exempt cX4_exempt 5 (some .int) [.ref (adr G 15 0 0), .int (a), .int (b), .int (c)] (μ) (some (.int (nI 0))) (mset μ 15 0 0 5 (nI 1)) := by
  refine Ct_of (by decide +kernel) (Nat.le_of_ble_eq_true rfl) ?_
  subst hz
  refine K_aload_n dX4_exempt_0 rfl ?_
  refine K_aload_n dX4_exempt_1 rfl ?_
  refine K_iload_n dX4_exempt_2 rfl ?_
  refine k_X4_isPhase (C_X4_isPhase rfl hZ) (by decide)  ml_X4_84 (Nat.le_of_ble_eq_true rfl) dX4_exempt_3 ?_
  refine K_ifb_eq (tgt := 16) dX4_exempt_6 (by decide) (fun c6 => ?_) (fun c6 => ?_)
  · skip
    refine K_iconstN 1 dX4_exempt_16 rfl ?_
    refine K_goto (tgt := 53) dX4_exempt_17 (by decide) ?_
    refine p_X4_25 dX4_exempt_53  ?_
    refine K_aload_n dX4_exempt_56 rfl ?_
    refine g_X4_25 dX4_exempt_57  ?_
    refine K_top mset_at ?_
    refine K_ifN_le (by omega) (tgt := 65) dX4_exempt_60 (by decide) (fun c60 => absurd c60 (by decide)) (fun c60 => ?_)
    refine K_iconstN 0 dX4_exempt_63 rfl ?_
    exact K_iret dX4_exempt_64 ⟨by rfl, rfl⟩
  · skip
    exact absurd (c6.symm.trans h) (by decide)

set_option maxHeartbeats 4000000 in
set_option maxRecDepth 100000 in
theorem C_X4_exempt_e2 {l : Launch} {G : WG} {μ : Mem} {z : Zr} (hz : μ.1 16 0 0 = z) {n : Nat} (hZ : ZI z n) {p : Nat} (hp : p < n) {b c : Int32} (h : uOk b = false) : Ct l G 2 yX4_exempt cX4_exempt 5 (some .int) [.ref (adr G 15 0 0), .int (nI p), .int (b), .int (c)] (μ) (some (.int (nI 0))) (mset μ 15 0 0 5 (nI 1)) := by
  refine Ct_of (by decide +kernel) (Nat.le_of_ble_eq_true rfl) ?_
  subst hz
  have hp6 : p < 6 := Nat.lt_of_lt_of_le hp hZ.2.1
  have hph := cHas_nat hp hZ.2.1
  refine K_aload_n dX4_exempt_0 rfl ?_
  refine K_aload_n dX4_exempt_1 rfl ?_
  refine K_iload_n dX4_exempt_2 rfl ?_
  refine k_X4_isPhase (C_X4_isPhase rfl hZ) (by decide)  ml_X4_84 (Nat.le_of_ble_eq_true rfl) dX4_exempt_3 ?_
  refine K_ifb_eq (tgt := 16) dX4_exempt_6 (by decide) (fun c6 => ?_) (fun c6 => ?_)
  · skip
    exact absurd (c6.symm.trans hph) (by decide)
  · skip
    refine K_iload_n dX4_exempt_9 rfl ?_
    refine k_X4_isUse (C_X4_isUse ) (by decide) ml_X4_87 (Nat.le_of_ble_eq_true rfl) dX4_exempt_10 ?_
    refine K_ifb_ne (tgt := 20) dX4_exempt_13 (by decide) (fun c13 => ?_) (fun c13 => ?_)
    · skip
      exact absurd (c13.symm.trans h) (by decide)
    · skip
      refine K_iconstN 1 dX4_exempt_16 rfl ?_
      refine K_goto (tgt := 53) dX4_exempt_17 (by decide) ?_
      refine p_X4_25 dX4_exempt_53  ?_
      refine K_aload_n dX4_exempt_56 rfl ?_
      refine g_X4_25 dX4_exempt_57  ?_
      refine K_top mset_at ?_
      refine K_ifN_le (by omega) (tgt := 65) dX4_exempt_60 (by decide) (fun c60 => absurd c60 (by decide)) (fun c60 => ?_)
      refine K_iconstN 0 dX4_exempt_63 rfl ?_
      exact K_iret dX4_exempt_64 ⟨by rfl, rfl⟩

set_option maxHeartbeats 4000000 in
set_option maxRecDepth 100000 in
theorem C_X4_exempt_e3 {l : Launch} {G : WG} {μ : Mem} {z : Zr} (hz : μ.1 16 0 0 = z) {n : Nat} (hZ : ZI z n) {p : Nat} (hp : p < n) {u : Nat} (hu : u < 4) {c : Int32} (h : rOk c (nI 0) (mo z p (1 + u)) = false) : Ct l G 2 yX4_exempt cX4_exempt 5 (some .int) [.ref (adr G 15 0 0), .int (nI p), .int (nI u), .int (c)] (μ) (some (.int (nI 0))) (mset μ 15 0 0 5 (nI 2)) := by
  refine Ct_of (by decide +kernel) (Nat.le_of_ble_eq_true rfl) ?_
  subst hz
  have hp6 : p < 6 := Nat.lt_of_lt_of_le hp hZ.2.1
  have hph := cHas_nat hp hZ.2.1
  have huu := uOk_nat hu
  refine K_aload_n dX4_exempt_0 rfl ?_
  refine K_aload_n dX4_exempt_1 rfl ?_
  refine K_iload_n dX4_exempt_2 rfl ?_
  refine k_X4_isPhase (C_X4_isPhase rfl hZ) (by decide)  ml_X4_84 (Nat.le_of_ble_eq_true rfl) dX4_exempt_3 ?_
  refine K_ifb_eq (tgt := 16) dX4_exempt_6 (by decide) (fun c6 => ?_) (fun c6 => ?_)
  · skip
    exact absurd (c6.symm.trans hph) (by decide)
  · skip
    refine K_iload_n dX4_exempt_9 rfl ?_
    refine k_X4_isUse (C_X4_isUse ) (by decide) ml_X4_87 (Nat.le_of_ble_eq_true rfl) dX4_exempt_10 ?_
    refine K_ifb_ne (tgt := 20) dX4_exempt_13 (by decide) (fun c13 => ?_) (fun c13 => ?_)
    · skip
      refine K_iload_n dX4_exempt_20 rfl ?_
      refine K_iconstN 0 dX4_exempt_21 rfl ?_
      refine K_aload_n dX4_exempt_22 rfl ?_
      refine K_iload_n dX4_exempt_23 rfl ?_
      refine K_iconstN 1 dX4_exempt_24 rfl ?_
      refine K_iload_n dX4_exempt_25 rfl ?_
      refine K_iaddN dX4_exempt_26 ?_
      refine k_X4_of (C_X4_of rfl (by omega) (by omega)) (by decide)  ml_X4_36 (Nat.le_of_ble_eq_true rfl) dX4_exempt_27 ?_
      refine k_X4_within (C_X4_within ) (by decide) ml_X4_32 (Nat.le_of_ble_eq_true rfl) dX4_exempt_30 ?_
      refine K_ifb_ne (tgt := 40) dX4_exempt_33 (by decide) (fun c33 => ?_) (fun c33 => ?_)
      · skip
        exact absurd (c33.symm.trans h) (by decide)
      · skip
        refine K_iconstN 2 dX4_exempt_36 rfl ?_
        refine K_goto (tgt := 53) dX4_exempt_37 (by decide) ?_
        refine p_X4_25 dX4_exempt_53  ?_
        refine K_aload_n dX4_exempt_56 rfl ?_
        refine g_X4_25 dX4_exempt_57  ?_
        refine K_top mset_at ?_
        refine K_ifN_le (by omega) (tgt := 65) dX4_exempt_60 (by decide) (fun c60 => absurd c60 (by decide)) (fun c60 => ?_)
        refine K_iconstN 0 dX4_exempt_63 rfl ?_
        exact K_iret dX4_exempt_64 ⟨by rfl, rfl⟩
    · skip
      exact absurd (c13.symm.trans huu) (by decide)

set_option maxHeartbeats 4000000 in
set_option maxRecDepth 100000 in
theorem C_X4_exempt_e4 {l : Launch} {G : WG} {μ : Mem} {z : Zr} (hz : μ.1 16 0 0 = z) {n : Nat} (hZ : ZI z n) {p : Nat} (hp : p < n) {u : Nat} (hu : u < 4) {c : Int32} (hr : rOk c (nI 0) (mo z p (1 + u)) = true) (h : mBegun z p = true) : Ct l G 2 yX4_exempt cX4_exempt 5 (some .int) [.ref (adr G 15 0 0), .int (nI p), .int (nI u), .int (c)] (μ) (some (.int (nI 0))) (mset μ 15 0 0 5 (nI 3)) := by
  refine Ct_of (by decide +kernel) (Nat.le_of_ble_eq_true rfl) ?_
  subst hz
  have hp6 : p < 6 := Nat.lt_of_lt_of_le hp hZ.2.1
  have hph := cHas_nat hp hZ.2.1
  have huu := uOk_nat hu
  refine K_aload_n dX4_exempt_0 rfl ?_
  refine K_aload_n dX4_exempt_1 rfl ?_
  refine K_iload_n dX4_exempt_2 rfl ?_
  refine k_X4_isPhase (C_X4_isPhase rfl hZ) (by decide)  ml_X4_84 (Nat.le_of_ble_eq_true rfl) dX4_exempt_3 ?_
  refine K_ifb_eq (tgt := 16) dX4_exempt_6 (by decide) (fun c6 => ?_) (fun c6 => ?_)
  · skip
    exact absurd (c6.symm.trans hph) (by decide)
  · skip
    refine K_iload_n dX4_exempt_9 rfl ?_
    refine k_X4_isUse (C_X4_isUse ) (by decide) ml_X4_87 (Nat.le_of_ble_eq_true rfl) dX4_exempt_10 ?_
    refine K_ifb_ne (tgt := 20) dX4_exempt_13 (by decide) (fun c13 => ?_) (fun c13 => ?_)
    · skip
      refine K_iload_n dX4_exempt_20 rfl ?_
      refine K_iconstN 0 dX4_exempt_21 rfl ?_
      refine K_aload_n dX4_exempt_22 rfl ?_
      refine K_iload_n dX4_exempt_23 rfl ?_
      refine K_iconstN 1 dX4_exempt_24 rfl ?_
      refine K_iload_n dX4_exempt_25 rfl ?_
      refine K_iaddN dX4_exempt_26 ?_
      refine k_X4_of (C_X4_of rfl (by omega) (by omega)) (by decide)  ml_X4_36 (Nat.le_of_ble_eq_true rfl) dX4_exempt_27 ?_
      refine k_X4_within (C_X4_within ) (by decide) ml_X4_32 (Nat.le_of_ble_eq_true rfl) dX4_exempt_30 ?_
      refine K_ifb_ne (tgt := 40) dX4_exempt_33 (by decide) (fun c33 => ?_) (fun c33 => ?_)
      · skip
        refine K_aload_n dX4_exempt_40 rfl ?_
        refine K_iload_n dX4_exempt_41 rfl ?_
        refine k_X4_hasBegun (C_X4_hasBegun rfl (by omega)) (by decide)  ml_X4_40 (Nat.le_of_ble_eq_true rfl) dX4_exempt_42 ?_
        refine K_ifb_eq (tgt := 52) dX4_exempt_45 (by decide) (fun c45 => ?_) (fun c45 => ?_)
        · skip
          exact absurd (c45.symm.trans h) (by decide)
        · skip
          refine K_iconstN 3 dX4_exempt_48 rfl ?_
          refine K_goto (tgt := 53) dX4_exempt_49 (by decide) ?_
          refine p_X4_25 dX4_exempt_53  ?_
          refine K_aload_n dX4_exempt_56 rfl ?_
          refine g_X4_25 dX4_exempt_57  ?_
          refine K_top mset_at ?_
          refine K_ifN_le (by omega) (tgt := 65) dX4_exempt_60 (by decide) (fun c60 => absurd c60 (by decide)) (fun c60 => ?_)
          refine K_iconstN 0 dX4_exempt_63 rfl ?_
          exact K_iret dX4_exempt_64 ⟨by rfl, rfl⟩
      · skip
        exact absurd (c33.symm.trans hr) (by decide)
    · skip
      exact absurd (c13.symm.trans huu) (by decide)

set_option maxHeartbeats 4000000 in
set_option maxRecDepth 100000 in
theorem C_X4_rate {l : Launch} {G : WG} {μ : Mem} {z : Zr} (hz : μ.1 16 0 0 = z) {n : Nat} (hZ : ZI z n) {sc : Nat} (hs : μ.1 15 0 0 1 = nI sc) (hs6 : sc ≤ 6) {u : Nat} (hu : u < 4) {a : Int32} (hr : rOk a (nI 0) (nI 999) = true) : Ct l G 2 yX4_rate cX4_rate 4 (some .int) [.ref (adr G 15 0 0), .int (nI u), .int (a)] (μ) (some (.int (z (5 + u)))) (zmem (mSave (mset μ 15 0 0 5 (nI 0)) sc) (upd z (5 + u) a)) := by
  refine Ct_of (by decide +kernel) (Nat.le_of_ble_eq_true rfl) ?_
  subst hz
  have huu := uOk_nat hu
  refine K_aload_n dX4_rate_0 rfl ?_
  refine K_iload_n dX4_rate_1 rfl ?_
  refine k_X4_isUse (C_X4_isUse ) (by decide) ml_X4_87 (Nat.le_of_ble_eq_true rfl) dX4_rate_2 ?_
  refine K_ifb_ne (tgt := 12) dX4_rate_5 (by decide) (fun c5 => ?_) (fun c5 => ?_)
  · skip
    refine K_iload_n dX4_rate_12 rfl ?_
    refine K_iconstN 0 dX4_rate_13 rfl ?_
    refine K_sipush (v := nI 999) dX4_rate_14 (by decide) ?_
    refine k_X4_within (C_X4_within ) (by decide) ml_X4_32 (Nat.le_of_ble_eq_true rfl) dX4_rate_17 ?_
    refine K_ifb_eq (tgt := 27) dX4_rate_20 (by decide) (fun c20 => ?_) (fun c20 => ?_)
    · skip
      exact absurd (c20.symm.trans hr) (by decide)
    · skip
      refine K_iconstN 0 dX4_rate_23 rfl ?_
      refine K_goto (tgt := 28) dX4_rate_24 (by decide) ?_
      refine p_X4_25 dX4_rate_28  ?_
      refine K_aload_n dX4_rate_31 rfl ?_
      refine g_X4_25 dX4_rate_32  ?_
      refine K_top mset_at ?_
      refine K_ifN_le (by omega) (tgt := 40) dX4_rate_35 (by decide) (fun c35 => ?_) (fun c35 => absurd c35 (by decide))
      refine K_aload_n dX4_rate_40 rfl ?_
      refine k_X4_save (C_X4_save (sc := sc) (by exact hs) hs6) (by decide)  ml_X4_77 (Nat.le_of_ble_eq_true rfl) dX4_rate_41 ?_
      refine K_mem (zself (show (mSave (mset μ 15 0 0 5 (nI 0)) sc).1 16 0 0 = μ.1 16 0 0 by rw [mSave_16]; rfl)).symm ?_
      refine K_aload_n dX4_rate_44 rfl ?_
      refine g_X4_7 dX4_rate_45  ?_
      refine K_iconstN 5 dX4_rate_48 rfl ?_
      refine K_iload_n dX4_rate_49 rfl ?_
      refine K_iaddN dX4_rate_50 ?_
      refine ald16 dX4_rate_51 (by omega) ?_
      refine K_top (congrFun zmem_16 _) ?_
      refine K_istore_n dX4_rate_52 (by decide) rfl ?_
      refine K_aload_n dX4_rate_53 rfl ?_
      refine g_X4_7 dX4_rate_54  ?_
      refine K_iconstN 5 dX4_rate_57 rfl ?_
      refine K_iload_n dX4_rate_58 rfl ?_
      refine K_iaddN dX4_rate_59 ?_
      refine K_iload_n dX4_rate_60 rfl ?_
      refine ast16 dX4_rate_61 (by omega) ?_
      refine K_iload_n dX4_rate_62 rfl ?_
      exact K_iret dX4_rate_63 ⟨by rfl, zmem_put⟩
  · skip
    exact absurd (c5.symm.trans huu) (by decide)

set_option maxHeartbeats 4000000 in
set_option maxRecDepth 100000 in
theorem C_X4_rate_e1 {l : Launch} {G : WG} {μ : Mem} {a b : Int32} (h : uOk a = false) : Ct l G 2 yX4_rate cX4_rate 4 (some .int) [.ref (adr G 15 0 0), .int (a), .int (b)] (μ) (some (.int (nI 0))) (mset μ 15 0 0 5 (nI 1)) := by
  refine Ct_of (by decide +kernel) (Nat.le_of_ble_eq_true rfl) ?_
  refine K_aload_n dX4_rate_0 rfl ?_
  refine K_iload_n dX4_rate_1 rfl ?_
  refine k_X4_isUse (C_X4_isUse ) (by decide) ml_X4_87 (Nat.le_of_ble_eq_true rfl) dX4_rate_2 ?_
  refine K_ifb_ne (tgt := 12) dX4_rate_5 (by decide) (fun c5 => ?_) (fun c5 => ?_)
  · skip
    exact absurd (c5.symm.trans h) (by decide)
  · skip
    refine K_iconstN 1 dX4_rate_8 rfl ?_
    refine K_goto (tgt := 28) dX4_rate_9 (by decide) ?_
    refine p_X4_25 dX4_rate_28  ?_
    refine K_aload_n dX4_rate_31 rfl ?_
    refine g_X4_25 dX4_rate_32  ?_
    refine K_top mset_at ?_
    refine K_ifN_le (by omega) (tgt := 40) dX4_rate_35 (by decide) (fun c35 => absurd c35 (by decide)) (fun c35 => ?_)
    refine K_iconstN 0 dX4_rate_38 rfl ?_
    exact K_iret dX4_rate_39 ⟨by rfl, rfl⟩

set_option maxHeartbeats 4000000 in
set_option maxRecDepth 100000 in
theorem C_X4_rate_e2 {l : Launch} {G : WG} {μ : Mem} {u : Nat} (hu : u < 4) {b : Int32} (h : rOk b (nI 0) (nI 999) = false) : Ct l G 2 yX4_rate cX4_rate 4 (some .int) [.ref (adr G 15 0 0), .int (nI u), .int (b)] (μ) (some (.int (nI 0))) (mset μ 15 0 0 5 (nI 2)) := by
  refine Ct_of (by decide +kernel) (Nat.le_of_ble_eq_true rfl) ?_
  have huu := uOk_nat hu
  refine K_aload_n dX4_rate_0 rfl ?_
  refine K_iload_n dX4_rate_1 rfl ?_
  refine k_X4_isUse (C_X4_isUse ) (by decide) ml_X4_87 (Nat.le_of_ble_eq_true rfl) dX4_rate_2 ?_
  refine K_ifb_ne (tgt := 12) dX4_rate_5 (by decide) (fun c5 => ?_) (fun c5 => ?_)
  · skip
    refine K_iload_n dX4_rate_12 rfl ?_
    refine K_iconstN 0 dX4_rate_13 rfl ?_
    refine K_sipush (v := nI 999) dX4_rate_14 (by decide) ?_
    refine k_X4_within (C_X4_within ) (by decide) ml_X4_32 (Nat.le_of_ble_eq_true rfl) dX4_rate_17 ?_
    refine K_ifb_eq (tgt := 27) dX4_rate_20 (by decide) (fun c20 => ?_) (fun c20 => ?_)
    · skip
      refine K_iconstN 2 dX4_rate_27 rfl ?_
      refine p_X4_25 dX4_rate_28  ?_
      refine K_aload_n dX4_rate_31 rfl ?_
      refine g_X4_25 dX4_rate_32  ?_
      refine K_top mset_at ?_
      refine K_ifN_le (by omega) (tgt := 40) dX4_rate_35 (by decide) (fun c35 => absurd c35 (by decide)) (fun c35 => ?_)
      refine K_iconstN 0 dX4_rate_38 rfl ?_
      exact K_iret dX4_rate_39 ⟨by rfl, rfl⟩
    · skip
      exact absurd (c20.symm.trans h) (by decide)
  · skip
    exact absurd (c5.symm.trans huu) (by decide)

set_option maxHeartbeats 4000000 in
set_option maxRecDepth 100000 in
theorem C_X4_set {l : Launch} {G : WG} {μ : Mem} {z : Zr} (hz : μ.1 16 0 0 = z) {n : Nat} (hZ : ZI z n) {sc : Nat} (hs : μ.1 15 0 0 1 = nI sc) (hs6 : sc ≤ 6) {u : Nat} (hu : u < 4) {a : Int32} (hr : rOk a (leastT u) (mostT u) = true) : Ct l G 2 yX4_set cX4_set 4 (some .int) [.ref (adr G 15 0 0), .int (nI u), .int (a)] (μ) (some (.int (z u))) (zmem (mSave (mset μ 15 0 0 5 (nI 0)) sc) (upd z u a)) := by
  refine Ct_of (by decide +kernel) (Nat.le_of_ble_eq_true rfl) ?_
  subst hz
  have huu := uOk_nat hu
  refine K_aload_n dX4_set_0 rfl ?_
  refine K_iload_n dX4_set_1 rfl ?_
  refine k_X4_isSetting (C_X4_isSetting ) (by decide) ml_X4_96 (Nat.le_of_ble_eq_true rfl) dX4_set_2 ?_
  refine K_ifb_ne (tgt := 12) dX4_set_5 (by decide) (fun c5 => ?_) (fun c5 => ?_)
  · skip
    refine K_iload_n dX4_set_12 rfl ?_
    refine K_iload_n dX4_set_13 rfl ?_
    refine k_X4_isValue (C_X4_isValue (by omega)) (by decide) ml_X4_99 (Nat.le_of_ble_eq_true rfl) dX4_set_14 ?_
    refine K_ifb_eq (tgt := 24) dX4_set_17 (by decide) (fun c17 => ?_) (fun c17 => ?_)
    · skip
      exact absurd (c17.symm.trans hr) (by decide)
    · skip
      refine K_iconstN 0 dX4_set_20 rfl ?_
      refine K_goto (tgt := 25) dX4_set_21 (by decide) ?_
      refine p_X4_25 dX4_set_25  ?_
      refine K_aload_n dX4_set_28 rfl ?_
      refine g_X4_25 dX4_set_29  ?_
      refine K_top mset_at ?_
      refine K_ifN_le (by omega) (tgt := 37) dX4_set_32 (by decide) (fun c32 => ?_) (fun c32 => absurd c32 (by decide))
      refine K_aload_n dX4_set_37 rfl ?_
      refine k_X4_save (C_X4_save (sc := sc) (by exact hs) hs6) (by decide)  ml_X4_77 (Nat.le_of_ble_eq_true rfl) dX4_set_38 ?_
      refine K_mem (zself (show (mSave (mset μ 15 0 0 5 (nI 0)) sc).1 16 0 0 = μ.1 16 0 0 by rw [mSave_16]; rfl)).symm ?_
      refine K_aload_n dX4_set_41 rfl ?_
      refine g_X4_7 dX4_set_42  ?_
      refine K_iload_n dX4_set_45 rfl ?_
      refine ald16 dX4_set_46 (by omega) ?_
      refine K_top (congrFun zmem_16 _) ?_
      refine K_istore_n dX4_set_47 (by decide) rfl ?_
      refine K_aload_n dX4_set_48 rfl ?_
      refine g_X4_7 dX4_set_49  ?_
      refine K_iload_n dX4_set_52 rfl ?_
      refine K_iload_n dX4_set_53 rfl ?_
      refine ast16 dX4_set_54 (by omega) ?_
      refine K_iload_n dX4_set_55 rfl ?_
      exact K_iret dX4_set_56 ⟨by rfl, zmem_put⟩
  · skip
    exact absurd (c5.symm.trans huu) (by decide)

set_option maxHeartbeats 4000000 in
set_option maxRecDepth 100000 in
theorem C_X4_set_e1 {l : Launch} {G : WG} {μ : Mem} {a b : Int32} (h : uOk a = false) : Ct l G 2 yX4_set cX4_set 4 (some .int) [.ref (adr G 15 0 0), .int (a), .int (b)] (μ) (some (.int (nI 0))) (mset μ 15 0 0 5 (nI 1)) := by
  refine Ct_of (by decide +kernel) (Nat.le_of_ble_eq_true rfl) ?_
  refine K_aload_n dX4_set_0 rfl ?_
  refine K_iload_n dX4_set_1 rfl ?_
  refine k_X4_isSetting (C_X4_isSetting ) (by decide) ml_X4_96 (Nat.le_of_ble_eq_true rfl) dX4_set_2 ?_
  refine K_ifb_ne (tgt := 12) dX4_set_5 (by decide) (fun c5 => ?_) (fun c5 => ?_)
  · skip
    exact absurd (c5.symm.trans h) (by decide)
  · skip
    refine K_iconstN 1 dX4_set_8 rfl ?_
    refine K_goto (tgt := 25) dX4_set_9 (by decide) ?_
    refine p_X4_25 dX4_set_25  ?_
    refine K_aload_n dX4_set_28 rfl ?_
    refine g_X4_25 dX4_set_29  ?_
    refine K_top mset_at ?_
    refine K_ifN_le (by omega) (tgt := 37) dX4_set_32 (by decide) (fun c32 => absurd c32 (by decide)) (fun c32 => ?_)
    refine K_iconstN 0 dX4_set_35 rfl ?_
    exact K_iret dX4_set_36 ⟨by rfl, rfl⟩

set_option maxHeartbeats 4000000 in
set_option maxRecDepth 100000 in
theorem C_X4_set_e2 {l : Launch} {G : WG} {μ : Mem} {u : Nat} (hu : u < 4) {b : Int32} (h : rOk b (leastT u) (mostT u) = false) : Ct l G 2 yX4_set cX4_set 4 (some .int) [.ref (adr G 15 0 0), .int (nI u), .int (b)] (μ) (some (.int (nI 0))) (mset μ 15 0 0 5 (nI 2)) := by
  refine Ct_of (by decide +kernel) (Nat.le_of_ble_eq_true rfl) ?_
  have huu := uOk_nat hu
  refine K_aload_n dX4_set_0 rfl ?_
  refine K_iload_n dX4_set_1 rfl ?_
  refine k_X4_isSetting (C_X4_isSetting ) (by decide) ml_X4_96 (Nat.le_of_ble_eq_true rfl) dX4_set_2 ?_
  refine K_ifb_ne (tgt := 12) dX4_set_5 (by decide) (fun c5 => ?_) (fun c5 => ?_)
  · skip
    refine K_iload_n dX4_set_12 rfl ?_
    refine K_iload_n dX4_set_13 rfl ?_
    refine k_X4_isValue (C_X4_isValue (by omega)) (by decide) ml_X4_99 (Nat.le_of_ble_eq_true rfl) dX4_set_14 ?_
    refine K_ifb_eq (tgt := 24) dX4_set_17 (by decide) (fun c17 => ?_) (fun c17 => ?_)
    · skip
      refine K_iconstN 2 dX4_set_24 rfl ?_
      refine p_X4_25 dX4_set_25  ?_
      refine K_aload_n dX4_set_28 rfl ?_
      refine g_X4_25 dX4_set_29  ?_
      refine K_top mset_at ?_
      refine K_ifN_le (by omega) (tgt := 37) dX4_set_32 (by decide) (fun c32 => absurd c32 (by decide)) (fun c32 => ?_)
      refine K_iconstN 0 dX4_set_35 rfl ?_
      exact K_iret dX4_set_36 ⟨by rfl, rfl⟩
    · skip
      exact absurd (c17.symm.trans h) (by decide)
  · skip
    exact absurd (c5.symm.trans huu) (by decide)

set_option maxHeartbeats 4000000 in
set_option maxRecDepth 100000 in
theorem C_X4_begin {l : Launch} {G : WG} {μ : Mem} {z : Zr} (hz : μ.1 16 0 0 = z) {n : Nat} (hZ : ZI z n) {sc : Nat} (hs : μ.1 15 0 0 1 = nI sc) (hs6 : sc ≤ 6) {p : Nat} (hp : p < n) (hw : mWhy1 z p = 0) : Ct l G 6 yX4_begin cX4_begin 2 (some .int) [.ref (adr G 15 0 0), .int (nI p)] (μ) (some (.int (mSum z p))) (zmem (mSave (mset μ 15 0 0 5 (nI 0)) sc) (zBegins z p)) := by
  refine Ct_of (by decide +kernel) (Nat.le_of_ble_eq_true rfl) ?_
  subst hz
  have hp6 : p < 6 := Nat.lt_of_lt_of_le hp hZ.2.1
  have hph := cHas_nat hp hZ.2.1
  refine K_aload_n dX4_begin_0 rfl ?_
  refine K_aload_n dX4_begin_1 rfl ?_
  refine K_iload_n dX4_begin_2 rfl ?_
  refine k_X4_isPhase (C_X4_isPhase rfl hZ) (by decide)  ml_X4_84 (Nat.le_of_ble_eq_true rfl) dX4_begin_3 ?_
  refine K_ifb_ne (tgt := 13) dX4_begin_6 (by decide) (fun c6 => ?_) (fun c6 => ?_)
  · skip
    refine K_aload_n dX4_begin_13 rfl ?_
    refine K_iload_n dX4_begin_14 rfl ?_
    refine k_X4_whyNoBeginning (C_X4_whyNoBeginning rfl (by omega)) (by decide)  ml_X4_106 (Nat.le_of_ble_eq_true rfl) dX4_begin_15 ?_
    refine K_if_ne (tgt := 25) dX4_begin_18 (by decide) (fun c18 => ?_) (fun c18 => ?_)
    · skip
      exact absurd hw c18
    · skip
      refine K_iconstN 0 dX4_begin_21 rfl ?_
      refine K_goto (tgt := 26) dX4_begin_22 (by decide) ?_
      refine p_X4_25 dX4_begin_26  ?_
      refine K_aload_n dX4_begin_29 rfl ?_
      refine g_X4_25 dX4_begin_30  ?_
      refine K_top mset_at ?_
      refine K_ifN_le (by omega) (tgt := 38) dX4_begin_33 (by decide) (fun c33 => ?_) (fun c33 => absurd c33 (by decide))
      refine K_aload_n dX4_begin_38 rfl ?_
      refine k_X4_save (C_X4_save (sc := sc) (by exact hs) hs6) (by decide)  ml_X4_77 (Nat.le_of_ble_eq_true rfl) dX4_begin_39 ?_
      refine K_mem (zself (show (mSave (mset μ 15 0 0 5 (nI 0)) sc).1 16 0 0 = μ.1 16 0 0 by rw [mSave_16]; rfl)).symm ?_
      refine K_aload_n dX4_begin_42 rfl ?_
      refine K_iload_n dX4_begin_43 rfl ?_
      refine k_X4_begins (C_X4_begins (by omega)) (by decide)  ml_X4_109 (Nat.le_of_ble_eq_true rfl) dX4_begin_44 ?_
      exact K_iret dX4_begin_47 ⟨by rfl, rfl⟩
  · skip
    exact absurd (c6.symm.trans hph) (by decide)

set_option maxHeartbeats 4000000 in
set_option maxRecDepth 100000 in
theorem C_X4_begin_e1 {l : Launch} {G : WG} {μ : Mem} {z : Zr} (hz : μ.1 16 0 0 = z) {n : Nat} (hZ : ZI z n) {a : Int32} (h : cHas n a = false) : Ct l G 2 yX4_begin cX4_begin 2 (some .int) [.ref (adr G 15 0 0), .int (a)] (μ) (some (.int (nI 0))) (mset μ 15 0 0 5 (nI 1)) := by
  refine Ct_of (by decide +kernel) (Nat.le_of_ble_eq_true rfl) ?_
  subst hz
  refine K_aload_n dX4_begin_0 rfl ?_
  refine K_aload_n dX4_begin_1 rfl ?_
  refine K_iload_n dX4_begin_2 rfl ?_
  refine k_X4_isPhase (C_X4_isPhase rfl hZ) (by decide)  ml_X4_84 (Nat.le_of_ble_eq_true rfl) dX4_begin_3 ?_
  refine K_ifb_ne (tgt := 13) dX4_begin_6 (by decide) (fun c6 => ?_) (fun c6 => ?_)
  · skip
    exact absurd (c6.symm.trans h) (by decide)
  · skip
    refine K_iconstN 1 dX4_begin_9 rfl ?_
    refine K_goto (tgt := 26) dX4_begin_10 (by decide) ?_
    refine p_X4_25 dX4_begin_26  ?_
    refine K_aload_n dX4_begin_29 rfl ?_
    refine g_X4_25 dX4_begin_30  ?_
    refine K_top mset_at ?_
    refine K_ifN_le (by omega) (tgt := 38) dX4_begin_33 (by decide) (fun c33 => absurd c33 (by decide)) (fun c33 => ?_)
    refine K_iconstN 0 dX4_begin_36 rfl ?_
    exact K_iret dX4_begin_37 ⟨by rfl, rfl⟩

set_option maxHeartbeats 4000000 in
set_option maxRecDepth 100000 in
theorem C_X4_begin_e2 {l : Launch} {G : WG} {μ : Mem} {z : Zr} (hz : μ.1 16 0 0 = z) {n : Nat} (hZ : ZI z n) {p : Nat} (hp : p < n) (h : ¬ mWhy1 z p = 0) : Ct l G 3 yX4_begin cX4_begin 2 (some .int) [.ref (adr G 15 0 0), .int (nI p)] (μ) (some (.int (nI 0))) (mset μ 15 0 0 5 (nI 2)) := by
  refine Ct_of (by decide +kernel) (Nat.le_of_ble_eq_true rfl) ?_
  subst hz
  have hp6 : p < 6 := Nat.lt_of_lt_of_le hp hZ.2.1
  have hph := cHas_nat hp hZ.2.1
  refine K_aload_n dX4_begin_0 rfl ?_
  refine K_aload_n dX4_begin_1 rfl ?_
  refine K_iload_n dX4_begin_2 rfl ?_
  refine k_X4_isPhase (C_X4_isPhase rfl hZ) (by decide)  ml_X4_84 (Nat.le_of_ble_eq_true rfl) dX4_begin_3 ?_
  refine K_ifb_ne (tgt := 13) dX4_begin_6 (by decide) (fun c6 => ?_) (fun c6 => ?_)
  · skip
    refine K_aload_n dX4_begin_13 rfl ?_
    refine K_iload_n dX4_begin_14 rfl ?_
    refine k_X4_whyNoBeginning (C_X4_whyNoBeginning rfl (by omega)) (by decide)  ml_X4_106 (Nat.le_of_ble_eq_true rfl) dX4_begin_15 ?_
    refine K_if_ne (tgt := 25) dX4_begin_18 (by decide) (fun c18 => ?_) (fun c18 => ?_)
    · skip
      refine K_iconstN 2 dX4_begin_25 rfl ?_
      refine p_X4_25 dX4_begin_26  ?_
      refine K_aload_n dX4_begin_29 rfl ?_
      refine g_X4_25 dX4_begin_30  ?_
      refine K_top mset_at ?_
      refine K_ifN_le (by omega) (tgt := 38) dX4_begin_33 (by decide) (fun c33 => absurd c33 (by decide)) (fun c33 => ?_)
      refine K_iconstN 0 dX4_begin_36 rfl ?_
      exact K_iret dX4_begin_37 ⟨by rfl, rfl⟩
    · skip
      exact absurd c18 h
  · skip
    exact absurd (c6.symm.trans hph) (by decide)

set_option maxHeartbeats 4000000 in
set_option maxRecDepth 100000 in
theorem C_X4_pay {l : Launch} {G : WG} {μ : Mem} {z : Zr} (hz : μ.1 16 0 0 = z) {n : Nat} (hZ : ZI z n) {sc : Nat} (hs : μ.1 15 0 0 1 = nI sc) (hs6 : sc ≤ 6) {p : Nat} (hp : p < n) {a : Int32} (hr : rOk a (nI 1) (nI 99999) = true) (hw : mWhy2 z p = 0) : Ct l G 4 yX4_pay cX4_pay 3 (some .int) [.ref (adr G 15 0 0), .int (nI p), .int (a)] (μ) (some (.int (mTakes z p a))) (zmem (mSave (mset μ 15 0 0 5 (nI 0)) sc) (zTakes z p a 34)) := by
  refine Ct_of (by decide +kernel) (Nat.le_of_ble_eq_true rfl) ?_
  subst hz
  have hp6 : p < 6 := Nat.lt_of_lt_of_le hp hZ.2.1
  have hph := cHas_nat hp hZ.2.1
  refine K_aload_n dX4_pay_0 rfl ?_
  refine K_aload_n dX4_pay_1 rfl ?_
  refine K_iload_n dX4_pay_2 rfl ?_
  refine k_X4_isPhase (C_X4_isPhase rfl hZ) (by decide)  ml_X4_84 (Nat.le_of_ble_eq_true rfl) dX4_pay_3 ?_
  refine K_ifb_ne (tgt := 13) dX4_pay_6 (by decide) (fun c6 => ?_) (fun c6 => ?_)
  · skip
    refine K_iload_n dX4_pay_13 rfl ?_
    refine k_X4_isMoney (C_X4_isMoney ) (by decide) ml_X4_120 (Nat.le_of_ble_eq_true rfl) dX4_pay_14 ?_
    refine K_ifb_ne (tgt := 24) dX4_pay_17 (by decide) (fun c17 => ?_) (fun c17 => ?_)
    · skip
      refine K_aload_n dX4_pay_24 rfl ?_
      refine K_iload_n dX4_pay_25 rfl ?_
      refine k_X4_whyNoPayment (C_X4_whyNoPayment rfl (by omega) hZ) (by decide)  ml_X4_71 (Nat.le_of_ble_eq_true rfl) dX4_pay_26 ?_
      refine K_if_ne (tgt := 36) dX4_pay_29 (by decide) (fun c29 => ?_) (fun c29 => ?_)
      · skip
        exact absurd hw c29
      · skip
        refine K_iconstN 0 dX4_pay_32 rfl ?_
        refine K_goto (tgt := 37) dX4_pay_33 (by decide) ?_
        refine p_X4_25 dX4_pay_37  ?_
        refine K_aload_n dX4_pay_40 rfl ?_
        refine g_X4_25 dX4_pay_41  ?_
        refine K_top mset_at ?_
        refine K_ifN_le (by omega) (tgt := 49) dX4_pay_44 (by decide) (fun c44 => ?_) (fun c44 => absurd c44 (by decide))
        refine K_aload_n dX4_pay_49 rfl ?_
        refine k_X4_save (C_X4_save (sc := sc) (by exact hs) hs6) (by decide)  ml_X4_77 (Nat.le_of_ble_eq_true rfl) dX4_pay_50 ?_
        refine K_mem (zself (show (mSave (mset μ 15 0 0 5 (nI 0)) sc).1 16 0 0 = μ.1 16 0 0 by rw [mSave_16]; rfl)).symm ?_
        refine K_aload_n dX4_pay_53 rfl ?_
        refine K_iload_n dX4_pay_54 rfl ?_
        refine K_iload_n dX4_pay_55 rfl ?_
        refine K_bipush (v := nI 34) dX4_pay_56 (by decide) ?_
        refine k_X4_takes (C_X4_takes hZ hp6 (w := 34) (by omega)) (by decide)  ml_X4_123 (Nat.le_of_ble_eq_true rfl) dX4_pay_58 ?_
        exact K_iret dX4_pay_61 ⟨by rfl, rfl⟩
    · skip
      exact absurd (c17.symm.trans hr) (by decide)
  · skip
    exact absurd (c6.symm.trans hph) (by decide)

set_option maxHeartbeats 4000000 in
set_option maxRecDepth 100000 in
theorem C_X4_pay_e1 {l : Launch} {G : WG} {μ : Mem} {z : Zr} (hz : μ.1 16 0 0 = z) {n : Nat} (hZ : ZI z n) {a b : Int32} (h : cHas n a = false) : Ct l G 2 yX4_pay cX4_pay 3 (some .int) [.ref (adr G 15 0 0), .int (a), .int (b)] (μ) (some (.int (nI 0))) (mset μ 15 0 0 5 (nI 1)) := by
  refine Ct_of (by decide +kernel) (Nat.le_of_ble_eq_true rfl) ?_
  subst hz
  refine K_aload_n dX4_pay_0 rfl ?_
  refine K_aload_n dX4_pay_1 rfl ?_
  refine K_iload_n dX4_pay_2 rfl ?_
  refine k_X4_isPhase (C_X4_isPhase rfl hZ) (by decide)  ml_X4_84 (Nat.le_of_ble_eq_true rfl) dX4_pay_3 ?_
  refine K_ifb_ne (tgt := 13) dX4_pay_6 (by decide) (fun c6 => ?_) (fun c6 => ?_)
  · skip
    exact absurd (c6.symm.trans h) (by decide)
  · skip
    refine K_iconstN 1 dX4_pay_9 rfl ?_
    refine K_goto (tgt := 37) dX4_pay_10 (by decide) ?_
    refine p_X4_25 dX4_pay_37  ?_
    refine K_aload_n dX4_pay_40 rfl ?_
    refine g_X4_25 dX4_pay_41  ?_
    refine K_top mset_at ?_
    refine K_ifN_le (by omega) (tgt := 49) dX4_pay_44 (by decide) (fun c44 => absurd c44 (by decide)) (fun c44 => ?_)
    refine K_iconstN 0 dX4_pay_47 rfl ?_
    exact K_iret dX4_pay_48 ⟨by rfl, rfl⟩

set_option maxHeartbeats 4000000 in
set_option maxRecDepth 100000 in
theorem C_X4_pay_e2 {l : Launch} {G : WG} {μ : Mem} {z : Zr} (hz : μ.1 16 0 0 = z) {n : Nat} (hZ : ZI z n) {p : Nat} (hp : p < n) {b : Int32} (h : rOk b (nI 1) (nI 99999) = false) : Ct l G 2 yX4_pay cX4_pay 3 (some .int) [.ref (adr G 15 0 0), .int (nI p), .int (b)] (μ) (some (.int (nI 0))) (mset μ 15 0 0 5 (nI 2)) := by
  refine Ct_of (by decide +kernel) (Nat.le_of_ble_eq_true rfl) ?_
  subst hz
  have hp6 : p < 6 := Nat.lt_of_lt_of_le hp hZ.2.1
  have hph := cHas_nat hp hZ.2.1
  refine K_aload_n dX4_pay_0 rfl ?_
  refine K_aload_n dX4_pay_1 rfl ?_
  refine K_iload_n dX4_pay_2 rfl ?_
  refine k_X4_isPhase (C_X4_isPhase rfl hZ) (by decide)  ml_X4_84 (Nat.le_of_ble_eq_true rfl) dX4_pay_3 ?_
  refine K_ifb_ne (tgt := 13) dX4_pay_6 (by decide) (fun c6 => ?_) (fun c6 => ?_)
  · skip
    refine K_iload_n dX4_pay_13 rfl ?_
    refine k_X4_isMoney (C_X4_isMoney ) (by decide) ml_X4_120 (Nat.le_of_ble_eq_true rfl) dX4_pay_14 ?_
    refine K_ifb_ne (tgt := 24) dX4_pay_17 (by decide) (fun c17 => ?_) (fun c17 => ?_)
    · skip
      exact absurd (c17.symm.trans h) (by decide)
    · skip
      refine K_iconstN 2 dX4_pay_20 rfl ?_
      refine K_goto (tgt := 37) dX4_pay_21 (by decide) ?_
      refine p_X4_25 dX4_pay_37  ?_
      refine K_aload_n dX4_pay_40 rfl ?_
      refine g_X4_25 dX4_pay_41  ?_
      refine K_top mset_at ?_
      refine K_ifN_le (by omega) (tgt := 49) dX4_pay_44 (by decide) (fun c44 => absurd c44 (by decide)) (fun c44 => ?_)
      refine K_iconstN 0 dX4_pay_47 rfl ?_
      exact K_iret dX4_pay_48 ⟨by rfl, rfl⟩
  · skip
    exact absurd (c6.symm.trans hph) (by decide)

set_option maxHeartbeats 4000000 in
set_option maxRecDepth 100000 in
theorem C_X4_pay_e3 {l : Launch} {G : WG} {μ : Mem} {z : Zr} (hz : μ.1 16 0 0 = z) {n : Nat} (hZ : ZI z n) {p : Nat} (hp : p < n) {b : Int32} (hr : rOk b (nI 1) (nI 99999) = true) (h : ¬ mWhy2 z p = 0) : Ct l G 4 yX4_pay cX4_pay 3 (some .int) [.ref (adr G 15 0 0), .int (nI p), .int (b)] (μ) (some (.int (nI 0))) (mset μ 15 0 0 5 (nI 3)) := by
  refine Ct_of (by decide +kernel) (Nat.le_of_ble_eq_true rfl) ?_
  subst hz
  have hp6 : p < 6 := Nat.lt_of_lt_of_le hp hZ.2.1
  have hph := cHas_nat hp hZ.2.1
  refine K_aload_n dX4_pay_0 rfl ?_
  refine K_aload_n dX4_pay_1 rfl ?_
  refine K_iload_n dX4_pay_2 rfl ?_
  refine k_X4_isPhase (C_X4_isPhase rfl hZ) (by decide)  ml_X4_84 (Nat.le_of_ble_eq_true rfl) dX4_pay_3 ?_
  refine K_ifb_ne (tgt := 13) dX4_pay_6 (by decide) (fun c6 => ?_) (fun c6 => ?_)
  · skip
    refine K_iload_n dX4_pay_13 rfl ?_
    refine k_X4_isMoney (C_X4_isMoney ) (by decide) ml_X4_120 (Nat.le_of_ble_eq_true rfl) dX4_pay_14 ?_
    refine K_ifb_ne (tgt := 24) dX4_pay_17 (by decide) (fun c17 => ?_) (fun c17 => ?_)
    · skip
      refine K_aload_n dX4_pay_24 rfl ?_
      refine K_iload_n dX4_pay_25 rfl ?_
      refine k_X4_whyNoPayment (C_X4_whyNoPayment rfl (by omega) hZ) (by decide)  ml_X4_71 (Nat.le_of_ble_eq_true rfl) dX4_pay_26 ?_
      refine K_if_ne (tgt := 36) dX4_pay_29 (by decide) (fun c29 => ?_) (fun c29 => ?_)
      · skip
        refine K_iconstN 3 dX4_pay_36 rfl ?_
        refine p_X4_25 dX4_pay_37  ?_
        refine K_aload_n dX4_pay_40 rfl ?_
        refine g_X4_25 dX4_pay_41  ?_
        refine K_top mset_at ?_
        refine K_ifN_le (by omega) (tgt := 49) dX4_pay_44 (by decide) (fun c44 => absurd c44 (by decide)) (fun c44 => ?_)
        refine K_iconstN 0 dX4_pay_47 rfl ?_
        exact K_iret dX4_pay_48 ⟨by rfl, rfl⟩
      · skip
        exact absurd c29 h
    · skip
      exact absurd (c17.symm.trans hr) (by decide)
  · skip
    exact absurd (c6.symm.trans hph) (by decide)

set_option maxHeartbeats 4000000 in
set_option maxRecDepth 100000 in
theorem C_X4_land {l : Launch} {G : WG} {μ : Mem} {z : Zr} (hz : μ.1 16 0 0 = z) {n : Nat} (hZ : ZI z n) {sc : Nat} (hs : μ.1 15 0 0 1 = nI sc) (hs6 : sc ≤ 6) {p : Nat} (hp : p < n) {a : Int32} (hr : rOk a (nI 1) (nI 99999) = true) (hw : mWhy3 z p = 0) : Ct l G 7 yX4_land cX4_land 4 (some .int) [.ref (adr G 15 0 0), .int (nI p), .int (a)] (μ) (some (.int (mTakes z p (cond (decide (mRoom z p ≤ a)) (mRoom z p) a)))) (zmem (mSave (mset μ 15 0 0 5 (nI 0)) sc) (zTakes z p (cond (decide (mRoom z p ≤ a)) (mRoom z p) a) 35)) := by
  refine Ct_of (by decide +kernel) (Nat.le_of_ble_eq_true rfl) ?_
  subst hz
  have hp6 : p < 6 := Nat.lt_of_lt_of_le hp hZ.2.1
  have hph := cHas_nat hp hZ.2.1
  refine K_aload_n dX4_land_0 rfl ?_
  refine K_aload_n dX4_land_1 rfl ?_
  refine K_iload_n dX4_land_2 rfl ?_
  refine k_X4_isPhase (C_X4_isPhase rfl hZ) (by decide)  ml_X4_84 (Nat.le_of_ble_eq_true rfl) dX4_land_3 ?_
  refine K_ifb_ne (tgt := 13) dX4_land_6 (by decide) (fun c6 => ?_) (fun c6 => ?_)
  · skip
    refine K_iload_n dX4_land_13 rfl ?_
    refine k_X4_isMoney (C_X4_isMoney ) (by decide) ml_X4_120 (Nat.le_of_ble_eq_true rfl) dX4_land_14 ?_
    refine K_ifb_ne (tgt := 24) dX4_land_17 (by decide) (fun c17 => ?_) (fun c17 => ?_)
    · skip
      refine K_aload_n dX4_land_24 rfl ?_
      refine K_iload_n dX4_land_25 rfl ?_
      refine k_X4_whyNoLand (C_X4_whyNoLand rfl (by omega) hZ) (by decide)  ml_X4_126 (Nat.le_of_ble_eq_true rfl) dX4_land_26 ?_
      refine K_if_ne (tgt := 36) dX4_land_29 (by decide) (fun c29 => ?_) (fun c29 => ?_)
      · skip
        exact absurd hw c29
      · skip
        refine K_iconstN 0 dX4_land_32 rfl ?_
        refine K_goto (tgt := 37) dX4_land_33 (by decide) ?_
        refine p_X4_25 dX4_land_37  ?_
        refine K_aload_n dX4_land_40 rfl ?_
        refine g_X4_25 dX4_land_41  ?_
        refine K_top mset_at ?_
        refine K_ifN_le (by omega) (tgt := 49) dX4_land_44 (by decide) (fun c44 => ?_) (fun c44 => absurd c44 (by decide))
        refine K_aload_n dX4_land_49 rfl ?_
        refine k_X4_save (C_X4_save (sc := sc) (by exact hs) hs6) (by decide)  ml_X4_77 (Nat.le_of_ble_eq_true rfl) dX4_land_50 ?_
        refine K_mem (zself (show (mSave (mset μ 15 0 0 5 (nI 0)) sc).1 16 0 0 = μ.1 16 0 0 by rw [mSave_16]; rfl)).symm ?_
        refine K_aload_n dX4_land_53 rfl ?_
        refine K_iload_n dX4_land_54 rfl ?_
        refine k_X4_roomForLand (C_X4_roomForLand zmem_16 hp6) (by decide)  ml_X4_74 (Nat.le_of_ble_eq_true rfl) dX4_land_55 ?_
        refine K_istore_n dX4_land_58 (by decide) rfl ?_
        refine K_aload_n dX4_land_59 rfl ?_
        refine K_iload_n dX4_land_60 rfl ?_
        refine K_iload_n dX4_land_61 rfl ?_
        refine K_iload_n dX4_land_62 rfl ?_
        refine K_icmp_ge (tgt := 70) dX4_land_63 (by decide) (fun c63 => ?_) (fun c63 => ?_)
        · skip
          refine K_iload_n dX4_land_70 rfl ?_
          refine K_bipush (v := nI 35) dX4_land_71 (by decide) ?_
          refine k_X4_takes (C_X4_takes hZ hp6 (w := 35) (by omega)) (by decide)  ml_X4_123 (Nat.le_of_ble_eq_true rfl) dX4_land_73 ?_
          exact K_iret dX4_land_76 ⟨by simp [c63], by simp [c63]⟩
        · skip
          refine K_iload_n dX4_land_66 rfl ?_
          refine K_goto (tgt := 71) dX4_land_67 (by decide) ?_
          refine K_bipush (v := nI 35) dX4_land_71 (by decide) ?_
          refine k_X4_takes (C_X4_takes hZ hp6 (w := 35) (by omega)) (by decide)  ml_X4_123 (Nat.le_of_ble_eq_true rfl) dX4_land_73 ?_
          exact K_iret dX4_land_76 ⟨by simp [c63], by simp [c63]⟩
    · skip
      exact absurd (c17.symm.trans hr) (by decide)
  · skip
    exact absurd (c6.symm.trans hph) (by decide)

set_option maxHeartbeats 4000000 in
set_option maxRecDepth 100000 in
theorem C_X4_land_e1 {l : Launch} {G : WG} {μ : Mem} {z : Zr} (hz : μ.1 16 0 0 = z) {n : Nat} (hZ : ZI z n) {a b : Int32} (h : cHas n a = false) : Ct l G 2 yX4_land cX4_land 4 (some .int) [.ref (adr G 15 0 0), .int (a), .int (b)] (μ) (some (.int (nI 0))) (mset μ 15 0 0 5 (nI 1)) := by
  refine Ct_of (by decide +kernel) (Nat.le_of_ble_eq_true rfl) ?_
  subst hz
  refine K_aload_n dX4_land_0 rfl ?_
  refine K_aload_n dX4_land_1 rfl ?_
  refine K_iload_n dX4_land_2 rfl ?_
  refine k_X4_isPhase (C_X4_isPhase rfl hZ) (by decide)  ml_X4_84 (Nat.le_of_ble_eq_true rfl) dX4_land_3 ?_
  refine K_ifb_ne (tgt := 13) dX4_land_6 (by decide) (fun c6 => ?_) (fun c6 => ?_)
  · skip
    exact absurd (c6.symm.trans h) (by decide)
  · skip
    refine K_iconstN 1 dX4_land_9 rfl ?_
    refine K_goto (tgt := 37) dX4_land_10 (by decide) ?_
    refine p_X4_25 dX4_land_37  ?_
    refine K_aload_n dX4_land_40 rfl ?_
    refine g_X4_25 dX4_land_41  ?_
    refine K_top mset_at ?_
    refine K_ifN_le (by omega) (tgt := 49) dX4_land_44 (by decide) (fun c44 => absurd c44 (by decide)) (fun c44 => ?_)
    refine K_iconstN 0 dX4_land_47 rfl ?_
    exact K_iret dX4_land_48 ⟨by rfl, rfl⟩

set_option maxHeartbeats 4000000 in
set_option maxRecDepth 100000 in
theorem C_X4_land_e2 {l : Launch} {G : WG} {μ : Mem} {z : Zr} (hz : μ.1 16 0 0 = z) {n : Nat} (hZ : ZI z n) {p : Nat} (hp : p < n) {b : Int32} (h : rOk b (nI 1) (nI 99999) = false) : Ct l G 2 yX4_land cX4_land 4 (some .int) [.ref (adr G 15 0 0), .int (nI p), .int (b)] (μ) (some (.int (nI 0))) (mset μ 15 0 0 5 (nI 2)) := by
  refine Ct_of (by decide +kernel) (Nat.le_of_ble_eq_true rfl) ?_
  subst hz
  have hp6 : p < 6 := Nat.lt_of_lt_of_le hp hZ.2.1
  have hph := cHas_nat hp hZ.2.1
  refine K_aload_n dX4_land_0 rfl ?_
  refine K_aload_n dX4_land_1 rfl ?_
  refine K_iload_n dX4_land_2 rfl ?_
  refine k_X4_isPhase (C_X4_isPhase rfl hZ) (by decide)  ml_X4_84 (Nat.le_of_ble_eq_true rfl) dX4_land_3 ?_
  refine K_ifb_ne (tgt := 13) dX4_land_6 (by decide) (fun c6 => ?_) (fun c6 => ?_)
  · skip
    refine K_iload_n dX4_land_13 rfl ?_
    refine k_X4_isMoney (C_X4_isMoney ) (by decide) ml_X4_120 (Nat.le_of_ble_eq_true rfl) dX4_land_14 ?_
    refine K_ifb_ne (tgt := 24) dX4_land_17 (by decide) (fun c17 => ?_) (fun c17 => ?_)
    · skip
      exact absurd (c17.symm.trans h) (by decide)
    · skip
      refine K_iconstN 2 dX4_land_20 rfl ?_
      refine K_goto (tgt := 37) dX4_land_21 (by decide) ?_
      refine p_X4_25 dX4_land_37  ?_
      refine K_aload_n dX4_land_40 rfl ?_
      refine g_X4_25 dX4_land_41  ?_
      refine K_top mset_at ?_
      refine K_ifN_le (by omega) (tgt := 49) dX4_land_44 (by decide) (fun c44 => absurd c44 (by decide)) (fun c44 => ?_)
      refine K_iconstN 0 dX4_land_47 rfl ?_
      exact K_iret dX4_land_48 ⟨by rfl, rfl⟩
  · skip
    exact absurd (c6.symm.trans hph) (by decide)

set_option maxHeartbeats 4000000 in
set_option maxRecDepth 100000 in
theorem C_X4_land_e3 {l : Launch} {G : WG} {μ : Mem} {z : Zr} (hz : μ.1 16 0 0 = z) {n : Nat} (hZ : ZI z n) {p : Nat} (hp : p < n) {b : Int32} (hr : rOk b (nI 1) (nI 99999) = true) (h : ¬ mWhy3 z p = 0) : Ct l G 7 yX4_land cX4_land 4 (some .int) [.ref (adr G 15 0 0), .int (nI p), .int (b)] (μ) (some (.int (nI 0))) (mset μ 15 0 0 5 (nI 3)) := by
  refine Ct_of (by decide +kernel) (Nat.le_of_ble_eq_true rfl) ?_
  subst hz
  have hp6 : p < 6 := Nat.lt_of_lt_of_le hp hZ.2.1
  have hph := cHas_nat hp hZ.2.1
  refine K_aload_n dX4_land_0 rfl ?_
  refine K_aload_n dX4_land_1 rfl ?_
  refine K_iload_n dX4_land_2 rfl ?_
  refine k_X4_isPhase (C_X4_isPhase rfl hZ) (by decide)  ml_X4_84 (Nat.le_of_ble_eq_true rfl) dX4_land_3 ?_
  refine K_ifb_ne (tgt := 13) dX4_land_6 (by decide) (fun c6 => ?_) (fun c6 => ?_)
  · skip
    refine K_iload_n dX4_land_13 rfl ?_
    refine k_X4_isMoney (C_X4_isMoney ) (by decide) ml_X4_120 (Nat.le_of_ble_eq_true rfl) dX4_land_14 ?_
    refine K_ifb_ne (tgt := 24) dX4_land_17 (by decide) (fun c17 => ?_) (fun c17 => ?_)
    · skip
      refine K_aload_n dX4_land_24 rfl ?_
      refine K_iload_n dX4_land_25 rfl ?_
      refine k_X4_whyNoLand (C_X4_whyNoLand rfl (by omega) hZ) (by decide)  ml_X4_126 (Nat.le_of_ble_eq_true rfl) dX4_land_26 ?_
      refine K_if_ne (tgt := 36) dX4_land_29 (by decide) (fun c29 => ?_) (fun c29 => ?_)
      · skip
        refine K_iconstN 3 dX4_land_36 rfl ?_
        refine p_X4_25 dX4_land_37  ?_
        refine K_aload_n dX4_land_40 rfl ?_
        refine g_X4_25 dX4_land_41  ?_
        refine K_top mset_at ?_
        refine K_ifN_le (by omega) (tgt := 49) dX4_land_44 (by decide) (fun c44 => absurd c44 (by decide)) (fun c44 => ?_)
        refine K_iconstN 0 dX4_land_47 rfl ?_
        exact K_iret dX4_land_48 ⟨by rfl, rfl⟩
      · skip
        exact absurd c29 h
    · skip
      exact absurd (c17.symm.trans hr) (by decide)
  · skip
    exact absurd (c6.symm.trans hph) (by decide)

set_option maxHeartbeats 4000000 in
set_option maxRecDepth 100000 in
theorem C_X4_lapse {l : Launch} {G : WG} {μ : Mem} {z : Zr} (hz : μ.1 16 0 0 = z) {n : Nat} (hZ : ZI z n) {sc : Nat} (hs : μ.1 15 0 0 1 = nI sc) (hs6 : sc ≤ 6) {p : Nat} (hp : p < n) {u : Nat} (hu : u < 4) (hw : mWhy4 z p u = 0) : Ct l G 3 yX4_lapse cX4_lapse 4 (some .int) [.ref (adr G 15 0 0), .int (nI p), .int (nI u)] (μ) (some (.int (mo z p (13 + u)))) (zmem (mSave (mset μ 15 0 0 5 (nI 0)) sc) (zadd (zadd (zput z p (13 + u) (nI 0)) p 31 (mo z p (13 + u))) p 30 (mo z p (13 + u)))) := by
  refine Ct_of (by decide +kernel) (Nat.le_of_ble_eq_true rfl) ?_
  subst hz
  have hp6 : p < 6 := Nat.lt_of_lt_of_le hp hZ.2.1
  have hph := cHas_nat hp hZ.2.1
  have huu := uOk_nat hu
  refine K_aload_n dX4_lapse_0 rfl ?_
  refine K_aload_n dX4_lapse_1 rfl ?_
  refine K_iload_n dX4_lapse_2 rfl ?_
  refine k_X4_isPhase (C_X4_isPhase rfl hZ) (by decide)  ml_X4_84 (Nat.le_of_ble_eq_true rfl) dX4_lapse_3 ?_
  refine K_ifb_eq (tgt := 16) dX4_lapse_6 (by decide) (fun c6 => ?_) (fun c6 => ?_)
  · skip
    exact absurd (c6.symm.trans hph) (by decide)
  · skip
    refine K_iload_n dX4_lapse_9 rfl ?_
    refine k_X4_isUse (C_X4_isUse ) (by decide) ml_X4_87 (Nat.le_of_ble_eq_true rfl) dX4_lapse_10 ?_
    refine K_ifb_ne (tgt := 20) dX4_lapse_13 (by decide) (fun c13 => ?_) (fun c13 => ?_)
    · skip
      refine K_aload_n dX4_lapse_20 rfl ?_
      refine K_iload_n dX4_lapse_21 rfl ?_
      refine K_iload_n dX4_lapse_22 rfl ?_
      refine k_X4_whyNoLapse (C_X4_whyNoLapse rfl (by omega) (by omega)) (by decide)  ml_X4_129 (Nat.le_of_ble_eq_true rfl) dX4_lapse_23 ?_
      refine K_if_ne (tgt := 33) dX4_lapse_26 (by decide) (fun c26 => ?_) (fun c26 => ?_)
      · skip
        exact absurd hw c26
      · skip
        refine K_iconstN 0 dX4_lapse_29 rfl ?_
        refine K_goto (tgt := 34) dX4_lapse_30 (by decide) ?_
        refine p_X4_25 dX4_lapse_34  ?_
        refine K_aload_n dX4_lapse_37 rfl ?_
        refine g_X4_25 dX4_lapse_38  ?_
        refine K_top mset_at ?_
        refine K_ifN_le (by omega) (tgt := 46) dX4_lapse_41 (by decide) (fun c41 => ?_) (fun c41 => absurd c41 (by decide))
        refine K_aload_n dX4_lapse_46 rfl ?_
        refine k_X4_save (C_X4_save (sc := sc) (by exact hs) hs6) (by decide)  ml_X4_77 (Nat.le_of_ble_eq_true rfl) dX4_lapse_47 ?_
        refine K_mem (zself (show (mSave (mset μ 15 0 0 5 (nI 0)) sc).1 16 0 0 = μ.1 16 0 0 by rw [mSave_16]; rfl)).symm ?_
        refine K_aload_n dX4_lapse_50 rfl ?_
        refine K_iload_n dX4_lapse_51 rfl ?_
        refine K_bipush (v := nI 13) dX4_lapse_52 (by decide) ?_
        refine K_iload_n dX4_lapse_54 rfl ?_
        refine K_iaddN dX4_lapse_55 ?_
        refine k_X4_of (C_X4_of zmem_16 hp6 (by omega)) (by decide)  ml_X4_36 (Nat.le_of_ble_eq_true rfl) dX4_lapse_56 ?_
        refine K_istore_n dX4_lapse_59 (by decide) rfl ?_
        refine K_aload_n dX4_lapse_60 rfl ?_
        refine K_iload_n dX4_lapse_61 rfl ?_
        refine K_bipush (v := nI 13) dX4_lapse_62 (by decide) ?_
        refine K_iload_n dX4_lapse_64 rfl ?_
        refine K_iaddN dX4_lapse_65 ?_
        refine K_iconstN 0 dX4_lapse_66 rfl ?_
        refine k_X4_put (C_X4_put (by omega) (by omega)) (by decide)  ml_X4_80 (Nat.le_of_ble_eq_true rfl) dX4_lapse_67 ?_
        refine K_aload_n dX4_lapse_70 rfl ?_
        refine K_iload_n dX4_lapse_71 rfl ?_
        refine K_bipush (v := nI 31) dX4_lapse_72 (by decide) ?_
        refine K_iload_n dX4_lapse_74 rfl ?_
        refine k_X4_add (C_X4_add (by omega) (by omega)) (by decide)  ml_X4_112 (Nat.le_of_ble_eq_true rfl) dX4_lapse_75 ?_
        refine K_aload_n dX4_lapse_78 rfl ?_
        refine K_iload_n dX4_lapse_79 rfl ?_
        refine K_bipush (v := nI 30) dX4_lapse_80 (by decide) ?_
        refine K_iload_n dX4_lapse_82 rfl ?_
        refine k_X4_add (C_X4_add (by omega) (by omega)) (by decide)  ml_X4_112 (Nat.le_of_ble_eq_true rfl) dX4_lapse_83 ?_
        refine K_iload_n dX4_lapse_86 rfl ?_
        exact K_iret dX4_lapse_87 ⟨by rfl, rfl⟩
    · skip
      exact absurd (c13.symm.trans huu) (by decide)

set_option maxHeartbeats 4000000 in
set_option maxRecDepth 100000 in
theorem C_X4_lapse_e1 {l : Launch} {G : WG} {μ : Mem} {z : Zr} (hz : μ.1 16 0 0 = z) {n : Nat} (hZ : ZI z n) {a b : Int32} (h : cHas n a = false) : Ct l G 2 yX4_lapse cX4_lapse 4 (some .int) [.ref (adr G 15 0 0), .int (a), .int (b)] (μ) (some (.int (nI 0))) (mset μ 15 0 0 5 (nI 1)) := by
  refine Ct_of (by decide +kernel) (Nat.le_of_ble_eq_true rfl) ?_
  subst hz
  refine K_aload_n dX4_lapse_0 rfl ?_
  refine K_aload_n dX4_lapse_1 rfl ?_
  refine K_iload_n dX4_lapse_2 rfl ?_
  refine k_X4_isPhase (C_X4_isPhase rfl hZ) (by decide)  ml_X4_84 (Nat.le_of_ble_eq_true rfl) dX4_lapse_3 ?_
  refine K_ifb_eq (tgt := 16) dX4_lapse_6 (by decide) (fun c6 => ?_) (fun c6 => ?_)
  · skip
    refine K_iconstN 1 dX4_lapse_16 rfl ?_
    refine K_goto (tgt := 34) dX4_lapse_17 (by decide) ?_
    refine p_X4_25 dX4_lapse_34  ?_
    refine K_aload_n dX4_lapse_37 rfl ?_
    refine g_X4_25 dX4_lapse_38  ?_
    refine K_top mset_at ?_
    refine K_ifN_le (by omega) (tgt := 46) dX4_lapse_41 (by decide) (fun c41 => absurd c41 (by decide)) (fun c41 => ?_)
    refine K_iconstN 0 dX4_lapse_44 rfl ?_
    exact K_iret dX4_lapse_45 ⟨by rfl, rfl⟩
  · skip
    exact absurd (c6.symm.trans h) (by decide)

set_option maxHeartbeats 4000000 in
set_option maxRecDepth 100000 in
theorem C_X4_lapse_e2 {l : Launch} {G : WG} {μ : Mem} {z : Zr} (hz : μ.1 16 0 0 = z) {n : Nat} (hZ : ZI z n) {p : Nat} (hp : p < n) {b : Int32} (h : uOk b = false) : Ct l G 2 yX4_lapse cX4_lapse 4 (some .int) [.ref (adr G 15 0 0), .int (nI p), .int (b)] (μ) (some (.int (nI 0))) (mset μ 15 0 0 5 (nI 1)) := by
  refine Ct_of (by decide +kernel) (Nat.le_of_ble_eq_true rfl) ?_
  subst hz
  have hp6 : p < 6 := Nat.lt_of_lt_of_le hp hZ.2.1
  have hph := cHas_nat hp hZ.2.1
  refine K_aload_n dX4_lapse_0 rfl ?_
  refine K_aload_n dX4_lapse_1 rfl ?_
  refine K_iload_n dX4_lapse_2 rfl ?_
  refine k_X4_isPhase (C_X4_isPhase rfl hZ) (by decide)  ml_X4_84 (Nat.le_of_ble_eq_true rfl) dX4_lapse_3 ?_
  refine K_ifb_eq (tgt := 16) dX4_lapse_6 (by decide) (fun c6 => ?_) (fun c6 => ?_)
  · skip
    exact absurd (c6.symm.trans hph) (by decide)
  · skip
    refine K_iload_n dX4_lapse_9 rfl ?_
    refine k_X4_isUse (C_X4_isUse ) (by decide) ml_X4_87 (Nat.le_of_ble_eq_true rfl) dX4_lapse_10 ?_
    refine K_ifb_ne (tgt := 20) dX4_lapse_13 (by decide) (fun c13 => ?_) (fun c13 => ?_)
    · skip
      exact absurd (c13.symm.trans h) (by decide)
    · skip
      refine K_iconstN 1 dX4_lapse_16 rfl ?_
      refine K_goto (tgt := 34) dX4_lapse_17 (by decide) ?_
      refine p_X4_25 dX4_lapse_34  ?_
      refine K_aload_n dX4_lapse_37 rfl ?_
      refine g_X4_25 dX4_lapse_38  ?_
      refine K_top mset_at ?_
      refine K_ifN_le (by omega) (tgt := 46) dX4_lapse_41 (by decide) (fun c41 => absurd c41 (by decide)) (fun c41 => ?_)
      refine K_iconstN 0 dX4_lapse_44 rfl ?_
      exact K_iret dX4_lapse_45 ⟨by rfl, rfl⟩

set_option maxHeartbeats 4000000 in
set_option maxRecDepth 100000 in
theorem C_X4_lapse_e3 {l : Launch} {G : WG} {μ : Mem} {z : Zr} (hz : μ.1 16 0 0 = z) {n : Nat} (hZ : ZI z n) {p : Nat} (hp : p < n) {u : Nat} (hu : u < 4) (h : ¬ mWhy4 z p u = 0) : Ct l G 3 yX4_lapse cX4_lapse 4 (some .int) [.ref (adr G 15 0 0), .int (nI p), .int (nI u)] (μ) (some (.int (nI 0))) (mset μ 15 0 0 5 (nI 2)) := by
  refine Ct_of (by decide +kernel) (Nat.le_of_ble_eq_true rfl) ?_
  subst hz
  have hp6 : p < 6 := Nat.lt_of_lt_of_le hp hZ.2.1
  have hph := cHas_nat hp hZ.2.1
  have huu := uOk_nat hu
  refine K_aload_n dX4_lapse_0 rfl ?_
  refine K_aload_n dX4_lapse_1 rfl ?_
  refine K_iload_n dX4_lapse_2 rfl ?_
  refine k_X4_isPhase (C_X4_isPhase rfl hZ) (by decide)  ml_X4_84 (Nat.le_of_ble_eq_true rfl) dX4_lapse_3 ?_
  refine K_ifb_eq (tgt := 16) dX4_lapse_6 (by decide) (fun c6 => ?_) (fun c6 => ?_)
  · skip
    exact absurd (c6.symm.trans hph) (by decide)
  · skip
    refine K_iload_n dX4_lapse_9 rfl ?_
    refine k_X4_isUse (C_X4_isUse ) (by decide) ml_X4_87 (Nat.le_of_ble_eq_true rfl) dX4_lapse_10 ?_
    refine K_ifb_ne (tgt := 20) dX4_lapse_13 (by decide) (fun c13 => ?_) (fun c13 => ?_)
    · skip
      refine K_aload_n dX4_lapse_20 rfl ?_
      refine K_iload_n dX4_lapse_21 rfl ?_
      refine K_iload_n dX4_lapse_22 rfl ?_
      refine k_X4_whyNoLapse (C_X4_whyNoLapse rfl (by omega) (by omega)) (by decide)  ml_X4_129 (Nat.le_of_ble_eq_true rfl) dX4_lapse_23 ?_
      refine K_if_ne (tgt := 33) dX4_lapse_26 (by decide) (fun c26 => ?_) (fun c26 => ?_)
      · skip
        refine K_iconstN 2 dX4_lapse_33 rfl ?_
        refine p_X4_25 dX4_lapse_34  ?_
        refine K_aload_n dX4_lapse_37 rfl ?_
        refine g_X4_25 dX4_lapse_38  ?_
        refine K_top mset_at ?_
        refine K_ifN_le (by omega) (tgt := 46) dX4_lapse_41 (by decide) (fun c41 => absurd c41 (by decide)) (fun c41 => ?_)
        refine K_iconstN 0 dX4_lapse_44 rfl ?_
        exact K_iret dX4_lapse_45 ⟨by rfl, rfl⟩
      · skip
        exact absurd c26 h
    · skip
      exact absurd (c13.symm.trans huu) (by decide)

set_option maxHeartbeats 4000000 in
set_option maxRecDepth 100000 in
theorem C_X4_pass {l : Launch} {G : WG} {μ : Mem} {z : Zr} (hz : μ.1 16 0 0 = z) {n : Nat} (hZ : ZI z n) {sc : Nat} (hs : μ.1 15 0 0 1 = nI sc) (hs6 : sc ≤ 6) {d : Nat} (hd : d < 2 ^ 31) (hr : rOk (nI d) (nI 1) (nI 99) = true) (hl : mLeft z (nI d) = true) : Ct l G 5 yX4_pass cX4_pass 2 (some .int) [.ref (adr G 15 0 0), .int (nI d)] (μ) (some (.int ((dpsK z n d).2))) (zmem (mSave (mset μ 15 0 0 5 (nI 0)) sc) (dpsK z n d).1) := by
  refine Ct_of (by decide +kernel) (Nat.le_of_ble_eq_true rfl) ?_
  subst hz
  refine K_aload_n dX4_pass_0 rfl ?_
  refine K_iload_n dX4_pass_1 rfl ?_
  refine K_iconstN 1 dX4_pass_2 rfl ?_
  refine K_bipush (v := nI 99) dX4_pass_3 (by decide) ?_
  refine k_X4_within (C_X4_within ) (by decide) ml_X4_32 (Nat.le_of_ble_eq_true rfl) dX4_pass_5 ?_
  refine K_ifb_ne (tgt := 15) dX4_pass_8 (by decide) (fun c8 => ?_) (fun c8 => ?_)
  · skip
    refine K_aload_n dX4_pass_15 rfl ?_
    refine K_iload_n dX4_pass_16 rfl ?_
    refine k_X4_canPass (C_X4_canPass rfl) (by decide)  ml_X4_142 (Nat.le_of_ble_eq_true rfl) dX4_pass_17 ?_
    refine K_ifb_eq (tgt := 27) dX4_pass_20 (by decide) (fun c20 => ?_) (fun c20 => ?_)
    · skip
      exact absurd (c20.symm.trans hl) (by decide)
    · skip
      refine K_iconstN 0 dX4_pass_23 rfl ?_
      refine K_goto (tgt := 28) dX4_pass_24 (by decide) ?_
      refine p_X4_25 dX4_pass_28  ?_
      refine K_aload_n dX4_pass_31 rfl ?_
      refine g_X4_25 dX4_pass_32  ?_
      refine K_top mset_at ?_
      refine K_ifN_le (by omega) (tgt := 40) dX4_pass_35 (by decide) (fun c35 => ?_) (fun c35 => absurd c35 (by decide))
      refine K_aload_n dX4_pass_40 rfl ?_
      refine k_X4_save (C_X4_save (sc := sc) (by exact hs) hs6) (by decide)  ml_X4_77 (Nat.le_of_ble_eq_true rfl) dX4_pass_41 ?_
      refine K_mem (zself (show (mSave (mset μ 15 0 0 5 (nI 0)) sc).1 16 0 0 = μ.1 16 0 0 by rw [mSave_16]; rfl)).symm ?_
      refine K_aload_n dX4_pass_44 rfl ?_
      refine K_iload_n dX4_pass_45 rfl ?_
      refine k_X4_daysPass (C_X4_daysPass hZ hd) (by decide)  ml_X4_145 (Nat.le_of_ble_eq_true rfl) dX4_pass_46 ?_
      exact K_iret dX4_pass_49 ⟨by rfl, rfl⟩
  · skip
    exact absurd (c8.symm.trans hr) (by decide)

set_option maxHeartbeats 4000000 in
set_option maxRecDepth 100000 in
theorem C_X4_pass_e1 {l : Launch} {G : WG} {μ : Mem} {a : Int32} (h : rOk a (nI 1) (nI 99) = false) : Ct l G 1 yX4_pass cX4_pass 2 (some .int) [.ref (adr G 15 0 0), .int (a)] (μ) (some (.int (nI 0))) (mset μ 15 0 0 5 (nI 1)) := by
  refine Ct_of (by decide +kernel) (Nat.le_of_ble_eq_true rfl) ?_
  refine K_aload_n dX4_pass_0 rfl ?_
  refine K_iload_n dX4_pass_1 rfl ?_
  refine K_iconstN 1 dX4_pass_2 rfl ?_
  refine K_bipush (v := nI 99) dX4_pass_3 (by decide) ?_
  refine k_X4_within (C_X4_within ) (by decide) ml_X4_32 (Nat.le_of_ble_eq_true rfl) dX4_pass_5 ?_
  refine K_ifb_ne (tgt := 15) dX4_pass_8 (by decide) (fun c8 => ?_) (fun c8 => ?_)
  · skip
    exact absurd (c8.symm.trans h) (by decide)
  · skip
    refine K_iconstN 1 dX4_pass_11 rfl ?_
    refine K_goto (tgt := 28) dX4_pass_12 (by decide) ?_
    refine p_X4_25 dX4_pass_28  ?_
    refine K_aload_n dX4_pass_31 rfl ?_
    refine g_X4_25 dX4_pass_32  ?_
    refine K_top mset_at ?_
    refine K_ifN_le (by omega) (tgt := 40) dX4_pass_35 (by decide) (fun c35 => absurd c35 (by decide)) (fun c35 => ?_)
    refine K_iconstN 0 dX4_pass_38 rfl ?_
    exact K_iret dX4_pass_39 ⟨by rfl, rfl⟩

set_option maxHeartbeats 4000000 in
set_option maxRecDepth 100000 in
theorem C_X4_pass_e2 {l : Launch} {G : WG} {μ : Mem} {z : Zr} (hz : μ.1 16 0 0 = z) {n : Nat} (hZ : ZI z n) {a : Int32} (hr : rOk a (nI 1) (nI 99) = true) (h : mLeft z a = false) : Ct l G 1 yX4_pass cX4_pass 2 (some .int) [.ref (adr G 15 0 0), .int (a)] (μ) (some (.int (nI 0))) (mset μ 15 0 0 5 (nI 2)) := by
  refine Ct_of (by decide +kernel) (Nat.le_of_ble_eq_true rfl) ?_
  subst hz
  refine K_aload_n dX4_pass_0 rfl ?_
  refine K_iload_n dX4_pass_1 rfl ?_
  refine K_iconstN 1 dX4_pass_2 rfl ?_
  refine K_bipush (v := nI 99) dX4_pass_3 (by decide) ?_
  refine k_X4_within (C_X4_within ) (by decide) ml_X4_32 (Nat.le_of_ble_eq_true rfl) dX4_pass_5 ?_
  refine K_ifb_ne (tgt := 15) dX4_pass_8 (by decide) (fun c8 => ?_) (fun c8 => ?_)
  · skip
    refine K_aload_n dX4_pass_15 rfl ?_
    refine K_iload_n dX4_pass_16 rfl ?_
    refine k_X4_canPass (C_X4_canPass rfl) (by decide)  ml_X4_142 (Nat.le_of_ble_eq_true rfl) dX4_pass_17 ?_
    refine K_ifb_eq (tgt := 27) dX4_pass_20 (by decide) (fun c20 => ?_) (fun c20 => ?_)
    · skip
      refine K_iconstN 2 dX4_pass_27 rfl ?_
      refine p_X4_25 dX4_pass_28  ?_
      refine K_aload_n dX4_pass_31 rfl ?_
      refine g_X4_25 dX4_pass_32  ?_
      refine K_top mset_at ?_
      refine K_ifN_le (by omega) (tgt := 40) dX4_pass_35 (by decide) (fun c35 => absurd c35 (by decide)) (fun c35 => ?_)
      refine K_iconstN 0 dX4_pass_38 rfl ?_
      exact K_iret dX4_pass_39 ⟨by rfl, rfl⟩
    · skip
      exact absurd (c20.symm.trans h) (by decide)
  · skip
    exact absurd (c8.symm.trans hr) (by decide)

set_option maxHeartbeats 4000000 in
set_option maxRecDepth 100000 in
theorem C_X4_append {l : Launch} {G : WG} {μ : Mem} {L : Nat} (hL : μ.1 15 0 0 3 = nI L) (hL6 : L < 60) {a : Int32} (hr : rOk a (nI 33) (nI 126) = true) : Ct l G 1 yX4_append cX4_append 2 (some .int) [.ref (adr G 15 0 0), .int (a)] (μ) (some (.int (nI (L + 1)))) (mset (mset (mset μ 15 0 0 5 (nI 0)) 18 0 0 L a) 15 0 0 3 (nI (L + 1))) := by
  refine Ct_of (by decide +kernel) (Nat.le_of_ble_eq_true rfl) ?_
  refine K_aload_n dX4_append_0 rfl ?_
  refine K_iload_n dX4_append_1 rfl ?_
  refine K_bipush (v := nI 33) dX4_append_2 (by decide) ?_
  refine K_bipush (v := nI 126) dX4_append_4 (by decide) ?_
  refine k_X4_within (C_X4_within ) (by decide) ml_X4_32 (Nat.le_of_ble_eq_true rfl) dX4_append_6 ?_
  refine K_ifb_ne (tgt := 16) dX4_append_9 (by decide) (fun c9 => ?_) (fun c9 => ?_)
  · skip
    refine K_aload_n dX4_append_16 rfl ?_
    refine g_X4_148 dX4_append_17  ?_
    refine K_top hL ?_
    refine K_bipush (v := nI 60) dX4_append_20 (by decide) ?_
    refine K_icmpN_ne (by omega) (by omega) (tgt := 29) dX4_append_22 (by decide) (fun c22 => ?_) (fun c22 => ?_)
    · skip
      refine K_iconstN 0 dX4_append_29 rfl ?_
      refine p_X4_25 dX4_append_30  ?_
      refine K_aload_n dX4_append_33 rfl ?_
      refine g_X4_25 dX4_append_34  ?_
      refine K_top mset_at ?_
      refine K_ifN_le (by omega) (tgt := 42) dX4_append_37 (by decide) (fun c37 => ?_) (fun c37 => absurd c37 (by decide))
      refine K_aload_n dX4_append_42 rfl ?_
      refine g_X4_16 dX4_append_43  ?_
      refine K_aload_n dX4_append_46 rfl ?_
      refine g_X4_148 dX4_append_47  ?_
      refine K_top (show _ = nI L from hL) ?_
      refine K_iload_n dX4_append_50 rfl ?_
      refine ast18 dX4_append_51 (by omega) ?_
      refine K_aload_n dX4_append_52 rfl ?_
      refine K_dup dX4_append_53 rfl ?_
      refine g_X4_148 dX4_append_54  ?_
      refine K_top (show _ = nI L from hL) ?_
      refine K_iconstN 1 dX4_append_57 rfl ?_
      refine K_iaddN dX4_append_58 ?_
      refine p_X4_148 dX4_append_59  ?_
      refine K_aload_n dX4_append_62 rfl ?_
      refine g_X4_148 dX4_append_63  ?_
      refine K_top mset_at ?_
      exact K_iret dX4_append_66 ⟨by rfl, rfl⟩
    · skip
      exfalso; omega
  · skip
    exact absurd (c9.symm.trans hr) (by decide)

set_option maxHeartbeats 4000000 in
set_option maxRecDepth 100000 in
theorem C_X4_append_e1 {l : Launch} {G : WG} {μ : Mem} {a : Int32} (h : rOk a (nI 33) (nI 126) = false) : Ct l G 1 yX4_append cX4_append 2 (some .int) [.ref (adr G 15 0 0), .int (a)] (μ) (some (.int (nI 0))) (mset μ 15 0 0 5 (nI 1)) := by
  refine Ct_of (by decide +kernel) (Nat.le_of_ble_eq_true rfl) ?_
  refine K_aload_n dX4_append_0 rfl ?_
  refine K_iload_n dX4_append_1 rfl ?_
  refine K_bipush (v := nI 33) dX4_append_2 (by decide) ?_
  refine K_bipush (v := nI 126) dX4_append_4 (by decide) ?_
  refine k_X4_within (C_X4_within ) (by decide) ml_X4_32 (Nat.le_of_ble_eq_true rfl) dX4_append_6 ?_
  refine K_ifb_ne (tgt := 16) dX4_append_9 (by decide) (fun c9 => ?_) (fun c9 => ?_)
  · skip
    exact absurd (c9.symm.trans h) (by decide)
  · skip
    refine K_iconstN 1 dX4_append_12 rfl ?_
    refine K_goto (tgt := 30) dX4_append_13 (by decide) ?_
    refine p_X4_25 dX4_append_30  ?_
    refine K_aload_n dX4_append_33 rfl ?_
    refine g_X4_25 dX4_append_34  ?_
    refine K_top mset_at ?_
    refine K_ifN_le (by omega) (tgt := 42) dX4_append_37 (by decide) (fun c37 => absurd c37 (by decide)) (fun c37 => ?_)
    refine K_iconstN 0 dX4_append_40 rfl ?_
    exact K_iret dX4_append_41 ⟨by rfl, rfl⟩

set_option maxHeartbeats 4000000 in
set_option maxRecDepth 100000 in
theorem C_X4_append_e2 {l : Launch} {G : WG} {μ : Mem} (hL : μ.1 15 0 0 3 = nI 60) {a : Int32} (hr : rOk a (nI 33) (nI 126) = true) : Ct l G 1 yX4_append cX4_append 2 (some .int) [.ref (adr G 15 0 0), .int (a)] (μ) (some (.int (nI 0))) (mset μ 15 0 0 5 (nI 2)) := by
  refine Ct_of (by decide +kernel) (Nat.le_of_ble_eq_true rfl) ?_
  refine K_aload_n dX4_append_0 rfl ?_
  refine K_iload_n dX4_append_1 rfl ?_
  refine K_bipush (v := nI 33) dX4_append_2 (by decide) ?_
  refine K_bipush (v := nI 126) dX4_append_4 (by decide) ?_
  refine k_X4_within (C_X4_within ) (by decide) ml_X4_32 (Nat.le_of_ble_eq_true rfl) dX4_append_6 ?_
  refine K_ifb_ne (tgt := 16) dX4_append_9 (by decide) (fun c9 => ?_) (fun c9 => ?_)
  · skip
    refine K_aload_n dX4_append_16 rfl ?_
    refine g_X4_148 dX4_append_17  ?_
    refine K_top hL ?_
    refine K_bipush (v := nI 60) dX4_append_20 (by decide) ?_
    refine K_icmpN_ne (by omega) (by omega) (tgt := 29) dX4_append_22 (by decide) (fun c22 => absurd c22 (by decide)) (fun c22 => ?_)
    refine K_iconstN 2 dX4_append_25 rfl ?_
    refine K_goto (tgt := 30) dX4_append_26 (by decide) ?_
    refine p_X4_25 dX4_append_30  ?_
    refine K_aload_n dX4_append_33 rfl ?_
    refine g_X4_25 dX4_append_34  ?_
    refine K_top mset_at ?_
    refine K_ifN_le (by omega) (tgt := 42) dX4_append_37 (by decide) (fun c37 => absurd c37 (by decide)) (fun c37 => ?_)
    refine K_iconstN 0 dX4_append_40 rfl ?_
    exact K_iret dX4_append_41 ⟨by rfl, rfl⟩
  · skip
    exact absurd (c9.symm.trans hr) (by decide)

set_option maxHeartbeats 4000000 in
set_option maxRecDepth 100000 in
theorem C_X4_clearBuffer {l : Launch} {G : WG} {μ : Mem}  : Ct l G 0 yX4_clearBuffer cX4_clearBuffer 2 (some .int) [.ref (adr G 15 0 0)] (μ) (some (.int (μ.1 15 0 0 3))) (mset (mset μ 15 0 0 5 (nI 0)) 15 0 0 3 (nI 0)) := by
  refine Ct_of (by decide +kernel) (Nat.le_of_ble_eq_true rfl) ?_
  refine K_aload_n dX4_clearBuffer_0 rfl ?_
  refine K_iconstN 0 dX4_clearBuffer_1 rfl ?_
  refine p_X4_25 dX4_clearBuffer_2  ?_
  refine K_aload_n dX4_clearBuffer_5 rfl ?_
  refine g_X4_148 dX4_clearBuffer_6  ?_
  refine K_istore_n dX4_clearBuffer_9 (by decide) rfl ?_
  refine K_aload_n dX4_clearBuffer_10 rfl ?_
  refine K_iconstN 0 dX4_clearBuffer_11 rfl ?_
  refine p_X4_148 dX4_clearBuffer_12  ?_
  refine K_iload_n dX4_clearBuffer_15 rfl ?_
  exact K_iret dX4_clearBuffer_16 ⟨by rfl, rfl⟩

set_option maxHeartbeats 4000000 in
set_option maxRecDepth 100000 in
theorem C_X4_undo {l : Launch} {G : WG} {μ : Mem} {sc : Nat} (hs : μ.1 15 0 0 1 = nI sc) (hs6 : sc ≤ 6) (h0 : 0 < sc) : Ct l G 0 yX4_undo cX4_undo 2 (some .int) [.ref (adr G 15 0 0)] (μ) (some (.int (nI (sc - 1)))) (unK (mset (mset μ 15 0 0 5 (nI 0)) 15 0 0 1 (nI (sc - 1))) (sc - 1) 232) := by
  refine Ct_of (by decide +kernel) (Nat.le_of_ble_eq_true rfl) ?_
  refine K_aload_n dX4_undo_0 rfl ?_
  refine K_aload_n dX4_undo_1 rfl ?_
  refine g_X4_29 dX4_undo_2  ?_
  refine K_top hs ?_
  refine K_ifN_le (by omega) (tgt := 12) dX4_undo_5 (by decide) (fun c5 => ?_) (fun c5 => ?_)
  · skip
    exfalso; omega
  · skip
    refine K_iconstN 0 dX4_undo_8 rfl ?_
    refine K_goto (tgt := 13) dX4_undo_9 (by decide) ?_
    refine p_X4_25 dX4_undo_13  ?_
    refine K_aload_n dX4_undo_16 rfl ?_
    refine g_X4_25 dX4_undo_17  ?_
    refine K_top mset_at ?_
    refine K_ifN_le (by omega) (tgt := 25) dX4_undo_20 (by decide) (fun c20 => ?_) (fun c20 => absurd c20 (by decide))
    refine K_aload_n dX4_undo_25 rfl ?_
    refine K_dup dX4_undo_26 rfl ?_
    refine g_X4_29 dX4_undo_27  ?_
    refine K_top (show _ = nI sc from hs) ?_
    refine K_iconstN 1 dX4_undo_30 rfl ?_
    refine K_isubN (by omega) dX4_undo_31 ?_
    refine p_X4_29 dX4_undo_32  ?_
    refine K_iconstN 0 dX4_undo_35 rfl ?_
    refine K_istore_n dX4_undo_36 (by decide) rfl ?_
    refine K_lv [0, 1] rfl ?_
    refine K_for (232) (fun k => [(0, .ref (adr G 15 0 0)), (1, .int (nI k))]) (fun k => unK (mset (mset μ 15 0 0 5 (nI 0)) 15 0 0 1 (nI (sc - 1))) (sc - 1) k) ?_ ?_
    · skip
      refine K_iload_n dX4_undo_37 rfl ?_
      refine K_sipush (v := nI 232) dX4_undo_38 (by decide) ?_
      refine K_icmpN_ge (by omega) (by omega) (tgt := 71) dX4_undo_41 (by decide) (fun c41 => ?_) (fun c41 => ?_)
      · skip
        refine K_aload_n dX4_undo_71 rfl ?_
        refine g_X4_29 dX4_undo_72  ?_
        refine K_top (show _ = nI (sc - 1) by rw [unK_tag (by decide)]; exact mset_at) ?_
        exact K_iret dX4_undo_75 ⟨by rfl, rfl⟩
      · skip
        exfalso; omega
    · intro k hk_k ih_1
      refine K_iload_n dX4_undo_37 rfl ?_
      refine K_sipush (v := nI 232) dX4_undo_38 (by decide) ?_
      refine K_icmpN_ge (by omega) (by omega) (tgt := 71) dX4_undo_41 (by decide) (fun c41 => ?_) (fun c41 => ?_)
      · skip
        exfalso; omega
      · skip
        refine K_aload_n dX4_undo_44 rfl ?_
        refine g_X4_7 dX4_undo_45  ?_
        refine K_iload_n dX4_undo_48 rfl ?_
        refine K_aload_n dX4_undo_49 rfl ?_
        refine g_X4_13 dX4_undo_50  ?_
        refine K_sipush (v := nI 232) dX4_undo_53 (by decide) ?_
        refine K_aload_n dX4_undo_56 rfl ?_
        refine g_X4_29 dX4_undo_57  ?_
        refine K_top (show _ = nI (sc - 1) by rw [unK_tag (by decide)]; exact mset_at) ?_
        refine K_imulN dX4_undo_60 ?_
        refine K_iload_n dX4_undo_61 rfl ?_
        refine K_iaddN dX4_undo_62 ?_
        refine ald17 dX4_undo_63 (by omega) ?_
        refine ast16 dX4_undo_64 (by omega) ?_
        refine K_iincN (b := 1) dX4_undo_65 rfl rfl (by decide) rfl ?_
        refine K_goto (tgt := 37) dX4_undo_68 (by decide) ?_
        exact K_lv [0, 1] rfl ih_1

set_option maxHeartbeats 4000000 in
set_option maxRecDepth 100000 in
theorem C_X4_undo_e1 {l : Launch} {G : WG} {μ : Mem} (hs : μ.1 15 0 0 1 = nI 0) : Ct l G 0 yX4_undo cX4_undo 2 (some .int) [.ref (adr G 15 0 0)] (μ) (some (.int (nI 0))) (mset μ 15 0 0 5 (nI 1)) := by
  refine Ct_of (by decide +kernel) (Nat.le_of_ble_eq_true rfl) ?_
  refine K_aload_n dX4_undo_0 rfl ?_
  refine K_aload_n dX4_undo_1 rfl ?_
  refine g_X4_29 dX4_undo_2  ?_
  refine K_top hs ?_
  refine K_ifN_le (by omega) (tgt := 12) dX4_undo_5 (by decide) (fun c5 => ?_) (fun c5 => ?_)
  · skip
    refine K_iconstN 1 dX4_undo_12 rfl ?_
    refine p_X4_25 dX4_undo_13  ?_
    refine K_aload_n dX4_undo_16 rfl ?_
    refine g_X4_25 dX4_undo_17  ?_
    refine K_top mset_at ?_
    refine K_ifN_le (by omega) (tgt := 25) dX4_undo_20 (by decide) (fun c20 => absurd c20 (by decide)) (fun c20 => ?_)
    refine K_iconstN 0 dX4_undo_23 rfl ?_
    exact K_iret dX4_undo_24 ⟨by rfl, rfl⟩
  · skip
    exfalso; omega

def apK (z : Zr) (n : Nat) : Nat → Zr
  | 0 => upd z 9 (nI (n + 1))
  | k + 1 => zput (apK z n k) n k (nI 0)
def zApp (z : Zr) (n : Nat) : Zr := zput (apK z n 37) n 0 (-1)

set_option maxHeartbeats 4000000 in
set_option maxRecDepth 100000 in
theorem C_X4_addPhase {l : Launch} {G : WG} {μ : Mem} {z : Zr} (hz : μ.1 16 0 0 = z) {n : Nat} (hZ : ZI z n) {sc : Nat} (hs : μ.1 15 0 0 1 = nI sc) (hs6 : sc ≤ 6) (hn : n < 6) : Ct l G 1 yX4_addPhase cX4_addPhase 3 (some .int) [.ref (adr G 15 0 0)] (μ) (some (.int (nI n))) (zmem (mSave (mset μ 15 0 0 5 (nI 0)) sc) (zApp z n)) := by
  refine Ct_of (by decide +kernel) (Nat.le_of_ble_eq_true rfl) ?_
  subst hz
  refine K_aload_n dX4_addPhase_0 rfl ?_
  refine K_aload_n dX4_addPhase_1 rfl ?_
  refine g_X4_7 dX4_addPhase_2  ?_
  refine K_bipush (v := nI 9) dX4_addPhase_5 (by decide) ?_
  refine ald16 dX4_addPhase_7 (by omega) ?_
  refine K_top hZ.1 ?_
  refine K_bipush (v := nI 6) dX4_addPhase_8 (by decide) ?_
  refine K_icmpN_ne (by omega) (by omega) (tgt := 17) dX4_addPhase_10 (by decide) (fun c10 => ?_) (fun c10 => ?_)
  · skip
    refine K_iconstN 0 dX4_addPhase_17 rfl ?_
    refine p_X4_25 dX4_addPhase_18  ?_
    refine K_aload_n dX4_addPhase_21 rfl ?_
    refine g_X4_25 dX4_addPhase_22  ?_
    refine K_top mset_at ?_
    refine K_ifN_le (by omega) (tgt := 30) dX4_addPhase_25 (by decide) (fun c25 => ?_) (fun c25 => absurd c25 (by decide))
    refine K_aload_n dX4_addPhase_30 rfl ?_
    refine k_X4_save (C_X4_save (sc := sc) (by exact hs) hs6) (by decide)  ml_X4_77 (Nat.le_of_ble_eq_true rfl) dX4_addPhase_31 ?_
    refine K_mem (zself (show (mSave (mset μ 15 0 0 5 (nI 0)) sc).1 16 0 0 = μ.1 16 0 0 by rw [mSave_16]; rfl)).symm ?_
    refine K_aload_n dX4_addPhase_34 rfl ?_
    refine g_X4_7 dX4_addPhase_35  ?_
    refine K_bipush (v := nI 9) dX4_addPhase_38 (by decide) ?_
    refine ald16 dX4_addPhase_40 (by omega) ?_
    refine K_top (show _ = nI n from (congrFun zmem_16 _).trans hZ.1) ?_
    refine K_istore_n dX4_addPhase_41 (by decide) rfl ?_
    refine K_aload_n dX4_addPhase_42 rfl ?_
    refine g_X4_7 dX4_addPhase_43  ?_
    refine K_bipush (v := nI 9) dX4_addPhase_46 (by decide) ?_
    refine K_dup2_11 dX4_addPhase_48 rfl rfl ?_
    refine ald16 dX4_addPhase_49 (by omega) ?_
    refine K_top (show _ = nI n from (congrFun zmem_16 _).trans hZ.1) ?_
    refine K_iconstN 1 dX4_addPhase_50 rfl ?_
    refine K_iaddN dX4_addPhase_51 ?_
    refine ast16 dX4_addPhase_52 (by omega) ?_
    refine K_mem zmem_put ?_
    refine K_iconstN 0 dX4_addPhase_53 rfl ?_
    refine K_istore_n dX4_addPhase_54 (by decide) rfl ?_
    refine K_lv [0, 1, 2] rfl ?_
    refine K_for (37) (fun k => [(0, .ref (adr G 15 0 0)), (1, .int (nI n)), (2, .int (nI k))]) (fun k => zmem (mSave (mset μ 15 0 0 5 (nI 0)) sc) (apK (μ.1 16 0 0) n k)) ?_ ?_
    · skip
      refine K_iload_n dX4_addPhase_55 rfl ?_
      refine K_bipush (v := nI 37) dX4_addPhase_56 (by decide) ?_
      refine K_icmpN_ge (by omega) (by omega) (tgt := 74) dX4_addPhase_58 (by decide) (fun c58 => ?_) (fun c58 => ?_)
      · skip
        refine K_aload_n dX4_addPhase_74 rfl ?_
        refine K_iload_n dX4_addPhase_75 rfl ?_
        refine K_iconstN 0 dX4_addPhase_76 rfl ?_
        refine K_iconst (v := -1) dX4_addPhase_77 (by decide) ?_
        refine k_X4_put (C_X4_put (by omega) (by omega)) (by decide)  ml_X4_80 (Nat.le_of_ble_eq_true rfl) dX4_addPhase_78 ?_
        refine K_iload_n dX4_addPhase_81 rfl ?_
        exact K_iret dX4_addPhase_82 ⟨by rfl, rfl⟩
      · skip
        exfalso; omega
    · intro k hk_k ih_1
      refine K_iload_n dX4_addPhase_55 rfl ?_
      refine K_bipush (v := nI 37) dX4_addPhase_56 (by decide) ?_
      refine K_icmpN_ge (by omega) (by omega) (tgt := 74) dX4_addPhase_58 (by decide) (fun c58 => ?_) (fun c58 => ?_)
      · skip
        exfalso; omega
      · skip
        refine K_aload_n dX4_addPhase_61 rfl ?_
        refine K_iload_n dX4_addPhase_62 rfl ?_
        refine K_iload_n dX4_addPhase_63 rfl ?_
        refine K_iconstN 0 dX4_addPhase_64 rfl ?_
        refine k_X4_put (C_X4_put (by omega) (by omega)) (by decide)  ml_X4_80 (Nat.le_of_ble_eq_true rfl) dX4_addPhase_65 ?_
        refine K_iincN (b := 1) dX4_addPhase_68 rfl rfl (by decide) rfl ?_
        refine K_goto (tgt := 55) dX4_addPhase_71 (by decide) ?_
        exact K_lv [0, 1, 2] rfl ih_1
  · skip
    exfalso; omega

set_option maxHeartbeats 4000000 in
set_option maxRecDepth 100000 in
theorem C_X4_addPhase_e1 {l : Launch} {G : WG} {μ : Mem} {z : Zr} (hz : μ.1 16 0 0 = z) {n : Nat} (hZ : ZI z n) (hn : n = 6) : Ct l G 0 yX4_addPhase cX4_addPhase 3 (some .int) [.ref (adr G 15 0 0)] (μ) (some (.int (nI 0))) (mset μ 15 0 0 5 (nI 1)) := by
  refine Ct_of (by decide +kernel) (Nat.le_of_ble_eq_true rfl) ?_
  subst hz
  have hn6 := hZ.2.1
  refine K_aload_n dX4_addPhase_0 rfl ?_
  refine K_aload_n dX4_addPhase_1 rfl ?_
  refine g_X4_7 dX4_addPhase_2  ?_
  refine K_bipush (v := nI 9) dX4_addPhase_5 (by decide) ?_
  refine ald16 dX4_addPhase_7 (by omega) ?_
  refine K_top hZ.1 ?_
  refine K_bipush (v := nI 6) dX4_addPhase_8 (by decide) ?_
  refine K_icmpN_ne (by omega) (by omega) (tgt := 17) dX4_addPhase_10 (by decide) (fun c10 => ?_) (fun c10 => ?_)
  · skip
    exfalso; omega
  · skip
    refine K_iconstN 1 dX4_addPhase_13 rfl ?_
    refine K_goto (tgt := 18) dX4_addPhase_14 (by decide) ?_
    refine p_X4_25 dX4_addPhase_18  ?_
    refine K_aload_n dX4_addPhase_21 rfl ?_
    refine g_X4_25 dX4_addPhase_22  ?_
    refine K_top mset_at ?_
    refine K_ifN_le (by omega) (tgt := 30) dX4_addPhase_25 (by decide) (fun c25 => absurd c25 (by decide)) (fun c25 => ?_)
    refine K_iconstN 0 dX4_addPhase_28 rfl ?_
    exact K_iret dX4_addPhase_29 ⟨by rfl, rfl⟩

set_option maxHeartbeats 4000000 in
set_option maxRecDepth 100000 in
theorem C_X4_phase0 {l : Launch} {G : WG} {μ : Mem} {z : Zr} (hz : μ.1 16 0 0 = z) {n : Nat} (hZ : ZI z n) {p : Nat} (hp : p < n) : Ct l G 2 yX4_phase cX4_phase 3 (some .int) [.ref (adr G 15 0 0), .int (nI p), .int (nI 0)] (μ) (some (.int (mPhase z p 0))) (mset μ 15 0 0 5 (nI 0)) := by
  refine Ct_of (by decide +kernel) (Nat.le_of_ble_eq_true rfl) ?_
  subst hz
  have hp6 : p < 6 := Nat.lt_of_lt_of_le hp hZ.2.1
  have hph := cHas_nat hp hZ.2.1
  have hrr := rOk_nat (w := 0) (b := 13) (by omega) (by omega)
  refine K_aload_n dX4_phase_0 rfl ?_
  refine K_aload_n dX4_phase_1 rfl ?_
  refine K_iload_n dX4_phase_2 rfl ?_
  refine k_X4_isPhase (C_X4_isPhase rfl hZ) (by decide)  ml_X4_84 (Nat.le_of_ble_eq_true rfl) dX4_phase_3 ?_
  refine K_ifb_ne (tgt := 13) dX4_phase_6 (by decide) (fun c6 => ?_) (fun c6 => ?_)
  · skip
    refine K_iload_n dX4_phase_13 rfl ?_
    refine K_iconstN 0 dX4_phase_14 rfl ?_
    refine K_bipush (v := nI 13) dX4_phase_15 (by decide) ?_
    refine k_X4_within (C_X4_within ) (by decide) ml_X4_32 (Nat.le_of_ble_eq_true rfl) dX4_phase_17 ?_
    refine K_ifb_eq (tgt := 27) dX4_phase_20 (by decide) (fun c20 => ?_) (fun c20 => ?_)
    · skip
      exact absurd (c20.symm.trans hrr) (by decide)
    · skip
      refine K_iconstN 0 dX4_phase_23 rfl ?_
      refine K_goto (tgt := 28) dX4_phase_24 (by decide) ?_
      refine p_X4_25 dX4_phase_28  ?_
      refine K_aload_n dX4_phase_31 rfl ?_
      refine g_X4_25 dX4_phase_32  ?_
      refine K_top mset_at ?_
      refine K_ifN_le (by omega) (tgt := 42) dX4_phase_35 (by decide) (fun c35 => ?_) (fun c35 => absurd c35 (by decide))
      refine K_aload_n dX4_phase_42 rfl ?_
      refine K_iload_n dX4_phase_43 rfl ?_
      refine K_iload_n dX4_phase_44 rfl ?_
      refine k_X4_phaseNow (C_X4_phaseNow0 rfl (by omega) hZ) (by decide)  ml_X4_194 (Nat.le_of_ble_eq_true rfl) dX4_phase_45 ?_
      exact K_iret dX4_phase_48 ⟨by rfl, rfl⟩
  · skip
    exact absurd (c6.symm.trans hph) (by decide)

set_option maxHeartbeats 4000000 in
set_option maxRecDepth 100000 in
theorem C_X4_phase1 {l : Launch} {G : WG} {μ : Mem} {z : Zr} (hz : μ.1 16 0 0 = z) {n : Nat} (hZ : ZI z n) {p : Nat} (hp : p < n) : Ct l G 6 yX4_phase cX4_phase 3 (some .int) [.ref (adr G 15 0 0), .int (nI p), .int (nI 1)] (μ) (some (.int (mPhase z p 1))) (mset μ 15 0 0 5 (nI 0)) := by
  refine Ct_of (by decide +kernel) (Nat.le_of_ble_eq_true rfl) ?_
  subst hz
  have hp6 : p < 6 := Nat.lt_of_lt_of_le hp hZ.2.1
  have hph := cHas_nat hp hZ.2.1
  have hrr := rOk_nat (w := 1) (b := 13) (by omega) (by omega)
  refine K_aload_n dX4_phase_0 rfl ?_
  refine K_aload_n dX4_phase_1 rfl ?_
  refine K_iload_n dX4_phase_2 rfl ?_
  refine k_X4_isPhase (C_X4_isPhase rfl hZ) (by decide)  ml_X4_84 (Nat.le_of_ble_eq_true rfl) dX4_phase_3 ?_
  refine K_ifb_ne (tgt := 13) dX4_phase_6 (by decide) (fun c6 => ?_) (fun c6 => ?_)
  · skip
    refine K_iload_n dX4_phase_13 rfl ?_
    refine K_iconstN 0 dX4_phase_14 rfl ?_
    refine K_bipush (v := nI 13) dX4_phase_15 (by decide) ?_
    refine k_X4_within (C_X4_within ) (by decide) ml_X4_32 (Nat.le_of_ble_eq_true rfl) dX4_phase_17 ?_
    refine K_ifb_eq (tgt := 27) dX4_phase_20 (by decide) (fun c20 => ?_) (fun c20 => ?_)
    · skip
      exact absurd (c20.symm.trans hrr) (by decide)
    · skip
      refine K_iconstN 0 dX4_phase_23 rfl ?_
      refine K_goto (tgt := 28) dX4_phase_24 (by decide) ?_
      refine p_X4_25 dX4_phase_28  ?_
      refine K_aload_n dX4_phase_31 rfl ?_
      refine g_X4_25 dX4_phase_32  ?_
      refine K_top mset_at ?_
      refine K_ifN_le (by omega) (tgt := 42) dX4_phase_35 (by decide) (fun c35 => ?_) (fun c35 => absurd c35 (by decide))
      refine K_aload_n dX4_phase_42 rfl ?_
      refine K_iload_n dX4_phase_43 rfl ?_
      refine K_iload_n dX4_phase_44 rfl ?_
      refine k_X4_phaseNow (C_X4_phaseNow1 rfl (by omega) hZ) (by decide)  ml_X4_194 (Nat.le_of_ble_eq_true rfl) dX4_phase_45 ?_
      exact K_iret dX4_phase_48 ⟨by rfl, rfl⟩
  · skip
    exact absurd (c6.symm.trans hph) (by decide)

set_option maxHeartbeats 4000000 in
set_option maxRecDepth 100000 in
theorem C_X4_phase2 {l : Launch} {G : WG} {μ : Mem} {z : Zr} (hz : μ.1 16 0 0 = z) {n : Nat} (hZ : ZI z n) {p : Nat} (hp : p < n) : Ct l G 5 yX4_phase cX4_phase 3 (some .int) [.ref (adr G 15 0 0), .int (nI p), .int (nI 2)] (μ) (some (.int (mPhase z p 2))) (mset μ 15 0 0 5 (nI 0)) := by
  refine Ct_of (by decide +kernel) (Nat.le_of_ble_eq_true rfl) ?_
  subst hz
  have hp6 : p < 6 := Nat.lt_of_lt_of_le hp hZ.2.1
  have hph := cHas_nat hp hZ.2.1
  have hrr := rOk_nat (w := 2) (b := 13) (by omega) (by omega)
  refine K_aload_n dX4_phase_0 rfl ?_
  refine K_aload_n dX4_phase_1 rfl ?_
  refine K_iload_n dX4_phase_2 rfl ?_
  refine k_X4_isPhase (C_X4_isPhase rfl hZ) (by decide)  ml_X4_84 (Nat.le_of_ble_eq_true rfl) dX4_phase_3 ?_
  refine K_ifb_ne (tgt := 13) dX4_phase_6 (by decide) (fun c6 => ?_) (fun c6 => ?_)
  · skip
    refine K_iload_n dX4_phase_13 rfl ?_
    refine K_iconstN 0 dX4_phase_14 rfl ?_
    refine K_bipush (v := nI 13) dX4_phase_15 (by decide) ?_
    refine k_X4_within (C_X4_within ) (by decide) ml_X4_32 (Nat.le_of_ble_eq_true rfl) dX4_phase_17 ?_
    refine K_ifb_eq (tgt := 27) dX4_phase_20 (by decide) (fun c20 => ?_) (fun c20 => ?_)
    · skip
      exact absurd (c20.symm.trans hrr) (by decide)
    · skip
      refine K_iconstN 0 dX4_phase_23 rfl ?_
      refine K_goto (tgt := 28) dX4_phase_24 (by decide) ?_
      refine p_X4_25 dX4_phase_28  ?_
      refine K_aload_n dX4_phase_31 rfl ?_
      refine g_X4_25 dX4_phase_32  ?_
      refine K_top mset_at ?_
      refine K_ifN_le (by omega) (tgt := 42) dX4_phase_35 (by decide) (fun c35 => ?_) (fun c35 => absurd c35 (by decide))
      refine K_aload_n dX4_phase_42 rfl ?_
      refine K_iload_n dX4_phase_43 rfl ?_
      refine K_iload_n dX4_phase_44 rfl ?_
      refine k_X4_phaseNow (C_X4_phaseNow2 rfl (by omega) hZ) (by decide)  ml_X4_194 (Nat.le_of_ble_eq_true rfl) dX4_phase_45 ?_
      exact K_iret dX4_phase_48 ⟨by rfl, rfl⟩
  · skip
    exact absurd (c6.symm.trans hph) (by decide)

set_option maxHeartbeats 4000000 in
set_option maxRecDepth 100000 in
theorem C_X4_phase3 {l : Launch} {G : WG} {μ : Mem} {z : Zr} (hz : μ.1 16 0 0 = z) {n : Nat} (hZ : ZI z n) {p : Nat} (hp : p < n) : Ct l G 4 yX4_phase cX4_phase 3 (some .int) [.ref (adr G 15 0 0), .int (nI p), .int (nI 3)] (μ) (some (.int (mPhase z p 3))) (mset μ 15 0 0 5 (nI 0)) := by
  refine Ct_of (by decide +kernel) (Nat.le_of_ble_eq_true rfl) ?_
  subst hz
  have hp6 : p < 6 := Nat.lt_of_lt_of_le hp hZ.2.1
  have hph := cHas_nat hp hZ.2.1
  have hrr := rOk_nat (w := 3) (b := 13) (by omega) (by omega)
  refine K_aload_n dX4_phase_0 rfl ?_
  refine K_aload_n dX4_phase_1 rfl ?_
  refine K_iload_n dX4_phase_2 rfl ?_
  refine k_X4_isPhase (C_X4_isPhase rfl hZ) (by decide)  ml_X4_84 (Nat.le_of_ble_eq_true rfl) dX4_phase_3 ?_
  refine K_ifb_ne (tgt := 13) dX4_phase_6 (by decide) (fun c6 => ?_) (fun c6 => ?_)
  · skip
    refine K_iload_n dX4_phase_13 rfl ?_
    refine K_iconstN 0 dX4_phase_14 rfl ?_
    refine K_bipush (v := nI 13) dX4_phase_15 (by decide) ?_
    refine k_X4_within (C_X4_within ) (by decide) ml_X4_32 (Nat.le_of_ble_eq_true rfl) dX4_phase_17 ?_
    refine K_ifb_eq (tgt := 27) dX4_phase_20 (by decide) (fun c20 => ?_) (fun c20 => ?_)
    · skip
      exact absurd (c20.symm.trans hrr) (by decide)
    · skip
      refine K_iconstN 0 dX4_phase_23 rfl ?_
      refine K_goto (tgt := 28) dX4_phase_24 (by decide) ?_
      refine p_X4_25 dX4_phase_28  ?_
      refine K_aload_n dX4_phase_31 rfl ?_
      refine g_X4_25 dX4_phase_32  ?_
      refine K_top mset_at ?_
      refine K_ifN_le (by omega) (tgt := 42) dX4_phase_35 (by decide) (fun c35 => ?_) (fun c35 => absurd c35 (by decide))
      refine K_aload_n dX4_phase_42 rfl ?_
      refine K_iload_n dX4_phase_43 rfl ?_
      refine K_iload_n dX4_phase_44 rfl ?_
      refine k_X4_phaseNow (C_X4_phaseNow3 rfl (by omega) hZ) (by decide)  ml_X4_194 (Nat.le_of_ble_eq_true rfl) dX4_phase_45 ?_
      exact K_iret dX4_phase_48 ⟨by rfl, rfl⟩
  · skip
    exact absurd (c6.symm.trans hph) (by decide)

set_option maxHeartbeats 4000000 in
set_option maxRecDepth 100000 in
theorem C_X4_phase4 {l : Launch} {G : WG} {μ : Mem} {z : Zr} (hz : μ.1 16 0 0 = z) {n : Nat} (hZ : ZI z n) {p : Nat} (hp : p < n) : Ct l G 5 yX4_phase cX4_phase 3 (some .int) [.ref (adr G 15 0 0), .int (nI p), .int (nI 4)] (μ) (some (.int (mPhase z p 4))) (mset μ 15 0 0 5 (nI 0)) := by
  refine Ct_of (by decide +kernel) (Nat.le_of_ble_eq_true rfl) ?_
  subst hz
  have hp6 : p < 6 := Nat.lt_of_lt_of_le hp hZ.2.1
  have hph := cHas_nat hp hZ.2.1
  have hrr := rOk_nat (w := 4) (b := 13) (by omega) (by omega)
  refine K_aload_n dX4_phase_0 rfl ?_
  refine K_aload_n dX4_phase_1 rfl ?_
  refine K_iload_n dX4_phase_2 rfl ?_
  refine k_X4_isPhase (C_X4_isPhase rfl hZ) (by decide)  ml_X4_84 (Nat.le_of_ble_eq_true rfl) dX4_phase_3 ?_
  refine K_ifb_ne (tgt := 13) dX4_phase_6 (by decide) (fun c6 => ?_) (fun c6 => ?_)
  · skip
    refine K_iload_n dX4_phase_13 rfl ?_
    refine K_iconstN 0 dX4_phase_14 rfl ?_
    refine K_bipush (v := nI 13) dX4_phase_15 (by decide) ?_
    refine k_X4_within (C_X4_within ) (by decide) ml_X4_32 (Nat.le_of_ble_eq_true rfl) dX4_phase_17 ?_
    refine K_ifb_eq (tgt := 27) dX4_phase_20 (by decide) (fun c20 => ?_) (fun c20 => ?_)
    · skip
      exact absurd (c20.symm.trans hrr) (by decide)
    · skip
      refine K_iconstN 0 dX4_phase_23 rfl ?_
      refine K_goto (tgt := 28) dX4_phase_24 (by decide) ?_
      refine p_X4_25 dX4_phase_28  ?_
      refine K_aload_n dX4_phase_31 rfl ?_
      refine g_X4_25 dX4_phase_32  ?_
      refine K_top mset_at ?_
      refine K_ifN_le (by omega) (tgt := 42) dX4_phase_35 (by decide) (fun c35 => ?_) (fun c35 => absurd c35 (by decide))
      refine K_aload_n dX4_phase_42 rfl ?_
      refine K_iload_n dX4_phase_43 rfl ?_
      refine K_iload_n dX4_phase_44 rfl ?_
      refine k_X4_phaseNow (C_X4_phaseNow4 rfl (by omega) hZ) (by decide)  ml_X4_194 (Nat.le_of_ble_eq_true rfl) dX4_phase_45 ?_
      exact K_iret dX4_phase_48 ⟨by rfl, rfl⟩
  · skip
    exact absurd (c6.symm.trans hph) (by decide)

set_option maxHeartbeats 4000000 in
set_option maxRecDepth 100000 in
theorem C_X4_phase5 {l : Launch} {G : WG} {μ : Mem} {z : Zr} (hz : μ.1 16 0 0 = z) {n : Nat} (hZ : ZI z n) {p : Nat} (hp : p < n) : Ct l G 2 yX4_phase cX4_phase 3 (some .int) [.ref (adr G 15 0 0), .int (nI p), .int (nI 5)] (μ) (some (.int (mPhase z p 5))) (mset μ 15 0 0 5 (nI 0)) := by
  refine Ct_of (by decide +kernel) (Nat.le_of_ble_eq_true rfl) ?_
  subst hz
  have hp6 : p < 6 := Nat.lt_of_lt_of_le hp hZ.2.1
  have hph := cHas_nat hp hZ.2.1
  have hrr := rOk_nat (w := 5) (b := 13) (by omega) (by omega)
  refine K_aload_n dX4_phase_0 rfl ?_
  refine K_aload_n dX4_phase_1 rfl ?_
  refine K_iload_n dX4_phase_2 rfl ?_
  refine k_X4_isPhase (C_X4_isPhase rfl hZ) (by decide)  ml_X4_84 (Nat.le_of_ble_eq_true rfl) dX4_phase_3 ?_
  refine K_ifb_ne (tgt := 13) dX4_phase_6 (by decide) (fun c6 => ?_) (fun c6 => ?_)
  · skip
    refine K_iload_n dX4_phase_13 rfl ?_
    refine K_iconstN 0 dX4_phase_14 rfl ?_
    refine K_bipush (v := nI 13) dX4_phase_15 (by decide) ?_
    refine k_X4_within (C_X4_within ) (by decide) ml_X4_32 (Nat.le_of_ble_eq_true rfl) dX4_phase_17 ?_
    refine K_ifb_eq (tgt := 27) dX4_phase_20 (by decide) (fun c20 => ?_) (fun c20 => ?_)
    · skip
      exact absurd (c20.symm.trans hrr) (by decide)
    · skip
      refine K_iconstN 0 dX4_phase_23 rfl ?_
      refine K_goto (tgt := 28) dX4_phase_24 (by decide) ?_
      refine p_X4_25 dX4_phase_28  ?_
      refine K_aload_n dX4_phase_31 rfl ?_
      refine g_X4_25 dX4_phase_32  ?_
      refine K_top mset_at ?_
      refine K_ifN_le (by omega) (tgt := 42) dX4_phase_35 (by decide) (fun c35 => ?_) (fun c35 => absurd c35 (by decide))
      refine K_aload_n dX4_phase_42 rfl ?_
      refine K_iload_n dX4_phase_43 rfl ?_
      refine K_iload_n dX4_phase_44 rfl ?_
      refine k_X4_phaseNow (C_X4_phaseNow5 rfl (by omega) hZ) (by decide)  ml_X4_194 (Nat.le_of_ble_eq_true rfl) dX4_phase_45 ?_
      exact K_iret dX4_phase_48 ⟨by rfl, rfl⟩
  · skip
    exact absurd (c6.symm.trans hph) (by decide)

set_option maxHeartbeats 4000000 in
set_option maxRecDepth 100000 in
theorem C_X4_phase6 {l : Launch} {G : WG} {μ : Mem} {z : Zr} (hz : μ.1 16 0 0 = z) {n : Nat} (hZ : ZI z n) {p : Nat} (hp : p < n) : Ct l G 2 yX4_phase cX4_phase 3 (some .int) [.ref (adr G 15 0 0), .int (nI p), .int (nI 6)] (μ) (some (.int (mPhase z p 6))) (mset μ 15 0 0 5 (nI 0)) := by
  refine Ct_of (by decide +kernel) (Nat.le_of_ble_eq_true rfl) ?_
  subst hz
  have hp6 : p < 6 := Nat.lt_of_lt_of_le hp hZ.2.1
  have hph := cHas_nat hp hZ.2.1
  have hrr := rOk_nat (w := 6) (b := 13) (by omega) (by omega)
  refine K_aload_n dX4_phase_0 rfl ?_
  refine K_aload_n dX4_phase_1 rfl ?_
  refine K_iload_n dX4_phase_2 rfl ?_
  refine k_X4_isPhase (C_X4_isPhase rfl hZ) (by decide)  ml_X4_84 (Nat.le_of_ble_eq_true rfl) dX4_phase_3 ?_
  refine K_ifb_ne (tgt := 13) dX4_phase_6 (by decide) (fun c6 => ?_) (fun c6 => ?_)
  · skip
    refine K_iload_n dX4_phase_13 rfl ?_
    refine K_iconstN 0 dX4_phase_14 rfl ?_
    refine K_bipush (v := nI 13) dX4_phase_15 (by decide) ?_
    refine k_X4_within (C_X4_within ) (by decide) ml_X4_32 (Nat.le_of_ble_eq_true rfl) dX4_phase_17 ?_
    refine K_ifb_eq (tgt := 27) dX4_phase_20 (by decide) (fun c20 => ?_) (fun c20 => ?_)
    · skip
      exact absurd (c20.symm.trans hrr) (by decide)
    · skip
      refine K_iconstN 0 dX4_phase_23 rfl ?_
      refine K_goto (tgt := 28) dX4_phase_24 (by decide) ?_
      refine p_X4_25 dX4_phase_28  ?_
      refine K_aload_n dX4_phase_31 rfl ?_
      refine g_X4_25 dX4_phase_32  ?_
      refine K_top mset_at ?_
      refine K_ifN_le (by omega) (tgt := 42) dX4_phase_35 (by decide) (fun c35 => ?_) (fun c35 => absurd c35 (by decide))
      refine K_aload_n dX4_phase_42 rfl ?_
      refine K_iload_n dX4_phase_43 rfl ?_
      refine K_iload_n dX4_phase_44 rfl ?_
      refine k_X4_phaseNow (C_X4_phaseNow6 rfl (by omega) hZ) (by decide)  ml_X4_194 (Nat.le_of_ble_eq_true rfl) dX4_phase_45 ?_
      exact K_iret dX4_phase_48 ⟨by rfl, rfl⟩
  · skip
    exact absurd (c6.symm.trans hph) (by decide)

set_option maxHeartbeats 4000000 in
set_option maxRecDepth 100000 in
theorem C_X4_phase7 {l : Launch} {G : WG} {μ : Mem} {z : Zr} (hz : μ.1 16 0 0 = z) {n : Nat} (hZ : ZI z n) {p : Nat} (hp : p < n) : Ct l G 2 yX4_phase cX4_phase 3 (some .int) [.ref (adr G 15 0 0), .int (nI p), .int (nI 7)] (μ) (some (.int (mPhase z p 7))) (mset μ 15 0 0 5 (nI 0)) := by
  refine Ct_of (by decide +kernel) (Nat.le_of_ble_eq_true rfl) ?_
  subst hz
  have hp6 : p < 6 := Nat.lt_of_lt_of_le hp hZ.2.1
  have hph := cHas_nat hp hZ.2.1
  have hrr := rOk_nat (w := 7) (b := 13) (by omega) (by omega)
  refine K_aload_n dX4_phase_0 rfl ?_
  refine K_aload_n dX4_phase_1 rfl ?_
  refine K_iload_n dX4_phase_2 rfl ?_
  refine k_X4_isPhase (C_X4_isPhase rfl hZ) (by decide)  ml_X4_84 (Nat.le_of_ble_eq_true rfl) dX4_phase_3 ?_
  refine K_ifb_ne (tgt := 13) dX4_phase_6 (by decide) (fun c6 => ?_) (fun c6 => ?_)
  · skip
    refine K_iload_n dX4_phase_13 rfl ?_
    refine K_iconstN 0 dX4_phase_14 rfl ?_
    refine K_bipush (v := nI 13) dX4_phase_15 (by decide) ?_
    refine k_X4_within (C_X4_within ) (by decide) ml_X4_32 (Nat.le_of_ble_eq_true rfl) dX4_phase_17 ?_
    refine K_ifb_eq (tgt := 27) dX4_phase_20 (by decide) (fun c20 => ?_) (fun c20 => ?_)
    · skip
      exact absurd (c20.symm.trans hrr) (by decide)
    · skip
      refine K_iconstN 0 dX4_phase_23 rfl ?_
      refine K_goto (tgt := 28) dX4_phase_24 (by decide) ?_
      refine p_X4_25 dX4_phase_28  ?_
      refine K_aload_n dX4_phase_31 rfl ?_
      refine g_X4_25 dX4_phase_32  ?_
      refine K_top mset_at ?_
      refine K_ifN_le (by omega) (tgt := 42) dX4_phase_35 (by decide) (fun c35 => ?_) (fun c35 => absurd c35 (by decide))
      refine K_aload_n dX4_phase_42 rfl ?_
      refine K_iload_n dX4_phase_43 rfl ?_
      refine K_iload_n dX4_phase_44 rfl ?_
      refine k_X4_phaseNow (C_X4_phaseNow7 rfl (by omega) hZ) (by decide)  ml_X4_194 (Nat.le_of_ble_eq_true rfl) dX4_phase_45 ?_
      exact K_iret dX4_phase_48 ⟨by rfl, rfl⟩
  · skip
    exact absurd (c6.symm.trans hph) (by decide)

set_option maxHeartbeats 4000000 in
set_option maxRecDepth 100000 in
theorem C_X4_phase8 {l : Launch} {G : WG} {μ : Mem} {z : Zr} (hz : μ.1 16 0 0 = z) {n : Nat} (hZ : ZI z n) {p : Nat} (hp : p < n) : Ct l G 2 yX4_phase cX4_phase 3 (some .int) [.ref (adr G 15 0 0), .int (nI p), .int (nI 8)] (μ) (some (.int (mPhase z p 8))) (mset μ 15 0 0 5 (nI 0)) := by
  refine Ct_of (by decide +kernel) (Nat.le_of_ble_eq_true rfl) ?_
  subst hz
  have hp6 : p < 6 := Nat.lt_of_lt_of_le hp hZ.2.1
  have hph := cHas_nat hp hZ.2.1
  have hrr := rOk_nat (w := 8) (b := 13) (by omega) (by omega)
  refine K_aload_n dX4_phase_0 rfl ?_
  refine K_aload_n dX4_phase_1 rfl ?_
  refine K_iload_n dX4_phase_2 rfl ?_
  refine k_X4_isPhase (C_X4_isPhase rfl hZ) (by decide)  ml_X4_84 (Nat.le_of_ble_eq_true rfl) dX4_phase_3 ?_
  refine K_ifb_ne (tgt := 13) dX4_phase_6 (by decide) (fun c6 => ?_) (fun c6 => ?_)
  · skip
    refine K_iload_n dX4_phase_13 rfl ?_
    refine K_iconstN 0 dX4_phase_14 rfl ?_
    refine K_bipush (v := nI 13) dX4_phase_15 (by decide) ?_
    refine k_X4_within (C_X4_within ) (by decide) ml_X4_32 (Nat.le_of_ble_eq_true rfl) dX4_phase_17 ?_
    refine K_ifb_eq (tgt := 27) dX4_phase_20 (by decide) (fun c20 => ?_) (fun c20 => ?_)
    · skip
      exact absurd (c20.symm.trans hrr) (by decide)
    · skip
      refine K_iconstN 0 dX4_phase_23 rfl ?_
      refine K_goto (tgt := 28) dX4_phase_24 (by decide) ?_
      refine p_X4_25 dX4_phase_28  ?_
      refine K_aload_n dX4_phase_31 rfl ?_
      refine g_X4_25 dX4_phase_32  ?_
      refine K_top mset_at ?_
      refine K_ifN_le (by omega) (tgt := 42) dX4_phase_35 (by decide) (fun c35 => ?_) (fun c35 => absurd c35 (by decide))
      refine K_aload_n dX4_phase_42 rfl ?_
      refine K_iload_n dX4_phase_43 rfl ?_
      refine K_iload_n dX4_phase_44 rfl ?_
      refine k_X4_phaseNow (C_X4_phaseNow8 rfl (by omega) hZ) (by decide)  ml_X4_194 (Nat.le_of_ble_eq_true rfl) dX4_phase_45 ?_
      exact K_iret dX4_phase_48 ⟨by rfl, rfl⟩
  · skip
    exact absurd (c6.symm.trans hph) (by decide)

set_option maxHeartbeats 4000000 in
set_option maxRecDepth 100000 in
theorem C_X4_phase9 {l : Launch} {G : WG} {μ : Mem} {z : Zr} (hz : μ.1 16 0 0 = z) {n : Nat} (hZ : ZI z n) {p : Nat} (hp : p < n) : Ct l G 2 yX4_phase cX4_phase 3 (some .int) [.ref (adr G 15 0 0), .int (nI p), .int (nI 9)] (μ) (some (.int (mPhase z p 9))) (mset μ 15 0 0 5 (nI 0)) := by
  refine Ct_of (by decide +kernel) (Nat.le_of_ble_eq_true rfl) ?_
  subst hz
  have hp6 : p < 6 := Nat.lt_of_lt_of_le hp hZ.2.1
  have hph := cHas_nat hp hZ.2.1
  have hrr := rOk_nat (w := 9) (b := 13) (by omega) (by omega)
  refine K_aload_n dX4_phase_0 rfl ?_
  refine K_aload_n dX4_phase_1 rfl ?_
  refine K_iload_n dX4_phase_2 rfl ?_
  refine k_X4_isPhase (C_X4_isPhase rfl hZ) (by decide)  ml_X4_84 (Nat.le_of_ble_eq_true rfl) dX4_phase_3 ?_
  refine K_ifb_ne (tgt := 13) dX4_phase_6 (by decide) (fun c6 => ?_) (fun c6 => ?_)
  · skip
    refine K_iload_n dX4_phase_13 rfl ?_
    refine K_iconstN 0 dX4_phase_14 rfl ?_
    refine K_bipush (v := nI 13) dX4_phase_15 (by decide) ?_
    refine k_X4_within (C_X4_within ) (by decide) ml_X4_32 (Nat.le_of_ble_eq_true rfl) dX4_phase_17 ?_
    refine K_ifb_eq (tgt := 27) dX4_phase_20 (by decide) (fun c20 => ?_) (fun c20 => ?_)
    · skip
      exact absurd (c20.symm.trans hrr) (by decide)
    · skip
      refine K_iconstN 0 dX4_phase_23 rfl ?_
      refine K_goto (tgt := 28) dX4_phase_24 (by decide) ?_
      refine p_X4_25 dX4_phase_28  ?_
      refine K_aload_n dX4_phase_31 rfl ?_
      refine g_X4_25 dX4_phase_32  ?_
      refine K_top mset_at ?_
      refine K_ifN_le (by omega) (tgt := 42) dX4_phase_35 (by decide) (fun c35 => ?_) (fun c35 => absurd c35 (by decide))
      refine K_aload_n dX4_phase_42 rfl ?_
      refine K_iload_n dX4_phase_43 rfl ?_
      refine K_iload_n dX4_phase_44 rfl ?_
      refine k_X4_phaseNow (C_X4_phaseNow9 rfl (by omega) hZ) (by decide)  ml_X4_194 (Nat.le_of_ble_eq_true rfl) dX4_phase_45 ?_
      exact K_iret dX4_phase_48 ⟨by rfl, rfl⟩
  · skip
    exact absurd (c6.symm.trans hph) (by decide)

set_option maxHeartbeats 4000000 in
set_option maxRecDepth 100000 in
theorem C_X4_phase10 {l : Launch} {G : WG} {μ : Mem} {z : Zr} (hz : μ.1 16 0 0 = z) {n : Nat} (hZ : ZI z n) {p : Nat} (hp : p < n) : Ct l G 2 yX4_phase cX4_phase 3 (some .int) [.ref (adr G 15 0 0), .int (nI p), .int (nI 10)] (μ) (some (.int (mPhase z p 10))) (mset μ 15 0 0 5 (nI 0)) := by
  refine Ct_of (by decide +kernel) (Nat.le_of_ble_eq_true rfl) ?_
  subst hz
  have hp6 : p < 6 := Nat.lt_of_lt_of_le hp hZ.2.1
  have hph := cHas_nat hp hZ.2.1
  have hrr := rOk_nat (w := 10) (b := 13) (by omega) (by omega)
  refine K_aload_n dX4_phase_0 rfl ?_
  refine K_aload_n dX4_phase_1 rfl ?_
  refine K_iload_n dX4_phase_2 rfl ?_
  refine k_X4_isPhase (C_X4_isPhase rfl hZ) (by decide)  ml_X4_84 (Nat.le_of_ble_eq_true rfl) dX4_phase_3 ?_
  refine K_ifb_ne (tgt := 13) dX4_phase_6 (by decide) (fun c6 => ?_) (fun c6 => ?_)
  · skip
    refine K_iload_n dX4_phase_13 rfl ?_
    refine K_iconstN 0 dX4_phase_14 rfl ?_
    refine K_bipush (v := nI 13) dX4_phase_15 (by decide) ?_
    refine k_X4_within (C_X4_within ) (by decide) ml_X4_32 (Nat.le_of_ble_eq_true rfl) dX4_phase_17 ?_
    refine K_ifb_eq (tgt := 27) dX4_phase_20 (by decide) (fun c20 => ?_) (fun c20 => ?_)
    · skip
      exact absurd (c20.symm.trans hrr) (by decide)
    · skip
      refine K_iconstN 0 dX4_phase_23 rfl ?_
      refine K_goto (tgt := 28) dX4_phase_24 (by decide) ?_
      refine p_X4_25 dX4_phase_28  ?_
      refine K_aload_n dX4_phase_31 rfl ?_
      refine g_X4_25 dX4_phase_32  ?_
      refine K_top mset_at ?_
      refine K_ifN_le (by omega) (tgt := 42) dX4_phase_35 (by decide) (fun c35 => ?_) (fun c35 => absurd c35 (by decide))
      refine K_aload_n dX4_phase_42 rfl ?_
      refine K_iload_n dX4_phase_43 rfl ?_
      refine K_iload_n dX4_phase_44 rfl ?_
      refine k_X4_phaseNow (C_X4_phaseNow10 rfl (by omega) hZ) (by decide)  ml_X4_194 (Nat.le_of_ble_eq_true rfl) dX4_phase_45 ?_
      exact K_iret dX4_phase_48 ⟨by rfl, rfl⟩
  · skip
    exact absurd (c6.symm.trans hph) (by decide)

set_option maxHeartbeats 4000000 in
set_option maxRecDepth 100000 in
theorem C_X4_phase11 {l : Launch} {G : WG} {μ : Mem} {z : Zr} (hz : μ.1 16 0 0 = z) {n : Nat} (hZ : ZI z n) {p : Nat} (hp : p < n) : Ct l G 3 yX4_phase cX4_phase 3 (some .int) [.ref (adr G 15 0 0), .int (nI p), .int (nI 11)] (μ) (some (.int (mPhase z p 11))) (mset μ 15 0 0 5 (nI 0)) := by
  refine Ct_of (by decide +kernel) (Nat.le_of_ble_eq_true rfl) ?_
  subst hz
  have hp6 : p < 6 := Nat.lt_of_lt_of_le hp hZ.2.1
  have hph := cHas_nat hp hZ.2.1
  have hrr := rOk_nat (w := 11) (b := 13) (by omega) (by omega)
  refine K_aload_n dX4_phase_0 rfl ?_
  refine K_aload_n dX4_phase_1 rfl ?_
  refine K_iload_n dX4_phase_2 rfl ?_
  refine k_X4_isPhase (C_X4_isPhase rfl hZ) (by decide)  ml_X4_84 (Nat.le_of_ble_eq_true rfl) dX4_phase_3 ?_
  refine K_ifb_ne (tgt := 13) dX4_phase_6 (by decide) (fun c6 => ?_) (fun c6 => ?_)
  · skip
    refine K_iload_n dX4_phase_13 rfl ?_
    refine K_iconstN 0 dX4_phase_14 rfl ?_
    refine K_bipush (v := nI 13) dX4_phase_15 (by decide) ?_
    refine k_X4_within (C_X4_within ) (by decide) ml_X4_32 (Nat.le_of_ble_eq_true rfl) dX4_phase_17 ?_
    refine K_ifb_eq (tgt := 27) dX4_phase_20 (by decide) (fun c20 => ?_) (fun c20 => ?_)
    · skip
      exact absurd (c20.symm.trans hrr) (by decide)
    · skip
      refine K_iconstN 0 dX4_phase_23 rfl ?_
      refine K_goto (tgt := 28) dX4_phase_24 (by decide) ?_
      refine p_X4_25 dX4_phase_28  ?_
      refine K_aload_n dX4_phase_31 rfl ?_
      refine g_X4_25 dX4_phase_32  ?_
      refine K_top mset_at ?_
      refine K_ifN_le (by omega) (tgt := 42) dX4_phase_35 (by decide) (fun c35 => ?_) (fun c35 => absurd c35 (by decide))
      refine K_aload_n dX4_phase_42 rfl ?_
      refine K_iload_n dX4_phase_43 rfl ?_
      refine K_iload_n dX4_phase_44 rfl ?_
      refine k_X4_phaseNow (C_X4_phaseNow11 rfl (by omega) hZ) (by decide)  ml_X4_194 (Nat.le_of_ble_eq_true rfl) dX4_phase_45 ?_
      exact K_iret dX4_phase_48 ⟨by rfl, rfl⟩
  · skip
    exact absurd (c6.symm.trans hph) (by decide)

set_option maxHeartbeats 4000000 in
set_option maxRecDepth 100000 in
theorem C_X4_phase12 {l : Launch} {G : WG} {μ : Mem} {z : Zr} (hz : μ.1 16 0 0 = z) {n : Nat} (hZ : ZI z n) {p : Nat} (hp : p < n) : Ct l G 3 yX4_phase cX4_phase 3 (some .int) [.ref (adr G 15 0 0), .int (nI p), .int (nI 12)] (μ) (some (.int (mPhase z p 12))) (mset μ 15 0 0 5 (nI 0)) := by
  refine Ct_of (by decide +kernel) (Nat.le_of_ble_eq_true rfl) ?_
  subst hz
  have hp6 : p < 6 := Nat.lt_of_lt_of_le hp hZ.2.1
  have hph := cHas_nat hp hZ.2.1
  have hrr := rOk_nat (w := 12) (b := 13) (by omega) (by omega)
  refine K_aload_n dX4_phase_0 rfl ?_
  refine K_aload_n dX4_phase_1 rfl ?_
  refine K_iload_n dX4_phase_2 rfl ?_
  refine k_X4_isPhase (C_X4_isPhase rfl hZ) (by decide)  ml_X4_84 (Nat.le_of_ble_eq_true rfl) dX4_phase_3 ?_
  refine K_ifb_ne (tgt := 13) dX4_phase_6 (by decide) (fun c6 => ?_) (fun c6 => ?_)
  · skip
    refine K_iload_n dX4_phase_13 rfl ?_
    refine K_iconstN 0 dX4_phase_14 rfl ?_
    refine K_bipush (v := nI 13) dX4_phase_15 (by decide) ?_
    refine k_X4_within (C_X4_within ) (by decide) ml_X4_32 (Nat.le_of_ble_eq_true rfl) dX4_phase_17 ?_
    refine K_ifb_eq (tgt := 27) dX4_phase_20 (by decide) (fun c20 => ?_) (fun c20 => ?_)
    · skip
      exact absurd (c20.symm.trans hrr) (by decide)
    · skip
      refine K_iconstN 0 dX4_phase_23 rfl ?_
      refine K_goto (tgt := 28) dX4_phase_24 (by decide) ?_
      refine p_X4_25 dX4_phase_28  ?_
      refine K_aload_n dX4_phase_31 rfl ?_
      refine g_X4_25 dX4_phase_32  ?_
      refine K_top mset_at ?_
      refine K_ifN_le (by omega) (tgt := 42) dX4_phase_35 (by decide) (fun c35 => ?_) (fun c35 => absurd c35 (by decide))
      refine K_aload_n dX4_phase_42 rfl ?_
      refine K_iload_n dX4_phase_43 rfl ?_
      refine K_iload_n dX4_phase_44 rfl ?_
      refine k_X4_phaseNow (C_X4_phaseNow12 rfl (by omega) hZ) (by decide)  ml_X4_194 (Nat.le_of_ble_eq_true rfl) dX4_phase_45 ?_
      exact K_iret dX4_phase_48 ⟨by rfl, rfl⟩
  · skip
    exact absurd (c6.symm.trans hph) (by decide)

set_option maxHeartbeats 4000000 in
set_option maxRecDepth 100000 in
theorem C_X4_phase13 {l : Launch} {G : WG} {μ : Mem} {z : Zr} (hz : μ.1 16 0 0 = z) {n : Nat} (hZ : ZI z n) {p : Nat} (hp : p < n) : Ct l G 7 yX4_phase cX4_phase 3 (some .int) [.ref (adr G 15 0 0), .int (nI p), .int (nI 13)] (μ) (some (.int (mPhase z p 13))) (mset μ 15 0 0 5 (nI 0)) := by
  refine Ct_of (by decide +kernel) (Nat.le_of_ble_eq_true rfl) ?_
  subst hz
  have hp6 : p < 6 := Nat.lt_of_lt_of_le hp hZ.2.1
  have hph := cHas_nat hp hZ.2.1
  have hrr := rOk_nat (w := 13) (b := 13) (by omega) (by omega)
  refine K_aload_n dX4_phase_0 rfl ?_
  refine K_aload_n dX4_phase_1 rfl ?_
  refine K_iload_n dX4_phase_2 rfl ?_
  refine k_X4_isPhase (C_X4_isPhase rfl hZ) (by decide)  ml_X4_84 (Nat.le_of_ble_eq_true rfl) dX4_phase_3 ?_
  refine K_ifb_ne (tgt := 13) dX4_phase_6 (by decide) (fun c6 => ?_) (fun c6 => ?_)
  · skip
    refine K_iload_n dX4_phase_13 rfl ?_
    refine K_iconstN 0 dX4_phase_14 rfl ?_
    refine K_bipush (v := nI 13) dX4_phase_15 (by decide) ?_
    refine k_X4_within (C_X4_within ) (by decide) ml_X4_32 (Nat.le_of_ble_eq_true rfl) dX4_phase_17 ?_
    refine K_ifb_eq (tgt := 27) dX4_phase_20 (by decide) (fun c20 => ?_) (fun c20 => ?_)
    · skip
      exact absurd (c20.symm.trans hrr) (by decide)
    · skip
      refine K_iconstN 0 dX4_phase_23 rfl ?_
      refine K_goto (tgt := 28) dX4_phase_24 (by decide) ?_
      refine p_X4_25 dX4_phase_28  ?_
      refine K_aload_n dX4_phase_31 rfl ?_
      refine g_X4_25 dX4_phase_32  ?_
      refine K_top mset_at ?_
      refine K_ifN_le (by omega) (tgt := 42) dX4_phase_35 (by decide) (fun c35 => ?_) (fun c35 => absurd c35 (by decide))
      refine K_aload_n dX4_phase_42 rfl ?_
      refine K_iload_n dX4_phase_43 rfl ?_
      refine K_iload_n dX4_phase_44 rfl ?_
      refine k_X4_phaseNow (C_X4_phaseNow13 rfl (by omega) hZ) (by decide)  ml_X4_194 (Nat.le_of_ble_eq_true rfl) dX4_phase_45 ?_
      exact K_iret dX4_phase_48 ⟨by rfl, rfl⟩
  · skip
    exact absurd (c6.symm.trans hph) (by decide)

set_option maxHeartbeats 4000000 in
set_option maxRecDepth 100000 in
theorem C_X4_phase_e1 {l : Launch} {G : WG} {μ : Mem} {z : Zr} (hz : μ.1 16 0 0 = z) {n : Nat} (hZ : ZI z n) {a b : Int32} (h : cHas n a = false) : Ct l G 2 yX4_phase cX4_phase 3 (some .int) [.ref (adr G 15 0 0), .int (a), .int (b)] (μ) (some (.int (nI 0))) (mset μ 15 0 0 5 (nI 1)) := by
  refine Ct_of (by decide +kernel) (Nat.le_of_ble_eq_true rfl) ?_
  subst hz
  refine K_aload_n dX4_phase_0 rfl ?_
  refine K_aload_n dX4_phase_1 rfl ?_
  refine K_iload_n dX4_phase_2 rfl ?_
  refine k_X4_isPhase (C_X4_isPhase rfl hZ) (by decide)  ml_X4_84 (Nat.le_of_ble_eq_true rfl) dX4_phase_3 ?_
  refine K_ifb_ne (tgt := 13) dX4_phase_6 (by decide) (fun c6 => ?_) (fun c6 => ?_)
  · skip
    exact absurd (c6.symm.trans h) (by decide)
  · skip
    refine K_iconstN 1 dX4_phase_9 rfl ?_
    refine K_goto (tgt := 28) dX4_phase_10 (by decide) ?_
    refine p_X4_25 dX4_phase_28  ?_
    refine K_aload_n dX4_phase_31 rfl ?_
    refine g_X4_25 dX4_phase_32  ?_
    refine K_top mset_at ?_
    refine K_ifN_le (by omega) (tgt := 42) dX4_phase_35 (by decide) (fun c35 => absurd c35 (by decide)) (fun c35 => ?_)
    refine K_iconstN 0 dX4_phase_38 rfl ?_
    refine K_goto (tgt := 48) dX4_phase_39 (by decide) ?_
    exact K_iret dX4_phase_48 ⟨by rfl, rfl⟩

set_option maxHeartbeats 4000000 in
set_option maxRecDepth 100000 in
theorem C_X4_phase_e2 {l : Launch} {G : WG} {μ : Mem} {z : Zr} (hz : μ.1 16 0 0 = z) {n : Nat} (hZ : ZI z n) {p : Nat} (hp : p < n) {b : Int32} (h : rOk b (nI 0) (nI 13) = false) : Ct l G 2 yX4_phase cX4_phase 3 (some .int) [.ref (adr G 15 0 0), .int (nI p), .int (b)] (μ) (some (.int (nI 0))) (mset μ 15 0 0 5 (nI 2)) := by
  refine Ct_of (by decide +kernel) (Nat.le_of_ble_eq_true rfl) ?_
  subst hz
  have hp6 : p < 6 := Nat.lt_of_lt_of_le hp hZ.2.1
  have hph := cHas_nat hp hZ.2.1
  refine K_aload_n dX4_phase_0 rfl ?_
  refine K_aload_n dX4_phase_1 rfl ?_
  refine K_iload_n dX4_phase_2 rfl ?_
  refine k_X4_isPhase (C_X4_isPhase rfl hZ) (by decide)  ml_X4_84 (Nat.le_of_ble_eq_true rfl) dX4_phase_3 ?_
  refine K_ifb_ne (tgt := 13) dX4_phase_6 (by decide) (fun c6 => ?_) (fun c6 => ?_)
  · skip
    refine K_iload_n dX4_phase_13 rfl ?_
    refine K_iconstN 0 dX4_phase_14 rfl ?_
    refine K_bipush (v := nI 13) dX4_phase_15 (by decide) ?_
    refine k_X4_within (C_X4_within ) (by decide) ml_X4_32 (Nat.le_of_ble_eq_true rfl) dX4_phase_17 ?_
    refine K_ifb_eq (tgt := 27) dX4_phase_20 (by decide) (fun c20 => ?_) (fun c20 => ?_)
    · skip
      refine K_iconstN 2 dX4_phase_27 rfl ?_
      refine p_X4_25 dX4_phase_28  ?_
      refine K_aload_n dX4_phase_31 rfl ?_
      refine g_X4_25 dX4_phase_32  ?_
      refine K_top mset_at ?_
      refine K_ifN_le (by omega) (tgt := 42) dX4_phase_35 (by decide) (fun c35 => absurd c35 (by decide)) (fun c35 => ?_)
      refine K_iconstN 0 dX4_phase_38 rfl ?_
      refine K_goto (tgt := 48) dX4_phase_39 (by decide) ?_
      exact K_iret dX4_phase_48 ⟨by rfl, rfl⟩
    · skip
      exact absurd (c20.symm.trans h) (by decide)
  · skip
    exact absurd (c6.symm.trans hph) (by decide)

set_option maxHeartbeats 4000000 in
set_option maxRecDepth 100000 in
theorem C_X4_use0 {l : Launch} {G : WG} {μ : Mem} {z : Zr} (hz : μ.1 16 0 0 = z) {n : Nat} (hZ : ZI z n) {p : Nat} (hp : p < n) {u : Nat} (hu : u < 4) : Ct l G 2 yX4_use cX4_use 4 (some .int) [.ref (adr G 15 0 0), .int (nI p), .int (nI u), .int (nI 0)] (μ) (some (.int (mUse z p u 0))) (mset μ 15 0 0 5 (nI 0)) := by
  refine Ct_of (by decide +kernel) (Nat.le_of_ble_eq_true rfl) ?_
  subst hz
  have hp6 : p < 6 := Nat.lt_of_lt_of_le hp hZ.2.1
  have hph := cHas_nat hp hZ.2.1
  have huu := uOk_nat hu
  have hrr := rOk_nat (w := 0) (b := 4) (by omega) (by omega)
  refine K_aload_n dX4_use_0 rfl ?_
  refine K_aload_n dX4_use_1 rfl ?_
  refine K_iload_n dX4_use_2 rfl ?_
  refine k_X4_isPhase (C_X4_isPhase rfl hZ) (by decide)  ml_X4_84 (Nat.le_of_ble_eq_true rfl) dX4_use_3 ?_
  refine K_ifb_eq (tgt := 16) dX4_use_6 (by decide) (fun c6 => ?_) (fun c6 => ?_)
  · skip
    exact absurd (c6.symm.trans hph) (by decide)
  · skip
    refine K_iload_n dX4_use_9 rfl ?_
    refine k_X4_isUse (C_X4_isUse ) (by decide) ml_X4_87 (Nat.le_of_ble_eq_true rfl) dX4_use_10 ?_
    refine K_ifb_ne (tgt := 20) dX4_use_13 (by decide) (fun c13 => ?_) (fun c13 => ?_)
    · skip
      refine K_iload_n dX4_use_20 rfl ?_
      refine K_iconstN 0 dX4_use_21 rfl ?_
      refine K_iconstN 4 dX4_use_22 rfl ?_
      refine k_X4_within (C_X4_within ) (by decide) ml_X4_32 (Nat.le_of_ble_eq_true rfl) dX4_use_23 ?_
      refine K_ifb_eq (tgt := 33) dX4_use_26 (by decide) (fun c26 => ?_) (fun c26 => ?_)
      · skip
        exact absurd (c26.symm.trans hrr) (by decide)
      · skip
        refine K_iconstN 0 dX4_use_29 rfl ?_
        refine K_goto (tgt := 34) dX4_use_30 (by decide) ?_
        refine p_X4_25 dX4_use_34  ?_
        refine K_aload_n dX4_use_37 rfl ?_
        refine g_X4_25 dX4_use_38  ?_
        refine K_top mset_at ?_
        refine K_ifN_le (by omega) (tgt := 48) dX4_use_41 (by decide) (fun c41 => ?_) (fun c41 => absurd c41 (by decide))
        refine K_aload_n dX4_use_48 rfl ?_
        refine K_iload_n dX4_use_49 rfl ?_
        refine K_iload_n dX4_use_50 rfl ?_
        refine K_iload_n dX4_use_51 rfl ?_
        refine k_X4_useNow (C_X4_useNow0 rfl (by omega) (by omega)) (by decide)  ml_X4_197 (Nat.le_of_ble_eq_true rfl) dX4_use_52 ?_
        exact K_iret dX4_use_55 ⟨by rfl, rfl⟩
    · skip
      exact absurd (c13.symm.trans huu) (by decide)

set_option maxHeartbeats 4000000 in
set_option maxRecDepth 100000 in
theorem C_X4_whyNot0 {l : Launch} {G : WG} {μ : Mem} {z : Zr} (hz : μ.1 16 0 0 = z) {n : Nat} (hZ : ZI z n) {p : Nat} (hp : p < n) {u : Nat} (hu : u < 4) : Ct l G 3 yX4_whyNot cX4_whyNot 4 (some .int) [.ref (adr G 15 0 0), .int (nI 0), .int (nI p), .int (nI u)] (μ) (some (.int (mWhy z p u 0))) (mset μ 15 0 0 5 (nI 0)) := by
  refine Ct_of (by decide +kernel) (Nat.le_of_ble_eq_true rfl) ?_
  subst hz
  have hp6 : p < 6 := Nat.lt_of_lt_of_le hp hZ.2.1
  have hph := cHas_nat hp hZ.2.1
  have huu := uOk_nat hu
  have hrr := rOk_nat (w := 0) (b := 4) (by omega) (by omega)
  refine K_aload_n dX4_whyNot_0 rfl ?_
  refine K_aload_n dX4_whyNot_1 rfl ?_
  refine K_iload_n dX4_whyNot_2 rfl ?_
  refine k_X4_isPhase (C_X4_isPhase rfl hZ) (by decide)  ml_X4_84 (Nat.le_of_ble_eq_true rfl) dX4_whyNot_3 ?_
  refine K_ifb_eq (tgt := 16) dX4_whyNot_6 (by decide) (fun c6 => ?_) (fun c6 => ?_)
  · skip
    exact absurd (c6.symm.trans hph) (by decide)
  · skip
    refine K_iload_n dX4_whyNot_9 rfl ?_
    refine k_X4_isUse (C_X4_isUse ) (by decide) ml_X4_87 (Nat.le_of_ble_eq_true rfl) dX4_whyNot_10 ?_
    refine K_ifb_ne (tgt := 20) dX4_whyNot_13 (by decide) (fun c13 => ?_) (fun c13 => ?_)
    · skip
      refine K_iload_n dX4_whyNot_20 rfl ?_
      refine K_iconstN 0 dX4_whyNot_21 rfl ?_
      refine K_iconstN 4 dX4_whyNot_22 rfl ?_
      refine k_X4_within (C_X4_within ) (by decide) ml_X4_32 (Nat.le_of_ble_eq_true rfl) dX4_whyNot_23 ?_
      refine K_ifb_eq (tgt := 33) dX4_whyNot_26 (by decide) (fun c26 => ?_) (fun c26 => ?_)
      · skip
        exact absurd (c26.symm.trans hrr) (by decide)
      · skip
        refine K_iconstN 0 dX4_whyNot_29 rfl ?_
        refine K_goto (tgt := 34) dX4_whyNot_30 (by decide) ?_
        refine p_X4_25 dX4_whyNot_34  ?_
        refine K_aload_n dX4_whyNot_37 rfl ?_
        refine g_X4_25 dX4_whyNot_38  ?_
        refine K_top mset_at ?_
        refine K_ifN_le (by omega) (tgt := 48) dX4_whyNot_41 (by decide) (fun c41 => ?_) (fun c41 => absurd c41 (by decide))
        refine K_aload_n dX4_whyNot_48 rfl ?_
        refine K_iload_n dX4_whyNot_49 rfl ?_
        refine K_iload_n dX4_whyNot_50 rfl ?_
        refine K_iload_n dX4_whyNot_51 rfl ?_
        refine k_X4_whyNotNow (C_X4_whyNotNow0 rfl (by omega) (by omega) hZ) (by decide)  ml_X4_212 (Nat.le_of_ble_eq_true rfl) dX4_whyNot_52 ?_
        exact K_iret dX4_whyNot_55 ⟨by rfl, rfl⟩
    · skip
      exact absurd (c13.symm.trans huu) (by decide)

set_option maxHeartbeats 4000000 in
set_option maxRecDepth 100000 in
theorem C_X4_use1 {l : Launch} {G : WG} {μ : Mem} {z : Zr} (hz : μ.1 16 0 0 = z) {n : Nat} (hZ : ZI z n) {p : Nat} (hp : p < n) {u : Nat} (hu : u < 4) : Ct l G 2 yX4_use cX4_use 4 (some .int) [.ref (adr G 15 0 0), .int (nI p), .int (nI u), .int (nI 1)] (μ) (some (.int (mUse z p u 1))) (mset μ 15 0 0 5 (nI 0)) := by
  refine Ct_of (by decide +kernel) (Nat.le_of_ble_eq_true rfl) ?_
  subst hz
  have hp6 : p < 6 := Nat.lt_of_lt_of_le hp hZ.2.1
  have hph := cHas_nat hp hZ.2.1
  have huu := uOk_nat hu
  have hrr := rOk_nat (w := 1) (b := 4) (by omega) (by omega)
  refine K_aload_n dX4_use_0 rfl ?_
  refine K_aload_n dX4_use_1 rfl ?_
  refine K_iload_n dX4_use_2 rfl ?_
  refine k_X4_isPhase (C_X4_isPhase rfl hZ) (by decide)  ml_X4_84 (Nat.le_of_ble_eq_true rfl) dX4_use_3 ?_
  refine K_ifb_eq (tgt := 16) dX4_use_6 (by decide) (fun c6 => ?_) (fun c6 => ?_)
  · skip
    exact absurd (c6.symm.trans hph) (by decide)
  · skip
    refine K_iload_n dX4_use_9 rfl ?_
    refine k_X4_isUse (C_X4_isUse ) (by decide) ml_X4_87 (Nat.le_of_ble_eq_true rfl) dX4_use_10 ?_
    refine K_ifb_ne (tgt := 20) dX4_use_13 (by decide) (fun c13 => ?_) (fun c13 => ?_)
    · skip
      refine K_iload_n dX4_use_20 rfl ?_
      refine K_iconstN 0 dX4_use_21 rfl ?_
      refine K_iconstN 4 dX4_use_22 rfl ?_
      refine k_X4_within (C_X4_within ) (by decide) ml_X4_32 (Nat.le_of_ble_eq_true rfl) dX4_use_23 ?_
      refine K_ifb_eq (tgt := 33) dX4_use_26 (by decide) (fun c26 => ?_) (fun c26 => ?_)
      · skip
        exact absurd (c26.symm.trans hrr) (by decide)
      · skip
        refine K_iconstN 0 dX4_use_29 rfl ?_
        refine K_goto (tgt := 34) dX4_use_30 (by decide) ?_
        refine p_X4_25 dX4_use_34  ?_
        refine K_aload_n dX4_use_37 rfl ?_
        refine g_X4_25 dX4_use_38  ?_
        refine K_top mset_at ?_
        refine K_ifN_le (by omega) (tgt := 48) dX4_use_41 (by decide) (fun c41 => ?_) (fun c41 => absurd c41 (by decide))
        refine K_aload_n dX4_use_48 rfl ?_
        refine K_iload_n dX4_use_49 rfl ?_
        refine K_iload_n dX4_use_50 rfl ?_
        refine K_iload_n dX4_use_51 rfl ?_
        refine k_X4_useNow (C_X4_useNow1 rfl (by omega) (by omega)) (by decide)  ml_X4_197 (Nat.le_of_ble_eq_true rfl) dX4_use_52 ?_
        exact K_iret dX4_use_55 ⟨by rfl, rfl⟩
    · skip
      exact absurd (c13.symm.trans huu) (by decide)

set_option maxHeartbeats 4000000 in
set_option maxRecDepth 100000 in
theorem C_X4_whyNot1 {l : Launch} {G : WG} {μ : Mem} {z : Zr} (hz : μ.1 16 0 0 = z) {n : Nat} (hZ : ZI z n) {p : Nat} (hp : p < n) {u : Nat} (hu : u < 4) : Ct l G 4 yX4_whyNot cX4_whyNot 4 (some .int) [.ref (adr G 15 0 0), .int (nI 1), .int (nI p), .int (nI u)] (μ) (some (.int (mWhy z p u 1))) (mset μ 15 0 0 5 (nI 0)) := by
  refine Ct_of (by decide +kernel) (Nat.le_of_ble_eq_true rfl) ?_
  subst hz
  have hp6 : p < 6 := Nat.lt_of_lt_of_le hp hZ.2.1
  have hph := cHas_nat hp hZ.2.1
  have huu := uOk_nat hu
  have hrr := rOk_nat (w := 1) (b := 4) (by omega) (by omega)
  refine K_aload_n dX4_whyNot_0 rfl ?_
  refine K_aload_n dX4_whyNot_1 rfl ?_
  refine K_iload_n dX4_whyNot_2 rfl ?_
  refine k_X4_isPhase (C_X4_isPhase rfl hZ) (by decide)  ml_X4_84 (Nat.le_of_ble_eq_true rfl) dX4_whyNot_3 ?_
  refine K_ifb_eq (tgt := 16) dX4_whyNot_6 (by decide) (fun c6 => ?_) (fun c6 => ?_)
  · skip
    exact absurd (c6.symm.trans hph) (by decide)
  · skip
    refine K_iload_n dX4_whyNot_9 rfl ?_
    refine k_X4_isUse (C_X4_isUse ) (by decide) ml_X4_87 (Nat.le_of_ble_eq_true rfl) dX4_whyNot_10 ?_
    refine K_ifb_ne (tgt := 20) dX4_whyNot_13 (by decide) (fun c13 => ?_) (fun c13 => ?_)
    · skip
      refine K_iload_n dX4_whyNot_20 rfl ?_
      refine K_iconstN 0 dX4_whyNot_21 rfl ?_
      refine K_iconstN 4 dX4_whyNot_22 rfl ?_
      refine k_X4_within (C_X4_within ) (by decide) ml_X4_32 (Nat.le_of_ble_eq_true rfl) dX4_whyNot_23 ?_
      refine K_ifb_eq (tgt := 33) dX4_whyNot_26 (by decide) (fun c26 => ?_) (fun c26 => ?_)
      · skip
        exact absurd (c26.symm.trans hrr) (by decide)
      · skip
        refine K_iconstN 0 dX4_whyNot_29 rfl ?_
        refine K_goto (tgt := 34) dX4_whyNot_30 (by decide) ?_
        refine p_X4_25 dX4_whyNot_34  ?_
        refine K_aload_n dX4_whyNot_37 rfl ?_
        refine g_X4_25 dX4_whyNot_38  ?_
        refine K_top mset_at ?_
        refine K_ifN_le (by omega) (tgt := 48) dX4_whyNot_41 (by decide) (fun c41 => ?_) (fun c41 => absurd c41 (by decide))
        refine K_aload_n dX4_whyNot_48 rfl ?_
        refine K_iload_n dX4_whyNot_49 rfl ?_
        refine K_iload_n dX4_whyNot_50 rfl ?_
        refine K_iload_n dX4_whyNot_51 rfl ?_
        refine k_X4_whyNotNow (C_X4_whyNotNow1 rfl (by omega) (by omega) hZ) (by decide)  ml_X4_212 (Nat.le_of_ble_eq_true rfl) dX4_whyNot_52 ?_
        exact K_iret dX4_whyNot_55 ⟨by rfl, rfl⟩
    · skip
      exact absurd (c13.symm.trans huu) (by decide)

set_option maxHeartbeats 4000000 in
set_option maxRecDepth 100000 in
theorem C_X4_use2 {l : Launch} {G : WG} {μ : Mem} {z : Zr} (hz : μ.1 16 0 0 = z) {n : Nat} (hZ : ZI z n) {p : Nat} (hp : p < n) {u : Nat} (hu : u < 4) : Ct l G 4 yX4_use cX4_use 4 (some .int) [.ref (adr G 15 0 0), .int (nI p), .int (nI u), .int (nI 2)] (μ) (some (.int (mUse z p u 2))) (mset μ 15 0 0 5 (nI 0)) := by
  refine Ct_of (by decide +kernel) (Nat.le_of_ble_eq_true rfl) ?_
  subst hz
  have hp6 : p < 6 := Nat.lt_of_lt_of_le hp hZ.2.1
  have hph := cHas_nat hp hZ.2.1
  have huu := uOk_nat hu
  have hrr := rOk_nat (w := 2) (b := 4) (by omega) (by omega)
  refine K_aload_n dX4_use_0 rfl ?_
  refine K_aload_n dX4_use_1 rfl ?_
  refine K_iload_n dX4_use_2 rfl ?_
  refine k_X4_isPhase (C_X4_isPhase rfl hZ) (by decide)  ml_X4_84 (Nat.le_of_ble_eq_true rfl) dX4_use_3 ?_
  refine K_ifb_eq (tgt := 16) dX4_use_6 (by decide) (fun c6 => ?_) (fun c6 => ?_)
  · skip
    exact absurd (c6.symm.trans hph) (by decide)
  · skip
    refine K_iload_n dX4_use_9 rfl ?_
    refine k_X4_isUse (C_X4_isUse ) (by decide) ml_X4_87 (Nat.le_of_ble_eq_true rfl) dX4_use_10 ?_
    refine K_ifb_ne (tgt := 20) dX4_use_13 (by decide) (fun c13 => ?_) (fun c13 => ?_)
    · skip
      refine K_iload_n dX4_use_20 rfl ?_
      refine K_iconstN 0 dX4_use_21 rfl ?_
      refine K_iconstN 4 dX4_use_22 rfl ?_
      refine k_X4_within (C_X4_within ) (by decide) ml_X4_32 (Nat.le_of_ble_eq_true rfl) dX4_use_23 ?_
      refine K_ifb_eq (tgt := 33) dX4_use_26 (by decide) (fun c26 => ?_) (fun c26 => ?_)
      · skip
        exact absurd (c26.symm.trans hrr) (by decide)
      · skip
        refine K_iconstN 0 dX4_use_29 rfl ?_
        refine K_goto (tgt := 34) dX4_use_30 (by decide) ?_
        refine p_X4_25 dX4_use_34  ?_
        refine K_aload_n dX4_use_37 rfl ?_
        refine g_X4_25 dX4_use_38  ?_
        refine K_top mset_at ?_
        refine K_ifN_le (by omega) (tgt := 48) dX4_use_41 (by decide) (fun c41 => ?_) (fun c41 => absurd c41 (by decide))
        refine K_aload_n dX4_use_48 rfl ?_
        refine K_iload_n dX4_use_49 rfl ?_
        refine K_iload_n dX4_use_50 rfl ?_
        refine K_iload_n dX4_use_51 rfl ?_
        refine k_X4_useNow (C_X4_useNow2 rfl (by omega) (by omega)) (by decide)  ml_X4_197 (Nat.le_of_ble_eq_true rfl) dX4_use_52 ?_
        exact K_iret dX4_use_55 ⟨by rfl, rfl⟩
    · skip
      exact absurd (c13.symm.trans huu) (by decide)

set_option maxHeartbeats 4000000 in
set_option maxRecDepth 100000 in
theorem C_X4_whyNot2 {l : Launch} {G : WG} {μ : Mem} {z : Zr} (hz : μ.1 16 0 0 = z) {n : Nat} (hZ : ZI z n) {p : Nat} (hp : p < n) {u : Nat} (hu : u < 4) : Ct l G 5 yX4_whyNot cX4_whyNot 4 (some .int) [.ref (adr G 15 0 0), .int (nI 2), .int (nI p), .int (nI u)] (μ) (some (.int (mWhy z p u 2))) (mset μ 15 0 0 5 (nI 0)) := by
  refine Ct_of (by decide +kernel) (Nat.le_of_ble_eq_true rfl) ?_
  subst hz
  have hp6 : p < 6 := Nat.lt_of_lt_of_le hp hZ.2.1
  have hph := cHas_nat hp hZ.2.1
  have huu := uOk_nat hu
  have hrr := rOk_nat (w := 2) (b := 4) (by omega) (by omega)
  refine K_aload_n dX4_whyNot_0 rfl ?_
  refine K_aload_n dX4_whyNot_1 rfl ?_
  refine K_iload_n dX4_whyNot_2 rfl ?_
  refine k_X4_isPhase (C_X4_isPhase rfl hZ) (by decide)  ml_X4_84 (Nat.le_of_ble_eq_true rfl) dX4_whyNot_3 ?_
  refine K_ifb_eq (tgt := 16) dX4_whyNot_6 (by decide) (fun c6 => ?_) (fun c6 => ?_)
  · skip
    exact absurd (c6.symm.trans hph) (by decide)
  · skip
    refine K_iload_n dX4_whyNot_9 rfl ?_
    refine k_X4_isUse (C_X4_isUse ) (by decide) ml_X4_87 (Nat.le_of_ble_eq_true rfl) dX4_whyNot_10 ?_
    refine K_ifb_ne (tgt := 20) dX4_whyNot_13 (by decide) (fun c13 => ?_) (fun c13 => ?_)
    · skip
      refine K_iload_n dX4_whyNot_20 rfl ?_
      refine K_iconstN 0 dX4_whyNot_21 rfl ?_
      refine K_iconstN 4 dX4_whyNot_22 rfl ?_
      refine k_X4_within (C_X4_within ) (by decide) ml_X4_32 (Nat.le_of_ble_eq_true rfl) dX4_whyNot_23 ?_
      refine K_ifb_eq (tgt := 33) dX4_whyNot_26 (by decide) (fun c26 => ?_) (fun c26 => ?_)
      · skip
        exact absurd (c26.symm.trans hrr) (by decide)
      · skip
        refine K_iconstN 0 dX4_whyNot_29 rfl ?_
        refine K_goto (tgt := 34) dX4_whyNot_30 (by decide) ?_
        refine p_X4_25 dX4_whyNot_34  ?_
        refine K_aload_n dX4_whyNot_37 rfl ?_
        refine g_X4_25 dX4_whyNot_38  ?_
        refine K_top mset_at ?_
        refine K_ifN_le (by omega) (tgt := 48) dX4_whyNot_41 (by decide) (fun c41 => ?_) (fun c41 => absurd c41 (by decide))
        refine K_aload_n dX4_whyNot_48 rfl ?_
        refine K_iload_n dX4_whyNot_49 rfl ?_
        refine K_iload_n dX4_whyNot_50 rfl ?_
        refine K_iload_n dX4_whyNot_51 rfl ?_
        refine k_X4_whyNotNow (C_X4_whyNotNow2 rfl (by omega) (by omega) hZ) (by decide)  ml_X4_212 (Nat.le_of_ble_eq_true rfl) dX4_whyNot_52 ?_
        exact K_iret dX4_whyNot_55 ⟨by rfl, rfl⟩
    · skip
      exact absurd (c13.symm.trans huu) (by decide)

set_option maxHeartbeats 4000000 in
set_option maxRecDepth 100000 in
theorem C_X4_use3 {l : Launch} {G : WG} {μ : Mem} {z : Zr} (hz : μ.1 16 0 0 = z) {n : Nat} (hZ : ZI z n) {p : Nat} (hp : p < n) {u : Nat} (hu : u < 4) : Ct l G 5 yX4_use cX4_use 4 (some .int) [.ref (adr G 15 0 0), .int (nI p), .int (nI u), .int (nI 3)] (μ) (some (.int (mUse z p u 3))) (mset μ 15 0 0 5 (nI 0)) := by
  refine Ct_of (by decide +kernel) (Nat.le_of_ble_eq_true rfl) ?_
  subst hz
  have hp6 : p < 6 := Nat.lt_of_lt_of_le hp hZ.2.1
  have hph := cHas_nat hp hZ.2.1
  have huu := uOk_nat hu
  have hrr := rOk_nat (w := 3) (b := 4) (by omega) (by omega)
  refine K_aload_n dX4_use_0 rfl ?_
  refine K_aload_n dX4_use_1 rfl ?_
  refine K_iload_n dX4_use_2 rfl ?_
  refine k_X4_isPhase (C_X4_isPhase rfl hZ) (by decide)  ml_X4_84 (Nat.le_of_ble_eq_true rfl) dX4_use_3 ?_
  refine K_ifb_eq (tgt := 16) dX4_use_6 (by decide) (fun c6 => ?_) (fun c6 => ?_)
  · skip
    exact absurd (c6.symm.trans hph) (by decide)
  · skip
    refine K_iload_n dX4_use_9 rfl ?_
    refine k_X4_isUse (C_X4_isUse ) (by decide) ml_X4_87 (Nat.le_of_ble_eq_true rfl) dX4_use_10 ?_
    refine K_ifb_ne (tgt := 20) dX4_use_13 (by decide) (fun c13 => ?_) (fun c13 => ?_)
    · skip
      refine K_iload_n dX4_use_20 rfl ?_
      refine K_iconstN 0 dX4_use_21 rfl ?_
      refine K_iconstN 4 dX4_use_22 rfl ?_
      refine k_X4_within (C_X4_within ) (by decide) ml_X4_32 (Nat.le_of_ble_eq_true rfl) dX4_use_23 ?_
      refine K_ifb_eq (tgt := 33) dX4_use_26 (by decide) (fun c26 => ?_) (fun c26 => ?_)
      · skip
        exact absurd (c26.symm.trans hrr) (by decide)
      · skip
        refine K_iconstN 0 dX4_use_29 rfl ?_
        refine K_goto (tgt := 34) dX4_use_30 (by decide) ?_
        refine p_X4_25 dX4_use_34  ?_
        refine K_aload_n dX4_use_37 rfl ?_
        refine g_X4_25 dX4_use_38  ?_
        refine K_top mset_at ?_
        refine K_ifN_le (by omega) (tgt := 48) dX4_use_41 (by decide) (fun c41 => ?_) (fun c41 => absurd c41 (by decide))
        refine K_aload_n dX4_use_48 rfl ?_
        refine K_iload_n dX4_use_49 rfl ?_
        refine K_iload_n dX4_use_50 rfl ?_
        refine K_iload_n dX4_use_51 rfl ?_
        refine k_X4_useNow (C_X4_useNow3 rfl (by omega) (by omega)) (by decide)  ml_X4_197 (Nat.le_of_ble_eq_true rfl) dX4_use_52 ?_
        exact K_iret dX4_use_55 ⟨by rfl, rfl⟩
    · skip
      exact absurd (c13.symm.trans huu) (by decide)

set_option maxHeartbeats 4000000 in
set_option maxRecDepth 100000 in
theorem C_X4_whyNot3 {l : Launch} {G : WG} {μ : Mem} {z : Zr} (hz : μ.1 16 0 0 = z) {n : Nat} (hZ : ZI z n) {p : Nat} (hp : p < n) {u : Nat} (hu : u < 4) : Ct l G 8 yX4_whyNot cX4_whyNot 4 (some .int) [.ref (adr G 15 0 0), .int (nI 3), .int (nI p), .int (nI u)] (μ) (some (.int (mWhy z p u 3))) (mset μ 15 0 0 5 (nI 0)) := by
  refine Ct_of (by decide +kernel) (Nat.le_of_ble_eq_true rfl) ?_
  subst hz
  have hp6 : p < 6 := Nat.lt_of_lt_of_le hp hZ.2.1
  have hph := cHas_nat hp hZ.2.1
  have huu := uOk_nat hu
  have hrr := rOk_nat (w := 3) (b := 4) (by omega) (by omega)
  refine K_aload_n dX4_whyNot_0 rfl ?_
  refine K_aload_n dX4_whyNot_1 rfl ?_
  refine K_iload_n dX4_whyNot_2 rfl ?_
  refine k_X4_isPhase (C_X4_isPhase rfl hZ) (by decide)  ml_X4_84 (Nat.le_of_ble_eq_true rfl) dX4_whyNot_3 ?_
  refine K_ifb_eq (tgt := 16) dX4_whyNot_6 (by decide) (fun c6 => ?_) (fun c6 => ?_)
  · skip
    exact absurd (c6.symm.trans hph) (by decide)
  · skip
    refine K_iload_n dX4_whyNot_9 rfl ?_
    refine k_X4_isUse (C_X4_isUse ) (by decide) ml_X4_87 (Nat.le_of_ble_eq_true rfl) dX4_whyNot_10 ?_
    refine K_ifb_ne (tgt := 20) dX4_whyNot_13 (by decide) (fun c13 => ?_) (fun c13 => ?_)
    · skip
      refine K_iload_n dX4_whyNot_20 rfl ?_
      refine K_iconstN 0 dX4_whyNot_21 rfl ?_
      refine K_iconstN 4 dX4_whyNot_22 rfl ?_
      refine k_X4_within (C_X4_within ) (by decide) ml_X4_32 (Nat.le_of_ble_eq_true rfl) dX4_whyNot_23 ?_
      refine K_ifb_eq (tgt := 33) dX4_whyNot_26 (by decide) (fun c26 => ?_) (fun c26 => ?_)
      · skip
        exact absurd (c26.symm.trans hrr) (by decide)
      · skip
        refine K_iconstN 0 dX4_whyNot_29 rfl ?_
        refine K_goto (tgt := 34) dX4_whyNot_30 (by decide) ?_
        refine p_X4_25 dX4_whyNot_34  ?_
        refine K_aload_n dX4_whyNot_37 rfl ?_
        refine g_X4_25 dX4_whyNot_38  ?_
        refine K_top mset_at ?_
        refine K_ifN_le (by omega) (tgt := 48) dX4_whyNot_41 (by decide) (fun c41 => ?_) (fun c41 => absurd c41 (by decide))
        refine K_aload_n dX4_whyNot_48 rfl ?_
        refine K_iload_n dX4_whyNot_49 rfl ?_
        refine K_iload_n dX4_whyNot_50 rfl ?_
        refine K_iload_n dX4_whyNot_51 rfl ?_
        refine k_X4_whyNotNow (C_X4_whyNotNow3 rfl (by omega) (by omega) hZ) (by decide)  ml_X4_212 (Nat.le_of_ble_eq_true rfl) dX4_whyNot_52 ?_
        exact K_iret dX4_whyNot_55 ⟨by rfl, rfl⟩
    · skip
      exact absurd (c13.symm.trans huu) (by decide)

set_option maxHeartbeats 4000000 in
set_option maxRecDepth 100000 in
theorem C_X4_use4 {l : Launch} {G : WG} {μ : Mem} {z : Zr} (hz : μ.1 16 0 0 = z) {n : Nat} (hZ : ZI z n) {p : Nat} (hp : p < n) {u : Nat} (hu : u < 4) : Ct l G 4 yX4_use cX4_use 4 (some .int) [.ref (adr G 15 0 0), .int (nI p), .int (nI u), .int (nI 4)] (μ) (some (.int (mUse z p u 4))) (mset μ 15 0 0 5 (nI 0)) := by
  refine Ct_of (by decide +kernel) (Nat.le_of_ble_eq_true rfl) ?_
  subst hz
  have hp6 : p < 6 := Nat.lt_of_lt_of_le hp hZ.2.1
  have hph := cHas_nat hp hZ.2.1
  have huu := uOk_nat hu
  have hrr := rOk_nat (w := 4) (b := 4) (by omega) (by omega)
  refine K_aload_n dX4_use_0 rfl ?_
  refine K_aload_n dX4_use_1 rfl ?_
  refine K_iload_n dX4_use_2 rfl ?_
  refine k_X4_isPhase (C_X4_isPhase rfl hZ) (by decide)  ml_X4_84 (Nat.le_of_ble_eq_true rfl) dX4_use_3 ?_
  refine K_ifb_eq (tgt := 16) dX4_use_6 (by decide) (fun c6 => ?_) (fun c6 => ?_)
  · skip
    exact absurd (c6.symm.trans hph) (by decide)
  · skip
    refine K_iload_n dX4_use_9 rfl ?_
    refine k_X4_isUse (C_X4_isUse ) (by decide) ml_X4_87 (Nat.le_of_ble_eq_true rfl) dX4_use_10 ?_
    refine K_ifb_ne (tgt := 20) dX4_use_13 (by decide) (fun c13 => ?_) (fun c13 => ?_)
    · skip
      refine K_iload_n dX4_use_20 rfl ?_
      refine K_iconstN 0 dX4_use_21 rfl ?_
      refine K_iconstN 4 dX4_use_22 rfl ?_
      refine k_X4_within (C_X4_within ) (by decide) ml_X4_32 (Nat.le_of_ble_eq_true rfl) dX4_use_23 ?_
      refine K_ifb_eq (tgt := 33) dX4_use_26 (by decide) (fun c26 => ?_) (fun c26 => ?_)
      · skip
        exact absurd (c26.symm.trans hrr) (by decide)
      · skip
        refine K_iconstN 0 dX4_use_29 rfl ?_
        refine K_goto (tgt := 34) dX4_use_30 (by decide) ?_
        refine p_X4_25 dX4_use_34  ?_
        refine K_aload_n dX4_use_37 rfl ?_
        refine g_X4_25 dX4_use_38  ?_
        refine K_top mset_at ?_
        refine K_ifN_le (by omega) (tgt := 48) dX4_use_41 (by decide) (fun c41 => ?_) (fun c41 => absurd c41 (by decide))
        refine K_aload_n dX4_use_48 rfl ?_
        refine K_iload_n dX4_use_49 rfl ?_
        refine K_iload_n dX4_use_50 rfl ?_
        refine K_iload_n dX4_use_51 rfl ?_
        refine k_X4_useNow (C_X4_useNow4 rfl (by omega) (by omega)) (by decide)  ml_X4_197 (Nat.le_of_ble_eq_true rfl) dX4_use_52 ?_
        exact K_iret dX4_use_55 ⟨by rfl, rfl⟩
    · skip
      exact absurd (c13.symm.trans huu) (by decide)

set_option maxHeartbeats 4000000 in
set_option maxRecDepth 100000 in
theorem C_X4_whyNot4 {l : Launch} {G : WG} {μ : Mem} {z : Zr} (hz : μ.1 16 0 0 = z) {n : Nat} (hZ : ZI z n) {p : Nat} (hp : p < n) {u : Nat} (hu : u < 4) : Ct l G 4 yX4_whyNot cX4_whyNot 4 (some .int) [.ref (adr G 15 0 0), .int (nI 4), .int (nI p), .int (nI u)] (μ) (some (.int (mWhy z p u 4))) (mset μ 15 0 0 5 (nI 0)) := by
  refine Ct_of (by decide +kernel) (Nat.le_of_ble_eq_true rfl) ?_
  subst hz
  have hp6 : p < 6 := Nat.lt_of_lt_of_le hp hZ.2.1
  have hph := cHas_nat hp hZ.2.1
  have huu := uOk_nat hu
  have hrr := rOk_nat (w := 4) (b := 4) (by omega) (by omega)
  refine K_aload_n dX4_whyNot_0 rfl ?_
  refine K_aload_n dX4_whyNot_1 rfl ?_
  refine K_iload_n dX4_whyNot_2 rfl ?_
  refine k_X4_isPhase (C_X4_isPhase rfl hZ) (by decide)  ml_X4_84 (Nat.le_of_ble_eq_true rfl) dX4_whyNot_3 ?_
  refine K_ifb_eq (tgt := 16) dX4_whyNot_6 (by decide) (fun c6 => ?_) (fun c6 => ?_)
  · skip
    exact absurd (c6.symm.trans hph) (by decide)
  · skip
    refine K_iload_n dX4_whyNot_9 rfl ?_
    refine k_X4_isUse (C_X4_isUse ) (by decide) ml_X4_87 (Nat.le_of_ble_eq_true rfl) dX4_whyNot_10 ?_
    refine K_ifb_ne (tgt := 20) dX4_whyNot_13 (by decide) (fun c13 => ?_) (fun c13 => ?_)
    · skip
      refine K_iload_n dX4_whyNot_20 rfl ?_
      refine K_iconstN 0 dX4_whyNot_21 rfl ?_
      refine K_iconstN 4 dX4_whyNot_22 rfl ?_
      refine k_X4_within (C_X4_within ) (by decide) ml_X4_32 (Nat.le_of_ble_eq_true rfl) dX4_whyNot_23 ?_
      refine K_ifb_eq (tgt := 33) dX4_whyNot_26 (by decide) (fun c26 => ?_) (fun c26 => ?_)
      · skip
        exact absurd (c26.symm.trans hrr) (by decide)
      · skip
        refine K_iconstN 0 dX4_whyNot_29 rfl ?_
        refine K_goto (tgt := 34) dX4_whyNot_30 (by decide) ?_
        refine p_X4_25 dX4_whyNot_34  ?_
        refine K_aload_n dX4_whyNot_37 rfl ?_
        refine g_X4_25 dX4_whyNot_38  ?_
        refine K_top mset_at ?_
        refine K_ifN_le (by omega) (tgt := 48) dX4_whyNot_41 (by decide) (fun c41 => ?_) (fun c41 => absurd c41 (by decide))
        refine K_aload_n dX4_whyNot_48 rfl ?_
        refine K_iload_n dX4_whyNot_49 rfl ?_
        refine K_iload_n dX4_whyNot_50 rfl ?_
        refine K_iload_n dX4_whyNot_51 rfl ?_
        refine k_X4_whyNotNow (C_X4_whyNotNow4 rfl (by omega) (by omega) hZ) (by decide)  ml_X4_212 (Nat.le_of_ble_eq_true rfl) dX4_whyNot_52 ?_
        exact K_iret dX4_whyNot_55 ⟨by rfl, rfl⟩
    · skip
      exact absurd (c13.symm.trans huu) (by decide)

set_option maxHeartbeats 4000000 in
set_option maxRecDepth 100000 in
theorem C_X4_use_e1 {l : Launch} {G : WG} {μ : Mem} {z : Zr} (hz : μ.1 16 0 0 = z) {n : Nat} (hZ : ZI z n) {a b c : Int32} (h : cHas n a = false) : Ct l G 2 yX4_use cX4_use 4 (some .int) [.ref (adr G 15 0 0), .int (a), .int (b), .int (c)] (μ) (some (.int (nI 0))) (mset μ 15 0 0 5 (nI 1)) := by
  refine Ct_of (by decide +kernel) (Nat.le_of_ble_eq_true rfl) ?_
  subst hz
  refine K_aload_n dX4_use_0 rfl ?_
  refine K_aload_n dX4_use_1 rfl ?_
  refine K_iload_n dX4_use_2 rfl ?_
  refine k_X4_isPhase (C_X4_isPhase rfl hZ) (by decide)  ml_X4_84 (Nat.le_of_ble_eq_true rfl) dX4_use_3 ?_
  refine K_ifb_eq (tgt := 16) dX4_use_6 (by decide) (fun c6 => ?_) (fun c6 => ?_)
  · skip
    refine K_iconstN 1 dX4_use_16 rfl ?_
    refine K_goto (tgt := 34) dX4_use_17 (by decide) ?_
    refine p_X4_25 dX4_use_34  ?_
    refine K_aload_n dX4_use_37 rfl ?_
    refine g_X4_25 dX4_use_38  ?_
    refine K_top mset_at ?_
    refine K_ifN_le (by omega) (tgt := 48) dX4_use_41 (by decide) (fun c41 => absurd c41 (by decide)) (fun c41 => ?_)
    refine K_iconstN 0 dX4_use_44 rfl ?_
    refine K_goto (tgt := 55) dX4_use_45 (by decide) ?_
    exact K_iret dX4_use_55 ⟨by rfl, rfl⟩
  · skip
    exact absurd (c6.symm.trans h) (by decide)

set_option maxHeartbeats 4000000 in
set_option maxRecDepth 100000 in
theorem C_X4_use_e2 {l : Launch} {G : WG} {μ : Mem} {z : Zr} (hz : μ.1 16 0 0 = z) {n : Nat} (hZ : ZI z n) {p : Nat} (hp : p < n) {b c : Int32} (h : uOk b = false) : Ct l G 2 yX4_use cX4_use 4 (some .int) [.ref (adr G 15 0 0), .int (nI p), .int (b), .int (c)] (μ) (some (.int (nI 0))) (mset μ 15 0 0 5 (nI 1)) := by
  refine Ct_of (by decide +kernel) (Nat.le_of_ble_eq_true rfl) ?_
  subst hz
  have hp6 : p < 6 := Nat.lt_of_lt_of_le hp hZ.2.1
  have hph := cHas_nat hp hZ.2.1
  refine K_aload_n dX4_use_0 rfl ?_
  refine K_aload_n dX4_use_1 rfl ?_
  refine K_iload_n dX4_use_2 rfl ?_
  refine k_X4_isPhase (C_X4_isPhase rfl hZ) (by decide)  ml_X4_84 (Nat.le_of_ble_eq_true rfl) dX4_use_3 ?_
  refine K_ifb_eq (tgt := 16) dX4_use_6 (by decide) (fun c6 => ?_) (fun c6 => ?_)
  · skip
    exact absurd (c6.symm.trans hph) (by decide)
  · skip
    refine K_iload_n dX4_use_9 rfl ?_
    refine k_X4_isUse (C_X4_isUse ) (by decide) ml_X4_87 (Nat.le_of_ble_eq_true rfl) dX4_use_10 ?_
    refine K_ifb_ne (tgt := 20) dX4_use_13 (by decide) (fun c13 => ?_) (fun c13 => ?_)
    · skip
      exact absurd (c13.symm.trans h) (by decide)
    · skip
      refine K_iconstN 1 dX4_use_16 rfl ?_
      refine K_goto (tgt := 34) dX4_use_17 (by decide) ?_
      refine p_X4_25 dX4_use_34  ?_
      refine K_aload_n dX4_use_37 rfl ?_
      refine g_X4_25 dX4_use_38  ?_
      refine K_top mset_at ?_
      refine K_ifN_le (by omega) (tgt := 48) dX4_use_41 (by decide) (fun c41 => absurd c41 (by decide)) (fun c41 => ?_)
      refine K_iconstN 0 dX4_use_44 rfl ?_
      refine K_goto (tgt := 55) dX4_use_45 (by decide) ?_
      exact K_iret dX4_use_55 ⟨by rfl, rfl⟩

set_option maxHeartbeats 4000000 in
set_option maxRecDepth 100000 in
theorem C_X4_use_e3 {l : Launch} {G : WG} {μ : Mem} {z : Zr} (hz : μ.1 16 0 0 = z) {n : Nat} (hZ : ZI z n) {p : Nat} (hp : p < n) {u : Nat} (hu : u < 4) {c : Int32} (h : rOk c (nI 0) (nI 4) = false) : Ct l G 2 yX4_use cX4_use 4 (some .int) [.ref (adr G 15 0 0), .int (nI p), .int (nI u), .int (c)] (μ) (some (.int (nI 0))) (mset μ 15 0 0 5 (nI 2)) := by
  refine Ct_of (by decide +kernel) (Nat.le_of_ble_eq_true rfl) ?_
  subst hz
  have hp6 : p < 6 := Nat.lt_of_lt_of_le hp hZ.2.1
  have hph := cHas_nat hp hZ.2.1
  have huu := uOk_nat hu
  refine K_aload_n dX4_use_0 rfl ?_
  refine K_aload_n dX4_use_1 rfl ?_
  refine K_iload_n dX4_use_2 rfl ?_
  refine k_X4_isPhase (C_X4_isPhase rfl hZ) (by decide)  ml_X4_84 (Nat.le_of_ble_eq_true rfl) dX4_use_3 ?_
  refine K_ifb_eq (tgt := 16) dX4_use_6 (by decide) (fun c6 => ?_) (fun c6 => ?_)
  · skip
    exact absurd (c6.symm.trans hph) (by decide)
  · skip
    refine K_iload_n dX4_use_9 rfl ?_
    refine k_X4_isUse (C_X4_isUse ) (by decide) ml_X4_87 (Nat.le_of_ble_eq_true rfl) dX4_use_10 ?_
    refine K_ifb_ne (tgt := 20) dX4_use_13 (by decide) (fun c13 => ?_) (fun c13 => ?_)
    · skip
      refine K_iload_n dX4_use_20 rfl ?_
      refine K_iconstN 0 dX4_use_21 rfl ?_
      refine K_iconstN 4 dX4_use_22 rfl ?_
      refine k_X4_within (C_X4_within ) (by decide) ml_X4_32 (Nat.le_of_ble_eq_true rfl) dX4_use_23 ?_
      refine K_ifb_eq (tgt := 33) dX4_use_26 (by decide) (fun c26 => ?_) (fun c26 => ?_)
      · skip
        refine K_iconstN 2 dX4_use_33 rfl ?_
        refine p_X4_25 dX4_use_34  ?_
        refine K_aload_n dX4_use_37 rfl ?_
        refine g_X4_25 dX4_use_38  ?_
        refine K_top mset_at ?_
        refine K_ifN_le (by omega) (tgt := 48) dX4_use_41 (by decide) (fun c41 => absurd c41 (by decide)) (fun c41 => ?_)
        refine K_iconstN 0 dX4_use_44 rfl ?_
        refine K_goto (tgt := 55) dX4_use_45 (by decide) ?_
        exact K_iret dX4_use_55 ⟨by rfl, rfl⟩
      · skip
        exact absurd (c26.symm.trans h) (by decide)
    · skip
      exact absurd (c13.symm.trans huu) (by decide)

set_option maxHeartbeats 4000000 in
set_option maxRecDepth 100000 in
theorem C_X4_whyNot_e1 {l : Launch} {G : WG} {μ : Mem} {z : Zr} (hz : μ.1 16 0 0 = z) {n : Nat} (hZ : ZI z n) {a b c : Int32} (h : cHas n a = false) : Ct l G 2 yX4_whyNot cX4_whyNot 4 (some .int) [.ref (adr G 15 0 0), .int (c), .int (a), .int (b)] (μ) (some (.int (nI 0))) (mset μ 15 0 0 5 (nI 1)) := by
  refine Ct_of (by decide +kernel) (Nat.le_of_ble_eq_true rfl) ?_
  subst hz
  refine K_aload_n dX4_whyNot_0 rfl ?_
  refine K_aload_n dX4_whyNot_1 rfl ?_
  refine K_iload_n dX4_whyNot_2 rfl ?_
  refine k_X4_isPhase (C_X4_isPhase rfl hZ) (by decide)  ml_X4_84 (Nat.le_of_ble_eq_true rfl) dX4_whyNot_3 ?_
  refine K_ifb_eq (tgt := 16) dX4_whyNot_6 (by decide) (fun c6 => ?_) (fun c6 => ?_)
  · skip
    refine K_iconstN 1 dX4_whyNot_16 rfl ?_
    refine K_goto (tgt := 34) dX4_whyNot_17 (by decide) ?_
    refine p_X4_25 dX4_whyNot_34  ?_
    refine K_aload_n dX4_whyNot_37 rfl ?_
    refine g_X4_25 dX4_whyNot_38  ?_
    refine K_top mset_at ?_
    refine K_ifN_le (by omega) (tgt := 48) dX4_whyNot_41 (by decide) (fun c41 => absurd c41 (by decide)) (fun c41 => ?_)
    refine K_iconstN 0 dX4_whyNot_44 rfl ?_
    refine K_goto (tgt := 55) dX4_whyNot_45 (by decide) ?_
    exact K_iret dX4_whyNot_55 ⟨by rfl, rfl⟩
  · skip
    exact absurd (c6.symm.trans h) (by decide)

set_option maxHeartbeats 4000000 in
set_option maxRecDepth 100000 in
theorem C_X4_whyNot_e2 {l : Launch} {G : WG} {μ : Mem} {z : Zr} (hz : μ.1 16 0 0 = z) {n : Nat} (hZ : ZI z n) {p : Nat} (hp : p < n) {b c : Int32} (h : uOk b = false) : Ct l G 2 yX4_whyNot cX4_whyNot 4 (some .int) [.ref (adr G 15 0 0), .int (c), .int (nI p), .int (b)] (μ) (some (.int (nI 0))) (mset μ 15 0 0 5 (nI 1)) := by
  refine Ct_of (by decide +kernel) (Nat.le_of_ble_eq_true rfl) ?_
  subst hz
  have hp6 : p < 6 := Nat.lt_of_lt_of_le hp hZ.2.1
  have hph := cHas_nat hp hZ.2.1
  refine K_aload_n dX4_whyNot_0 rfl ?_
  refine K_aload_n dX4_whyNot_1 rfl ?_
  refine K_iload_n dX4_whyNot_2 rfl ?_
  refine k_X4_isPhase (C_X4_isPhase rfl hZ) (by decide)  ml_X4_84 (Nat.le_of_ble_eq_true rfl) dX4_whyNot_3 ?_
  refine K_ifb_eq (tgt := 16) dX4_whyNot_6 (by decide) (fun c6 => ?_) (fun c6 => ?_)
  · skip
    exact absurd (c6.symm.trans hph) (by decide)
  · skip
    refine K_iload_n dX4_whyNot_9 rfl ?_
    refine k_X4_isUse (C_X4_isUse ) (by decide) ml_X4_87 (Nat.le_of_ble_eq_true rfl) dX4_whyNot_10 ?_
    refine K_ifb_ne (tgt := 20) dX4_whyNot_13 (by decide) (fun c13 => ?_) (fun c13 => ?_)
    · skip
      exact absurd (c13.symm.trans h) (by decide)
    · skip
      refine K_iconstN 1 dX4_whyNot_16 rfl ?_
      refine K_goto (tgt := 34) dX4_whyNot_17 (by decide) ?_
      refine p_X4_25 dX4_whyNot_34  ?_
      refine K_aload_n dX4_whyNot_37 rfl ?_
      refine g_X4_25 dX4_whyNot_38  ?_
      refine K_top mset_at ?_
      refine K_ifN_le (by omega) (tgt := 48) dX4_whyNot_41 (by decide) (fun c41 => absurd c41 (by decide)) (fun c41 => ?_)
      refine K_iconstN 0 dX4_whyNot_44 rfl ?_
      refine K_goto (tgt := 55) dX4_whyNot_45 (by decide) ?_
      exact K_iret dX4_whyNot_55 ⟨by rfl, rfl⟩

set_option maxHeartbeats 4000000 in
set_option maxRecDepth 100000 in
theorem C_X4_whyNot_e3 {l : Launch} {G : WG} {μ : Mem} {z : Zr} (hz : μ.1 16 0 0 = z) {n : Nat} (hZ : ZI z n) {p : Nat} (hp : p < n) {u : Nat} (hu : u < 4) {c : Int32} (h : rOk c (nI 0) (nI 4) = false) : Ct l G 2 yX4_whyNot cX4_whyNot 4 (some .int) [.ref (adr G 15 0 0), .int (c), .int (nI p), .int (nI u)] (μ) (some (.int (nI 0))) (mset μ 15 0 0 5 (nI 2)) := by
  refine Ct_of (by decide +kernel) (Nat.le_of_ble_eq_true rfl) ?_
  subst hz
  have hp6 : p < 6 := Nat.lt_of_lt_of_le hp hZ.2.1
  have hph := cHas_nat hp hZ.2.1
  have huu := uOk_nat hu
  refine K_aload_n dX4_whyNot_0 rfl ?_
  refine K_aload_n dX4_whyNot_1 rfl ?_
  refine K_iload_n dX4_whyNot_2 rfl ?_
  refine k_X4_isPhase (C_X4_isPhase rfl hZ) (by decide)  ml_X4_84 (Nat.le_of_ble_eq_true rfl) dX4_whyNot_3 ?_
  refine K_ifb_eq (tgt := 16) dX4_whyNot_6 (by decide) (fun c6 => ?_) (fun c6 => ?_)
  · skip
    exact absurd (c6.symm.trans hph) (by decide)
  · skip
    refine K_iload_n dX4_whyNot_9 rfl ?_
    refine k_X4_isUse (C_X4_isUse ) (by decide) ml_X4_87 (Nat.le_of_ble_eq_true rfl) dX4_whyNot_10 ?_
    refine K_ifb_ne (tgt := 20) dX4_whyNot_13 (by decide) (fun c13 => ?_) (fun c13 => ?_)
    · skip
      refine K_iload_n dX4_whyNot_20 rfl ?_
      refine K_iconstN 0 dX4_whyNot_21 rfl ?_
      refine K_iconstN 4 dX4_whyNot_22 rfl ?_
      refine k_X4_within (C_X4_within ) (by decide) ml_X4_32 (Nat.le_of_ble_eq_true rfl) dX4_whyNot_23 ?_
      refine K_ifb_eq (tgt := 33) dX4_whyNot_26 (by decide) (fun c26 => ?_) (fun c26 => ?_)
      · skip
        refine K_iconstN 2 dX4_whyNot_33 rfl ?_
        refine p_X4_25 dX4_whyNot_34  ?_
        refine K_aload_n dX4_whyNot_37 rfl ?_
        refine g_X4_25 dX4_whyNot_38  ?_
        refine K_top mset_at ?_
        refine K_ifN_le (by omega) (tgt := 48) dX4_whyNot_41 (by decide) (fun c41 => absurd c41 (by decide)) (fun c41 => ?_)
        refine K_iconstN 0 dX4_whyNot_44 rfl ?_
        refine K_goto (tgt := 55) dX4_whyNot_45 (by decide) ?_
        exact K_iret dX4_whyNot_55 ⟨by rfl, rfl⟩
      · skip
        exact absurd (c26.symm.trans h) (by decide)
    · skip
      exact absurd (c13.symm.trans huu) (by decide)

set_option maxHeartbeats 4000000 in
set_option maxRecDepth 100000 in
theorem C_X4_instalment0 {l : Launch} {G : WG} {μ : Mem} {z : Zr} (hz : μ.1 16 0 0 = z) {n : Nat} (hZ : ZI z n) {p : Nat} (hp : p < n) {k : Nat} (hk : k < 4) : Ct l G 2 yX4_instalment cX4_instalment 4 (some .int) [.ref (adr G 15 0 0), .int (nI p), .int (nI k), .int (nI 0)] (μ) (some (.int (mInst z p k 0))) (mset μ 15 0 0 5 (nI 0)) := by
  refine Ct_of (by decide +kernel) (Nat.le_of_ble_eq_true rfl) ?_
  subst hz
  have hp6 : p < 6 := Nat.lt_of_lt_of_le hp hZ.2.1
  have hph := cHas_nat hp hZ.2.1
  have hrk := rOk_nat (w := k) (b := 3) (by omega) (by omega)
  have hrr := rOk_nat (w := 0) (b := 2) (by omega) (by omega)
  refine K_aload_n dX4_instalment_0 rfl ?_
  refine K_aload_n dX4_instalment_1 rfl ?_
  refine K_iload_n dX4_instalment_2 rfl ?_
  refine k_X4_isPhase (C_X4_isPhase rfl hZ) (by decide)  ml_X4_84 (Nat.le_of_ble_eq_true rfl) dX4_instalment_3 ?_
  refine K_ifb_ne (tgt := 13) dX4_instalment_6 (by decide) (fun c6 => ?_) (fun c6 => ?_)
  · skip
    refine K_iload_n dX4_instalment_13 rfl ?_
    refine K_iconstN 0 dX4_instalment_14 rfl ?_
    refine K_iconstN 3 dX4_instalment_15 rfl ?_
    refine k_X4_within (C_X4_within ) (by decide) ml_X4_32 (Nat.le_of_ble_eq_true rfl) dX4_instalment_16 ?_
    refine K_ifb_eq (tgt := 35) dX4_instalment_19 (by decide) (fun c19 => ?_) (fun c19 => ?_)
    · skip
      exact absurd (c19.symm.trans hrk) (by decide)
    · skip
      refine K_iload_n dX4_instalment_22 rfl ?_
      refine K_iconstN 0 dX4_instalment_23 rfl ?_
      refine K_iconstN 2 dX4_instalment_24 rfl ?_
      refine k_X4_within (C_X4_within ) (by decide) ml_X4_32 (Nat.le_of_ble_eq_true rfl) dX4_instalment_25 ?_
      refine K_ifb_eq (tgt := 35) dX4_instalment_28 (by decide) (fun c28 => ?_) (fun c28 => ?_)
      · skip
        exact absurd (c28.symm.trans hrr) (by decide)
      · skip
        refine K_iconstN 0 dX4_instalment_31 rfl ?_
        refine K_goto (tgt := 36) dX4_instalment_32 (by decide) ?_
        refine p_X4_25 dX4_instalment_36  ?_
        refine K_aload_n dX4_instalment_39 rfl ?_
        refine g_X4_25 dX4_instalment_40  ?_
        refine K_top mset_at ?_
        refine K_ifN_le (by omega) (tgt := 50) dX4_instalment_43 (by decide) (fun c43 => ?_) (fun c43 => absurd c43 (by decide))
        refine K_aload_n dX4_instalment_50 rfl ?_
        refine K_iload_n dX4_instalment_51 rfl ?_
        refine K_iload_n dX4_instalment_52 rfl ?_
        refine K_iload_n dX4_instalment_53 rfl ?_
        refine k_X4_instalmentNow (C_X4_instalmentNow0 rfl (by omega) (by omega) hZ) (by decide)  ml_X4_200 (Nat.le_of_ble_eq_true rfl) dX4_instalment_54 ?_
        exact K_iret dX4_instalment_57 ⟨by rfl, rfl⟩
  · skip
    exact absurd (c6.symm.trans hph) (by decide)

set_option maxHeartbeats 4000000 in
set_option maxRecDepth 100000 in
theorem C_X4_ifBegun0 {l : Launch} {G : WG} {μ : Mem} {z : Zr} (hz : μ.1 16 0 0 = z) {n : Nat} (hZ : ZI z n) {p : Nat} (hp : p < n) : Ct l G 6 yX4_ifBegun cX4_ifBegun 3 (some .int) [.ref (adr G 15 0 0), .int (nI p), .int (nI 0)] (μ) (some (.int (mThen z p 0))) (mset μ 15 0 0 5 (nI 0)) := by
  refine Ct_of (by decide +kernel) (Nat.le_of_ble_eq_true rfl) ?_
  subst hz
  have hp6 : p < 6 := Nat.lt_of_lt_of_le hp hZ.2.1
  have hph := cHas_nat hp hZ.2.1
  have hrr := rOk_nat (w := 0) (b := 2) (by omega) (by omega)
  refine K_aload_n dX4_ifBegun_0 rfl ?_
  refine K_aload_n dX4_ifBegun_1 rfl ?_
  refine K_iload_n dX4_ifBegun_2 rfl ?_
  refine k_X4_isPhase (C_X4_isPhase rfl hZ) (by decide)  ml_X4_84 (Nat.le_of_ble_eq_true rfl) dX4_ifBegun_3 ?_
  refine K_ifb_ne (tgt := 13) dX4_ifBegun_6 (by decide) (fun c6 => ?_) (fun c6 => ?_)
  · skip
    refine K_iload_n dX4_ifBegun_13 rfl ?_
    refine K_iconstN 0 dX4_ifBegun_14 rfl ?_
    refine K_iconstN 2 dX4_ifBegun_15 rfl ?_
    refine k_X4_within (C_X4_within ) (by decide) ml_X4_32 (Nat.le_of_ble_eq_true rfl) dX4_ifBegun_16 ?_
    refine K_ifb_eq (tgt := 26) dX4_ifBegun_19 (by decide) (fun c19 => ?_) (fun c19 => ?_)
    · skip
      exact absurd (c19.symm.trans hrr) (by decide)
    · skip
      refine K_iconstN 0 dX4_ifBegun_22 rfl ?_
      refine K_goto (tgt := 27) dX4_ifBegun_23 (by decide) ?_
      refine p_X4_25 dX4_ifBegun_27  ?_
      refine K_aload_n dX4_ifBegun_30 rfl ?_
      refine g_X4_25 dX4_ifBegun_31  ?_
      refine K_top mset_at ?_
      refine K_ifN_le (by omega) (tgt := 41) dX4_ifBegun_34 (by decide) (fun c34 => ?_) (fun c34 => absurd c34 (by decide))
      refine K_aload_n dX4_ifBegun_41 rfl ?_
      refine K_iload_n dX4_ifBegun_42 rfl ?_
      refine K_iload_n dX4_ifBegun_43 rfl ?_
      refine k_X4_begunThen (C_X4_begunThen0 rfl (by omega)) (by decide)  ml_X4_215 (Nat.le_of_ble_eq_true rfl) dX4_ifBegun_44 ?_
      exact K_iret dX4_ifBegun_47 ⟨by rfl, rfl⟩
  · skip
    exact absurd (c6.symm.trans hph) (by decide)

set_option maxHeartbeats 4000000 in
set_option maxRecDepth 100000 in
theorem C_X4_instalment1 {l : Launch} {G : WG} {μ : Mem} {z : Zr} (hz : μ.1 16 0 0 = z) {n : Nat} (hZ : ZI z n) {p : Nat} (hp : p < n) {k : Nat} (hk : k < 4) : Ct l G 2 yX4_instalment cX4_instalment 4 (some .int) [.ref (adr G 15 0 0), .int (nI p), .int (nI k), .int (nI 1)] (μ) (some (.int (mInst z p k 1))) (mset μ 15 0 0 5 (nI 0)) := by
  refine Ct_of (by decide +kernel) (Nat.le_of_ble_eq_true rfl) ?_
  subst hz
  have hp6 : p < 6 := Nat.lt_of_lt_of_le hp hZ.2.1
  have hph := cHas_nat hp hZ.2.1
  have hrk := rOk_nat (w := k) (b := 3) (by omega) (by omega)
  have hrr := rOk_nat (w := 1) (b := 2) (by omega) (by omega)
  refine K_aload_n dX4_instalment_0 rfl ?_
  refine K_aload_n dX4_instalment_1 rfl ?_
  refine K_iload_n dX4_instalment_2 rfl ?_
  refine k_X4_isPhase (C_X4_isPhase rfl hZ) (by decide)  ml_X4_84 (Nat.le_of_ble_eq_true rfl) dX4_instalment_3 ?_
  refine K_ifb_ne (tgt := 13) dX4_instalment_6 (by decide) (fun c6 => ?_) (fun c6 => ?_)
  · skip
    refine K_iload_n dX4_instalment_13 rfl ?_
    refine K_iconstN 0 dX4_instalment_14 rfl ?_
    refine K_iconstN 3 dX4_instalment_15 rfl ?_
    refine k_X4_within (C_X4_within ) (by decide) ml_X4_32 (Nat.le_of_ble_eq_true rfl) dX4_instalment_16 ?_
    refine K_ifb_eq (tgt := 35) dX4_instalment_19 (by decide) (fun c19 => ?_) (fun c19 => ?_)
    · skip
      exact absurd (c19.symm.trans hrk) (by decide)
    · skip
      refine K_iload_n dX4_instalment_22 rfl ?_
      refine K_iconstN 0 dX4_instalment_23 rfl ?_
      refine K_iconstN 2 dX4_instalment_24 rfl ?_
      refine k_X4_within (C_X4_within ) (by decide) ml_X4_32 (Nat.le_of_ble_eq_true rfl) dX4_instalment_25 ?_
      refine K_ifb_eq (tgt := 35) dX4_instalment_28 (by decide) (fun c28 => ?_) (fun c28 => ?_)
      · skip
        exact absurd (c28.symm.trans hrr) (by decide)
      · skip
        refine K_iconstN 0 dX4_instalment_31 rfl ?_
        refine K_goto (tgt := 36) dX4_instalment_32 (by decide) ?_
        refine p_X4_25 dX4_instalment_36  ?_
        refine K_aload_n dX4_instalment_39 rfl ?_
        refine g_X4_25 dX4_instalment_40  ?_
        refine K_top mset_at ?_
        refine K_ifN_le (by omega) (tgt := 50) dX4_instalment_43 (by decide) (fun c43 => ?_) (fun c43 => absurd c43 (by decide))
        refine K_aload_n dX4_instalment_50 rfl ?_
        refine K_iload_n dX4_instalment_51 rfl ?_
        refine K_iload_n dX4_instalment_52 rfl ?_
        refine K_iload_n dX4_instalment_53 rfl ?_
        refine k_X4_instalmentNow (C_X4_instalmentNow1 rfl (by omega) (by omega) hZ) (by decide)  ml_X4_200 (Nat.le_of_ble_eq_true rfl) dX4_instalment_54 ?_
        exact K_iret dX4_instalment_57 ⟨by rfl, rfl⟩
  · skip
    exact absurd (c6.symm.trans hph) (by decide)

set_option maxHeartbeats 4000000 in
set_option maxRecDepth 100000 in
theorem C_X4_ifBegun1 {l : Launch} {G : WG} {μ : Mem} {z : Zr} (hz : μ.1 16 0 0 = z) {n : Nat} (hZ : ZI z n) {p : Nat} (hp : p < n) : Ct l G 6 yX4_ifBegun cX4_ifBegun 3 (some .int) [.ref (adr G 15 0 0), .int (nI p), .int (nI 1)] (μ) (some (.int (mThen z p 1))) (mset μ 15 0 0 5 (nI 0)) := by
  refine Ct_of (by decide +kernel) (Nat.le_of_ble_eq_true rfl) ?_
  subst hz
  have hp6 : p < 6 := Nat.lt_of_lt_of_le hp hZ.2.1
  have hph := cHas_nat hp hZ.2.1
  have hrr := rOk_nat (w := 1) (b := 2) (by omega) (by omega)
  refine K_aload_n dX4_ifBegun_0 rfl ?_
  refine K_aload_n dX4_ifBegun_1 rfl ?_
  refine K_iload_n dX4_ifBegun_2 rfl ?_
  refine k_X4_isPhase (C_X4_isPhase rfl hZ) (by decide)  ml_X4_84 (Nat.le_of_ble_eq_true rfl) dX4_ifBegun_3 ?_
  refine K_ifb_ne (tgt := 13) dX4_ifBegun_6 (by decide) (fun c6 => ?_) (fun c6 => ?_)
  · skip
    refine K_iload_n dX4_ifBegun_13 rfl ?_
    refine K_iconstN 0 dX4_ifBegun_14 rfl ?_
    refine K_iconstN 2 dX4_ifBegun_15 rfl ?_
    refine k_X4_within (C_X4_within ) (by decide) ml_X4_32 (Nat.le_of_ble_eq_true rfl) dX4_ifBegun_16 ?_
    refine K_ifb_eq (tgt := 26) dX4_ifBegun_19 (by decide) (fun c19 => ?_) (fun c19 => ?_)
    · skip
      exact absurd (c19.symm.trans hrr) (by decide)
    · skip
      refine K_iconstN 0 dX4_ifBegun_22 rfl ?_
      refine K_goto (tgt := 27) dX4_ifBegun_23 (by decide) ?_
      refine p_X4_25 dX4_ifBegun_27  ?_
      refine K_aload_n dX4_ifBegun_30 rfl ?_
      refine g_X4_25 dX4_ifBegun_31  ?_
      refine K_top mset_at ?_
      refine K_ifN_le (by omega) (tgt := 41) dX4_ifBegun_34 (by decide) (fun c34 => ?_) (fun c34 => absurd c34 (by decide))
      refine K_aload_n dX4_ifBegun_41 rfl ?_
      refine K_iload_n dX4_ifBegun_42 rfl ?_
      refine K_iload_n dX4_ifBegun_43 rfl ?_
      refine k_X4_begunThen (C_X4_begunThen1 rfl (by omega)) (by decide)  ml_X4_215 (Nat.le_of_ble_eq_true rfl) dX4_ifBegun_44 ?_
      exact K_iret dX4_ifBegun_47 ⟨by rfl, rfl⟩
  · skip
    exact absurd (c6.symm.trans hph) (by decide)

set_option maxHeartbeats 4000000 in
set_option maxRecDepth 100000 in
theorem C_X4_instalment2 {l : Launch} {G : WG} {μ : Mem} {z : Zr} (hz : μ.1 16 0 0 = z) {n : Nat} (hZ : ZI z n) {p : Nat} (hp : p < n) {k : Nat} (hk : k < 4) : Ct l G 2 yX4_instalment cX4_instalment 4 (some .int) [.ref (adr G 15 0 0), .int (nI p), .int (nI k), .int (nI 2)] (μ) (some (.int (mInst z p k 2))) (mset μ 15 0 0 5 (nI 0)) := by
  refine Ct_of (by decide +kernel) (Nat.le_of_ble_eq_true rfl) ?_
  subst hz
  have hp6 : p < 6 := Nat.lt_of_lt_of_le hp hZ.2.1
  have hph := cHas_nat hp hZ.2.1
  have hrk := rOk_nat (w := k) (b := 3) (by omega) (by omega)
  have hrr := rOk_nat (w := 2) (b := 2) (by omega) (by omega)
  refine K_aload_n dX4_instalment_0 rfl ?_
  refine K_aload_n dX4_instalment_1 rfl ?_
  refine K_iload_n dX4_instalment_2 rfl ?_
  refine k_X4_isPhase (C_X4_isPhase rfl hZ) (by decide)  ml_X4_84 (Nat.le_of_ble_eq_true rfl) dX4_instalment_3 ?_
  refine K_ifb_ne (tgt := 13) dX4_instalment_6 (by decide) (fun c6 => ?_) (fun c6 => ?_)
  · skip
    refine K_iload_n dX4_instalment_13 rfl ?_
    refine K_iconstN 0 dX4_instalment_14 rfl ?_
    refine K_iconstN 3 dX4_instalment_15 rfl ?_
    refine k_X4_within (C_X4_within ) (by decide) ml_X4_32 (Nat.le_of_ble_eq_true rfl) dX4_instalment_16 ?_
    refine K_ifb_eq (tgt := 35) dX4_instalment_19 (by decide) (fun c19 => ?_) (fun c19 => ?_)
    · skip
      exact absurd (c19.symm.trans hrk) (by decide)
    · skip
      refine K_iload_n dX4_instalment_22 rfl ?_
      refine K_iconstN 0 dX4_instalment_23 rfl ?_
      refine K_iconstN 2 dX4_instalment_24 rfl ?_
      refine k_X4_within (C_X4_within ) (by decide) ml_X4_32 (Nat.le_of_ble_eq_true rfl) dX4_instalment_25 ?_
      refine K_ifb_eq (tgt := 35) dX4_instalment_28 (by decide) (fun c28 => ?_) (fun c28 => ?_)
      · skip
        exact absurd (c28.symm.trans hrr) (by decide)
      · skip
        refine K_iconstN 0 dX4_instalment_31 rfl ?_
        refine K_goto (tgt := 36) dX4_instalment_32 (by decide) ?_
        refine p_X4_25 dX4_instalment_36  ?_
        refine K_aload_n dX4_instalment_39 rfl ?_
        refine g_X4_25 dX4_instalment_40  ?_
        refine K_top mset_at ?_
        refine K_ifN_le (by omega) (tgt := 50) dX4_instalment_43 (by decide) (fun c43 => ?_) (fun c43 => absurd c43 (by decide))
        refine K_aload_n dX4_instalment_50 rfl ?_
        refine K_iload_n dX4_instalment_51 rfl ?_
        refine K_iload_n dX4_instalment_52 rfl ?_
        refine K_iload_n dX4_instalment_53 rfl ?_
        refine k_X4_instalmentNow (C_X4_instalmentNow2 rfl (by omega) (by omega) hZ) (by decide)  ml_X4_200 (Nat.le_of_ble_eq_true rfl) dX4_instalment_54 ?_
        exact K_iret dX4_instalment_57 ⟨by rfl, rfl⟩
  · skip
    exact absurd (c6.symm.trans hph) (by decide)

set_option maxHeartbeats 4000000 in
set_option maxRecDepth 100000 in
theorem C_X4_ifBegun2 {l : Launch} {G : WG} {μ : Mem} {z : Zr} (hz : μ.1 16 0 0 = z) {n : Nat} (hZ : ZI z n) {p : Nat} (hp : p < n) : Ct l G 6 yX4_ifBegun cX4_ifBegun 3 (some .int) [.ref (adr G 15 0 0), .int (nI p), .int (nI 2)] (μ) (some (.int (mThen z p 2))) (mset μ 15 0 0 5 (nI 0)) := by
  refine Ct_of (by decide +kernel) (Nat.le_of_ble_eq_true rfl) ?_
  subst hz
  have hp6 : p < 6 := Nat.lt_of_lt_of_le hp hZ.2.1
  have hph := cHas_nat hp hZ.2.1
  have hrr := rOk_nat (w := 2) (b := 2) (by omega) (by omega)
  refine K_aload_n dX4_ifBegun_0 rfl ?_
  refine K_aload_n dX4_ifBegun_1 rfl ?_
  refine K_iload_n dX4_ifBegun_2 rfl ?_
  refine k_X4_isPhase (C_X4_isPhase rfl hZ) (by decide)  ml_X4_84 (Nat.le_of_ble_eq_true rfl) dX4_ifBegun_3 ?_
  refine K_ifb_ne (tgt := 13) dX4_ifBegun_6 (by decide) (fun c6 => ?_) (fun c6 => ?_)
  · skip
    refine K_iload_n dX4_ifBegun_13 rfl ?_
    refine K_iconstN 0 dX4_ifBegun_14 rfl ?_
    refine K_iconstN 2 dX4_ifBegun_15 rfl ?_
    refine k_X4_within (C_X4_within ) (by decide) ml_X4_32 (Nat.le_of_ble_eq_true rfl) dX4_ifBegun_16 ?_
    refine K_ifb_eq (tgt := 26) dX4_ifBegun_19 (by decide) (fun c19 => ?_) (fun c19 => ?_)
    · skip
      exact absurd (c19.symm.trans hrr) (by decide)
    · skip
      refine K_iconstN 0 dX4_ifBegun_22 rfl ?_
      refine K_goto (tgt := 27) dX4_ifBegun_23 (by decide) ?_
      refine p_X4_25 dX4_ifBegun_27  ?_
      refine K_aload_n dX4_ifBegun_30 rfl ?_
      refine g_X4_25 dX4_ifBegun_31  ?_
      refine K_top mset_at ?_
      refine K_ifN_le (by omega) (tgt := 41) dX4_ifBegun_34 (by decide) (fun c34 => ?_) (fun c34 => absurd c34 (by decide))
      refine K_aload_n dX4_ifBegun_41 rfl ?_
      refine K_iload_n dX4_ifBegun_42 rfl ?_
      refine K_iload_n dX4_ifBegun_43 rfl ?_
      refine k_X4_begunThen (C_X4_begunThen2 rfl (by omega)) (by decide)  ml_X4_215 (Nat.le_of_ble_eq_true rfl) dX4_ifBegun_44 ?_
      exact K_iret dX4_ifBegun_47 ⟨by rfl, rfl⟩
  · skip
    exact absurd (c6.symm.trans hph) (by decide)

set_option maxHeartbeats 4000000 in
set_option maxRecDepth 100000 in
theorem C_X4_instalment_e1 {l : Launch} {G : WG} {μ : Mem} {z : Zr} (hz : μ.1 16 0 0 = z) {n : Nat} (hZ : ZI z n) {a b c : Int32} (h : cHas n a = false) : Ct l G 2 yX4_instalment cX4_instalment 4 (some .int) [.ref (adr G 15 0 0), .int (a), .int (b), .int (c)] (μ) (some (.int (nI 0))) (mset μ 15 0 0 5 (nI 1)) := by
  refine Ct_of (by decide +kernel) (Nat.le_of_ble_eq_true rfl) ?_
  subst hz
  refine K_aload_n dX4_instalment_0 rfl ?_
  refine K_aload_n dX4_instalment_1 rfl ?_
  refine K_iload_n dX4_instalment_2 rfl ?_
  refine k_X4_isPhase (C_X4_isPhase rfl hZ) (by decide)  ml_X4_84 (Nat.le_of_ble_eq_true rfl) dX4_instalment_3 ?_
  refine K_ifb_ne (tgt := 13) dX4_instalment_6 (by decide) (fun c6 => ?_) (fun c6 => ?_)
  · skip
    exact absurd (c6.symm.trans h) (by decide)
  · skip
    refine K_iconstN 1 dX4_instalment_9 rfl ?_
    refine K_goto (tgt := 36) dX4_instalment_10 (by decide) ?_
    refine p_X4_25 dX4_instalment_36  ?_
    refine K_aload_n dX4_instalment_39 rfl ?_
    refine g_X4_25 dX4_instalment_40  ?_
    refine K_top mset_at ?_
    refine K_ifN_le (by omega) (tgt := 50) dX4_instalment_43 (by decide) (fun c43 => absurd c43 (by decide)) (fun c43 => ?_)
    refine K_iconstN 0 dX4_instalment_46 rfl ?_
    refine K_goto (tgt := 57) dX4_instalment_47 (by decide) ?_
    exact K_iret dX4_instalment_57 ⟨by rfl, rfl⟩

set_option maxHeartbeats 4000000 in
set_option maxRecDepth 100000 in
theorem C_X4_instalment_e2 {l : Launch} {G : WG} {μ : Mem} {z : Zr} (hz : μ.1 16 0 0 = z) {n : Nat} (hZ : ZI z n) {p : Nat} (hp : p < n) {b c : Int32} (h : (rOk b (nI 0) (nI 3) && rOk c (nI 0) (nI 2)) = false) : Ct l G 2 yX4_instalment cX4_instalment 4 (some .int) [.ref (adr G 15 0 0), .int (nI p), .int (b), .int (c)] (μ) (some (.int (nI 0))) (mset μ 15 0 0 5 (nI 2)) := by
  refine Ct_of (by decide +kernel) (Nat.le_of_ble_eq_true rfl) ?_
  subst hz
  have hp6 : p < 6 := Nat.lt_of_lt_of_le hp hZ.2.1
  have hph := cHas_nat hp hZ.2.1
  refine K_aload_n dX4_instalment_0 rfl ?_
  refine K_aload_n dX4_instalment_1 rfl ?_
  refine K_iload_n dX4_instalment_2 rfl ?_
  refine k_X4_isPhase (C_X4_isPhase rfl hZ) (by decide)  ml_X4_84 (Nat.le_of_ble_eq_true rfl) dX4_instalment_3 ?_
  refine K_ifb_ne (tgt := 13) dX4_instalment_6 (by decide) (fun c6 => ?_) (fun c6 => ?_)
  · skip
    refine K_iload_n dX4_instalment_13 rfl ?_
    refine K_iconstN 0 dX4_instalment_14 rfl ?_
    refine K_iconstN 3 dX4_instalment_15 rfl ?_
    refine k_X4_within (C_X4_within ) (by decide) ml_X4_32 (Nat.le_of_ble_eq_true rfl) dX4_instalment_16 ?_
    refine K_ifb_eq (tgt := 35) dX4_instalment_19 (by decide) (fun c19 => ?_) (fun c19 => ?_)
    · skip
      refine K_iconstN 2 dX4_instalment_35 rfl ?_
      refine p_X4_25 dX4_instalment_36  ?_
      refine K_aload_n dX4_instalment_39 rfl ?_
      refine g_X4_25 dX4_instalment_40  ?_
      refine K_top mset_at ?_
      refine K_ifN_le (by omega) (tgt := 50) dX4_instalment_43 (by decide) (fun c43 => absurd c43 (by decide)) (fun c43 => ?_)
      refine K_iconstN 0 dX4_instalment_46 rfl ?_
      refine K_goto (tgt := 57) dX4_instalment_47 (by decide) ?_
      exact K_iret dX4_instalment_57 ⟨by rfl, rfl⟩
    · skip
      refine K_iload_n dX4_instalment_22 rfl ?_
      refine K_iconstN 0 dX4_instalment_23 rfl ?_
      refine K_iconstN 2 dX4_instalment_24 rfl ?_
      refine k_X4_within (C_X4_within ) (by decide) ml_X4_32 (Nat.le_of_ble_eq_true rfl) dX4_instalment_25 ?_
      refine K_ifb_eq (tgt := 35) dX4_instalment_28 (by decide) (fun c28 => ?_) (fun c28 => ?_)
      · skip
        refine K_iconstN 2 dX4_instalment_35 rfl ?_
        refine p_X4_25 dX4_instalment_36  ?_
        refine K_aload_n dX4_instalment_39 rfl ?_
        refine g_X4_25 dX4_instalment_40  ?_
        refine K_top mset_at ?_
        refine K_ifN_le (by omega) (tgt := 50) dX4_instalment_43 (by decide) (fun c43 => absurd c43 (by decide)) (fun c43 => ?_)
        refine K_iconstN 0 dX4_instalment_46 rfl ?_
        refine K_goto (tgt := 57) dX4_instalment_47 (by decide) ?_
        exact K_iret dX4_instalment_57 ⟨by rfl, rfl⟩
      · skip
        exact absurd h (by rw [c19, c28]; decide)
  · skip
    exact absurd (c6.symm.trans hph) (by decide)

set_option maxHeartbeats 4000000 in
set_option maxRecDepth 100000 in
theorem C_X4_ifBegun_e1 {l : Launch} {G : WG} {μ : Mem} {z : Zr} (hz : μ.1 16 0 0 = z) {n : Nat} (hZ : ZI z n) {a b : Int32} (h : cHas n a = false) : Ct l G 2 yX4_ifBegun cX4_ifBegun 3 (some .int) [.ref (adr G 15 0 0), .int (a), .int (b)] (μ) (some (.int (nI 0))) (mset μ 15 0 0 5 (nI 1)) := by
  refine Ct_of (by decide +kernel) (Nat.le_of_ble_eq_true rfl) ?_
  subst hz
  refine K_aload_n dX4_ifBegun_0 rfl ?_
  refine K_aload_n dX4_ifBegun_1 rfl ?_
  refine K_iload_n dX4_ifBegun_2 rfl ?_
  refine k_X4_isPhase (C_X4_isPhase rfl hZ) (by decide)  ml_X4_84 (Nat.le_of_ble_eq_true rfl) dX4_ifBegun_3 ?_
  refine K_ifb_ne (tgt := 13) dX4_ifBegun_6 (by decide) (fun c6 => ?_) (fun c6 => ?_)
  · skip
    exact absurd (c6.symm.trans h) (by decide)
  · skip
    refine K_iconstN 1 dX4_ifBegun_9 rfl ?_
    refine K_goto (tgt := 27) dX4_ifBegun_10 (by decide) ?_
    refine p_X4_25 dX4_ifBegun_27  ?_
    refine K_aload_n dX4_ifBegun_30 rfl ?_
    refine g_X4_25 dX4_ifBegun_31  ?_
    refine K_top mset_at ?_
    refine K_ifN_le (by omega) (tgt := 41) dX4_ifBegun_34 (by decide) (fun c34 => absurd c34 (by decide)) (fun c34 => ?_)
    refine K_iconstN 0 dX4_ifBegun_37 rfl ?_
    refine K_goto (tgt := 47) dX4_ifBegun_38 (by decide) ?_
    exact K_iret dX4_ifBegun_47 ⟨by rfl, rfl⟩

set_option maxHeartbeats 4000000 in
set_option maxRecDepth 100000 in
theorem C_X4_ifBegun_e2 {l : Launch} {G : WG} {μ : Mem} {z : Zr} (hz : μ.1 16 0 0 = z) {n : Nat} (hZ : ZI z n) {p : Nat} (hp : p < n) {b : Int32} (h : rOk b (nI 0) (nI 2) = false) : Ct l G 2 yX4_ifBegun cX4_ifBegun 3 (some .int) [.ref (adr G 15 0 0), .int (nI p), .int (b)] (μ) (some (.int (nI 0))) (mset μ 15 0 0 5 (nI 2)) := by
  refine Ct_of (by decide +kernel) (Nat.le_of_ble_eq_true rfl) ?_
  subst hz
  have hp6 : p < 6 := Nat.lt_of_lt_of_le hp hZ.2.1
  have hph := cHas_nat hp hZ.2.1
  refine K_aload_n dX4_ifBegun_0 rfl ?_
  refine K_aload_n dX4_ifBegun_1 rfl ?_
  refine K_iload_n dX4_ifBegun_2 rfl ?_
  refine k_X4_isPhase (C_X4_isPhase rfl hZ) (by decide)  ml_X4_84 (Nat.le_of_ble_eq_true rfl) dX4_ifBegun_3 ?_
  refine K_ifb_ne (tgt := 13) dX4_ifBegun_6 (by decide) (fun c6 => ?_) (fun c6 => ?_)
  · skip
    refine K_iload_n dX4_ifBegun_13 rfl ?_
    refine K_iconstN 0 dX4_ifBegun_14 rfl ?_
    refine K_iconstN 2 dX4_ifBegun_15 rfl ?_
    refine k_X4_within (C_X4_within ) (by decide) ml_X4_32 (Nat.le_of_ble_eq_true rfl) dX4_ifBegun_16 ?_
    refine K_ifb_eq (tgt := 26) dX4_ifBegun_19 (by decide) (fun c19 => ?_) (fun c19 => ?_)
    · skip
      refine K_iconstN 2 dX4_ifBegun_26 rfl ?_
      refine p_X4_25 dX4_ifBegun_27  ?_
      refine K_aload_n dX4_ifBegun_30 rfl ?_
      refine g_X4_25 dX4_ifBegun_31  ?_
      refine K_top mset_at ?_
      refine K_ifN_le (by omega) (tgt := 41) dX4_ifBegun_34 (by decide) (fun c34 => absurd c34 (by decide)) (fun c34 => ?_)
      refine K_iconstN 0 dX4_ifBegun_37 rfl ?_
      refine K_goto (tgt := 47) dX4_ifBegun_38 (by decide) ?_
      exact K_iret dX4_ifBegun_47 ⟨by rfl, rfl⟩
    · skip
      exact absurd (c19.symm.trans h) (by decide)
  · skip
    exact absurd (c6.symm.trans hph) (by decide)

set_option maxHeartbeats 4000000 in
set_option maxRecDepth 100000 in
theorem C_X4_count0 {l : Launch} {G : WG} {μ : Mem} {z : Zr} (hz : μ.1 16 0 0 = z) {n : Nat} (hZ : ZI z n) {sc : Nat} (hs : μ.1 15 0 0 1 = nI sc) : Ct l G 1 yX4_count cX4_count 2 (some .int) [.ref (adr G 15 0 0), .int (nI 0)] (μ) (some (.int (mCount z sc n 0))) (mset μ 15 0 0 5 (nI 0)) := by
  refine Ct_of (by decide +kernel) (Nat.le_of_ble_eq_true rfl) ?_
  subst hz
  have hrr := rOk_nat (w := 0) (b := 15) (by omega) (by omega)
  refine K_aload_n dX4_count_0 rfl ?_
  refine K_iload_n dX4_count_1 rfl ?_
  refine K_iconstN 0 dX4_count_2 rfl ?_
  refine K_bipush (v := nI 15) dX4_count_3 (by decide) ?_
  refine k_X4_within (C_X4_within ) (by decide) ml_X4_32 (Nat.le_of_ble_eq_true rfl) dX4_count_5 ?_
  refine K_ifb_eq (tgt := 15) dX4_count_8 (by decide) (fun c8 => ?_) (fun c8 => ?_)
  · skip
    exact absurd (c8.symm.trans hrr) (by decide)
  · skip
    refine K_iconstN 0 dX4_count_11 rfl ?_
    refine K_goto (tgt := 16) dX4_count_12 (by decide) ?_
    refine p_X4_25 dX4_count_16  ?_
    refine K_aload_n dX4_count_19 rfl ?_
    refine g_X4_25 dX4_count_20  ?_
    refine K_top mset_at ?_
    refine K_ifN_le (by omega) (tgt := 30) dX4_count_23 (by decide) (fun c23 => ?_) (fun c23 => absurd c23 (by decide))
    refine K_aload_n dX4_count_30 rfl ?_
    refine K_iload_n dX4_count_31 rfl ?_
    refine k_X4_counted (C_X4_counted0 (μ := mset μ 15 0 0 5 (nI 0)) rfl hZ (by exact hs)) (by decide)  ml_X4_209 (Nat.le_of_ble_eq_true rfl) dX4_count_32 ?_
    exact K_iret dX4_count_35 ⟨by rfl, rfl⟩

set_option maxHeartbeats 4000000 in
set_option maxRecDepth 100000 in
theorem C_X4_count1 {l : Launch} {G : WG} {μ : Mem} {z : Zr} (hz : μ.1 16 0 0 = z) {n : Nat} (hZ : ZI z n) {sc : Nat} (hs : μ.1 15 0 0 1 = nI sc) : Ct l G 4 yX4_count cX4_count 2 (some .int) [.ref (adr G 15 0 0), .int (nI 1)] (μ) (some (.int (mCount z sc n 1))) (mset μ 15 0 0 5 (nI 0)) := by
  refine Ct_of (by decide +kernel) (Nat.le_of_ble_eq_true rfl) ?_
  subst hz
  have hrr := rOk_nat (w := 1) (b := 15) (by omega) (by omega)
  refine K_aload_n dX4_count_0 rfl ?_
  refine K_iload_n dX4_count_1 rfl ?_
  refine K_iconstN 0 dX4_count_2 rfl ?_
  refine K_bipush (v := nI 15) dX4_count_3 (by decide) ?_
  refine k_X4_within (C_X4_within ) (by decide) ml_X4_32 (Nat.le_of_ble_eq_true rfl) dX4_count_5 ?_
  refine K_ifb_eq (tgt := 15) dX4_count_8 (by decide) (fun c8 => ?_) (fun c8 => ?_)
  · skip
    exact absurd (c8.symm.trans hrr) (by decide)
  · skip
    refine K_iconstN 0 dX4_count_11 rfl ?_
    refine K_goto (tgt := 16) dX4_count_12 (by decide) ?_
    refine p_X4_25 dX4_count_16  ?_
    refine K_aload_n dX4_count_19 rfl ?_
    refine g_X4_25 dX4_count_20  ?_
    refine K_top mset_at ?_
    refine K_ifN_le (by omega) (tgt := 30) dX4_count_23 (by decide) (fun c23 => ?_) (fun c23 => absurd c23 (by decide))
    refine K_aload_n dX4_count_30 rfl ?_
    refine K_iload_n dX4_count_31 rfl ?_
    refine k_X4_counted (C_X4_counted1 (μ := mset μ 15 0 0 5 (nI 0)) rfl hZ (by exact hs)) (by decide)  ml_X4_209 (Nat.le_of_ble_eq_true rfl) dX4_count_32 ?_
    exact K_iret dX4_count_35 ⟨by rfl, rfl⟩

set_option maxHeartbeats 4000000 in
set_option maxRecDepth 100000 in
theorem C_X4_count2 {l : Launch} {G : WG} {μ : Mem} {z : Zr} (hz : μ.1 16 0 0 = z) {n : Nat} (hZ : ZI z n) {sc : Nat} (hs : μ.1 15 0 0 1 = nI sc) : Ct l G 4 yX4_count cX4_count 2 (some .int) [.ref (adr G 15 0 0), .int (nI 2)] (μ) (some (.int (mCount z sc n 2))) (mset μ 15 0 0 5 (nI 0)) := by
  refine Ct_of (by decide +kernel) (Nat.le_of_ble_eq_true rfl) ?_
  subst hz
  have hrr := rOk_nat (w := 2) (b := 15) (by omega) (by omega)
  refine K_aload_n dX4_count_0 rfl ?_
  refine K_iload_n dX4_count_1 rfl ?_
  refine K_iconstN 0 dX4_count_2 rfl ?_
  refine K_bipush (v := nI 15) dX4_count_3 (by decide) ?_
  refine k_X4_within (C_X4_within ) (by decide) ml_X4_32 (Nat.le_of_ble_eq_true rfl) dX4_count_5 ?_
  refine K_ifb_eq (tgt := 15) dX4_count_8 (by decide) (fun c8 => ?_) (fun c8 => ?_)
  · skip
    exact absurd (c8.symm.trans hrr) (by decide)
  · skip
    refine K_iconstN 0 dX4_count_11 rfl ?_
    refine K_goto (tgt := 16) dX4_count_12 (by decide) ?_
    refine p_X4_25 dX4_count_16  ?_
    refine K_aload_n dX4_count_19 rfl ?_
    refine g_X4_25 dX4_count_20  ?_
    refine K_top mset_at ?_
    refine K_ifN_le (by omega) (tgt := 30) dX4_count_23 (by decide) (fun c23 => ?_) (fun c23 => absurd c23 (by decide))
    refine K_aload_n dX4_count_30 rfl ?_
    refine K_iload_n dX4_count_31 rfl ?_
    refine k_X4_counted (C_X4_counted2 (μ := mset μ 15 0 0 5 (nI 0)) rfl hZ (by exact hs)) (by decide)  ml_X4_209 (Nat.le_of_ble_eq_true rfl) dX4_count_32 ?_
    exact K_iret dX4_count_35 ⟨by rfl, rfl⟩

set_option maxHeartbeats 4000000 in
set_option maxRecDepth 100000 in
theorem C_X4_count3 {l : Launch} {G : WG} {μ : Mem} {z : Zr} (hz : μ.1 16 0 0 = z) {n : Nat} (hZ : ZI z n) {sc : Nat} (hs : μ.1 15 0 0 1 = nI sc) : Ct l G 1 yX4_count cX4_count 2 (some .int) [.ref (adr G 15 0 0), .int (nI 3)] (μ) (some (.int (mCount z sc n 3))) (mset μ 15 0 0 5 (nI 0)) := by
  refine Ct_of (by decide +kernel) (Nat.le_of_ble_eq_true rfl) ?_
  subst hz
  have hrr := rOk_nat (w := 3) (b := 15) (by omega) (by omega)
  refine K_aload_n dX4_count_0 rfl ?_
  refine K_iload_n dX4_count_1 rfl ?_
  refine K_iconstN 0 dX4_count_2 rfl ?_
  refine K_bipush (v := nI 15) dX4_count_3 (by decide) ?_
  refine k_X4_within (C_X4_within ) (by decide) ml_X4_32 (Nat.le_of_ble_eq_true rfl) dX4_count_5 ?_
  refine K_ifb_eq (tgt := 15) dX4_count_8 (by decide) (fun c8 => ?_) (fun c8 => ?_)
  · skip
    exact absurd (c8.symm.trans hrr) (by decide)
  · skip
    refine K_iconstN 0 dX4_count_11 rfl ?_
    refine K_goto (tgt := 16) dX4_count_12 (by decide) ?_
    refine p_X4_25 dX4_count_16  ?_
    refine K_aload_n dX4_count_19 rfl ?_
    refine g_X4_25 dX4_count_20  ?_
    refine K_top mset_at ?_
    refine K_ifN_le (by omega) (tgt := 30) dX4_count_23 (by decide) (fun c23 => ?_) (fun c23 => absurd c23 (by decide))
    refine K_aload_n dX4_count_30 rfl ?_
    refine K_iload_n dX4_count_31 rfl ?_
    refine k_X4_counted (C_X4_counted3 (μ := mset μ 15 0 0 5 (nI 0)) rfl hZ (by exact hs)) (by decide)  ml_X4_209 (Nat.le_of_ble_eq_true rfl) dX4_count_32 ?_
    exact K_iret dX4_count_35 ⟨by rfl, rfl⟩

set_option maxHeartbeats 4000000 in
set_option maxRecDepth 100000 in
theorem C_X4_count4 {l : Launch} {G : WG} {μ : Mem} {z : Zr} (hz : μ.1 16 0 0 = z) {n : Nat} (hZ : ZI z n) {sc : Nat} (hs : μ.1 15 0 0 1 = nI sc) : Ct l G 8 yX4_count cX4_count 2 (some .int) [.ref (adr G 15 0 0), .int (nI 4)] (μ) (some (.int (mCount z sc n 4))) (mset μ 15 0 0 5 (nI 0)) := by
  refine Ct_of (by decide +kernel) (Nat.le_of_ble_eq_true rfl) ?_
  subst hz
  have hrr := rOk_nat (w := 4) (b := 15) (by omega) (by omega)
  refine K_aload_n dX4_count_0 rfl ?_
  refine K_iload_n dX4_count_1 rfl ?_
  refine K_iconstN 0 dX4_count_2 rfl ?_
  refine K_bipush (v := nI 15) dX4_count_3 (by decide) ?_
  refine k_X4_within (C_X4_within ) (by decide) ml_X4_32 (Nat.le_of_ble_eq_true rfl) dX4_count_5 ?_
  refine K_ifb_eq (tgt := 15) dX4_count_8 (by decide) (fun c8 => ?_) (fun c8 => ?_)
  · skip
    exact absurd (c8.symm.trans hrr) (by decide)
  · skip
    refine K_iconstN 0 dX4_count_11 rfl ?_
    refine K_goto (tgt := 16) dX4_count_12 (by decide) ?_
    refine p_X4_25 dX4_count_16  ?_
    refine K_aload_n dX4_count_19 rfl ?_
    refine g_X4_25 dX4_count_20  ?_
    refine K_top mset_at ?_
    refine K_ifN_le (by omega) (tgt := 30) dX4_count_23 (by decide) (fun c23 => ?_) (fun c23 => absurd c23 (by decide))
    refine K_aload_n dX4_count_30 rfl ?_
    refine K_iload_n dX4_count_31 rfl ?_
    refine k_X4_counted (C_X4_counted4 (μ := mset μ 15 0 0 5 (nI 0)) rfl hZ (by exact hs)) (by decide)  ml_X4_209 (Nat.le_of_ble_eq_true rfl) dX4_count_32 ?_
    exact K_iret dX4_count_35 ⟨by rfl, rfl⟩

set_option maxHeartbeats 4000000 in
set_option maxRecDepth 100000 in
theorem C_X4_count5 {l : Launch} {G : WG} {μ : Mem} {z : Zr} (hz : μ.1 16 0 0 = z) {n : Nat} (hZ : ZI z n) {sc : Nat} (hs : μ.1 15 0 0 1 = nI sc) : Ct l G 7 yX4_count cX4_count 2 (some .int) [.ref (adr G 15 0 0), .int (nI 5)] (μ) (some (.int (mCount z sc n 5))) (mset μ 15 0 0 5 (nI 0)) := by
  refine Ct_of (by decide +kernel) (Nat.le_of_ble_eq_true rfl) ?_
  subst hz
  have hrr := rOk_nat (w := 5) (b := 15) (by omega) (by omega)
  refine K_aload_n dX4_count_0 rfl ?_
  refine K_iload_n dX4_count_1 rfl ?_
  refine K_iconstN 0 dX4_count_2 rfl ?_
  refine K_bipush (v := nI 15) dX4_count_3 (by decide) ?_
  refine k_X4_within (C_X4_within ) (by decide) ml_X4_32 (Nat.le_of_ble_eq_true rfl) dX4_count_5 ?_
  refine K_ifb_eq (tgt := 15) dX4_count_8 (by decide) (fun c8 => ?_) (fun c8 => ?_)
  · skip
    exact absurd (c8.symm.trans hrr) (by decide)
  · skip
    refine K_iconstN 0 dX4_count_11 rfl ?_
    refine K_goto (tgt := 16) dX4_count_12 (by decide) ?_
    refine p_X4_25 dX4_count_16  ?_
    refine K_aload_n dX4_count_19 rfl ?_
    refine g_X4_25 dX4_count_20  ?_
    refine K_top mset_at ?_
    refine K_ifN_le (by omega) (tgt := 30) dX4_count_23 (by decide) (fun c23 => ?_) (fun c23 => absurd c23 (by decide))
    refine K_aload_n dX4_count_30 rfl ?_
    refine K_iload_n dX4_count_31 rfl ?_
    refine k_X4_counted (C_X4_counted5 (μ := mset μ 15 0 0 5 (nI 0)) rfl hZ (by exact hs)) (by decide)  ml_X4_209 (Nat.le_of_ble_eq_true rfl) dX4_count_32 ?_
    exact K_iret dX4_count_35 ⟨by rfl, rfl⟩

set_option maxHeartbeats 4000000 in
set_option maxRecDepth 100000 in
theorem C_X4_count6 {l : Launch} {G : WG} {μ : Mem} {z : Zr} (hz : μ.1 16 0 0 = z) {n : Nat} (hZ : ZI z n) {sc : Nat} (hs : μ.1 15 0 0 1 = nI sc) : Ct l G 4 yX4_count cX4_count 2 (some .int) [.ref (adr G 15 0 0), .int (nI 6)] (μ) (some (.int (mCount z sc n 6))) (mset μ 15 0 0 5 (nI 0)) := by
  refine Ct_of (by decide +kernel) (Nat.le_of_ble_eq_true rfl) ?_
  subst hz
  have hrr := rOk_nat (w := 6) (b := 15) (by omega) (by omega)
  refine K_aload_n dX4_count_0 rfl ?_
  refine K_iload_n dX4_count_1 rfl ?_
  refine K_iconstN 0 dX4_count_2 rfl ?_
  refine K_bipush (v := nI 15) dX4_count_3 (by decide) ?_
  refine k_X4_within (C_X4_within ) (by decide) ml_X4_32 (Nat.le_of_ble_eq_true rfl) dX4_count_5 ?_
  refine K_ifb_eq (tgt := 15) dX4_count_8 (by decide) (fun c8 => ?_) (fun c8 => ?_)
  · skip
    exact absurd (c8.symm.trans hrr) (by decide)
  · skip
    refine K_iconstN 0 dX4_count_11 rfl ?_
    refine K_goto (tgt := 16) dX4_count_12 (by decide) ?_
    refine p_X4_25 dX4_count_16  ?_
    refine K_aload_n dX4_count_19 rfl ?_
    refine g_X4_25 dX4_count_20  ?_
    refine K_top mset_at ?_
    refine K_ifN_le (by omega) (tgt := 30) dX4_count_23 (by decide) (fun c23 => ?_) (fun c23 => absurd c23 (by decide))
    refine K_aload_n dX4_count_30 rfl ?_
    refine K_iload_n dX4_count_31 rfl ?_
    refine k_X4_counted (C_X4_counted6 (μ := mset μ 15 0 0 5 (nI 0)) rfl hZ (by exact hs)) (by decide)  ml_X4_209 (Nat.le_of_ble_eq_true rfl) dX4_count_32 ?_
    exact K_iret dX4_count_35 ⟨by rfl, rfl⟩

set_option maxHeartbeats 4000000 in
set_option maxRecDepth 100000 in
theorem C_X4_count7 {l : Launch} {G : WG} {μ : Mem} {z : Zr} (hz : μ.1 16 0 0 = z) {n : Nat} (hZ : ZI z n) {sc : Nat} (hs : μ.1 15 0 0 1 = nI sc) : Ct l G 4 yX4_count cX4_count 2 (some .int) [.ref (adr G 15 0 0), .int (nI 7)] (μ) (some (.int (mCount z sc n 7))) (mset μ 15 0 0 5 (nI 0)) := by
  refine Ct_of (by decide +kernel) (Nat.le_of_ble_eq_true rfl) ?_
  subst hz
  have hrr := rOk_nat (w := 7) (b := 15) (by omega) (by omega)
  refine K_aload_n dX4_count_0 rfl ?_
  refine K_iload_n dX4_count_1 rfl ?_
  refine K_iconstN 0 dX4_count_2 rfl ?_
  refine K_bipush (v := nI 15) dX4_count_3 (by decide) ?_
  refine k_X4_within (C_X4_within ) (by decide) ml_X4_32 (Nat.le_of_ble_eq_true rfl) dX4_count_5 ?_
  refine K_ifb_eq (tgt := 15) dX4_count_8 (by decide) (fun c8 => ?_) (fun c8 => ?_)
  · skip
    exact absurd (c8.symm.trans hrr) (by decide)
  · skip
    refine K_iconstN 0 dX4_count_11 rfl ?_
    refine K_goto (tgt := 16) dX4_count_12 (by decide) ?_
    refine p_X4_25 dX4_count_16  ?_
    refine K_aload_n dX4_count_19 rfl ?_
    refine g_X4_25 dX4_count_20  ?_
    refine K_top mset_at ?_
    refine K_ifN_le (by omega) (tgt := 30) dX4_count_23 (by decide) (fun c23 => ?_) (fun c23 => absurd c23 (by decide))
    refine K_aload_n dX4_count_30 rfl ?_
    refine K_iload_n dX4_count_31 rfl ?_
    refine k_X4_counted (C_X4_counted7 (μ := mset μ 15 0 0 5 (nI 0)) rfl hZ (by exact hs)) (by decide)  ml_X4_209 (Nat.le_of_ble_eq_true rfl) dX4_count_32 ?_
    exact K_iret dX4_count_35 ⟨by rfl, rfl⟩

set_option maxHeartbeats 4000000 in
set_option maxRecDepth 100000 in
theorem C_X4_count8 {l : Launch} {G : WG} {μ : Mem} {z : Zr} (hz : μ.1 16 0 0 = z) {n : Nat} (hZ : ZI z n) {sc : Nat} (hs : μ.1 15 0 0 1 = nI sc) : Ct l G 4 yX4_count cX4_count 2 (some .int) [.ref (adr G 15 0 0), .int (nI 8)] (μ) (some (.int (mCount z sc n 8))) (mset μ 15 0 0 5 (nI 0)) := by
  refine Ct_of (by decide +kernel) (Nat.le_of_ble_eq_true rfl) ?_
  subst hz
  have hrr := rOk_nat (w := 8) (b := 15) (by omega) (by omega)
  refine K_aload_n dX4_count_0 rfl ?_
  refine K_iload_n dX4_count_1 rfl ?_
  refine K_iconstN 0 dX4_count_2 rfl ?_
  refine K_bipush (v := nI 15) dX4_count_3 (by decide) ?_
  refine k_X4_within (C_X4_within ) (by decide) ml_X4_32 (Nat.le_of_ble_eq_true rfl) dX4_count_5 ?_
  refine K_ifb_eq (tgt := 15) dX4_count_8 (by decide) (fun c8 => ?_) (fun c8 => ?_)
  · skip
    exact absurd (c8.symm.trans hrr) (by decide)
  · skip
    refine K_iconstN 0 dX4_count_11 rfl ?_
    refine K_goto (tgt := 16) dX4_count_12 (by decide) ?_
    refine p_X4_25 dX4_count_16  ?_
    refine K_aload_n dX4_count_19 rfl ?_
    refine g_X4_25 dX4_count_20  ?_
    refine K_top mset_at ?_
    refine K_ifN_le (by omega) (tgt := 30) dX4_count_23 (by decide) (fun c23 => ?_) (fun c23 => absurd c23 (by decide))
    refine K_aload_n dX4_count_30 rfl ?_
    refine K_iload_n dX4_count_31 rfl ?_
    refine k_X4_counted (C_X4_counted8 (μ := mset μ 15 0 0 5 (nI 0)) rfl hZ (by exact hs)) (by decide)  ml_X4_209 (Nat.le_of_ble_eq_true rfl) dX4_count_32 ?_
    exact K_iret dX4_count_35 ⟨by rfl, rfl⟩

set_option maxHeartbeats 4000000 in
set_option maxRecDepth 100000 in
theorem C_X4_count9 {l : Launch} {G : WG} {μ : Mem} {z : Zr} (hz : μ.1 16 0 0 = z) {n : Nat} (hZ : ZI z n) {sc : Nat} (hs : μ.1 15 0 0 1 = nI sc) : Ct l G 6 yX4_count cX4_count 2 (some .int) [.ref (adr G 15 0 0), .int (nI 9)] (μ) (some (.int (mCount z sc n 9))) (mset μ 15 0 0 5 (nI 0)) := by
  refine Ct_of (by decide +kernel) (Nat.le_of_ble_eq_true rfl) ?_
  subst hz
  have hrr := rOk_nat (w := 9) (b := 15) (by omega) (by omega)
  refine K_aload_n dX4_count_0 rfl ?_
  refine K_iload_n dX4_count_1 rfl ?_
  refine K_iconstN 0 dX4_count_2 rfl ?_
  refine K_bipush (v := nI 15) dX4_count_3 (by decide) ?_
  refine k_X4_within (C_X4_within ) (by decide) ml_X4_32 (Nat.le_of_ble_eq_true rfl) dX4_count_5 ?_
  refine K_ifb_eq (tgt := 15) dX4_count_8 (by decide) (fun c8 => ?_) (fun c8 => ?_)
  · skip
    exact absurd (c8.symm.trans hrr) (by decide)
  · skip
    refine K_iconstN 0 dX4_count_11 rfl ?_
    refine K_goto (tgt := 16) dX4_count_12 (by decide) ?_
    refine p_X4_25 dX4_count_16  ?_
    refine K_aload_n dX4_count_19 rfl ?_
    refine g_X4_25 dX4_count_20  ?_
    refine K_top mset_at ?_
    refine K_ifN_le (by omega) (tgt := 30) dX4_count_23 (by decide) (fun c23 => ?_) (fun c23 => absurd c23 (by decide))
    refine K_aload_n dX4_count_30 rfl ?_
    refine K_iload_n dX4_count_31 rfl ?_
    refine k_X4_counted (C_X4_counted9 (μ := mset μ 15 0 0 5 (nI 0)) rfl hZ (by exact hs)) (by decide)  ml_X4_209 (Nat.le_of_ble_eq_true rfl) dX4_count_32 ?_
    exact K_iret dX4_count_35 ⟨by rfl, rfl⟩

set_option maxHeartbeats 4000000 in
set_option maxRecDepth 100000 in
theorem C_X4_count10 {l : Launch} {G : WG} {μ : Mem} {z : Zr} (hz : μ.1 16 0 0 = z) {n : Nat} (hZ : ZI z n) {sc : Nat} (hs : μ.1 15 0 0 1 = nI sc) : Ct l G 7 yX4_count cX4_count 2 (some .int) [.ref (adr G 15 0 0), .int (nI 10)] (μ) (some (.int (mCount z sc n 10))) (mset μ 15 0 0 5 (nI 0)) := by
  refine Ct_of (by decide +kernel) (Nat.le_of_ble_eq_true rfl) ?_
  subst hz
  have hrr := rOk_nat (w := 10) (b := 15) (by omega) (by omega)
  refine K_aload_n dX4_count_0 rfl ?_
  refine K_iload_n dX4_count_1 rfl ?_
  refine K_iconstN 0 dX4_count_2 rfl ?_
  refine K_bipush (v := nI 15) dX4_count_3 (by decide) ?_
  refine k_X4_within (C_X4_within ) (by decide) ml_X4_32 (Nat.le_of_ble_eq_true rfl) dX4_count_5 ?_
  refine K_ifb_eq (tgt := 15) dX4_count_8 (by decide) (fun c8 => ?_) (fun c8 => ?_)
  · skip
    exact absurd (c8.symm.trans hrr) (by decide)
  · skip
    refine K_iconstN 0 dX4_count_11 rfl ?_
    refine K_goto (tgt := 16) dX4_count_12 (by decide) ?_
    refine p_X4_25 dX4_count_16  ?_
    refine K_aload_n dX4_count_19 rfl ?_
    refine g_X4_25 dX4_count_20  ?_
    refine K_top mset_at ?_
    refine K_ifN_le (by omega) (tgt := 30) dX4_count_23 (by decide) (fun c23 => ?_) (fun c23 => absurd c23 (by decide))
    refine K_aload_n dX4_count_30 rfl ?_
    refine K_iload_n dX4_count_31 rfl ?_
    refine k_X4_counted (C_X4_counted10 (μ := mset μ 15 0 0 5 (nI 0)) rfl hZ (by exact hs)) (by decide)  ml_X4_209 (Nat.le_of_ble_eq_true rfl) dX4_count_32 ?_
    exact K_iret dX4_count_35 ⟨by rfl, rfl⟩

set_option maxHeartbeats 4000000 in
set_option maxRecDepth 100000 in
theorem C_X4_count11 {l : Launch} {G : WG} {μ : Mem} {z : Zr} (hz : μ.1 16 0 0 = z) {n : Nat} (hZ : ZI z n) {sc : Nat} (hs : μ.1 15 0 0 1 = nI sc) : Ct l G 1 yX4_count cX4_count 2 (some .int) [.ref (adr G 15 0 0), .int (nI 11)] (μ) (some (.int (mCount z sc n 11))) (mset μ 15 0 0 5 (nI 0)) := by
  refine Ct_of (by decide +kernel) (Nat.le_of_ble_eq_true rfl) ?_
  subst hz
  have hrr := rOk_nat (w := 11) (b := 15) (by omega) (by omega)
  refine K_aload_n dX4_count_0 rfl ?_
  refine K_iload_n dX4_count_1 rfl ?_
  refine K_iconstN 0 dX4_count_2 rfl ?_
  refine K_bipush (v := nI 15) dX4_count_3 (by decide) ?_
  refine k_X4_within (C_X4_within ) (by decide) ml_X4_32 (Nat.le_of_ble_eq_true rfl) dX4_count_5 ?_
  refine K_ifb_eq (tgt := 15) dX4_count_8 (by decide) (fun c8 => ?_) (fun c8 => ?_)
  · skip
    exact absurd (c8.symm.trans hrr) (by decide)
  · skip
    refine K_iconstN 0 dX4_count_11 rfl ?_
    refine K_goto (tgt := 16) dX4_count_12 (by decide) ?_
    refine p_X4_25 dX4_count_16  ?_
    refine K_aload_n dX4_count_19 rfl ?_
    refine g_X4_25 dX4_count_20  ?_
    refine K_top mset_at ?_
    refine K_ifN_le (by omega) (tgt := 30) dX4_count_23 (by decide) (fun c23 => ?_) (fun c23 => absurd c23 (by decide))
    refine K_aload_n dX4_count_30 rfl ?_
    refine K_iload_n dX4_count_31 rfl ?_
    refine k_X4_counted (C_X4_counted11 (μ := mset μ 15 0 0 5 (nI 0)) rfl hZ (by exact hs)) (by decide)  ml_X4_209 (Nat.le_of_ble_eq_true rfl) dX4_count_32 ?_
    exact K_iret dX4_count_35 ⟨by rfl, rfl⟩

set_option maxHeartbeats 4000000 in
set_option maxRecDepth 100000 in
theorem C_X4_count12 {l : Launch} {G : WG} {μ : Mem} {z : Zr} (hz : μ.1 16 0 0 = z) {n : Nat} (hZ : ZI z n) {sc : Nat} (hs : μ.1 15 0 0 1 = nI sc) : Ct l G 1 yX4_count cX4_count 2 (some .int) [.ref (adr G 15 0 0), .int (nI 12)] (μ) (some (.int (mCount z sc n 12))) (mset μ 15 0 0 5 (nI 0)) := by
  refine Ct_of (by decide +kernel) (Nat.le_of_ble_eq_true rfl) ?_
  subst hz
  have hrr := rOk_nat (w := 12) (b := 15) (by omega) (by omega)
  refine K_aload_n dX4_count_0 rfl ?_
  refine K_iload_n dX4_count_1 rfl ?_
  refine K_iconstN 0 dX4_count_2 rfl ?_
  refine K_bipush (v := nI 15) dX4_count_3 (by decide) ?_
  refine k_X4_within (C_X4_within ) (by decide) ml_X4_32 (Nat.le_of_ble_eq_true rfl) dX4_count_5 ?_
  refine K_ifb_eq (tgt := 15) dX4_count_8 (by decide) (fun c8 => ?_) (fun c8 => ?_)
  · skip
    exact absurd (c8.symm.trans hrr) (by decide)
  · skip
    refine K_iconstN 0 dX4_count_11 rfl ?_
    refine K_goto (tgt := 16) dX4_count_12 (by decide) ?_
    refine p_X4_25 dX4_count_16  ?_
    refine K_aload_n dX4_count_19 rfl ?_
    refine g_X4_25 dX4_count_20  ?_
    refine K_top mset_at ?_
    refine K_ifN_le (by omega) (tgt := 30) dX4_count_23 (by decide) (fun c23 => ?_) (fun c23 => absurd c23 (by decide))
    refine K_aload_n dX4_count_30 rfl ?_
    refine K_iload_n dX4_count_31 rfl ?_
    refine k_X4_counted (C_X4_counted12 (μ := mset μ 15 0 0 5 (nI 0)) rfl hZ (by exact hs)) (by decide)  ml_X4_209 (Nat.le_of_ble_eq_true rfl) dX4_count_32 ?_
    exact K_iret dX4_count_35 ⟨by rfl, rfl⟩

set_option maxHeartbeats 4000000 in
set_option maxRecDepth 100000 in
theorem C_X4_count13 {l : Launch} {G : WG} {μ : Mem} {z : Zr} (hz : μ.1 16 0 0 = z) {n : Nat} (hZ : ZI z n) {sc : Nat} (hs : μ.1 15 0 0 1 = nI sc) : Ct l G 1 yX4_count cX4_count 2 (some .int) [.ref (adr G 15 0 0), .int (nI 13)] (μ) (some (.int (mCount z sc n 13))) (mset μ 15 0 0 5 (nI 0)) := by
  refine Ct_of (by decide +kernel) (Nat.le_of_ble_eq_true rfl) ?_
  subst hz
  have hrr := rOk_nat (w := 13) (b := 15) (by omega) (by omega)
  refine K_aload_n dX4_count_0 rfl ?_
  refine K_iload_n dX4_count_1 rfl ?_
  refine K_iconstN 0 dX4_count_2 rfl ?_
  refine K_bipush (v := nI 15) dX4_count_3 (by decide) ?_
  refine k_X4_within (C_X4_within ) (by decide) ml_X4_32 (Nat.le_of_ble_eq_true rfl) dX4_count_5 ?_
  refine K_ifb_eq (tgt := 15) dX4_count_8 (by decide) (fun c8 => ?_) (fun c8 => ?_)
  · skip
    exact absurd (c8.symm.trans hrr) (by decide)
  · skip
    refine K_iconstN 0 dX4_count_11 rfl ?_
    refine K_goto (tgt := 16) dX4_count_12 (by decide) ?_
    refine p_X4_25 dX4_count_16  ?_
    refine K_aload_n dX4_count_19 rfl ?_
    refine g_X4_25 dX4_count_20  ?_
    refine K_top mset_at ?_
    refine K_ifN_le (by omega) (tgt := 30) dX4_count_23 (by decide) (fun c23 => ?_) (fun c23 => absurd c23 (by decide))
    refine K_aload_n dX4_count_30 rfl ?_
    refine K_iload_n dX4_count_31 rfl ?_
    refine k_X4_counted (C_X4_counted13 (μ := mset μ 15 0 0 5 (nI 0)) rfl hZ (by exact hs)) (by decide)  ml_X4_209 (Nat.le_of_ble_eq_true rfl) dX4_count_32 ?_
    exact K_iret dX4_count_35 ⟨by rfl, rfl⟩

set_option maxHeartbeats 4000000 in
set_option maxRecDepth 100000 in
theorem C_X4_count14 {l : Launch} {G : WG} {μ : Mem} {z : Zr} (hz : μ.1 16 0 0 = z) {n : Nat} (hZ : ZI z n) {sc : Nat} (hs : μ.1 15 0 0 1 = nI sc) : Ct l G 1 yX4_count cX4_count 2 (some .int) [.ref (adr G 15 0 0), .int (nI 14)] (μ) (some (.int (mCount z sc n 14))) (mset μ 15 0 0 5 (nI 0)) := by
  refine Ct_of (by decide +kernel) (Nat.le_of_ble_eq_true rfl) ?_
  subst hz
  have hrr := rOk_nat (w := 14) (b := 15) (by omega) (by omega)
  refine K_aload_n dX4_count_0 rfl ?_
  refine K_iload_n dX4_count_1 rfl ?_
  refine K_iconstN 0 dX4_count_2 rfl ?_
  refine K_bipush (v := nI 15) dX4_count_3 (by decide) ?_
  refine k_X4_within (C_X4_within ) (by decide) ml_X4_32 (Nat.le_of_ble_eq_true rfl) dX4_count_5 ?_
  refine K_ifb_eq (tgt := 15) dX4_count_8 (by decide) (fun c8 => ?_) (fun c8 => ?_)
  · skip
    exact absurd (c8.symm.trans hrr) (by decide)
  · skip
    refine K_iconstN 0 dX4_count_11 rfl ?_
    refine K_goto (tgt := 16) dX4_count_12 (by decide) ?_
    refine p_X4_25 dX4_count_16  ?_
    refine K_aload_n dX4_count_19 rfl ?_
    refine g_X4_25 dX4_count_20  ?_
    refine K_top mset_at ?_
    refine K_ifN_le (by omega) (tgt := 30) dX4_count_23 (by decide) (fun c23 => ?_) (fun c23 => absurd c23 (by decide))
    refine K_aload_n dX4_count_30 rfl ?_
    refine K_iload_n dX4_count_31 rfl ?_
    refine k_X4_counted (C_X4_counted14 (μ := mset μ 15 0 0 5 (nI 0)) rfl hZ (by exact hs)) (by decide)  ml_X4_209 (Nat.le_of_ble_eq_true rfl) dX4_count_32 ?_
    exact K_iret dX4_count_35 ⟨by rfl, rfl⟩

set_option maxHeartbeats 4000000 in
set_option maxRecDepth 100000 in
theorem C_X4_count15 {l : Launch} {G : WG} {μ : Mem} {z : Zr} (hz : μ.1 16 0 0 = z) {n : Nat} (hZ : ZI z n) {sc : Nat} (hs : μ.1 15 0 0 1 = nI sc) : Ct l G 1 yX4_count cX4_count 2 (some .int) [.ref (adr G 15 0 0), .int (nI 15)] (μ) (some (.int (mCount z sc n 15))) (mset μ 15 0 0 5 (nI 0)) := by
  refine Ct_of (by decide +kernel) (Nat.le_of_ble_eq_true rfl) ?_
  subst hz
  have hrr := rOk_nat (w := 15) (b := 15) (by omega) (by omega)
  refine K_aload_n dX4_count_0 rfl ?_
  refine K_iload_n dX4_count_1 rfl ?_
  refine K_iconstN 0 dX4_count_2 rfl ?_
  refine K_bipush (v := nI 15) dX4_count_3 (by decide) ?_
  refine k_X4_within (C_X4_within ) (by decide) ml_X4_32 (Nat.le_of_ble_eq_true rfl) dX4_count_5 ?_
  refine K_ifb_eq (tgt := 15) dX4_count_8 (by decide) (fun c8 => ?_) (fun c8 => ?_)
  · skip
    exact absurd (c8.symm.trans hrr) (by decide)
  · skip
    refine K_iconstN 0 dX4_count_11 rfl ?_
    refine K_goto (tgt := 16) dX4_count_12 (by decide) ?_
    refine p_X4_25 dX4_count_16  ?_
    refine K_aload_n dX4_count_19 rfl ?_
    refine g_X4_25 dX4_count_20  ?_
    refine K_top mset_at ?_
    refine K_ifN_le (by omega) (tgt := 30) dX4_count_23 (by decide) (fun c23 => ?_) (fun c23 => absurd c23 (by decide))
    refine K_aload_n dX4_count_30 rfl ?_
    refine K_iload_n dX4_count_31 rfl ?_
    refine k_X4_counted (C_X4_counted15 (μ := mset μ 15 0 0 5 (nI 0)) rfl hZ (by exact hs)) (by decide)  ml_X4_209 (Nat.le_of_ble_eq_true rfl) dX4_count_32 ?_
    exact K_iret dX4_count_35 ⟨by rfl, rfl⟩

set_option maxHeartbeats 4000000 in
set_option maxRecDepth 100000 in
theorem C_X4_count_e1 {l : Launch} {G : WG} {μ : Mem} {a : Int32} (h : rOk a (nI 0) (nI 15) = false) : Ct l G 1 yX4_count cX4_count 2 (some .int) [.ref (adr G 15 0 0), .int (a)] (μ) (some (.int (nI 0))) (mset μ 15 0 0 5 (nI 1)) := by
  refine Ct_of (by decide +kernel) (Nat.le_of_ble_eq_true rfl) ?_
  refine K_aload_n dX4_count_0 rfl ?_
  refine K_iload_n dX4_count_1 rfl ?_
  refine K_iconstN 0 dX4_count_2 rfl ?_
  refine K_bipush (v := nI 15) dX4_count_3 (by decide) ?_
  refine k_X4_within (C_X4_within ) (by decide) ml_X4_32 (Nat.le_of_ble_eq_true rfl) dX4_count_5 ?_
  refine K_ifb_eq (tgt := 15) dX4_count_8 (by decide) (fun c8 => ?_) (fun c8 => ?_)
  · skip
    refine K_iconstN 1 dX4_count_15 rfl ?_
    refine p_X4_25 dX4_count_16  ?_
    refine K_aload_n dX4_count_19 rfl ?_
    refine g_X4_25 dX4_count_20  ?_
    refine K_top mset_at ?_
    refine K_ifN_le (by omega) (tgt := 30) dX4_count_23 (by decide) (fun c23 => absurd c23 (by decide)) (fun c23 => ?_)
    refine K_iconstN 0 dX4_count_26 rfl ?_
    refine K_goto (tgt := 35) dX4_count_27 (by decide) ?_
    exact K_iret dX4_count_35 ⟨by rfl, rfl⟩
  · skip
    exact absurd (c8.symm.trans h) (by decide)

set_option maxHeartbeats 4000000 in
set_option maxRecDepth 100000 in
theorem C_X4_setting {l : Launch} {G : WG} {μ : Mem} {z : Zr} (hz : μ.1 16 0 0 = z) {n : Nat} (hZ : ZI z n) {u : Nat} (hu : u < 4) : Ct l G 2 yX4_setting cX4_setting 2 (some .int) [.ref (adr G 15 0 0), .int (nI u)] (μ) (some (.int (z u))) (mset μ 15 0 0 5 (nI 0)) := by
  refine Ct_of (by decide +kernel) (Nat.le_of_ble_eq_true rfl) ?_
  subst hz
  have huu := uOk_nat hu
  refine K_aload_n dX4_setting_0 rfl ?_
  refine K_iload_n dX4_setting_1 rfl ?_
  refine k_X4_isSetting (C_X4_isSetting ) (by decide) ml_X4_96 (Nat.le_of_ble_eq_true rfl) dX4_setting_2 ?_
  refine K_ifb_eq (tgt := 12) dX4_setting_5 (by decide) (fun c5 => ?_) (fun c5 => ?_)
  · skip
    exact absurd (c5.symm.trans huu) (by decide)
  · skip
    refine K_iconstN 0 dX4_setting_8 rfl ?_
    refine K_goto (tgt := 13) dX4_setting_9 (by decide) ?_
    refine p_X4_25 dX4_setting_13  ?_
    refine K_aload_n dX4_setting_16 rfl ?_
    refine g_X4_25 dX4_setting_17  ?_
    refine K_top mset_at ?_
    refine K_ifN_le (by omega) (tgt := 27) dX4_setting_20 (by decide) (fun c20 => ?_) (fun c20 => absurd c20 (by decide))
    refine K_aload_n dX4_setting_27 rfl ?_
    refine g_X4_7 dX4_setting_28  ?_
    refine K_iload_n dX4_setting_31 rfl ?_
    refine ald16 dX4_setting_32 (by omega) ?_
    exact K_iret dX4_setting_33 ⟨by rfl, rfl⟩

set_option maxHeartbeats 4000000 in
set_option maxRecDepth 100000 in
theorem C_X4_setting_e1 {l : Launch} {G : WG} {μ : Mem} {a : Int32} (h : uOk a = false) : Ct l G 2 yX4_setting cX4_setting 2 (some .int) [.ref (adr G 15 0 0), .int (a)] (μ) (some (.int (nI 0))) (mset μ 15 0 0 5 (nI 1)) := by
  refine Ct_of (by decide +kernel) (Nat.le_of_ble_eq_true rfl) ?_
  refine K_aload_n dX4_setting_0 rfl ?_
  refine K_iload_n dX4_setting_1 rfl ?_
  refine k_X4_isSetting (C_X4_isSetting ) (by decide) ml_X4_96 (Nat.le_of_ble_eq_true rfl) dX4_setting_2 ?_
  refine K_ifb_eq (tgt := 12) dX4_setting_5 (by decide) (fun c5 => ?_) (fun c5 => ?_)
  · skip
    refine K_iconstN 1 dX4_setting_12 rfl ?_
    refine p_X4_25 dX4_setting_13  ?_
    refine K_aload_n dX4_setting_16 rfl ?_
    refine g_X4_25 dX4_setting_17  ?_
    refine K_top mset_at ?_
    refine K_ifN_le (by omega) (tgt := 27) dX4_setting_20 (by decide) (fun c20 => absurd c20 (by decide)) (fun c20 => ?_)
    refine K_iconstN 0 dX4_setting_23 rfl ?_
    refine K_goto (tgt := 33) dX4_setting_24 (by decide) ?_
    exact K_iret dX4_setting_33 ⟨by rfl, rfl⟩
  · skip
    exact absurd (c5.symm.trans h) (by decide)

set_option maxHeartbeats 4000000 in
set_option maxRecDepth 100000 in
theorem C_X4_breaksIn {l : Launch} {G : WG} {μ : Mem} {z : Zr} (hz : μ.1 16 0 0 = z) {n : Nat} (hZ : ZI z n) {p : Nat} (hp : p < n) : Ct l G 4 yX4_breaksIn cX4_breaksIn 2 (some .int) [.ref (adr G 15 0 0), .int (nI p)] (μ) (some (.int (mBreaks z p))) (mset μ 15 0 0 5 (nI 0)) := by
  refine Ct_of (by decide +kernel) (Nat.le_of_ble_eq_true rfl) ?_
  subst hz
  have hp6 : p < 6 := Nat.lt_of_lt_of_le hp hZ.2.1
  have hph := cHas_nat hp hZ.2.1
  refine K_aload_n dX4_breaksIn_0 rfl ?_
  refine K_aload_n dX4_breaksIn_1 rfl ?_
  refine K_iload_n dX4_breaksIn_2 rfl ?_
  refine k_X4_isPhase (C_X4_isPhase rfl hZ) (by decide)  ml_X4_84 (Nat.le_of_ble_eq_true rfl) dX4_breaksIn_3 ?_
  refine K_ifb_eq (tgt := 13) dX4_breaksIn_6 (by decide) (fun c6 => ?_) (fun c6 => ?_)
  · skip
    exact absurd (c6.symm.trans hph) (by decide)
  · skip
    refine K_iconstN 0 dX4_breaksIn_9 rfl ?_
    refine K_goto (tgt := 14) dX4_breaksIn_10 (by decide) ?_
    refine p_X4_25 dX4_breaksIn_14  ?_
    refine K_aload_n dX4_breaksIn_17 rfl ?_
    refine g_X4_25 dX4_breaksIn_18  ?_
    refine K_top mset_at ?_
    refine K_ifN_le (by omega) (tgt := 28) dX4_breaksIn_21 (by decide) (fun c21 => ?_) (fun c21 => absurd c21 (by decide))
    refine K_aload_n dX4_breaksIn_28 rfl ?_
    refine K_iload_n dX4_breaksIn_29 rfl ?_
    refine k_X4_breaksNow (C_X4_breaksNow rfl (by omega) hZ) (by decide)  ml_X4_218 (Nat.le_of_ble_eq_true rfl) dX4_breaksIn_30 ?_
    exact K_iret dX4_breaksIn_33 ⟨by rfl, rfl⟩

set_option maxHeartbeats 4000000 in
set_option maxRecDepth 100000 in
theorem C_X4_breaksIn_e1 {l : Launch} {G : WG} {μ : Mem} {z : Zr} (hz : μ.1 16 0 0 = z) {n : Nat} (hZ : ZI z n) {a : Int32} (h : cHas n a = false) : Ct l G 2 yX4_breaksIn cX4_breaksIn 2 (some .int) [.ref (adr G 15 0 0), .int (a)] (μ) (some (.int (nI 0))) (mset μ 15 0 0 5 (nI 1)) := by
  refine Ct_of (by decide +kernel) (Nat.le_of_ble_eq_true rfl) ?_
  subst hz
  refine K_aload_n dX4_breaksIn_0 rfl ?_
  refine K_aload_n dX4_breaksIn_1 rfl ?_
  refine K_iload_n dX4_breaksIn_2 rfl ?_
  refine k_X4_isPhase (C_X4_isPhase rfl hZ) (by decide)  ml_X4_84 (Nat.le_of_ble_eq_true rfl) dX4_breaksIn_3 ?_
  refine K_ifb_eq (tgt := 13) dX4_breaksIn_6 (by decide) (fun c6 => ?_) (fun c6 => ?_)
  · skip
    refine K_iconstN 1 dX4_breaksIn_13 rfl ?_
    refine p_X4_25 dX4_breaksIn_14  ?_
    refine K_aload_n dX4_breaksIn_17 rfl ?_
    refine g_X4_25 dX4_breaksIn_18  ?_
    refine K_top mset_at ?_
    refine K_ifN_le (by omega) (tgt := 28) dX4_breaksIn_21 (by decide) (fun c21 => absurd c21 (by decide)) (fun c21 => ?_)
    refine K_iconstN 0 dX4_breaksIn_24 rfl ?_
    refine K_goto (tgt := 33) dX4_breaksIn_25 (by decide) ?_
    exact K_iret dX4_breaksIn_33 ⟨by rfl, rfl⟩
  · skip
    exact absurd (c6.symm.trans h) (by decide)

set_option maxHeartbeats 4000000 in
set_option maxRecDepth 100000 in
theorem C_X4_surchargesIn {l : Launch} {G : WG} {μ : Mem} {z : Zr} (hz : μ.1 16 0 0 = z) {n : Nat} (hZ : ZI z n) {d : Nat} (hd : d < 2 ^ 31) (hr : rOk (nI d) (nI 0) (nI 500) = true) : Ct l G 6 yX4_surchargesIn cX4_surchargesIn 2 (some .int) [.ref (adr G 15 0 0), .int (nI d)] (μ) (some (.int ((dpsK z n d).2))) (kpK (mset μ 15 0 0 5 (nI 0)) 232) := by
  refine Ct_of (by decide +kernel) (Nat.le_of_ble_eq_true rfl) ?_
  subst hz
  refine K_aload_n dX4_surchargesIn_0 rfl ?_
  refine K_iload_n dX4_surchargesIn_1 rfl ?_
  refine K_iconstN 0 dX4_surchargesIn_2 rfl ?_
  refine K_sipush (v := nI 500) dX4_surchargesIn_3 (by decide) ?_
  refine k_X4_within (C_X4_within ) (by decide) ml_X4_32 (Nat.le_of_ble_eq_true rfl) dX4_surchargesIn_6 ?_
  refine K_ifb_eq (tgt := 16) dX4_surchargesIn_9 (by decide) (fun c9 => ?_) (fun c9 => ?_)
  · skip
    exact absurd (c9.symm.trans hr) (by decide)
  · skip
    refine K_iconstN 0 dX4_surchargesIn_12 rfl ?_
    refine K_goto (tgt := 17) dX4_surchargesIn_13 (by decide) ?_
    refine p_X4_25 dX4_surchargesIn_17  ?_
    refine K_aload_n dX4_surchargesIn_20 rfl ?_
    refine g_X4_25 dX4_surchargesIn_21  ?_
    refine K_top mset_at ?_
    refine K_ifN_le (by omega) (tgt := 31) dX4_surchargesIn_24 (by decide) (fun c24 => ?_) (fun c24 => absurd c24 (by decide))
    refine K_aload_n dX4_surchargesIn_31 rfl ?_
    refine K_iload_n dX4_surchargesIn_32 rfl ?_
    refine k_X4_surchargesThen (C_X4_surchargesThen (μ := mset μ 15 0 0 5 (nI 0)) rfl hZ hd) (by decide)  ml_X4_227 (Nat.le_of_ble_eq_true rfl) dX4_surchargesIn_33 ?_
    exact K_iret dX4_surchargesIn_36 ⟨by rfl, rfl⟩

set_option maxHeartbeats 4000000 in
set_option maxRecDepth 100000 in
theorem C_X4_surchargesIn_e1 {l : Launch} {G : WG} {μ : Mem} {a : Int32} (h : rOk a (nI 0) (nI 500) = false) : Ct l G 1 yX4_surchargesIn cX4_surchargesIn 2 (some .int) [.ref (adr G 15 0 0), .int (a)] (μ) (some (.int (nI 0))) (mset μ 15 0 0 5 (nI 1)) := by
  refine Ct_of (by decide +kernel) (Nat.le_of_ble_eq_true rfl) ?_
  refine K_aload_n dX4_surchargesIn_0 rfl ?_
  refine K_iload_n dX4_surchargesIn_1 rfl ?_
  refine K_iconstN 0 dX4_surchargesIn_2 rfl ?_
  refine K_sipush (v := nI 500) dX4_surchargesIn_3 (by decide) ?_
  refine k_X4_within (C_X4_within ) (by decide) ml_X4_32 (Nat.le_of_ble_eq_true rfl) dX4_surchargesIn_6 ?_
  refine K_ifb_eq (tgt := 16) dX4_surchargesIn_9 (by decide) (fun c9 => ?_) (fun c9 => ?_)
  · skip
    refine K_iconstN 1 dX4_surchargesIn_16 rfl ?_
    refine p_X4_25 dX4_surchargesIn_17  ?_
    refine K_aload_n dX4_surchargesIn_20 rfl ?_
    refine g_X4_25 dX4_surchargesIn_21  ?_
    refine K_top mset_at ?_
    refine K_ifN_le (by omega) (tgt := 31) dX4_surchargesIn_24 (by decide) (fun c24 => absurd c24 (by decide)) (fun c24 => ?_)
    refine K_iconstN 0 dX4_surchargesIn_27 rfl ?_
    refine K_goto (tgt := 36) dX4_surchargesIn_28 (by decide) ?_
    exact K_iret dX4_surchargesIn_36 ⟨by rfl, rfl⟩
  · skip
    exact absurd (c9.symm.trans h) (by decide)

set_option maxHeartbeats 4000000 in
set_option maxRecDepth 100000 in
theorem C_X4_mostUrgent {l : Launch} {G : WG} {μ : Mem} {z : Zr} (hz : μ.1 16 0 0 = z) {n : Nat} (hZ : ZI z n) : Ct l G 5 yX4_mostUrgent cX4_mostUrgent 1 (some .int) [.ref (adr G 15 0 0)] (μ) (some (.int (mUrgK z n))) (mset μ 15 0 0 5 (nI 0)) := by
  refine Ct_of (by decide +kernel) (Nat.le_of_ble_eq_true rfl) ?_
  subst hz
  refine K_aload_n dX4_mostUrgent_0 rfl ?_
  refine K_iconstN 0 dX4_mostUrgent_1 rfl ?_
  refine p_X4_25 dX4_mostUrgent_2  ?_
  refine K_aload_n dX4_mostUrgent_5 rfl ?_
  refine k_X4_urgentNow (C_X4_urgentNow rfl hZ) (by decide)  ml_X4_230 (Nat.le_of_ble_eq_true rfl) dX4_mostUrgent_6 ?_
  exact K_iret dX4_mostUrgent_9 ⟨by rfl, rfl⟩

set_option maxHeartbeats 4000000 in
set_option maxRecDepth 100000 in
theorem C_X4_dueIn {l : Launch} {G : WG} {μ : Mem} {z : Zr} (hz : μ.1 16 0 0 = z) {n : Nat} (hZ : ZI z n) {p : Nat} (hp : p < n) {d : Nat} (hd : d < 2 ^ 31) (hr : rOk (nI d) (nI 0) (nI 500) = true) : Ct l G 6 yX4_dueIn cX4_dueIn 3 (some .int) [.ref (adr G 15 0 0), .int (nI p), .int (nI d)] (μ) (some (.int (mDueNow (dpsK z n d).1 p))) (kpK (mset μ 15 0 0 5 (nI 0)) 232) := by
  refine Ct_of (by decide +kernel) (Nat.le_of_ble_eq_true rfl) ?_
  subst hz
  have hp6 : p < 6 := Nat.lt_of_lt_of_le hp hZ.2.1
  have hph := cHas_nat hp hZ.2.1
  refine K_aload_n dX4_dueIn_0 rfl ?_
  refine K_aload_n dX4_dueIn_1 rfl ?_
  refine K_iload_n dX4_dueIn_2 rfl ?_
  refine k_X4_isPhase (C_X4_isPhase rfl hZ) (by decide)  ml_X4_84 (Nat.le_of_ble_eq_true rfl) dX4_dueIn_3 ?_
  refine K_ifb_ne (tgt := 13) dX4_dueIn_6 (by decide) (fun c6 => ?_) (fun c6 => ?_)
  · skip
    refine K_iload_n dX4_dueIn_13 rfl ?_
    refine K_iconstN 0 dX4_dueIn_14 rfl ?_
    refine K_sipush (v := nI 500) dX4_dueIn_15 (by decide) ?_
    refine k_X4_within (C_X4_within ) (by decide) ml_X4_32 (Nat.le_of_ble_eq_true rfl) dX4_dueIn_18 ?_
    refine K_ifb_eq (tgt := 28) dX4_dueIn_21 (by decide) (fun c21 => ?_) (fun c21 => ?_)
    · skip
      exact absurd (c21.symm.trans hr) (by decide)
    · skip
      refine K_iconstN 0 dX4_dueIn_24 rfl ?_
      refine K_goto (tgt := 29) dX4_dueIn_25 (by decide) ?_
      refine p_X4_25 dX4_dueIn_29  ?_
      refine K_aload_n dX4_dueIn_32 rfl ?_
      refine g_X4_25 dX4_dueIn_33  ?_
      refine K_top mset_at ?_
      refine K_ifN_le (by omega) (tgt := 43) dX4_dueIn_36 (by decide) (fun c36 => ?_) (fun c36 => absurd c36 (by decide))
      refine K_aload_n dX4_dueIn_43 rfl ?_
      refine K_iload_n dX4_dueIn_44 rfl ?_
      refine K_iload_n dX4_dueIn_45 rfl ?_
      refine k_X4_dueThen (C_X4_dueThen (μ := mset μ 15 0 0 5 (nI 0)) rfl hZ hp6 hd) (by decide)  ml_X4_233 (Nat.le_of_ble_eq_true rfl) dX4_dueIn_46 ?_
      exact K_iret dX4_dueIn_49 ⟨by rfl, rfl⟩
  · skip
    exact absurd (c6.symm.trans hph) (by decide)

set_option maxHeartbeats 4000000 in
set_option maxRecDepth 100000 in
theorem C_X4_dueIn_e1 {l : Launch} {G : WG} {μ : Mem} {z : Zr} (hz : μ.1 16 0 0 = z) {n : Nat} (hZ : ZI z n) {a b : Int32} (h : cHas n a = false) : Ct l G 2 yX4_dueIn cX4_dueIn 3 (some .int) [.ref (adr G 15 0 0), .int (a), .int (b)] (μ) (some (.int (nI 0))) (mset μ 15 0 0 5 (nI 1)) := by
  refine Ct_of (by decide +kernel) (Nat.le_of_ble_eq_true rfl) ?_
  subst hz
  refine K_aload_n dX4_dueIn_0 rfl ?_
  refine K_aload_n dX4_dueIn_1 rfl ?_
  refine K_iload_n dX4_dueIn_2 rfl ?_
  refine k_X4_isPhase (C_X4_isPhase rfl hZ) (by decide)  ml_X4_84 (Nat.le_of_ble_eq_true rfl) dX4_dueIn_3 ?_
  refine K_ifb_ne (tgt := 13) dX4_dueIn_6 (by decide) (fun c6 => ?_) (fun c6 => ?_)
  · skip
    exact absurd (c6.symm.trans h) (by decide)
  · skip
    refine K_iconstN 1 dX4_dueIn_9 rfl ?_
    refine K_goto (tgt := 29) dX4_dueIn_10 (by decide) ?_
    refine p_X4_25 dX4_dueIn_29  ?_
    refine K_aload_n dX4_dueIn_32 rfl ?_
    refine g_X4_25 dX4_dueIn_33  ?_
    refine K_top mset_at ?_
    refine K_ifN_le (by omega) (tgt := 43) dX4_dueIn_36 (by decide) (fun c36 => absurd c36 (by decide)) (fun c36 => ?_)
    refine K_iconstN 0 dX4_dueIn_39 rfl ?_
    refine K_goto (tgt := 49) dX4_dueIn_40 (by decide) ?_
    exact K_iret dX4_dueIn_49 ⟨by rfl, rfl⟩

set_option maxHeartbeats 4000000 in
set_option maxRecDepth 100000 in
theorem C_X4_dueIn_e2 {l : Launch} {G : WG} {μ : Mem} {z : Zr} (hz : μ.1 16 0 0 = z) {n : Nat} (hZ : ZI z n) {p : Nat} (hp : p < n) {b : Int32} (h : rOk b (nI 0) (nI 500) = false) : Ct l G 2 yX4_dueIn cX4_dueIn 3 (some .int) [.ref (adr G 15 0 0), .int (nI p), .int (b)] (μ) (some (.int (nI 0))) (mset μ 15 0 0 5 (nI 2)) := by
  refine Ct_of (by decide +kernel) (Nat.le_of_ble_eq_true rfl) ?_
  subst hz
  have hp6 : p < 6 := Nat.lt_of_lt_of_le hp hZ.2.1
  have hph := cHas_nat hp hZ.2.1
  refine K_aload_n dX4_dueIn_0 rfl ?_
  refine K_aload_n dX4_dueIn_1 rfl ?_
  refine K_iload_n dX4_dueIn_2 rfl ?_
  refine k_X4_isPhase (C_X4_isPhase rfl hZ) (by decide)  ml_X4_84 (Nat.le_of_ble_eq_true rfl) dX4_dueIn_3 ?_
  refine K_ifb_ne (tgt := 13) dX4_dueIn_6 (by decide) (fun c6 => ?_) (fun c6 => ?_)
  · skip
    refine K_iload_n dX4_dueIn_13 rfl ?_
    refine K_iconstN 0 dX4_dueIn_14 rfl ?_
    refine K_sipush (v := nI 500) dX4_dueIn_15 (by decide) ?_
    refine k_X4_within (C_X4_within ) (by decide) ml_X4_32 (Nat.le_of_ble_eq_true rfl) dX4_dueIn_18 ?_
    refine K_ifb_eq (tgt := 28) dX4_dueIn_21 (by decide) (fun c21 => ?_) (fun c21 => ?_)
    · skip
      refine K_iconstN 2 dX4_dueIn_28 rfl ?_
      refine p_X4_25 dX4_dueIn_29  ?_
      refine K_aload_n dX4_dueIn_32 rfl ?_
      refine g_X4_25 dX4_dueIn_33  ?_
      refine K_top mset_at ?_
      refine K_ifN_le (by omega) (tgt := 43) dX4_dueIn_36 (by decide) (fun c36 => absurd c36 (by decide)) (fun c36 => ?_)
      refine K_iconstN 0 dX4_dueIn_39 rfl ?_
      refine K_goto (tgt := 49) dX4_dueIn_40 (by decide) ?_
      exact K_iret dX4_dueIn_49 ⟨by rfl, rfl⟩
    · skip
      exact absurd (c21.symm.trans h) (by decide)
  · skip
    exact absurd (c6.symm.trans hph) (by decide)
