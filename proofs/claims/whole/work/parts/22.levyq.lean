set_option maxHeartbeats 4000000 in
set_option maxRecDepth 100000 in
theorem C_X3_area {l : Launch} {G : WG} {μ : Mem}  {n : Nat} (hI : CI μ n) {ns sc : Nat} (hS : SI μ ns sc) {p : Nat} (hp : p < n) {u : Nat} (hu : u < 4) {a : Int32} (hr : rOk a (nI 0) (nI 999) = true) (hw : cWhy0 μ 0 p = 0) : Ct l G 3 yX3_area cX3_area 4 (some .int) [.ref (adr G 0 0 0), .int (nI p), .int (nI u), .int (a)] (μ) (some (.int (μ.1 9 0 p u))) (mset (mset (cSave μ ns sc) 9 0 p u a) 10 0 p u (mini (μ.1 10 0 p u) a)) := by
  refine Ct_of (by decide +kernel) (Nat.le_of_ble_eq_true rfl) ?_
  have hp6 := (Nat.lt_of_lt_of_le hp hI.2.1)
  refine K_aload_n dX3_area_0 rfl ?_
  refine K_iload_n dX3_area_1 rfl ?_
  refine k_X3_demandPhase (C_X3_demandPhase hI (cHas_nat hp hI.2.1)) (by decide)  ml_X3_51 (Nat.le_of_ble_eq_true rfl) dX3_area_2 ?_
  refine K_iload_n dX3_area_5 rfl ?_
  refine k_X3_demandUse (C_X3_demandUse (uOk_nat hu)) (by decide) ml_X3_55 (Nat.le_of_ble_eq_true rfl) dX3_area_6 ?_
  refine K_iload_n dX3_area_9 rfl ?_
  refine K_iconstN 0 dX3_area_10 rfl ?_
  refine K_sipush (v := nI 999) dX3_area_11 (by decide) ?_
  refine k_X3_demandRange (C_X3_demandRange hr) (by decide) ml_X3_58 (Nat.le_of_ble_eq_true rfl) dX3_area_14 ?_
  refine K_aload_n dX3_area_17 rfl ?_
  refine K_iconstN 0 dX3_area_18 rfl ?_
  refine K_iload_n dX3_area_19 rfl ?_
  refine K_iload_n dX3_area_20 rfl ?_
  refine k_X3_demandNoReason (C_X3_demandNoReason0 hI hp hw) (by decide)  ml_X3_62 (Nat.le_of_ble_eq_true rfl) dX3_area_21 ?_
  refine K_aload_n dX3_area_24 rfl ?_
  refine k_X3_saveState (C_X3_saveState hS) (by decide)  ml_X3_44 (Nat.le_of_ble_eq_true rfl) dX3_area_25 ?_
  refine K_aload_n dX3_area_28 rfl ?_
  refine g_X3_10 dX3_area_29  ?_
  refine g_X3_65 dX3_area_32 (by omega) ?_
  refine K_iload_n dX3_area_35 rfl ?_
  refine ald7 dX3_area_36 (by omega) (by omega) ?_
  refine K_iload_n dX3_area_37 rfl ?_
  refine K_iload_n dX3_area_38 rfl ?_
  refine k_X2_changeArea (C_X2_changeArea (by omega) (by omega) (by omega)) (by decide) (by omega) (by omega) ml_X3_69 (Nat.le_of_ble_eq_true rfl) dX3_area_39 ?_
  exact K_iret dX3_area_42 ⟨by rw [cSave_0 (by omega)], by rw [show (cSave μ ns sc).1 10 0 p u = μ.1 10 0 p u by rw [cSave_0 (by omega)]]⟩

set_option maxHeartbeats 4000000 in
set_option maxRecDepth 100000 in
theorem T_X3_area1 {l : Launch} {G : WG} {μ : Mem} (hfl : l.stackTraces = false) {a b c : Int32} {n : Nat} (hI : CI μ n) (h : cHas n a = false) : CtT l G 7 yX3_area cX3_area 4 (some .int) [.ref (adr G 0 0 0), .int (a), .int (b), .int (c)] μ "java/lang/IndexOutOfBoundsException" (μ) := by
  refine CtT_of (by decide +kernel) (Nat.le_of_ble_eq_true rfl) ?_
  refine K_aload_n dX3_area_0 rfl ?_
  refine K_iload_n dX3_area_1 rfl ?_
  exact kt_X3_demandPhase (T_X3_demandPhase hfl hI h) (by decide) ml_X3_51 (Nat.le_of_ble_eq_true rfl) dX3_area_2

set_option maxHeartbeats 4000000 in
set_option maxRecDepth 100000 in
theorem T_X3_area2 {l : Launch} {G : WG} {μ : Mem} (hfl : l.stackTraces = false) {b c : Int32} {n : Nat} (hI : CI μ n) {p : Nat} (hp : p < n) (h : uOk b = false) : CtT l G 7 yX3_area cX3_area 4 (some .int) [.ref (adr G 0 0 0), .int (nI p), .int (b), .int (c)] μ "java/lang/IndexOutOfBoundsException" (μ) := by
  refine CtT_of (by decide +kernel) (Nat.le_of_ble_eq_true rfl) ?_
  refine K_aload_n dX3_area_0 rfl ?_
  refine K_iload_n dX3_area_1 rfl ?_
  refine k_X3_demandPhase (C_X3_demandPhase hI (cHas_nat hp hI.2.1)) (by decide)  ml_X3_51 (Nat.le_of_ble_eq_true rfl) dX3_area_2 ?_
  refine K_iload_n dX3_area_5 rfl ?_
  exact kt_X3_demandUse (T_X3_demandUse hfl h) (by decide) ml_X3_55 (Nat.le_of_ble_eq_true rfl) dX3_area_6

set_option maxHeartbeats 4000000 in
set_option maxRecDepth 100000 in
theorem T_X3_area3 {l : Launch} {G : WG} {μ : Mem} (hfl : l.stackTraces = false) {c : Int32} {n : Nat} (hI : CI μ n) {p : Nat} (hp : p < n) {u : Nat} (hu : u < 4) (h : rOk c (nI 0) (nI 999) = false) : CtT l G 7 yX3_area cX3_area 4 (some .int) [.ref (adr G 0 0 0), .int (nI p), .int (nI u), .int (c)] μ "java/lang/IllegalArgumentException" (μ) := by
  refine CtT_of (by decide +kernel) (Nat.le_of_ble_eq_true rfl) ?_
  refine K_aload_n dX3_area_0 rfl ?_
  refine K_iload_n dX3_area_1 rfl ?_
  refine k_X3_demandPhase (C_X3_demandPhase hI (cHas_nat hp hI.2.1)) (by decide)  ml_X3_51 (Nat.le_of_ble_eq_true rfl) dX3_area_2 ?_
  refine K_iload_n dX3_area_5 rfl ?_
  refine k_X3_demandUse (C_X3_demandUse (uOk_nat hu)) (by decide) ml_X3_55 (Nat.le_of_ble_eq_true rfl) dX3_area_6 ?_
  refine K_iload_n dX3_area_9 rfl ?_
  refine K_iconstN 0 dX3_area_10 rfl ?_
  refine K_sipush (v := nI 999) dX3_area_11 (by decide) ?_
  exact kt_X3_demandRange (T_X3_demandRange hfl h) (by decide) ml_X3_58 (Nat.le_of_ble_eq_true rfl) dX3_area_14

set_option maxHeartbeats 4000000 in
set_option maxRecDepth 100000 in
theorem T_X3_area4 {l : Launch} {G : WG} {μ : Mem} (hfl : l.stackTraces = false) {c : Int32} {n : Nat} (hI : CI μ n) {p : Nat} (hp : p < n) {u : Nat} (hu : u < 4) (hr : rOk c (nI 0) (nI 999) = true) (h : ¬ cWhy0 μ 0 p = 0) : CtT l G 7 yX3_area cX3_area 4 (some .int) [.ref (adr G 0 0 0), .int (nI p), .int (nI u), .int (c)] μ "java/lang/IllegalStateException" (μ) := by
  refine CtT_of (by decide +kernel) (Nat.le_of_ble_eq_true rfl) ?_
  refine K_aload_n dX3_area_0 rfl ?_
  refine K_iload_n dX3_area_1 rfl ?_
  refine k_X3_demandPhase (C_X3_demandPhase hI (cHas_nat hp hI.2.1)) (by decide)  ml_X3_51 (Nat.le_of_ble_eq_true rfl) dX3_area_2 ?_
  refine K_iload_n dX3_area_5 rfl ?_
  refine k_X3_demandUse (C_X3_demandUse (uOk_nat hu)) (by decide) ml_X3_55 (Nat.le_of_ble_eq_true rfl) dX3_area_6 ?_
  refine K_iload_n dX3_area_9 rfl ?_
  refine K_iconstN 0 dX3_area_10 rfl ?_
  refine K_sipush (v := nI 999) dX3_area_11 (by decide) ?_
  refine k_X3_demandRange (C_X3_demandRange hr) (by decide) ml_X3_58 (Nat.le_of_ble_eq_true rfl) dX3_area_14 ?_
  refine K_aload_n dX3_area_17 rfl ?_
  refine K_iconstN 0 dX3_area_18 rfl ?_
  refine K_iload_n dX3_area_19 rfl ?_
  refine K_iload_n dX3_area_20 rfl ?_
  exact kt_X3_demandNoReason (T_X3_demandNoReason0 hfl hI hp h) (by decide) ml_X3_62 (Nat.le_of_ble_eq_true rfl) dX3_area_21

set_option maxHeartbeats 4000000 in
set_option maxRecDepth 100000 in
theorem C_X3_exempt {l : Launch} {G : WG} {μ : Mem}  {n : Nat} (hI : CI μ n) {ns sc : Nat} (hS : SI μ ns sc) {p : Nat} (hp : p < n) {u : Nat} (hu : u < 4) {a : Int32} (hr : rOk a (nI 0) (μ.1 9 0 p u) = true) (hw : cWhy0 μ 0 p = 0) : Ct l G 3 yX3_exempt cX3_exempt 4 (some .int) [.ref (adr G 0 0 0), .int (nI p), .int (nI u), .int (a)] (μ) (some (.int (μ.1 10 0 p u))) (mset (cSave μ ns sc) 10 0 p u a) := by
  refine Ct_of (by decide +kernel) (Nat.le_of_ble_eq_true rfl) ?_
  have hp6 := (Nat.lt_of_lt_of_le hp hI.2.1)
  refine K_aload_n dX3_exempt_0 rfl ?_
  refine K_iload_n dX3_exempt_1 rfl ?_
  refine k_X3_demandPhase (C_X3_demandPhase hI (cHas_nat hp hI.2.1)) (by decide)  ml_X3_51 (Nat.le_of_ble_eq_true rfl) dX3_exempt_2 ?_
  refine K_iload_n dX3_exempt_5 rfl ?_
  refine k_X3_demandUse (C_X3_demandUse (uOk_nat hu)) (by decide) ml_X3_55 (Nat.le_of_ble_eq_true rfl) dX3_exempt_6 ?_
  refine K_iload_n dX3_exempt_9 rfl ?_
  refine K_iconstN 0 dX3_exempt_10 rfl ?_
  refine K_aload_n dX3_exempt_11 rfl ?_
  refine g_X3_10 dX3_exempt_12  ?_
  refine g_X3_65 dX3_exempt_15 (by omega) ?_
  refine K_iload_n dX3_exempt_18 rfl ?_
  refine ald7 dX3_exempt_19 (by omega) (by omega) ?_
  refine g_X3_75 dX3_exempt_20 (by omega) (by omega) ?_
  refine K_iload_n dX3_exempt_23 rfl ?_
  refine ald9 dX3_exempt_24 (by omega) (by omega) (by omega) ?_
  refine k_X3_demandRange (C_X3_demandRange hr) (by decide) ml_X3_58 (Nat.le_of_ble_eq_true rfl) dX3_exempt_25 ?_
  refine K_aload_n dX3_exempt_28 rfl ?_
  refine K_iconstN 0 dX3_exempt_29 rfl ?_
  refine K_iload_n dX3_exempt_30 rfl ?_
  refine K_iload_n dX3_exempt_31 rfl ?_
  refine k_X3_demandNoReason (C_X3_demandNoReason0 hI hp hw) (by decide)  ml_X3_62 (Nat.le_of_ble_eq_true rfl) dX3_exempt_32 ?_
  refine K_aload_n dX3_exempt_35 rfl ?_
  refine k_X3_saveState (C_X3_saveState hS) (by decide)  ml_X3_44 (Nat.le_of_ble_eq_true rfl) dX3_exempt_36 ?_
  refine K_aload_n dX3_exempt_39 rfl ?_
  refine g_X3_10 dX3_exempt_40  ?_
  refine g_X3_65 dX3_exempt_43 (by omega) ?_
  refine K_iload_n dX3_exempt_46 rfl ?_
  refine ald7 dX3_exempt_47 (by omega) (by omega) ?_
  refine K_iload_n dX3_exempt_48 rfl ?_
  refine K_iload_n dX3_exempt_49 rfl ?_
  refine k_X2_changeExemptArea (C_X2_changeExemptArea (by omega) (by omega) (by omega)) (by decide) (by omega) (by omega) ml_X3_79 (Nat.le_of_ble_eq_true rfl) dX3_exempt_50 ?_
  exact K_iret dX3_exempt_53 ⟨by rw [cSave_0 (by omega)], rfl⟩

set_option maxHeartbeats 4000000 in
set_option maxRecDepth 100000 in
theorem T_X3_exempt1 {l : Launch} {G : WG} {μ : Mem} (hfl : l.stackTraces = false) {a b c : Int32} {n : Nat} (hI : CI μ n) (h : cHas n a = false) : CtT l G 7 yX3_exempt cX3_exempt 4 (some .int) [.ref (adr G 0 0 0), .int (a), .int (b), .int (c)] μ "java/lang/IndexOutOfBoundsException" (μ) := by
  refine CtT_of (by decide +kernel) (Nat.le_of_ble_eq_true rfl) ?_
  refine K_aload_n dX3_exempt_0 rfl ?_
  refine K_iload_n dX3_exempt_1 rfl ?_
  exact kt_X3_demandPhase (T_X3_demandPhase hfl hI h) (by decide) ml_X3_51 (Nat.le_of_ble_eq_true rfl) dX3_exempt_2

set_option maxHeartbeats 4000000 in
set_option maxRecDepth 100000 in
theorem T_X3_exempt2 {l : Launch} {G : WG} {μ : Mem} (hfl : l.stackTraces = false) {b c : Int32} {n : Nat} (hI : CI μ n) {p : Nat} (hp : p < n) (h : uOk b = false) : CtT l G 7 yX3_exempt cX3_exempt 4 (some .int) [.ref (adr G 0 0 0), .int (nI p), .int (b), .int (c)] μ "java/lang/IndexOutOfBoundsException" (μ) := by
  refine CtT_of (by decide +kernel) (Nat.le_of_ble_eq_true rfl) ?_
  refine K_aload_n dX3_exempt_0 rfl ?_
  refine K_iload_n dX3_exempt_1 rfl ?_
  refine k_X3_demandPhase (C_X3_demandPhase hI (cHas_nat hp hI.2.1)) (by decide)  ml_X3_51 (Nat.le_of_ble_eq_true rfl) dX3_exempt_2 ?_
  refine K_iload_n dX3_exempt_5 rfl ?_
  exact kt_X3_demandUse (T_X3_demandUse hfl h) (by decide) ml_X3_55 (Nat.le_of_ble_eq_true rfl) dX3_exempt_6

set_option maxHeartbeats 4000000 in
set_option maxRecDepth 100000 in
theorem T_X3_exempt3 {l : Launch} {G : WG} {μ : Mem} (hfl : l.stackTraces = false) {c : Int32} {n : Nat} (hI : CI μ n) {p : Nat} (hp : p < n) {u : Nat} (hu : u < 4) (h : rOk c (nI 0) (μ.1 9 0 p u) = false) : CtT l G 7 yX3_exempt cX3_exempt 4 (some .int) [.ref (adr G 0 0 0), .int (nI p), .int (nI u), .int (c)] μ "java/lang/IllegalArgumentException" (μ) := by
  refine CtT_of (by decide +kernel) (Nat.le_of_ble_eq_true rfl) ?_
  have hp6 := (Nat.lt_of_lt_of_le hp hI.2.1)
  refine K_aload_n dX3_exempt_0 rfl ?_
  refine K_iload_n dX3_exempt_1 rfl ?_
  refine k_X3_demandPhase (C_X3_demandPhase hI (cHas_nat hp hI.2.1)) (by decide)  ml_X3_51 (Nat.le_of_ble_eq_true rfl) dX3_exempt_2 ?_
  refine K_iload_n dX3_exempt_5 rfl ?_
  refine k_X3_demandUse (C_X3_demandUse (uOk_nat hu)) (by decide) ml_X3_55 (Nat.le_of_ble_eq_true rfl) dX3_exempt_6 ?_
  refine K_iload_n dX3_exempt_9 rfl ?_
  refine K_iconstN 0 dX3_exempt_10 rfl ?_
  refine K_aload_n dX3_exempt_11 rfl ?_
  refine g_X3_10 dX3_exempt_12  ?_
  refine g_X3_65 dX3_exempt_15 (by omega) ?_
  refine K_iload_n dX3_exempt_18 rfl ?_
  refine ald7 dX3_exempt_19 (by omega) (by omega) ?_
  refine g_X3_75 dX3_exempt_20 (by omega) (by omega) ?_
  refine K_iload_n dX3_exempt_23 rfl ?_
  refine ald9 dX3_exempt_24 (by omega) (by omega) (by omega) ?_
  exact kt_X3_demandRange (T_X3_demandRange hfl h) (by decide) ml_X3_58 (Nat.le_of_ble_eq_true rfl) dX3_exempt_25

set_option maxHeartbeats 4000000 in
set_option maxRecDepth 100000 in
theorem T_X3_exempt4 {l : Launch} {G : WG} {μ : Mem} (hfl : l.stackTraces = false) {c : Int32} {n : Nat} (hI : CI μ n) {p : Nat} (hp : p < n) {u : Nat} (hu : u < 4) (hr : rOk c (nI 0) (μ.1 9 0 p u) = true) (h : ¬ cWhy0 μ 0 p = 0) : CtT l G 7 yX3_exempt cX3_exempt 4 (some .int) [.ref (adr G 0 0 0), .int (nI p), .int (nI u), .int (c)] μ "java/lang/IllegalStateException" (μ) := by
  refine CtT_of (by decide +kernel) (Nat.le_of_ble_eq_true rfl) ?_
  have hp6 := (Nat.lt_of_lt_of_le hp hI.2.1)
  refine K_aload_n dX3_exempt_0 rfl ?_
  refine K_iload_n dX3_exempt_1 rfl ?_
  refine k_X3_demandPhase (C_X3_demandPhase hI (cHas_nat hp hI.2.1)) (by decide)  ml_X3_51 (Nat.le_of_ble_eq_true rfl) dX3_exempt_2 ?_
  refine K_iload_n dX3_exempt_5 rfl ?_
  refine k_X3_demandUse (C_X3_demandUse (uOk_nat hu)) (by decide) ml_X3_55 (Nat.le_of_ble_eq_true rfl) dX3_exempt_6 ?_
  refine K_iload_n dX3_exempt_9 rfl ?_
  refine K_iconstN 0 dX3_exempt_10 rfl ?_
  refine K_aload_n dX3_exempt_11 rfl ?_
  refine g_X3_10 dX3_exempt_12  ?_
  refine g_X3_65 dX3_exempt_15 (by omega) ?_
  refine K_iload_n dX3_exempt_18 rfl ?_
  refine ald7 dX3_exempt_19 (by omega) (by omega) ?_
  refine g_X3_75 dX3_exempt_20 (by omega) (by omega) ?_
  refine K_iload_n dX3_exempt_23 rfl ?_
  refine ald9 dX3_exempt_24 (by omega) (by omega) (by omega) ?_
  refine k_X3_demandRange (C_X3_demandRange hr) (by decide) ml_X3_58 (Nat.le_of_ble_eq_true rfl) dX3_exempt_25 ?_
  refine K_aload_n dX3_exempt_28 rfl ?_
  refine K_iconstN 0 dX3_exempt_29 rfl ?_
  refine K_iload_n dX3_exempt_30 rfl ?_
  refine K_iload_n dX3_exempt_31 rfl ?_
  exact kt_X3_demandNoReason (T_X3_demandNoReason0 hfl hI hp h) (by decide) ml_X3_62 (Nat.le_of_ble_eq_true rfl) dX3_exempt_32

set_option maxHeartbeats 4000000 in
set_option maxRecDepth 100000 in
theorem C_X3_rate {l : Launch} {G : WG} {μ : Mem}  {n : Nat} (hI : CI μ n) {ns sc : Nat} (hS : SI μ ns sc) {u : Nat} (hu : u < 4) {a : Int32} (hr : rOk a (nI 0) (nI 999) = true) : Ct l G 3 yX3_rate cX3_rate 3 (some .int) [.ref (adr G 0 0 0), .int (nI u), .int (a)] (μ) (some (.int (μ.1 5 0 0 u))) (rateK (cSave μ ns sc) 0 u a n) := by
  refine Ct_of (by decide +kernel) (Nat.le_of_ble_eq_true rfl) ?_
  refine K_iload_n dX3_rate_0 rfl ?_
  refine k_X3_demandUse (C_X3_demandUse (uOk_nat hu)) (by decide) ml_X3_55 (Nat.le_of_ble_eq_true rfl) dX3_rate_1 ?_
  refine K_iload_n dX3_rate_4 rfl ?_
  refine K_iconstN 0 dX3_rate_5 rfl ?_
  refine K_sipush (v := nI 999) dX3_rate_6 (by decide) ?_
  refine k_X3_demandRange (C_X3_demandRange hr) (by decide) ml_X3_58 (Nat.le_of_ble_eq_true rfl) dX3_rate_9 ?_
  refine K_aload_n dX3_rate_12 rfl ?_
  refine k_X3_saveState (C_X3_saveState hS) (by decide)  ml_X3_44 (Nat.le_of_ble_eq_true rfl) dX3_rate_13 ?_
  refine K_aload_n dX3_rate_16 rfl ?_
  refine g_X3_10 dX3_rate_17  ?_
  refine K_iload_n dX3_rate_20 rfl ?_
  refine K_iload_n dX3_rate_21 rfl ?_
  refine k_X0_changeRate (C_X0_changeRate (by omega) hu (cSave_CI hI).1 hI.2.1) (by decide) (by omega) ml_X3_82 (Nat.le_of_ble_eq_true rfl) dX3_rate_22 ?_
  exact K_iret dX3_rate_25 ⟨by rw [cSave_0 (by omega)], rfl⟩

set_option maxHeartbeats 4000000 in
set_option maxRecDepth 100000 in
theorem T_X3_rate1 {l : Launch} {G : WG} {μ : Mem} (hfl : l.stackTraces = false) {a b : Int32} (h : uOk a = false) : CtT l G 7 yX3_rate cX3_rate 3 (some .int) [.ref (adr G 0 0 0), .int (a), .int (b)] μ "java/lang/IndexOutOfBoundsException" (μ) := by
  refine CtT_of (by decide +kernel) (Nat.le_of_ble_eq_true rfl) ?_
  refine K_iload_n dX3_rate_0 rfl ?_
  exact kt_X3_demandUse (T_X3_demandUse hfl h) (by decide) ml_X3_55 (Nat.le_of_ble_eq_true rfl) dX3_rate_1

set_option maxHeartbeats 4000000 in
set_option maxRecDepth 100000 in
theorem T_X3_rate2 {l : Launch} {G : WG} {μ : Mem} (hfl : l.stackTraces = false) {b : Int32} {u : Nat} (hu : u < 4) (h : rOk b (nI 0) (nI 999) = false) : CtT l G 7 yX3_rate cX3_rate 3 (some .int) [.ref (adr G 0 0 0), .int (nI u), .int (b)] μ "java/lang/IllegalArgumentException" (μ) := by
  refine CtT_of (by decide +kernel) (Nat.le_of_ble_eq_true rfl) ?_
  refine K_iload_n dX3_rate_0 rfl ?_
  refine k_X3_demandUse (C_X3_demandUse (uOk_nat hu)) (by decide) ml_X3_55 (Nat.le_of_ble_eq_true rfl) dX3_rate_1 ?_
  refine K_iload_n dX3_rate_4 rfl ?_
  refine K_iconstN 0 dX3_rate_5 rfl ?_
  refine K_sipush (v := nI 999) dX3_rate_6 (by decide) ?_
  exact kt_X3_demandRange (T_X3_demandRange hfl h) (by decide) ml_X3_58 (Nat.le_of_ble_eq_true rfl) dX3_rate_9

set_option maxHeartbeats 4000000 in
set_option maxRecDepth 100000 in
theorem C_X3_set {l : Launch} {G : WG} {μ : Mem}  {ns sc : Nat} (hS : SI μ ns sc) {u : Nat} (hu : u < 4) {a : Int32} (hr : rOk a (leastT u) (mostT u) = true) : Ct l G 3 yX3_set cX3_set 4 (some .int) [.ref (adr G 0 0 0), .int (nI u), .int (a)] (μ) (some (.int (μ.1 6 0 0 u))) (mset (cSave μ ns sc) 6 0 0 u a) := by
  refine Ct_of (by decide +kernel) (Nat.le_of_ble_eq_true rfl) ?_
  refine K_iload_n dX3_set_0 rfl ?_
  refine k_X3_demandSetting (C_X3_demandSetting (uOk_nat hu)) (by decide) ml_X3_85 (Nat.le_of_ble_eq_true rfl) dX3_set_1 ?_
  refine K_iload_n dX3_set_4 rfl ?_
  refine K_tblL dX3_set_5 dX3_set_8 dX3_set_9 rfl hu ?_
  refine K_tblM dX3_set_10 dX3_set_13 dX3_set_14 rfl hu ?_
  refine k_X3_demandRange (C_X3_demandRange hr) (by decide) ml_X3_58 (Nat.le_of_ble_eq_true rfl) dX3_set_15 ?_
  refine K_aload_n dX3_set_18 rfl ?_
  refine k_X3_saveState (C_X3_saveState hS) (by decide)  ml_X3_44 (Nat.le_of_ble_eq_true rfl) dX3_set_19 ?_
  refine K_aload_n dX3_set_22 rfl ?_
  refine g_X3_10 dX3_set_23  ?_
  refine g_X3_94 dX3_set_26 (by omega) ?_
  refine K_iload_n dX3_set_29 rfl ?_
  refine ald6 dX3_set_30 (by omega) (by omega) ?_
  refine K_istore_n dX3_set_31 (by decide) rfl ?_
  refine K_aload_n dX3_set_32 rfl ?_
  refine g_X3_10 dX3_set_33  ?_
  refine g_X3_94 dX3_set_36 (by omega) ?_
  refine K_iload_n dX3_set_39 rfl ?_
  refine K_iload_n dX3_set_40 rfl ?_
  refine ast6 dX3_set_41 (by omega) (by omega) ?_
  refine K_iload_n dX3_set_42 rfl ?_
  exact K_iret dX3_set_43 ⟨by rw [cSave_0 (by omega)], rfl⟩

set_option maxHeartbeats 4000000 in
set_option maxRecDepth 100000 in
theorem T_X3_set1 {l : Launch} {G : WG} {μ : Mem} (hfl : l.stackTraces = false) {a b : Int32} (h : uOk a = false) : CtT l G 7 yX3_set cX3_set 4 (some .int) [.ref (adr G 0 0 0), .int (a), .int (b)] μ "java/lang/IndexOutOfBoundsException" (μ) := by
  refine CtT_of (by decide +kernel) (Nat.le_of_ble_eq_true rfl) ?_
  refine K_iload_n dX3_set_0 rfl ?_
  exact kt_X3_demandSetting (T_X3_demandSetting hfl h) (by decide) ml_X3_85 (Nat.le_of_ble_eq_true rfl) dX3_set_1

set_option maxHeartbeats 4000000 in
set_option maxRecDepth 100000 in
theorem T_X3_set2 {l : Launch} {G : WG} {μ : Mem} (hfl : l.stackTraces = false) {b : Int32} {u : Nat} (hu : u < 4) (h : rOk b (leastT u) (mostT u) = false) : CtT l G 7 yX3_set cX3_set 4 (some .int) [.ref (adr G 0 0 0), .int (nI u), .int (b)] μ "java/lang/IllegalArgumentException" (μ) := by
  refine CtT_of (by decide +kernel) (Nat.le_of_ble_eq_true rfl) ?_
  refine K_iload_n dX3_set_0 rfl ?_
  refine k_X3_demandSetting (C_X3_demandSetting (uOk_nat hu)) (by decide) ml_X3_85 (Nat.le_of_ble_eq_true rfl) dX3_set_1 ?_
  refine K_iload_n dX3_set_4 rfl ?_
  refine K_tblL dX3_set_5 dX3_set_8 dX3_set_9 rfl hu ?_
  refine K_tblM dX3_set_10 dX3_set_13 dX3_set_14 rfl hu ?_
  exact kt_X3_demandRange (T_X3_demandRange hfl h) (by decide) ml_X3_58 (Nat.le_of_ble_eq_true rfl) dX3_set_15

set_option maxHeartbeats 4000000 in
set_option maxRecDepth 100000 in
theorem C_X3_begin {l : Launch} {G : WG} {μ : Mem}  {n : Nat} (hI : CI μ n) {ns sc : Nat} (hS : SI μ ns sc) {p : Nat} (hp : p < n) (hw : cWhy1 μ 0 p = 0) : Ct l G 3 yX3_begin cX3_begin 2 (some .int) [.ref (adr G 0 0 0), .int (nI p)] (μ) (some (.int (cSum μ 0 p))) (cStart (cSave μ ns sc) 0 p (μ.1 4 0 0 0) (μ.1 6 0 0 0)) := by
  refine Ct_of (by decide +kernel) (Nat.le_of_ble_eq_true rfl) ?_
  have hp6 := (Nat.lt_of_lt_of_le hp hI.2.1)
  refine K_aload_n dX3_begin_0 rfl ?_
  refine K_iload_n dX3_begin_1 rfl ?_
  refine k_X3_demandPhase (C_X3_demandPhase hI (cHas_nat hp hI.2.1)) (by decide)  ml_X3_51 (Nat.le_of_ble_eq_true rfl) dX3_begin_2 ?_
  refine K_aload_n dX3_begin_5 rfl ?_
  refine K_iconstN 1 dX3_begin_6 rfl ?_
  refine K_iload_n dX3_begin_7 rfl ?_
  refine K_iconstN 0 dX3_begin_8 rfl ?_
  refine k_X3_demandNoReason (C_X3_demandNoReason1 hI hp hw) (by decide)  ml_X3_62 (Nat.le_of_ble_eq_true rfl) dX3_begin_9 ?_
  refine K_aload_n dX3_begin_12 rfl ?_
  refine k_X3_saveState (C_X3_saveState hS) (by decide)  ml_X3_44 (Nat.le_of_ble_eq_true rfl) dX3_begin_13 ?_
  refine K_aload_n dX3_begin_16 rfl ?_
  refine g_X3_10 dX3_begin_17  ?_
  refine K_iload_n dX3_begin_20 rfl ?_
  refine k_X0_beginPhase (C_X0_beginPhase (by omega) (by omega)) (by decide) (by omega) ml_X3_97 (Nat.le_of_ble_eq_true rfl) dX3_begin_21 ?_
  exact K_iret dX3_begin_24 ⟨by rw [cSum_save], by rw [show (cSave μ ns sc).1 4 0 0 0 = μ.1 4 0 0 0 by rw [cSave_0 (by omega)], show (cSave μ ns sc).1 6 0 0 0 = μ.1 6 0 0 0 by rw [cSave_0 (by omega)]]⟩

set_option maxHeartbeats 4000000 in
set_option maxRecDepth 100000 in
theorem T_X3_begin1 {l : Launch} {G : WG} {μ : Mem} (hfl : l.stackTraces = false) {a : Int32} {n : Nat} (hI : CI μ n) (h : cHas n a = false) : CtT l G 7 yX3_begin cX3_begin 2 (some .int) [.ref (adr G 0 0 0), .int (a)] μ "java/lang/IndexOutOfBoundsException" (μ) := by
  refine CtT_of (by decide +kernel) (Nat.le_of_ble_eq_true rfl) ?_
  refine K_aload_n dX3_begin_0 rfl ?_
  refine K_iload_n dX3_begin_1 rfl ?_
  exact kt_X3_demandPhase (T_X3_demandPhase hfl hI h) (by decide) ml_X3_51 (Nat.le_of_ble_eq_true rfl) dX3_begin_2

set_option maxHeartbeats 4000000 in
set_option maxRecDepth 100000 in
theorem T_X3_begin2 {l : Launch} {G : WG} {μ : Mem} (hfl : l.stackTraces = false)  {n : Nat} (hI : CI μ n) {p : Nat} (hp : p < n) (h : ¬ cWhy1 μ 0 p = 0) : CtT l G 7 yX3_begin cX3_begin 2 (some .int) [.ref (adr G 0 0 0), .int (nI p)] μ "java/lang/IllegalStateException" (μ) := by
  refine CtT_of (by decide +kernel) (Nat.le_of_ble_eq_true rfl) ?_
  refine K_aload_n dX3_begin_0 rfl ?_
  refine K_iload_n dX3_begin_1 rfl ?_
  refine k_X3_demandPhase (C_X3_demandPhase hI (cHas_nat hp hI.2.1)) (by decide)  ml_X3_51 (Nat.le_of_ble_eq_true rfl) dX3_begin_2 ?_
  refine K_aload_n dX3_begin_5 rfl ?_
  refine K_iconstN 1 dX3_begin_6 rfl ?_
  refine K_iload_n dX3_begin_7 rfl ?_
  refine K_iconstN 0 dX3_begin_8 rfl ?_
  exact kt_X3_demandNoReason (T_X3_demandNoReason1 hfl hI hp h) (by decide) ml_X3_62 (Nat.le_of_ble_eq_true rfl) dX3_begin_9

set_option maxHeartbeats 4000000 in
set_option maxRecDepth 100000 in
theorem C_X3_pay {l : Launch} {G : WG} {μ : Mem}  {n : Nat} (hI : CI μ n) {ns sc : Nat} (hS : SI μ ns sc) {p : Nat} (hp : p < n) {a : Int32} (hr : rOk a (nI 1) (nI 99999) = true) (hw : cWhy2 μ 0 p = 0) : Ct l G 4 yX3_pay cX3_pay 3 (some .int) [.ref (adr G 0 0 0), .int (nI p), .int (a)] (μ) (some (.int (cTaken μ 0 p a))) (cPay (cSave μ ns sc) 0 p (insN μ 0 p) a) := by
  refine Ct_of (by decide +kernel) (Nat.le_of_ble_eq_true rfl) ?_
  have hp6 := (Nat.lt_of_lt_of_le hp hI.2.1)
  refine K_aload_n dX3_pay_0 rfl ?_
  refine K_iload_n dX3_pay_1 rfl ?_
  refine k_X3_demandPhase (C_X3_demandPhase hI (cHas_nat hp hI.2.1)) (by decide)  ml_X3_51 (Nat.le_of_ble_eq_true rfl) dX3_pay_2 ?_
  refine K_iload_n dX3_pay_5 rfl ?_
  refine K_iconstN 1 dX3_pay_6 rfl ?_
  refine K_ldc dX3_pay_7 cst_X3_101 ?_
  refine k_X3_demandRange (C_X3_demandRange hr) (by decide) ml_X3_58 (Nat.le_of_ble_eq_true rfl) dX3_pay_9 ?_
  refine K_aload_n dX3_pay_12 rfl ?_
  refine K_iconstN 2 dX3_pay_13 rfl ?_
  refine K_iload_n dX3_pay_14 rfl ?_
  refine K_iconstN 0 dX3_pay_15 rfl ?_
  refine k_X3_demandNoReason (C_X3_demandNoReason2 hI hp hw) (by decide)  ml_X3_62 (Nat.le_of_ble_eq_true rfl) dX3_pay_16 ?_
  refine K_aload_n dX3_pay_19 rfl ?_
  refine k_X3_saveState (C_X3_saveState hS) (by decide)  ml_X3_44 (Nat.le_of_ble_eq_true rfl) dX3_pay_20 ?_
  refine K_aload_n dX3_pay_23 rfl ?_
  refine g_X3_10 dX3_pay_24  ?_
  refine g_X3_65 dX3_pay_27 (by omega) ?_
  refine K_iload_n dX3_pay_30 rfl ?_
  refine ald7 dX3_pay_31 (by omega) (by omega) ?_
  refine K_iload_n dX3_pay_32 rfl ?_
  refine k_X2_takeMoney (C_X2_takeMoney (n := insN (cSave μ ns sc) 0 p) (by omega) hp6 ((cSave_CI hI).2.2 p (Nat.lt_of_lt_of_le hp hI.2.1)).1 ((cSave_CI hI).2.2 p (Nat.lt_of_lt_of_le hp hI.2.1)).2) (by decide) (by omega) (by omega) ml_X3_102 (Nat.le_of_ble_eq_true rfl) dX3_pay_33 ?_
  exact K_iret dX3_pay_36 ⟨by simp only [cTaken, cOwed_save], by rw [insN_save]⟩

set_option maxHeartbeats 4000000 in
set_option maxRecDepth 100000 in
theorem T_X3_pay1 {l : Launch} {G : WG} {μ : Mem} (hfl : l.stackTraces = false) {a b : Int32} {n : Nat} (hI : CI μ n) (h : cHas n a = false) : CtT l G 7 yX3_pay cX3_pay 3 (some .int) [.ref (adr G 0 0 0), .int (a), .int (b)] μ "java/lang/IndexOutOfBoundsException" (μ) := by
  refine CtT_of (by decide +kernel) (Nat.le_of_ble_eq_true rfl) ?_
  refine K_aload_n dX3_pay_0 rfl ?_
  refine K_iload_n dX3_pay_1 rfl ?_
  exact kt_X3_demandPhase (T_X3_demandPhase hfl hI h) (by decide) ml_X3_51 (Nat.le_of_ble_eq_true rfl) dX3_pay_2

set_option maxHeartbeats 4000000 in
set_option maxRecDepth 100000 in
theorem T_X3_pay2 {l : Launch} {G : WG} {μ : Mem} (hfl : l.stackTraces = false) {b : Int32} {n : Nat} (hI : CI μ n) {p : Nat} (hp : p < n) (h : rOk b (nI 1) (nI 99999) = false) : CtT l G 7 yX3_pay cX3_pay 3 (some .int) [.ref (adr G 0 0 0), .int (nI p), .int (b)] μ "java/lang/IllegalArgumentException" (μ) := by
  refine CtT_of (by decide +kernel) (Nat.le_of_ble_eq_true rfl) ?_
  refine K_aload_n dX3_pay_0 rfl ?_
  refine K_iload_n dX3_pay_1 rfl ?_
  refine k_X3_demandPhase (C_X3_demandPhase hI (cHas_nat hp hI.2.1)) (by decide)  ml_X3_51 (Nat.le_of_ble_eq_true rfl) dX3_pay_2 ?_
  refine K_iload_n dX3_pay_5 rfl ?_
  refine K_iconstN 1 dX3_pay_6 rfl ?_
  refine K_ldc dX3_pay_7 cst_X3_101 ?_
  exact kt_X3_demandRange (T_X3_demandRange hfl h) (by decide) ml_X3_58 (Nat.le_of_ble_eq_true rfl) dX3_pay_9

set_option maxHeartbeats 4000000 in
set_option maxRecDepth 100000 in
theorem T_X3_pay3 {l : Launch} {G : WG} {μ : Mem} (hfl : l.stackTraces = false) {b : Int32} {n : Nat} (hI : CI μ n) {p : Nat} (hp : p < n) (hr : rOk b (nI 1) (nI 99999) = true) (h : ¬ cWhy2 μ 0 p = 0) : CtT l G 7 yX3_pay cX3_pay 3 (some .int) [.ref (adr G 0 0 0), .int (nI p), .int (b)] μ "java/lang/IllegalStateException" (μ) := by
  refine CtT_of (by decide +kernel) (Nat.le_of_ble_eq_true rfl) ?_
  refine K_aload_n dX3_pay_0 rfl ?_
  refine K_iload_n dX3_pay_1 rfl ?_
  refine k_X3_demandPhase (C_X3_demandPhase hI (cHas_nat hp hI.2.1)) (by decide)  ml_X3_51 (Nat.le_of_ble_eq_true rfl) dX3_pay_2 ?_
  refine K_iload_n dX3_pay_5 rfl ?_
  refine K_iconstN 1 dX3_pay_6 rfl ?_
  refine K_ldc dX3_pay_7 cst_X3_101 ?_
  refine k_X3_demandRange (C_X3_demandRange hr) (by decide) ml_X3_58 (Nat.le_of_ble_eq_true rfl) dX3_pay_9 ?_
  refine K_aload_n dX3_pay_12 rfl ?_
  refine K_iconstN 2 dX3_pay_13 rfl ?_
  refine K_iload_n dX3_pay_14 rfl ?_
  refine K_iconstN 0 dX3_pay_15 rfl ?_
  exact kt_X3_demandNoReason (T_X3_demandNoReason2 hfl hI hp h) (by decide) ml_X3_62 (Nat.le_of_ble_eq_true rfl) dX3_pay_16

set_option maxHeartbeats 4000000 in
set_option maxRecDepth 100000 in
theorem C_X3_land {l : Launch} {G : WG} {μ : Mem}  {n : Nat} (hI : CI μ n) {ns sc : Nat} (hS : SI μ ns sc) {p : Nat} (hp : p < n) {a : Int32} (hr : rOk a (nI 1) (nI 99999) = true) (hw : cWhy3 μ 0 p = 0) : Ct l G 4 yX3_land cX3_land 3 (some .int) [.ref (adr G 0 0 0), .int (nI p), .int (a)] (μ) (some (.int (cLandTaken μ 0 p a (μ.1 6 0 0 3)))) (cLand (cSave μ ns sc) 0 p (insN μ 0 p) a (μ.1 6 0 0 3)) := by
  refine Ct_of (by decide +kernel) (Nat.le_of_ble_eq_true rfl) ?_
  have hp6 := (Nat.lt_of_lt_of_le hp hI.2.1)
  refine K_aload_n dX3_land_0 rfl ?_
  refine K_iload_n dX3_land_1 rfl ?_
  refine k_X3_demandPhase (C_X3_demandPhase hI (cHas_nat hp hI.2.1)) (by decide)  ml_X3_51 (Nat.le_of_ble_eq_true rfl) dX3_land_2 ?_
  refine K_iload_n dX3_land_5 rfl ?_
  refine K_iconstN 1 dX3_land_6 rfl ?_
  refine K_ldc dX3_land_7 cst_X3_101 ?_
  refine k_X3_demandRange (C_X3_demandRange hr) (by decide) ml_X3_58 (Nat.le_of_ble_eq_true rfl) dX3_land_9 ?_
  refine K_aload_n dX3_land_12 rfl ?_
  refine K_iconstN 3 dX3_land_13 rfl ?_
  refine K_iload_n dX3_land_14 rfl ?_
  refine K_iconstN 0 dX3_land_15 rfl ?_
  refine k_X3_demandNoReason (C_X3_demandNoReason3 hI hp hw) (by decide)  ml_X3_62 (Nat.le_of_ble_eq_true rfl) dX3_land_16 ?_
  refine K_aload_n dX3_land_19 rfl ?_
  refine k_X3_saveState (C_X3_saveState hS) (by decide)  ml_X3_44 (Nat.le_of_ble_eq_true rfl) dX3_land_20 ?_
  refine K_aload_n dX3_land_23 rfl ?_
  refine g_X3_10 dX3_land_24  ?_
  refine g_X3_65 dX3_land_27 (by omega) ?_
  refine K_iload_n dX3_land_30 rfl ?_
  refine ald7 dX3_land_31 (by omega) (by omega) ?_
  refine K_iload_n dX3_land_32 rfl ?_
  refine K_aload_n dX3_land_33 rfl ?_
  refine g_X3_10 dX3_land_34  ?_
  refine g_X3_94 dX3_land_37 (by omega) ?_
  refine K_iconstN 3 dX3_land_40 rfl ?_
  refine ald6 dX3_land_41 (by omega) (by omega) ?_
  refine k_X2_takeLand (C_X2_takeLand (n := insN (cSave μ ns sc) 0 p) (by omega) hp6 ((cSave_CI hI).2.2 p (Nat.lt_of_lt_of_le hp hI.2.1)).1 ((cSave_CI hI).2.2 p (Nat.lt_of_lt_of_le hp hI.2.1)).2) (by decide) (by omega) (by omega) ml_X3_105 (Nat.le_of_ble_eq_true rfl) dX3_land_42 ?_
  exact K_iret dX3_land_45 ⟨by simp only [cLandTaken, cOwed_save, cRoom_save, cSave_0 (show 4 ≤ 6 by omega)], by rw [insN_save, show (cSave μ ns sc).1 6 0 0 3 = μ.1 6 0 0 3 by rw [cSave_0 (by omega)]]⟩

set_option maxHeartbeats 4000000 in
set_option maxRecDepth 100000 in
theorem T_X3_land1 {l : Launch} {G : WG} {μ : Mem} (hfl : l.stackTraces = false) {a b : Int32} {n : Nat} (hI : CI μ n) (h : cHas n a = false) : CtT l G 7 yX3_land cX3_land 3 (some .int) [.ref (adr G 0 0 0), .int (a), .int (b)] μ "java/lang/IndexOutOfBoundsException" (μ) := by
  refine CtT_of (by decide +kernel) (Nat.le_of_ble_eq_true rfl) ?_
  refine K_aload_n dX3_land_0 rfl ?_
  refine K_iload_n dX3_land_1 rfl ?_
  exact kt_X3_demandPhase (T_X3_demandPhase hfl hI h) (by decide) ml_X3_51 (Nat.le_of_ble_eq_true rfl) dX3_land_2

set_option maxHeartbeats 4000000 in
set_option maxRecDepth 100000 in
theorem T_X3_land2 {l : Launch} {G : WG} {μ : Mem} (hfl : l.stackTraces = false) {b : Int32} {n : Nat} (hI : CI μ n) {p : Nat} (hp : p < n) (h : rOk b (nI 1) (nI 99999) = false) : CtT l G 7 yX3_land cX3_land 3 (some .int) [.ref (adr G 0 0 0), .int (nI p), .int (b)] μ "java/lang/IllegalArgumentException" (μ) := by
  refine CtT_of (by decide +kernel) (Nat.le_of_ble_eq_true rfl) ?_
  refine K_aload_n dX3_land_0 rfl ?_
  refine K_iload_n dX3_land_1 rfl ?_
  refine k_X3_demandPhase (C_X3_demandPhase hI (cHas_nat hp hI.2.1)) (by decide)  ml_X3_51 (Nat.le_of_ble_eq_true rfl) dX3_land_2 ?_
  refine K_iload_n dX3_land_5 rfl ?_
  refine K_iconstN 1 dX3_land_6 rfl ?_
  refine K_ldc dX3_land_7 cst_X3_101 ?_
  exact kt_X3_demandRange (T_X3_demandRange hfl h) (by decide) ml_X3_58 (Nat.le_of_ble_eq_true rfl) dX3_land_9

set_option maxHeartbeats 4000000 in
set_option maxRecDepth 100000 in
theorem T_X3_land3 {l : Launch} {G : WG} {μ : Mem} (hfl : l.stackTraces = false) {b : Int32} {n : Nat} (hI : CI μ n) {p : Nat} (hp : p < n) (hr : rOk b (nI 1) (nI 99999) = true) (h : ¬ cWhy3 μ 0 p = 0) : CtT l G 7 yX3_land cX3_land 3 (some .int) [.ref (adr G 0 0 0), .int (nI p), .int (b)] μ "java/lang/IllegalStateException" (μ) := by
  refine CtT_of (by decide +kernel) (Nat.le_of_ble_eq_true rfl) ?_
  refine K_aload_n dX3_land_0 rfl ?_
  refine K_iload_n dX3_land_1 rfl ?_
  refine k_X3_demandPhase (C_X3_demandPhase hI (cHas_nat hp hI.2.1)) (by decide)  ml_X3_51 (Nat.le_of_ble_eq_true rfl) dX3_land_2 ?_
  refine K_iload_n dX3_land_5 rfl ?_
  refine K_iconstN 1 dX3_land_6 rfl ?_
  refine K_ldc dX3_land_7 cst_X3_101 ?_
  refine k_X3_demandRange (C_X3_demandRange hr) (by decide) ml_X3_58 (Nat.le_of_ble_eq_true rfl) dX3_land_9 ?_
  refine K_aload_n dX3_land_12 rfl ?_
  refine K_iconstN 3 dX3_land_13 rfl ?_
  refine K_iload_n dX3_land_14 rfl ?_
  refine K_iconstN 0 dX3_land_15 rfl ?_
  exact kt_X3_demandNoReason (T_X3_demandNoReason3 hfl hI hp h) (by decide) ml_X3_62 (Nat.le_of_ble_eq_true rfl) dX3_land_16

set_option maxHeartbeats 4000000 in
set_option maxRecDepth 100000 in
theorem C_X3_lapse {l : Launch} {G : WG} {μ : Mem}  {n : Nat} (hI : CI μ n) {ns sc : Nat} (hS : SI μ ns sc) {p : Nat} (hp : p < n) {u : Nat} (hu : u < 4) (hw : cWhy4 μ 0 p u = 0) : Ct l G 3 yX3_lapse cX3_lapse 3 (some .int) [.ref (adr G 0 0 0), .int (nI p), .int (nI u)] (μ) (some (.int (cRel μ 0 p u))) (mset (cSave μ ns sc) 12 0 p u (μ.1 12 0 p u + cRel μ 0 p u)) := by
  refine Ct_of (by decide +kernel) (Nat.le_of_ble_eq_true rfl) ?_
  have hp6 := (Nat.lt_of_lt_of_le hp hI.2.1)
  refine K_aload_n dX3_lapse_0 rfl ?_
  refine K_iload_n dX3_lapse_1 rfl ?_
  refine k_X3_demandPhase (C_X3_demandPhase hI (cHas_nat hp hI.2.1)) (by decide)  ml_X3_51 (Nat.le_of_ble_eq_true rfl) dX3_lapse_2 ?_
  refine K_iload_n dX3_lapse_5 rfl ?_
  refine k_X3_demandUse (C_X3_demandUse (uOk_nat hu)) (by decide) ml_X3_55 (Nat.le_of_ble_eq_true rfl) dX3_lapse_6 ?_
  refine K_aload_n dX3_lapse_9 rfl ?_
  refine K_iconstN 4 dX3_lapse_10 rfl ?_
  refine K_iload_n dX3_lapse_11 rfl ?_
  refine K_iload_n dX3_lapse_12 rfl ?_
  refine k_X3_demandNoReason (C_X3_demandNoReason4 hI hp hu hw) (by decide)  ml_X3_62 (Nat.le_of_ble_eq_true rfl) dX3_lapse_13 ?_
  refine K_aload_n dX3_lapse_16 rfl ?_
  refine k_X3_saveState (C_X3_saveState hS) (by decide)  ml_X3_44 (Nat.le_of_ble_eq_true rfl) dX3_lapse_17 ?_
  refine K_aload_n dX3_lapse_20 rfl ?_
  refine g_X3_10 dX3_lapse_21  ?_
  refine g_X3_65 dX3_lapse_24 (by omega) ?_
  refine K_iload_n dX3_lapse_27 rfl ?_
  refine ald7 dX3_lapse_28 (by omega) (by omega) ?_
  refine K_iload_n dX3_lapse_29 rfl ?_
  refine k_X2_endRelief (C_X2_endRelief (by omega) (by omega) (by omega)) (by decide) (by omega) (by omega) ml_X3_108 (Nat.le_of_ble_eq_true rfl) dX3_lapse_30 ?_
  exact K_iret dX3_lapse_33 ⟨by rw [cRel_save], by rw [cRel_save, show (cSave μ ns sc).1 12 0 p u = μ.1 12 0 p u by rw [cSave_0 (by omega)]]⟩

set_option maxHeartbeats 4000000 in
set_option maxRecDepth 100000 in
theorem T_X3_lapse1 {l : Launch} {G : WG} {μ : Mem} (hfl : l.stackTraces = false) {a b : Int32} {n : Nat} (hI : CI μ n) (h : cHas n a = false) : CtT l G 7 yX3_lapse cX3_lapse 3 (some .int) [.ref (adr G 0 0 0), .int (a), .int (b)] μ "java/lang/IndexOutOfBoundsException" (μ) := by
  refine CtT_of (by decide +kernel) (Nat.le_of_ble_eq_true rfl) ?_
  refine K_aload_n dX3_lapse_0 rfl ?_
  refine K_iload_n dX3_lapse_1 rfl ?_
  exact kt_X3_demandPhase (T_X3_demandPhase hfl hI h) (by decide) ml_X3_51 (Nat.le_of_ble_eq_true rfl) dX3_lapse_2

set_option maxHeartbeats 4000000 in
set_option maxRecDepth 100000 in
theorem T_X3_lapse2 {l : Launch} {G : WG} {μ : Mem} (hfl : l.stackTraces = false) {b : Int32} {n : Nat} (hI : CI μ n) {p : Nat} (hp : p < n) (h : uOk b = false) : CtT l G 7 yX3_lapse cX3_lapse 3 (some .int) [.ref (adr G 0 0 0), .int (nI p), .int (b)] μ "java/lang/IndexOutOfBoundsException" (μ) := by
  refine CtT_of (by decide +kernel) (Nat.le_of_ble_eq_true rfl) ?_
  refine K_aload_n dX3_lapse_0 rfl ?_
  refine K_iload_n dX3_lapse_1 rfl ?_
  refine k_X3_demandPhase (C_X3_demandPhase hI (cHas_nat hp hI.2.1)) (by decide)  ml_X3_51 (Nat.le_of_ble_eq_true rfl) dX3_lapse_2 ?_
  refine K_iload_n dX3_lapse_5 rfl ?_
  exact kt_X3_demandUse (T_X3_demandUse hfl h) (by decide) ml_X3_55 (Nat.le_of_ble_eq_true rfl) dX3_lapse_6

set_option maxHeartbeats 4000000 in
set_option maxRecDepth 100000 in
theorem T_X3_lapse3 {l : Launch} {G : WG} {μ : Mem} (hfl : l.stackTraces = false)  {n : Nat} (hI : CI μ n) {p : Nat} (hp : p < n) {u : Nat} (hu : u < 4) (h : ¬ cWhy4 μ 0 p u = 0) : CtT l G 7 yX3_lapse cX3_lapse 3 (some .int) [.ref (adr G 0 0 0), .int (nI p), .int (nI u)] μ "java/lang/IllegalStateException" (μ) := by
  refine CtT_of (by decide +kernel) (Nat.le_of_ble_eq_true rfl) ?_
  refine K_aload_n dX3_lapse_0 rfl ?_
  refine K_iload_n dX3_lapse_1 rfl ?_
  refine k_X3_demandPhase (C_X3_demandPhase hI (cHas_nat hp hI.2.1)) (by decide)  ml_X3_51 (Nat.le_of_ble_eq_true rfl) dX3_lapse_2 ?_
  refine K_iload_n dX3_lapse_5 rfl ?_
  refine k_X3_demandUse (C_X3_demandUse (uOk_nat hu)) (by decide) ml_X3_55 (Nat.le_of_ble_eq_true rfl) dX3_lapse_6 ?_
  refine K_aload_n dX3_lapse_9 rfl ?_
  refine K_iconstN 4 dX3_lapse_10 rfl ?_
  refine K_iload_n dX3_lapse_11 rfl ?_
  refine K_iload_n dX3_lapse_12 rfl ?_
  exact kt_X3_demandNoReason (T_X3_demandNoReason4 hfl hI hp hu h) (by decide) ml_X3_62 (Nat.le_of_ble_eq_true rfl) dX3_lapse_13

set_option maxHeartbeats 4000000 in
set_option maxRecDepth 100000 in
theorem C_X3_pass {l : Launch} {G : WG} {μ : Mem}  {n : Nat} (hI : CI μ n) {ns sc : Nat} (hS : SI μ ns sc) {a : Int32} (hr : rOk a (nI 1) (nI 99) = true) (hl : cLeft μ 0 a = true) : Ct l G 5 yX3_pass cX3_pass 2 (some .int) [.ref (adr G 0 0 0), .int (a)] (μ) (some (.int ((passK (cSave μ ns sc) 0 a n).2))) (cPass (cSave μ ns sc) 0 n a) := by
  refine Ct_of (by decide +kernel) (Nat.le_of_ble_eq_true rfl) ?_
  refine K_iload_n dX3_pass_0 rfl ?_
  refine K_iconstN 1 dX3_pass_1 rfl ?_
  refine K_bipush (v := nI 99) dX3_pass_2 (by decide) ?_
  refine k_X3_demandRange (C_X3_demandRange hr) (by decide) ml_X3_58 (Nat.le_of_ble_eq_true rfl) dX3_pass_4 ?_
  refine K_aload_n dX3_pass_7 rfl ?_
  refine g_X3_10 dX3_pass_8  ?_
  refine K_iload_n dX3_pass_11 rfl ?_
  refine k_X0_hasDaysLeft (C_X0_hasDaysLeft (by omega)) (by decide) (by omega) ml_X3_111 (Nat.le_of_ble_eq_true rfl) dX3_pass_12 ?_
  refine K_ifb_ne (tgt := 28) dX3_pass_15 (by decide) (fun c15 => ?_) (fun c15 => ?_)
  · skip
    refine K_aload_n dX3_pass_28 rfl ?_
    refine k_X3_saveState (C_X3_saveState hS) (by decide)  ml_X3_44 (Nat.le_of_ble_eq_true rfl) dX3_pass_29 ?_
    refine K_aload_n dX3_pass_32 rfl ?_
    refine g_X3_10 dX3_pass_33  ?_
    refine K_iload_n dX3_pass_36 rfl ?_
    refine k_X0_letDaysPass (C_X0_letDaysPass (by omega) (cSave_CI hI).1 hI.2.1 (cSave_CI hI).2.2) (by decide) (by omega) ml_X3_117 (Nat.le_of_ble_eq_true rfl) dX3_pass_37 ?_
    exact K_iret dX3_pass_40 ⟨by rfl, rfl⟩
  · skip
    exact absurd (c15.symm.trans hl) (by decide)

set_option maxHeartbeats 4000000 in
set_option maxRecDepth 100000 in
theorem T_X3_pass1 {l : Launch} {G : WG} {μ : Mem} (hfl : l.stackTraces = false) {a : Int32} (h : rOk a (nI 1) (nI 99) = false) : CtT l G 7 yX3_pass cX3_pass 2 (some .int) [.ref (adr G 0 0 0), .int (a)] μ "java/lang/IllegalArgumentException" (μ) := by
  refine CtT_of (by decide +kernel) (Nat.le_of_ble_eq_true rfl) ?_
  refine K_iload_n dX3_pass_0 rfl ?_
  refine K_iconstN 1 dX3_pass_1 rfl ?_
  refine K_bipush (v := nI 99) dX3_pass_2 (by decide) ?_
  exact kt_X3_demandRange (T_X3_demandRange hfl h) (by decide) ml_X3_58 (Nat.le_of_ble_eq_true rfl) dX3_pass_4

set_option maxHeartbeats 4000000 in
set_option maxRecDepth 100000 in
theorem T_X3_pass2 {l : Launch} {G : WG} {μ : Mem} (hfl : l.stackTraces = false) {a : Int32} (hr : rOk a (nI 1) (nI 99) = true) (h : cLeft μ 0 a = false) : CtT l G 7 yX3_pass cX3_pass 2 (some .int) [.ref (adr G 0 0 0), .int (a)] μ "java/lang/IllegalStateException" (μ) := by
  refine CtT_of (by decide +kernel) (Nat.le_of_ble_eq_true rfl) ?_
  refine K_iload_n dX3_pass_0 rfl ?_
  refine K_iconstN 1 dX3_pass_1 rfl ?_
  refine K_bipush (v := nI 99) dX3_pass_2 (by decide) ?_
  refine k_X3_demandRange (C_X3_demandRange hr) (by decide) ml_X3_58 (Nat.le_of_ble_eq_true rfl) dX3_pass_4 ?_
  refine K_aload_n dX3_pass_7 rfl ?_
  refine g_X3_10 dX3_pass_8  ?_
  refine K_iload_n dX3_pass_11 rfl ?_
  refine k_X0_hasDaysLeft (C_X0_hasDaysLeft (by omega)) (by decide) (by omega) ml_X3_111 (Nat.le_of_ble_eq_true rfl) dX3_pass_12 ?_
  refine K_ifb_ne (tgt := 28) dX3_pass_15 (by decide) (fun c15 => ?_) (fun c15 => ?_)
  · skip
    exact absurd (c15.symm.trans h) (by decide)
  · skip
    exact K_throw_aux (text := "the number of the day would be above 9999") false hfl (by decide +kernel) xk_ISE xi_ISE xg_ISE xb_ISE xo_ISE (by simp [nwC]) (by simp [nwS]) dX3_pass_18 dX3_pass_21 ⟨dX3_pass_22, dX3_pass_24, dX3_pass_27⟩ (Nat.le_of_ble_eq_true rfl) (by omega)

set_option maxHeartbeats 4000000 in
set_option maxRecDepth 100000 in
theorem C_X3_addPhase {l : Launch} {G : WG} {μ : Mem}  {n : Nat} (hI : CI μ n) {ns sc : Nat} (hS : SI μ ns sc) (hn : n < 6) : Ct l G 3 yX3_addPhase cX3_addPhase 1 (some .int) [.ref (adr G 0 0 0)] (μ) (some (.int (nI n))) (cAppend (cSave μ ns sc) 0 n) := by
  refine Ct_of (by decide +kernel) (Nat.le_of_ble_eq_true rfl) ?_
  refine K_aload_n dX3_addPhase_0 rfl ?_
  refine g_X3_10 dX3_addPhase_1  ?_
  refine g_X3_34 dX3_addPhase_4 (by omega) ?_
  refine K_top hI.1 ?_
  refine K_bipush (v := nI 6) dX3_addPhase_7 (by decide) ?_
  refine K_icmpN_lt (by omega) (by omega) (tgt := 22) dX3_addPhase_9 (by decide) (fun c9 => ?_) (fun c9 => ?_)
  · skip
    refine K_aload_n dX3_addPhase_22 rfl ?_
    refine k_X3_saveState (C_X3_saveState hS) (by decide)  ml_X3_44 (Nat.le_of_ble_eq_true rfl) dX3_addPhase_23 ?_
    refine K_aload_n dX3_addPhase_26 rfl ?_
    refine g_X3_10 dX3_addPhase_27  ?_
    refine k_X0_appendPhase (C_X0_appendPhase (by omega) (cSave_CI hI).1 hn) (by decide) (by omega) ml_X3_47 (Nat.le_of_ble_eq_true rfl) dX3_addPhase_30 ?_
    exact K_iret dX3_addPhase_33 ⟨by rfl, rfl⟩
  · skip
    exfalso; omega

set_option maxHeartbeats 4000000 in
set_option maxRecDepth 100000 in
theorem T_X3_addPhase1 {l : Launch} {G : WG} {μ : Mem} (hfl : l.stackTraces = false)  (hI : CI μ 6) : CtT l G 6 yX3_addPhase cX3_addPhase 1 (some .int) [.ref (adr G 0 0 0)] μ "java/lang/IllegalStateException" (μ) := by
  refine CtT_of (by decide +kernel) (Nat.le_of_ble_eq_true rfl) ?_
  refine K_aload_n dX3_addPhase_0 rfl ?_
  refine g_X3_10 dX3_addPhase_1  ?_
  refine g_X3_34 dX3_addPhase_4 (by omega) ?_
  refine K_top hI.1 ?_
  refine K_bipush (v := nI 6) dX3_addPhase_7 (by decide) ?_
  refine K_icmpN_lt (by omega) (by omega) (tgt := 22) dX3_addPhase_9 (by decide) (fun c9 => ?_) (fun c9 => ?_)
  · skip
    exfalso; omega
  · skip
    exact K_throw_aux (text := "there are 6 phases") false hfl (by decide +kernel) xk_ISE xi_ISE xg_ISE xb_ISE xo_ISE (by simp [nwC]) (by simp [nwS]) dX3_addPhase_12 dX3_addPhase_15 ⟨dX3_addPhase_16, dX3_addPhase_18, dX3_addPhase_21⟩ (Nat.le_of_ble_eq_true rfl) (by omega)

set_option maxHeartbeats 4000000 in
set_option maxRecDepth 100000 in
theorem C_X3_append {l : Launch} {G : WG} {μ : Mem} {L : Nat} (hL : μ.1 2 0 0 1 = nI L) (hL6 : L < 60) {k : Nat} (hk : μ.1 2 0 0 2 = nI k) {a : Int32} (hr : rOk a (nI 33) (nI 126) = true) : Ct l G 1 yX3_append cX3_append 2 (some .int) [.ref (adr G 0 0 0), .int (a)] (μ) (some (.int (nI (L + 1)))) (mset (mset μ 3 0 0 L a) 2 0 0 1 (nI (L + 1))) := by
  refine Ct_of (by decide +kernel) (Nat.le_of_ble_eq_true rfl) ?_
  refine K_iload_n dX3_append_0 rfl ?_
  refine K_bipush (v := nI 33) dX3_append_1 (by decide) ?_
  refine K_bipush (v := nI 126) dX3_append_3 (by decide) ?_
  refine k_X3_demandRange (C_X3_demandRange hr) (by decide) ml_X3_58 (Nat.le_of_ble_eq_true rfl) dX3_append_5 ?_
  refine K_aload_n dX3_append_8 rfl ?_
  refine g_X3_30 dX3_append_9  ?_
  refine g_X3_120 dX3_append_12  ?_
  refine K_top hL ?_
  refine K_bipush (v := nI 60) dX3_append_15 (by decide) ?_
  refine K_icmpN_lt (by omega) (by omega) (tgt := 30) dX3_append_17 (by decide) (fun c17 => ?_) (fun c17 => ?_)
  · skip
    refine K_aload_n dX3_append_30 rfl ?_
    refine g_X3_30 dX3_append_31  ?_
    refine K_iload_n dX3_append_34 rfl ?_
    refine K_mem (omr_self μ hk).symm ?_
    refine k_X1_appendCode (C_X1_appendCode (μ := μ) (s := (k, μ.1 2 0 0 3, μ.1 2 0 0 4, μ.1 2 0 0 5, μ.1 2 0 0 6)) hL (by omega) hL6) (by decide)  ml_X3_125 (Nat.le_of_ble_eq_true rfl) dX3_append_35 ?_
    exact K_iret dX3_append_38 ⟨by rfl, by rw [omr_self μ hk]⟩
  · skip
    exfalso; omega

set_option maxHeartbeats 4000000 in
set_option maxRecDepth 100000 in
theorem T_X3_append1 {l : Launch} {G : WG} {μ : Mem} (hfl : l.stackTraces = false) {a : Int32} (h : rOk a (nI 33) (nI 126) = false) : CtT l G 7 yX3_append cX3_append 2 (some .int) [.ref (adr G 0 0 0), .int (a)] μ "java/lang/IllegalArgumentException" (μ) := by
  refine CtT_of (by decide +kernel) (Nat.le_of_ble_eq_true rfl) ?_
  refine K_iload_n dX3_append_0 rfl ?_
  refine K_bipush (v := nI 33) dX3_append_1 (by decide) ?_
  refine K_bipush (v := nI 126) dX3_append_3 (by decide) ?_
  exact kt_X3_demandRange (T_X3_demandRange hfl h) (by decide) ml_X3_58 (Nat.le_of_ble_eq_true rfl) dX3_append_5

set_option maxHeartbeats 4000000 in
set_option maxRecDepth 100000 in
theorem T_X3_append2 {l : Launch} {G : WG} {μ : Mem} (hfl : l.stackTraces = false) (hL : μ.1 2 0 0 1 = nI 60) {a : Int32} (hr : rOk a (nI 33) (nI 126) = true) : CtT l G 7 yX3_append cX3_append 2 (some .int) [.ref (adr G 0 0 0), .int (a)] μ "java/lang/IllegalStateException" (μ) := by
  refine CtT_of (by decide +kernel) (Nat.le_of_ble_eq_true rfl) ?_
  refine K_iload_n dX3_append_0 rfl ?_
  refine K_bipush (v := nI 33) dX3_append_1 (by decide) ?_
  refine K_bipush (v := nI 126) dX3_append_3 (by decide) ?_
  refine k_X3_demandRange (C_X3_demandRange hr) (by decide) ml_X3_58 (Nat.le_of_ble_eq_true rfl) dX3_append_5 ?_
  refine K_aload_n dX3_append_8 rfl ?_
  refine g_X3_30 dX3_append_9  ?_
  refine g_X3_120 dX3_append_12  ?_
  refine K_top hL ?_
  refine K_bipush (v := nI 60) dX3_append_15 (by decide) ?_
  refine K_icmpN_lt (by omega) (by omega) (tgt := 30) dX3_append_17 (by decide) (fun c17 => ?_) (fun c17 => ?_)
  · skip
    exfalso; omega
  · skip
    exact K_throw_aux (text := "the buffer has 60 characters") false hfl (by decide +kernel) xk_ISE xi_ISE xg_ISE xb_ISE xo_ISE (by simp [nwC]) (by simp [nwS]) dX3_append_20 dX3_append_23 ⟨dX3_append_24, dX3_append_26, dX3_append_29⟩ (Nat.le_of_ble_eq_true rfl) (by omega)

set_option maxHeartbeats 4000000 in
set_option maxRecDepth 100000 in
theorem C_X3_clearBuffer {l : Launch} {G : WG} {μ : Mem}  : Ct l G 0 yX3_clearBuffer cX3_clearBuffer 2 (some .int) [.ref (adr G 0 0 0)] (μ) (some (.int (μ.1 2 0 0 1))) (mset μ 2 0 0 1 (nI 0)) := by
  refine Ct_of (by decide +kernel) (Nat.le_of_ble_eq_true rfl) ?_
  refine K_aload_n dX3_clearBuffer_0 rfl ?_
  refine g_X3_30 dX3_clearBuffer_1  ?_
  refine g_X3_120 dX3_clearBuffer_4  ?_
  refine K_istore_n dX3_clearBuffer_7 (by decide) rfl ?_
  refine K_aload_n dX3_clearBuffer_8 rfl ?_
  refine g_X3_30 dX3_clearBuffer_9  ?_
  refine K_iconstN 0 dX3_clearBuffer_12 rfl ?_
  refine p_X3_120 dX3_clearBuffer_13  ?_
  refine K_iload_n dX3_clearBuffer_16 rfl ?_
  exact K_iret dX3_clearBuffer_17 ⟨by rfl, rfl⟩

set_option maxHeartbeats 4000000 in
set_option maxRecDepth 100000 in
theorem C_X3_firstError {l : Launch} {G : WG} {μ : Mem} {L : Nat} (hL : μ.1 2 0 0 1 = nI L) (hL6 : L ≤ 60) {k : Nat} (hk : μ.1 2 0 0 2 = nI k) : Ct l G 6 yX3_firstError cX3_firstError 1 (some .int) [.ref (adr G 0 0 0)] (μ) (some (.int (nI (rdRow (μ.1 3 0 0) L (k, μ.1 2 0 0 3, μ.1 2 0 0 4, μ.1 2 0 0 5, μ.1 2 0 0 6)).2.1))) (omr μ (rdRow (μ.1 3 0 0) L (k, μ.1 2 0 0 3, μ.1 2 0 0 4, μ.1 2 0 0 5, μ.1 2 0 0 6)).2) := by
  refine Ct_of (by decide +kernel) (Nat.le_of_ble_eq_true rfl) ?_
  refine K_aload_n dX3_firstError_0 rfl ?_
  refine g_X3_30 dX3_firstError_1  ?_
  refine K_mem (omr_self μ hk).symm ?_
  refine k_X1_readRow (C_X1_readRow (μ := μ) (s := (k, μ.1 2 0 0 3, μ.1 2 0 0 4, μ.1 2 0 0 5, μ.1 2 0 0 6)) hL hL6) (by decide)  ml_X3_128 (Nat.le_of_ble_eq_true rfl) dX3_firstError_4 ?_
  refine K_pop dX3_firstError_7 rfl ?_
  refine K_aload_n dX3_firstError_8 rfl ?_
  refine g_X3_30 dX3_firstError_9  ?_
  refine g_X3_132 dX3_firstError_12  ?_
  exact K_iret dX3_firstError_15 ⟨by rfl, rfl⟩

set_option maxHeartbeats 4000000 in
set_option maxRecDepth 100000 in
theorem C_X3_undo {l : Launch} {G : WG} {μ : Mem}  {ns sc : Nat} (hS : SI μ ns sc) (h0 : 0 < sc) : Ct l G 2 yX3_undo cX3_undo 1 (some .int) [.ref (adr G 0 0 0)] (μ) (some (.int (nI (sc - 1)))) (cUndo μ ns sc) := by
  refine Ct_of (by decide +kernel) (Nat.le_of_ble_eq_true rfl) ?_
  obtain ⟨h1, h2, h3, h4⟩ := hS
  have hpv : prv ns < 6 := by unfold prv; split <;> omega
  rcases Nat.eq_zero_or_pos ns with q | q
  · skip
    refine K_aload_n dX3_undo_0 rfl ?_
    refine g_X3_20 dX3_undo_1  ?_
    refine K_top h3 ?_
    refine K_ifN_ne (by omega) (tgt := 17) dX3_undo_4 (by decide) (fun c4 => ?_) (fun c4 => ?_)
    · skip
      refine K_aload_n dX3_undo_17 rfl ?_
      refine K_dup dX3_undo_18 rfl ?_
      refine g_X3_24 dX3_undo_19  ?_
      refine K_top (h1.trans (congrArg nI q)) ?_
      refine K_iconstN 1 dX3_undo_22 rfl ?_
      refine K_isub dX3_undo_23 ?_
      refine p_X3_24 dX3_undo_24  ?_
      refine K_aload_n dX3_undo_27 rfl ?_
      refine g_X3_24 dX3_undo_28  ?_
      refine K_top (show _ = nI 0 - nI 1 from mset_at) ?_
      refine K_if_lt (tgt := 43) dX3_undo_31 (by decide) (fun c31 => ?_) (fun c31 => ?_)
      · skip
        refine K_aload_n dX3_undo_43 rfl ?_
        refine K_iconstN 5 dX3_undo_44 rfl ?_
        refine p_X3_24 dX3_undo_45  ?_
        refine K_aload_n dX3_undo_48 rfl ?_
        refine K_dup dX3_undo_49 rfl ?_
        refine g_X3_20 dX3_undo_50  ?_
        refine K_top (show _ = nI sc by simp [mset, h3]) ?_
        refine K_iconstN 1 dX3_undo_53 rfl ?_
        refine K_isubN (by omega) dX3_undo_54 ?_
        refine p_X3_20 dX3_undo_55  ?_
        refine K_aload_n dX3_undo_58 rfl ?_
        refine g_X3_10 dX3_undo_59  ?_
        refine K_aload_n dX3_undo_62 rfl ?_
        refine g_X3_16 dX3_undo_63  ?_
        refine K_aload_n dX3_undo_66 rfl ?_
        refine g_X3_24 dX3_undo_67  ?_
        refine K_mem (show _ = mset (mset μ 0 0 0 3 (nI (prv ns))) 0 0 0 2 (nI (sc - 1)) by rw [mset_twice, show prv ns = 5 from if_pos q]) ?_
        refine K_top (show _ = nI (prv ns) by simp [mset, prv, q]) ?_
        refine ald1 dX3_undo_70 (by omega) ?_
        refine k_X0_copyFrom (C_X0_copyFrom (i := 0) (j := prv ns + 1) (by omega) (by omega)) (by decide) (by omega) ml_X3_151 (Nat.le_of_ble_eq_true rfl) dX3_undo_71 ?_
        refine K_aload_n dX3_undo_74 rfl ?_
        refine g_X3_20 dX3_undo_75  ?_
        refine K_top (show _ = nI (sc - 1) by rw [copyL_keep0]; simp [mset]) ?_
        exact K_iret dX3_undo_78 ⟨by rfl, rfl⟩
      · skip
        exact absurd c31 (by decide)
    · skip
      exact absurd c4 (by omega)
  · skip
    refine K_aload_n dX3_undo_0 rfl ?_
    refine g_X3_20 dX3_undo_1  ?_
    refine K_top h3 ?_
    refine K_ifN_ne (by omega) (tgt := 17) dX3_undo_4 (by decide) (fun c4 => ?_) (fun c4 => ?_)
    · skip
      refine K_aload_n dX3_undo_17 rfl ?_
      refine K_dup dX3_undo_18 rfl ?_
      refine g_X3_24 dX3_undo_19  ?_
      refine K_top h1 ?_
      refine K_iconstN 1 dX3_undo_22 rfl ?_
      refine K_isubN (by omega) dX3_undo_23 ?_
      refine p_X3_24 dX3_undo_24  ?_
      refine K_aload_n dX3_undo_27 rfl ?_
      refine g_X3_24 dX3_undo_28  ?_
      refine K_top (show _ = nI (ns - 1) from mset_at) ?_
      refine K_ifN_lt (by omega) (tgt := 43) dX3_undo_31 (by decide) ?_
      refine K_aload_n dX3_undo_34 rfl ?_
      refine g_X3_24 dX3_undo_35  ?_
      refine K_top (show _ = nI (ns - 1) from mset_at) ?_
      refine K_bipush (v := nI 6) dX3_undo_38 (by decide) ?_
      refine K_icmpN_lt (by omega) (by omega) (tgt := 48) dX3_undo_40 (by decide) (fun c40 => ?_) (fun c40 => ?_)
      · skip
        refine K_aload_n dX3_undo_48 rfl ?_
        refine K_dup dX3_undo_49 rfl ?_
        refine g_X3_20 dX3_undo_50  ?_
        refine K_top (show _ = nI sc by simp [mset, h3]) ?_
        refine K_iconstN 1 dX3_undo_53 rfl ?_
        refine K_isubN (by omega) dX3_undo_54 ?_
        refine p_X3_20 dX3_undo_55  ?_
        refine K_aload_n dX3_undo_58 rfl ?_
        refine g_X3_10 dX3_undo_59  ?_
        refine K_aload_n dX3_undo_62 rfl ?_
        refine g_X3_16 dX3_undo_63  ?_
        refine K_aload_n dX3_undo_66 rfl ?_
        refine g_X3_24 dX3_undo_67  ?_
        refine K_mem (show _ = mset (mset μ 0 0 0 3 (nI (prv ns))) 0 0 0 2 (nI (sc - 1)) by rw [show prv ns = ns - 1 from if_neg (by omega)]) ?_
        refine K_top (show _ = nI (prv ns) by simp [mset, prv, show ¬ ns = 0 by omega]) ?_
        refine ald1 dX3_undo_70 (by omega) ?_
        refine k_X0_copyFrom (C_X0_copyFrom (i := 0) (j := prv ns + 1) (by omega) (by omega)) (by decide) (by omega) ml_X3_151 (Nat.le_of_ble_eq_true rfl) dX3_undo_71 ?_
        refine K_aload_n dX3_undo_74 rfl ?_
        refine g_X3_20 dX3_undo_75  ?_
        refine K_top (show _ = nI (sc - 1) by rw [copyL_keep0]; simp [mset]) ?_
        exact K_iret dX3_undo_78 ⟨by rfl, rfl⟩
      · skip
        exfalso; omega
    · skip
      exact absurd c4 (by omega)

set_option maxHeartbeats 4000000 in
set_option maxRecDepth 100000 in
theorem T_X3_undo1 {l : Launch} {G : WG} {μ : Mem} (hfl : l.stackTraces = false)  (hs : μ.1 0 0 0 2 = nI 0) : CtT l G 6 yX3_undo cX3_undo 1 (some .int) [.ref (adr G 0 0 0)] μ "java/lang/IllegalStateException" (μ) := by
  refine CtT_of (by decide +kernel) (Nat.le_of_ble_eq_true rfl) ?_
  refine K_aload_n dX3_undo_0 rfl ?_
  refine g_X3_20 dX3_undo_1  ?_
  refine K_top hs ?_
  refine K_ifN_ne (by omega) (tgt := 17) dX3_undo_4 (by decide) (fun c4 => absurd c4 (by decide)) (fun c4 => ?_)
  exact K_throw_aux (text := "there is no saved state") false hfl (by decide +kernel) xk_ISE xi_ISE xg_ISE xb_ISE xo_ISE (by simp [nwC]) (by simp [nwS]) dX3_undo_7 dX3_undo_10 ⟨dX3_undo_11, dX3_undo_13, dX3_undo_16⟩ (Nat.le_of_ble_eq_true rfl) (by omega)
