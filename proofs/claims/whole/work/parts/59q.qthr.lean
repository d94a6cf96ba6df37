theorem T_X3_phase1 {l : Launch} {G : WG} {μ : Mem} (hfl : l.stackTraces = false) {n : Nat} (hI : CI μ n) {a : Int32} (h : cHas n a = false) {b : Int32} : CtT l G 7 yX3_phase cX3_phase 4 (some .int) [.ref (adr G 0 0 0), .int (a), .int (b)] μ "java/lang/IndexOutOfBoundsException" (μ) := by
  refine CtT_of (by decide +kernel) (Nat.le_of_ble_eq_true rfl) ?_
  refine K_aload_n dX3_phase_0 rfl ?_
  refine K_iload_n dX3_phase_1 rfl ?_
  exact kt_X3_demandPhase (T_X3_demandPhase hfl hI h) (by decide) ml_X3_51 (Nat.le_of_ble_eq_true rfl) dX3_phase_2
theorem T_X3_phase2 {l : Launch} {G : WG} {μ : Mem} (hfl : l.stackTraces = false) {n : Nat} (hI : CI μ n) {p : Nat} (hp : p < n) {b : Int32} (h : rOk b (nI 0) (nI 13) = false) : CtT l G 7 yX3_phase cX3_phase 4 (some .int) [.ref (adr G 0 0 0), .int (nI p), .int (b)] μ "java/lang/IllegalArgumentException" (μ) := by
  refine CtT_of (by decide +kernel) (Nat.le_of_ble_eq_true rfl) ?_
  refine K_aload_n dX3_phase_0 rfl ?_
  refine K_iload_n dX3_phase_1 rfl ?_
  refine k_X3_demandPhase (C_X3_demandPhase hI (cHas_nat hp hI.2.1)) (by decide) ml_X3_51 (Nat.le_of_ble_eq_true rfl) dX3_phase_2 ?_
  refine K_iload_n dX3_phase_5 rfl ?_
  refine K_iconstN 0 dX3_phase_6 rfl ?_
  refine K_bipush (v := nI 13) dX3_phase_7 (by decide) ?_
  exact kt_X3_demandRange (T_X3_demandRange hfl h) (by decide) ml_X3_58 (Nat.le_of_ble_eq_true rfl) dX3_phase_9
theorem T_X3_use1 {l : Launch} {G : WG} {μ : Mem} (hfl : l.stackTraces = false) {n : Nat} (hI : CI μ n) {a : Int32} (h : cHas n a = false) {b c : Int32} : CtT l G 7 yX3_use cX3_use 5 (some .int) [.ref (adr G 0 0 0), .int (a), .int (b), .int (c)] μ "java/lang/IndexOutOfBoundsException" (μ) := by
  refine CtT_of (by decide +kernel) (Nat.le_of_ble_eq_true rfl) ?_
  refine K_aload_n dX3_use_0 rfl ?_
  refine K_iload_n dX3_use_1 rfl ?_
  exact kt_X3_demandPhase (T_X3_demandPhase hfl hI h) (by decide) ml_X3_51 (Nat.le_of_ble_eq_true rfl) dX3_use_2
theorem T_X3_use2 {l : Launch} {G : WG} {μ : Mem} (hfl : l.stackTraces = false) {n : Nat} (hI : CI μ n) {p : Nat} (hp : p < n) {b c : Int32} (h : uOk b = false) : CtT l G 7 yX3_use cX3_use 5 (some .int) [.ref (adr G 0 0 0), .int (nI p), .int (b), .int (c)] μ "java/lang/IndexOutOfBoundsException" (μ) := by
  refine CtT_of (by decide +kernel) (Nat.le_of_ble_eq_true rfl) ?_
  refine K_aload_n dX3_use_0 rfl ?_
  refine K_iload_n dX3_use_1 rfl ?_
  refine k_X3_demandPhase (C_X3_demandPhase hI (cHas_nat hp hI.2.1)) (by decide) ml_X3_51 (Nat.le_of_ble_eq_true rfl) dX3_use_2 ?_
  refine K_iload_n dX3_use_5 rfl ?_
  exact kt_X3_demandUse (T_X3_demandUse hfl h) (by decide) ml_X3_55 (Nat.le_of_ble_eq_true rfl) dX3_use_6
theorem T_X3_use3 {l : Launch} {G : WG} {μ : Mem} (hfl : l.stackTraces = false) {n : Nat} (hI : CI μ n) {p : Nat} (hp : p < n) {u : Nat} (hu : u < 4) {c : Int32} (h : rOk c (nI 0) (nI 4) = false) : CtT l G 7 yX3_use cX3_use 5 (some .int) [.ref (adr G 0 0 0), .int (nI p), .int (nI u), .int (c)] μ "java/lang/IllegalArgumentException" (μ) := by
  refine CtT_of (by decide +kernel) (Nat.le_of_ble_eq_true rfl) ?_
  refine K_aload_n dX3_use_0 rfl ?_
  refine K_iload_n dX3_use_1 rfl ?_
  refine k_X3_demandPhase (C_X3_demandPhase hI (cHas_nat hp hI.2.1)) (by decide) ml_X3_51 (Nat.le_of_ble_eq_true rfl) dX3_use_2 ?_
  refine K_iload_n dX3_use_5 rfl ?_
  refine k_X3_demandUse (C_X3_demandUse (uOk_nat hu)) (by decide) ml_X3_55 (Nat.le_of_ble_eq_true rfl) dX3_use_6 ?_
  refine K_iload_n dX3_use_9 rfl ?_
  refine K_iconstN 0 dX3_use_10 rfl ?_
  refine K_iconstN 4 dX3_use_11 rfl ?_
  exact kt_X3_demandRange (T_X3_demandRange hfl h) (by decide) ml_X3_58 (Nat.le_of_ble_eq_true rfl) dX3_use_12
theorem T_X3_instalment1 {l : Launch} {G : WG} {μ : Mem} (hfl : l.stackTraces = false) {n : Nat} (hI : CI μ n) {a : Int32} (h : cHas n a = false) {b c : Int32} : CtT l G 7 yX3_instalment cX3_instalment 5 (some .int) [.ref (adr G 0 0 0), .int (a), .int (b), .int (c)] μ "java/lang/IndexOutOfBoundsException" (μ) := by
  refine CtT_of (by decide +kernel) (Nat.le_of_ble_eq_true rfl) ?_
  refine K_aload_n dX3_instalment_0 rfl ?_
  refine K_iload_n dX3_instalment_1 rfl ?_
  exact kt_X3_demandPhase (T_X3_demandPhase hfl hI h) (by decide) ml_X3_51 (Nat.le_of_ble_eq_true rfl) dX3_instalment_2
theorem T_X3_instalment2 {l : Launch} {G : WG} {μ : Mem} (hfl : l.stackTraces = false) {n : Nat} (hI : CI μ n) {p : Nat} (hp : p < n) {b c : Int32} (h : rOk b (nI 0) (nI 3) = false) : CtT l G 7 yX3_instalment cX3_instalment 5 (some .int) [.ref (adr G 0 0 0), .int (nI p), .int (b), .int (c)] μ "java/lang/IllegalArgumentException" (μ) := by
  refine CtT_of (by decide +kernel) (Nat.le_of_ble_eq_true rfl) ?_
  refine K_aload_n dX3_instalment_0 rfl ?_
  refine K_iload_n dX3_instalment_1 rfl ?_
  refine k_X3_demandPhase (C_X3_demandPhase hI (cHas_nat hp hI.2.1)) (by decide) ml_X3_51 (Nat.le_of_ble_eq_true rfl) dX3_instalment_2 ?_
  refine K_iload_n dX3_instalment_5 rfl ?_
  refine K_iconstN 0 dX3_instalment_6 rfl ?_
  refine K_iconstN 3 dX3_instalment_7 rfl ?_
  exact kt_X3_demandRange (T_X3_demandRange hfl h) (by decide) ml_X3_58 (Nat.le_of_ble_eq_true rfl) dX3_instalment_8
theorem T_X3_instalment3 {l : Launch} {G : WG} {μ : Mem} (hfl : l.stackTraces = false) {n : Nat} (hI : CI μ n) {p : Nat} (hp : p < n) {k : Nat} (hk : rOk (nI k) (nI 0) (nI 3) = true) {c : Int32} (h : rOk c (nI 0) (nI 2) = false) : CtT l G 7 yX3_instalment cX3_instalment 5 (some .int) [.ref (adr G 0 0 0), .int (nI p), .int (nI k), .int (c)] μ "java/lang/IllegalArgumentException" (μ) := by
  refine CtT_of (by decide +kernel) (Nat.le_of_ble_eq_true rfl) ?_
  refine K_aload_n dX3_instalment_0 rfl ?_
  refine K_iload_n dX3_instalment_1 rfl ?_
  refine k_X3_demandPhase (C_X3_demandPhase hI (cHas_nat hp hI.2.1)) (by decide) ml_X3_51 (Nat.le_of_ble_eq_true rfl) dX3_instalment_2 ?_
  refine K_iload_n dX3_instalment_5 rfl ?_
  refine K_iconstN 0 dX3_instalment_6 rfl ?_
  refine K_iconstN 3 dX3_instalment_7 rfl ?_
  refine k_X3_demandRange (C_X3_demandRange hk) (by decide) ml_X3_58 (Nat.le_of_ble_eq_true rfl) dX3_instalment_8 ?_
  refine K_iload_n dX3_instalment_11 rfl ?_
  refine K_iconstN 0 dX3_instalment_12 rfl ?_
  refine K_iconstN 2 dX3_instalment_13 rfl ?_
  exact kt_X3_demandRange (T_X3_demandRange hfl h) (by decide) ml_X3_58 (Nat.le_of_ble_eq_true rfl) dX3_instalment_14
theorem T_X3_count1 {l : Launch} {G : WG} {μ : Mem} (hfl : l.stackTraces = false) {a : Int32} (h : rOk a (nI 0) (nI 15) = false) : CtT l G 7 yX3_count cX3_count 2 (some .int) [.ref (adr G 0 0 0), .int (a)] μ "java/lang/IllegalArgumentException" (μ) := by
  refine CtT_of (by decide +kernel) (Nat.le_of_ble_eq_true rfl) ?_
  refine K_iload_n dX3_count_0 rfl ?_
  refine K_iconstN 0 dX3_count_1 rfl ?_
  refine K_bipush (v := nI 15) dX3_count_2 (by decide) ?_
  exact kt_X3_demandRange (T_X3_demandRange hfl h) (by decide) ml_X3_58 (Nat.le_of_ble_eq_true rfl) dX3_count_4
theorem T_X3_setting1 {l : Launch} {G : WG} {μ : Mem} (hfl : l.stackTraces = false) {a : Int32} (h : uOk a = false) : CtT l G 7 yX3_setting cX3_setting 2 (some .int) [.ref (adr G 0 0 0), .int (a)] μ "java/lang/IndexOutOfBoundsException" (μ) := by
  refine CtT_of (by decide +kernel) (Nat.le_of_ble_eq_true rfl) ?_
  refine K_iload_n dX3_setting_0 rfl ?_
  exact kt_X3_demandSetting (T_X3_demandSetting hfl h) (by decide) ml_X3_85 (Nat.le_of_ble_eq_true rfl) dX3_setting_1
theorem T_X3_whyNot1 {l : Launch} {G : WG} {μ : Mem} (hfl : l.stackTraces = false) {n : Nat} (hI : CI μ n) {a : Int32} (h : cHas n a = false) {b c : Int32} : CtT l G 7 yX3_whyNot cX3_whyNot 4 (some .int) [.ref (adr G 0 0 0), .int (b), .int (a), .int (c)] μ "java/lang/IndexOutOfBoundsException" (μ) := by
  refine CtT_of (by decide +kernel) (Nat.le_of_ble_eq_true rfl) ?_
  refine K_aload_n dX3_whyNot_0 rfl ?_
  refine K_iload_n dX3_whyNot_1 rfl ?_
  exact kt_X3_demandPhase (T_X3_demandPhase hfl hI h) (by decide) ml_X3_51 (Nat.le_of_ble_eq_true rfl) dX3_whyNot_2
theorem T_X3_whyNot2 {l : Launch} {G : WG} {μ : Mem} (hfl : l.stackTraces = false) {n : Nat} (hI : CI μ n) {p : Nat} (hp : p < n) {b c : Int32} (h : uOk c = false) : CtT l G 7 yX3_whyNot cX3_whyNot 4 (some .int) [.ref (adr G 0 0 0), .int (b), .int (nI p), .int (c)] μ "java/lang/IndexOutOfBoundsException" (μ) := by
  refine CtT_of (by decide +kernel) (Nat.le_of_ble_eq_true rfl) ?_
  refine K_aload_n dX3_whyNot_0 rfl ?_
  refine K_iload_n dX3_whyNot_1 rfl ?_
  refine k_X3_demandPhase (C_X3_demandPhase hI (cHas_nat hp hI.2.1)) (by decide) ml_X3_51 (Nat.le_of_ble_eq_true rfl) dX3_whyNot_2 ?_
  refine K_iload_n dX3_whyNot_5 rfl ?_
  exact kt_X3_demandUse (T_X3_demandUse hfl h) (by decide) ml_X3_55 (Nat.le_of_ble_eq_true rfl) dX3_whyNot_6
theorem T_X3_whyNot3 {l : Launch} {G : WG} {μ : Mem} (hfl : l.stackTraces = false) {n : Nat} (hI : CI μ n) {p : Nat} (hp : p < n) {u : Nat} (hu : u < 4) {b : Int32} (h : rOk b (nI 0) (nI 4) = false) : CtT l G 7 yX3_whyNot cX3_whyNot 4 (some .int) [.ref (adr G 0 0 0), .int (b), .int (nI p), .int (nI u)] μ "java/lang/IllegalArgumentException" (μ) := by
  refine CtT_of (by decide +kernel) (Nat.le_of_ble_eq_true rfl) ?_
  refine K_aload_n dX3_whyNot_0 rfl ?_
  refine K_iload_n dX3_whyNot_1 rfl ?_
  refine k_X3_demandPhase (C_X3_demandPhase hI (cHas_nat hp hI.2.1)) (by decide) ml_X3_51 (Nat.le_of_ble_eq_true rfl) dX3_whyNot_2 ?_
  refine K_iload_n dX3_whyNot_5 rfl ?_
  refine k_X3_demandUse (C_X3_demandUse (uOk_nat hu)) (by decide) ml_X3_55 (Nat.le_of_ble_eq_true rfl) dX3_whyNot_6 ?_
  refine K_iload_n dX3_whyNot_9 rfl ?_
  refine K_iconstN 0 dX3_whyNot_10 rfl ?_
  refine K_iconstN 4 dX3_whyNot_11 rfl ?_
  exact kt_X3_demandRange (T_X3_demandRange hfl h) (by decide) ml_X3_58 (Nat.le_of_ble_eq_true rfl) dX3_whyNot_12
theorem T_X3_ifBegun1 {l : Launch} {G : WG} {μ : Mem} (hfl : l.stackTraces = false) {n : Nat} (hI : CI μ n) {a : Int32} (h : cHas n a = false) {b : Int32} : CtT l G 7 yX3_ifBegun cX3_ifBegun 5 (some .int) [.ref (adr G 0 0 0), .int (a), .int (b)] μ "java/lang/IndexOutOfBoundsException" (μ) := by
  refine CtT_of (by decide +kernel) (Nat.le_of_ble_eq_true rfl) ?_
  refine K_aload_n dX3_ifBegun_0 rfl ?_
  refine K_iload_n dX3_ifBegun_1 rfl ?_
  exact kt_X3_demandPhase (T_X3_demandPhase hfl hI h) (by decide) ml_X3_51 (Nat.le_of_ble_eq_true rfl) dX3_ifBegun_2
theorem T_X3_ifBegun2 {l : Launch} {G : WG} {μ : Mem} (hfl : l.stackTraces = false) {n : Nat} (hI : CI μ n) {p : Nat} (hp : p < n) {b : Int32} (h : rOk b (nI 0) (nI 2) = false) : CtT l G 7 yX3_ifBegun cX3_ifBegun 5 (some .int) [.ref (adr G 0 0 0), .int (nI p), .int (b)] μ "java/lang/IllegalArgumentException" (μ) := by
  refine CtT_of (by decide +kernel) (Nat.le_of_ble_eq_true rfl) ?_
  refine K_aload_n dX3_ifBegun_0 rfl ?_
  refine K_iload_n dX3_ifBegun_1 rfl ?_
  refine k_X3_demandPhase (C_X3_demandPhase hI (cHas_nat hp hI.2.1)) (by decide) ml_X3_51 (Nat.le_of_ble_eq_true rfl) dX3_ifBegun_2 ?_
  refine K_iload_n dX3_ifBegun_5 rfl ?_
  refine K_iconstN 0 dX3_ifBegun_6 rfl ?_
  refine K_iconstN 2 dX3_ifBegun_7 rfl ?_
  exact kt_X3_demandRange (T_X3_demandRange hfl h) (by decide) ml_X3_58 (Nat.le_of_ble_eq_true rfl) dX3_ifBegun_8
theorem T_X3_breaksIn1 {l : Launch} {G : WG} {μ : Mem} (hfl : l.stackTraces = false) {n : Nat} (hI : CI μ n) {a : Int32} (h : cHas n a = false) : CtT l G 7 yX3_breaksIn cX3_breaksIn 2 (some .int) [.ref (adr G 0 0 0), .int (a)] μ "java/lang/IndexOutOfBoundsException" (μ) := by
  refine CtT_of (by decide +kernel) (Nat.le_of_ble_eq_true rfl) ?_
  refine K_aload_n dX3_breaksIn_0 rfl ?_
  refine K_iload_n dX3_breaksIn_1 rfl ?_
  exact kt_X3_demandPhase (T_X3_demandPhase hfl hI h) (by decide) ml_X3_51 (Nat.le_of_ble_eq_true rfl) dX3_breaksIn_2
theorem T_X3_surchargesIn1 {l : Launch} {G : WG} {μ : Mem} (hfl : l.stackTraces = false) {a : Int32} (h : rOk a (nI 0) (nI 500) = false) : CtT l G 7 yX3_surchargesIn cX3_surchargesIn 4 (some .int) [.ref (adr G 0 0 0), .int (a)] μ "java/lang/IllegalArgumentException" (μ) := by
  refine CtT_of (by decide +kernel) (Nat.le_of_ble_eq_true rfl) ?_
  refine K_iload_n dX3_surchargesIn_0 rfl ?_
  refine K_iconstN 0 dX3_surchargesIn_1 rfl ?_
  refine K_sipush (v := nI 500) dX3_surchargesIn_2 (by decide) ?_
  exact kt_X3_demandRange (T_X3_demandRange hfl h) (by decide) ml_X3_58 (Nat.le_of_ble_eq_true rfl) dX3_surchargesIn_5
theorem T_X3_dueIn1 {l : Launch} {G : WG} {μ : Mem} (hfl : l.stackTraces = false) {n : Nat} (hI : CI μ n) {a : Int32} (h : cHas n a = false) {b : Int32} : CtT l G 7 yX3_dueIn cX3_dueIn 3 (some .int) [.ref (adr G 0 0 0), .int (a), .int (b)] μ "java/lang/IndexOutOfBoundsException" (μ) := by
  refine CtT_of (by decide +kernel) (Nat.le_of_ble_eq_true rfl) ?_
  refine K_aload_n dX3_dueIn_0 rfl ?_
  refine K_iload_n dX3_dueIn_1 rfl ?_
  exact kt_X3_demandPhase (T_X3_demandPhase hfl hI h) (by decide) ml_X3_51 (Nat.le_of_ble_eq_true rfl) dX3_dueIn_2
theorem T_X3_dueIn2 {l : Launch} {G : WG} {μ : Mem} (hfl : l.stackTraces = false) {n : Nat} (hI : CI μ n) {p : Nat} (hp : p < n) {b : Int32} (h : rOk b (nI 0) (nI 500) = false) : CtT l G 7 yX3_dueIn cX3_dueIn 3 (some .int) [.ref (adr G 0 0 0), .int (nI p), .int (b)] μ "java/lang/IllegalArgumentException" (μ) := by
  refine CtT_of (by decide +kernel) (Nat.le_of_ble_eq_true rfl) ?_
  refine K_aload_n dX3_dueIn_0 rfl ?_
  refine K_iload_n dX3_dueIn_1 rfl ?_
  refine k_X3_demandPhase (C_X3_demandPhase hI (cHas_nat hp hI.2.1)) (by decide) ml_X3_51 (Nat.le_of_ble_eq_true rfl) dX3_dueIn_2 ?_
  refine K_iload_n dX3_dueIn_5 rfl ?_
  refine K_iconstN 0 dX3_dueIn_6 rfl ?_
  refine K_sipush (v := nI 500) dX3_dueIn_7 (by decide) ?_
  exact kt_X3_demandRange (T_X3_demandRange hfl h) (by decide) ml_X3_58 (Nat.le_of_ble_eq_true rfl) dX3_dueIn_10
