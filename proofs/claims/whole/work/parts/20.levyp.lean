set_option maxHeartbeats 4000000 in
set_option maxRecDepth 100000 in
theorem C_X3_demandPhase {l : Launch} {G : WG} {μ : Mem} {a : Int32} {n : Nat} (hI : CI μ n) (h : cHas n a = true) : Ct l G 1 yX3_demandPhase cX3_demandPhase 2 none [.ref (adr G 0 0 0), .int (a)] (μ) none (μ) := by
  refine Ct_of (by decide +kernel) (Nat.le_of_ble_eq_true rfl) ?_
  refine K_aload_n dX3_demandPhase_0 rfl ?_
  refine g_X3_10 dX3_demandPhase_1  ?_
  refine K_iload_n dX3_demandPhase_4 rfl ?_
  refine k_X0_hasPhase (C_X0_hasPhase (by omega) hI.1 hI.2.1) (by decide) (by omega) ml_X3_314 (Nat.le_of_ble_eq_true rfl) dX3_demandPhase_5 ?_
  refine K_ifb_ne (tgt := 22) dX3_demandPhase_8 (by decide) (fun c8 => ?_) (fun c8 => ?_)
  · skip
    exact K_vret dX3_demandPhase_22 ⟨rfl, by rfl⟩
  · skip
    exact absurd (c8.symm.trans h) (by decide)

set_option maxHeartbeats 4000000 in
set_option maxRecDepth 100000 in
theorem T_X3_demandPhase {l : Launch} {G : WG} {μ : Mem} (hfl : l.stackTraces = false) {a : Int32} {n : Nat} (hI : CI μ n) (h : cHas n a = false) : CtT l G 6 yX3_demandPhase cX3_demandPhase 2 none [.ref (adr G 0 0 0), .int (a)] μ "java/lang/IndexOutOfBoundsException" (μ) := by
  refine CtT_of (by decide +kernel) (Nat.le_of_ble_eq_true rfl) ?_
  refine K_aload_n dX3_demandPhase_0 rfl ?_
  refine g_X3_10 dX3_demandPhase_1  ?_
  refine K_iload_n dX3_demandPhase_4 rfl ?_
  refine k_X0_hasPhase (C_X0_hasPhase (by omega) hI.1 hI.2.1) (by decide) (by omega) ml_X3_314 (Nat.le_of_ble_eq_true rfl) dX3_demandPhase_5 ?_
  refine K_ifb_ne (tgt := 22) dX3_demandPhase_8 (by decide) (fun c8 => ?_) (fun c8 => ?_)
  · skip
    exact absurd (c8.symm.trans h) (by decide)
  · skip
    exact K_throw_aux (text := "no such phase") true hfl (by decide +kernel) xk_IOB xi_IOB xg_IOB xb_IOB xo_IOB (by simp [nwC]) (by simp [nwS]) dX3_demandPhase_11 dX3_demandPhase_14 ⟨dX3_demandPhase_15, dX3_demandPhase_18, dX3_demandPhase_21⟩ (Nat.le_of_ble_eq_true rfl) (by omega)

set_option maxHeartbeats 4000000 in
set_option maxRecDepth 100000 in
theorem C_X3_demandUse {l : Launch} {G : WG} {μ : Mem} {a : Int32} (h : uOk a = true) : Ct l G 0 yX3_demandUse cX3_demandUse 1 none [.int (a)] (μ) none (μ) := by
  refine Ct_of (by decide +kernel) (Nat.le_of_ble_eq_true rfl) ?_
  simp only [uOk, Bool.and_eq_true, Bool.not_eq_true', decide_eq_false_iff_not, decide_eq_true_eq] at h
  refine K_iload_n dX3_demandUse_0 rfl ?_
  refine K_if_lt (tgt := 9) dX3_demandUse_1 (by decide) (fun c1 => ?_) (fun c1 => ?_)
  · skip
    exact absurd c1 h.1
  · skip
    refine K_iload_n dX3_demandUse_4 rfl ?_
    refine K_iconstN 4 dX3_demandUse_5 rfl ?_
    refine K_icmp_lt (tgt := 20) dX3_demandUse_6 (by decide) (fun c6 => ?_) (fun c6 => ?_)
    · skip
      exact K_vret dX3_demandUse_20 ⟨rfl, by rfl⟩
    · skip
      exact absurd h.2 c6

set_option maxHeartbeats 4000000 in
set_option maxRecDepth 100000 in
theorem T_X3_demandUse {l : Launch} {G : WG} {μ : Mem} (hfl : l.stackTraces = false) {a : Int32} (h : uOk a = false) : CtT l G 6 yX3_demandUse cX3_demandUse 1 none [.int (a)] μ "java/lang/IndexOutOfBoundsException" (μ) := by
  refine CtT_of (by decide +kernel) (Nat.le_of_ble_eq_true rfl) ?_
  refine K_iload_n dX3_demandUse_0 rfl ?_
  refine K_if_lt (tgt := 9) dX3_demandUse_1 (by decide) (fun c1 => ?_) (fun c1 => ?_)
  · skip
    exact K_throw_aux (text := "no such use") true hfl (by decide +kernel) xk_IOB xi_IOB xg_IOB xb_IOB xo_IOB (by simp [nwC]) (by simp [nwS]) dX3_demandUse_9 dX3_demandUse_12 ⟨dX3_demandUse_13, dX3_demandUse_16, dX3_demandUse_19⟩ (Nat.le_of_ble_eq_true rfl) (by omega)
  · skip
    refine K_iload_n dX3_demandUse_4 rfl ?_
    refine K_iconstN 4 dX3_demandUse_5 rfl ?_
    refine K_icmp_lt (tgt := 20) dX3_demandUse_6 (by decide) (fun c6 => ?_) (fun c6 => ?_)
    · skip
      simp [uOk, c1, c6] at h
    · skip
      exact K_throw_aux (text := "no such use") true hfl (by decide +kernel) xk_IOB xi_IOB xg_IOB xb_IOB xo_IOB (by simp [nwC]) (by simp [nwS]) dX3_demandUse_9 dX3_demandUse_12 ⟨dX3_demandUse_13, dX3_demandUse_16, dX3_demandUse_19⟩ (Nat.le_of_ble_eq_true rfl) (by omega)

set_option maxHeartbeats 4000000 in
set_option maxRecDepth 100000 in
theorem C_X3_demandSetting {l : Launch} {G : WG} {μ : Mem} {a : Int32} (h : uOk a = true) : Ct l G 0 yX3_demandSetting cX3_demandSetting 1 none [.int (a)] (μ) none (μ) := by
  refine Ct_of (by decide +kernel) (Nat.le_of_ble_eq_true rfl) ?_
  simp only [uOk, Bool.and_eq_true, Bool.not_eq_true', decide_eq_false_iff_not, decide_eq_true_eq] at h
  refine K_iload_n dX3_demandSetting_0 rfl ?_
  refine K_if_lt (tgt := 9) dX3_demandSetting_1 (by decide) (fun c1 => ?_) (fun c1 => ?_)
  · skip
    exact absurd c1 h.1
  · skip
    refine K_iload_n dX3_demandSetting_4 rfl ?_
    refine K_iconstN 4 dX3_demandSetting_5 rfl ?_
    refine K_icmp_lt (tgt := 20) dX3_demandSetting_6 (by decide) (fun c6 => ?_) (fun c6 => ?_)
    · skip
      exact K_vret dX3_demandSetting_20 ⟨rfl, by rfl⟩
    · skip
      exact absurd h.2 c6

set_option maxHeartbeats 4000000 in
set_option maxRecDepth 100000 in
theorem T_X3_demandSetting {l : Launch} {G : WG} {μ : Mem} (hfl : l.stackTraces = false) {a : Int32} (h : uOk a = false) : CtT l G 6 yX3_demandSetting cX3_demandSetting 1 none [.int (a)] μ "java/lang/IndexOutOfBoundsException" (μ) := by
  refine CtT_of (by decide +kernel) (Nat.le_of_ble_eq_true rfl) ?_
  refine K_iload_n dX3_demandSetting_0 rfl ?_
  refine K_if_lt (tgt := 9) dX3_demandSetting_1 (by decide) (fun c1 => ?_) (fun c1 => ?_)
  · skip
    exact K_throw_aux (text := "no such setting") true hfl (by decide +kernel) xk_IOB xi_IOB xg_IOB xb_IOB xo_IOB (by simp [nwC]) (by simp [nwS]) dX3_demandSetting_9 dX3_demandSetting_12 ⟨dX3_demandSetting_13, dX3_demandSetting_16, dX3_demandSetting_19⟩ (Nat.le_of_ble_eq_true rfl) (by omega)
  · skip
    refine K_iload_n dX3_demandSetting_4 rfl ?_
    refine K_iconstN 4 dX3_demandSetting_5 rfl ?_
    refine K_icmp_lt (tgt := 20) dX3_demandSetting_6 (by decide) (fun c6 => ?_) (fun c6 => ?_)
    · skip
      simp [uOk, c1, c6] at h
    · skip
      exact K_throw_aux (text := "no such setting") true hfl (by decide +kernel) xk_IOB xi_IOB xg_IOB xb_IOB xo_IOB (by simp [nwC]) (by simp [nwS]) dX3_demandSetting_9 dX3_demandSetting_12 ⟨dX3_demandSetting_13, dX3_demandSetting_16, dX3_demandSetting_19⟩ (Nat.le_of_ble_eq_true rfl) (by omega)

set_option maxHeartbeats 4000000 in
set_option maxRecDepth 100000 in
theorem C_X3_demandRange {l : Launch} {G : WG} {μ : Mem} {a b c : Int32} (h : rOk a b c = true) : Ct l G 0 yX3_demandRange cX3_demandRange 3 none [.int (a), .int (b), .int (c)] (μ) none (μ) := by
  refine Ct_of (by decide +kernel) (Nat.le_of_ble_eq_true rfl) ?_
  simp only [rOk, Bool.and_eq_true, Bool.not_eq_true', decide_eq_false_iff_not, decide_eq_true_eq] at h
  refine K_iload_n dX3_demandRange_0 rfl ?_
  refine K_iload_n dX3_demandRange_1 rfl ?_
  refine K_icmp_lt (tgt := 10) dX3_demandRange_2 (by decide) (fun c2 => ?_) (fun c2 => ?_)
  · skip
    exact absurd c2 h.1
  · skip
    refine K_iload_n dX3_demandRange_5 rfl ?_
    refine K_iload_n dX3_demandRange_6 rfl ?_
    refine K_icmp_le (tgt := 21) dX3_demandRange_7 (by decide) (fun c7 => ?_) (fun c7 => ?_)
    · skip
      exact K_vret dX3_demandRange_21 ⟨rfl, by rfl⟩
    · skip
      exact absurd h.2 c7

set_option maxHeartbeats 4000000 in
set_option maxRecDepth 100000 in
theorem T_X3_demandRange {l : Launch} {G : WG} {μ : Mem} (hfl : l.stackTraces = false) {a b c : Int32} (h : rOk a b c = false) : CtT l G 6 yX3_demandRange cX3_demandRange 3 none [.int (a), .int (b), .int (c)] μ "java/lang/IllegalArgumentException" (μ) := by
  refine CtT_of (by decide +kernel) (Nat.le_of_ble_eq_true rfl) ?_
  refine K_iload_n dX3_demandRange_0 rfl ?_
  refine K_iload_n dX3_demandRange_1 rfl ?_
  refine K_icmp_lt (tgt := 10) dX3_demandRange_2 (by decide) (fun c2 => ?_) (fun c2 => ?_)
  · skip
    exact K_throw_aux (text := "out of range") true hfl (by decide +kernel) xk_IAE xi_IAE xg_IAE xb_IAE xo_IAE (by simp [nwC]) (by simp [nwS]) dX3_demandRange_10 dX3_demandRange_13 ⟨dX3_demandRange_14, dX3_demandRange_17, dX3_demandRange_20⟩ (Nat.le_of_ble_eq_true rfl) (by omega)
  · skip
    refine K_iload_n dX3_demandRange_5 rfl ?_
    refine K_iload_n dX3_demandRange_6 rfl ?_
    refine K_icmp_le (tgt := 21) dX3_demandRange_7 (by decide) (fun c7 => ?_) (fun c7 => ?_)
    · skip
      simp [rOk, c2, c7] at h
    · skip
      exact K_throw_aux (text := "out of range") true hfl (by decide +kernel) xk_IAE xi_IAE xg_IAE xb_IAE xo_IAE (by simp [nwC]) (by simp [nwS]) dX3_demandRange_10 dX3_demandRange_13 ⟨dX3_demandRange_14, dX3_demandRange_17, dX3_demandRange_20⟩ (Nat.le_of_ble_eq_true rfl) (by omega)

set_option maxHeartbeats 4000000 in
set_option maxRecDepth 100000 in
theorem C_X3_demandNoReason0 {l : Launch} {G : WG} {μ : Mem}  {n : Nat} (hI : CI μ n) {p : Nat} (hp : p < n) {u : Int32} (h : cWhy0 μ 0 p = 0) : Ct l G 2 yX3_demandNoReason cX3_demandNoReason 4 none [.ref (adr G 0 0 0), .int (nI 0), .int (nI p), .int (u)] (μ) none (μ) := by
  refine Ct_of (by decide +kernel) (Nat.le_of_ble_eq_true rfl) ?_
  refine K_aload_n dX3_demandNoReason_0 rfl ?_
  refine g_X3_10 dX3_demandNoReason_1  ?_
  refine K_iload_n dX3_demandNoReason_4 rfl ?_
  refine K_iload_n dX3_demandNoReason_5 rfl ?_
  refine K_iload_n dX3_demandNoReason_6 rfl ?_
  refine k_X0_reasonAgainst (C_X0_reason0 (by omega) (Nat.lt_of_lt_of_le hp hI.2.1)) (by decide) (by omega) ml_X3_226 (Nat.le_of_ble_eq_true rfl) dX3_demandNoReason_7 ?_
  refine K_if_eq (tgt := 24) dX3_demandNoReason_10 (by decide) (fun c10 => ?_) (fun c10 => ?_)
  · skip
    exact K_vret dX3_demandNoReason_24 ⟨rfl, by rfl⟩
  · skip
    exact absurd h c10

set_option maxHeartbeats 4000000 in
set_option maxRecDepth 100000 in
theorem T_X3_demandNoReason0 {l : Launch} {G : WG} {μ : Mem} (hfl : l.stackTraces = false)  {n : Nat} (hI : CI μ n) {p : Nat} (hp : p < n) {u : Int32} (h : ¬ cWhy0 μ 0 p = 0) : CtT l G 6 yX3_demandNoReason cX3_demandNoReason 4 none [.ref (adr G 0 0 0), .int (nI 0), .int (nI p), .int (u)] μ "java/lang/IllegalStateException" (μ) := by
  refine CtT_of (by decide +kernel) (Nat.le_of_ble_eq_true rfl) ?_
  refine K_aload_n dX3_demandNoReason_0 rfl ?_
  refine g_X3_10 dX3_demandNoReason_1  ?_
  refine K_iload_n dX3_demandNoReason_4 rfl ?_
  refine K_iload_n dX3_demandNoReason_5 rfl ?_
  refine K_iload_n dX3_demandNoReason_6 rfl ?_
  refine k_X0_reasonAgainst (C_X0_reason0 (by omega) (Nat.lt_of_lt_of_le hp hI.2.1)) (by decide) (by omega) ml_X3_226 (Nat.le_of_ble_eq_true rfl) dX3_demandNoReason_7 ?_
  refine K_if_eq (tgt := 24) dX3_demandNoReason_10 (by decide) (fun c10 => ?_) (fun c10 => ?_)
  · skip
    exact absurd c10 h
  · skip
    exact K_throw_aux (text := "there is a reason against it") true hfl (by decide +kernel) xk_ISE xi_ISE xg_ISE xb_ISE xo_ISE (by simp [nwC]) (by simp [nwS]) dX3_demandNoReason_13 dX3_demandNoReason_16 ⟨dX3_demandNoReason_17, dX3_demandNoReason_20, dX3_demandNoReason_23⟩ (Nat.le_of_ble_eq_true rfl) (by omega)

set_option maxHeartbeats 4000000 in
set_option maxRecDepth 100000 in
theorem C_X3_demandNoReason1 {l : Launch} {G : WG} {μ : Mem}  {n : Nat} (hI : CI μ n) {p : Nat} (hp : p < n) {u : Int32} (h : cWhy1 μ 0 p = 0) : Ct l G 2 yX3_demandNoReason cX3_demandNoReason 4 none [.ref (adr G 0 0 0), .int (nI 1), .int (nI p), .int (u)] (μ) none (μ) := by
  refine Ct_of (by decide +kernel) (Nat.le_of_ble_eq_true rfl) ?_
  refine K_aload_n dX3_demandNoReason_0 rfl ?_
  refine g_X3_10 dX3_demandNoReason_1  ?_
  refine K_iload_n dX3_demandNoReason_4 rfl ?_
  refine K_iload_n dX3_demandNoReason_5 rfl ?_
  refine K_iload_n dX3_demandNoReason_6 rfl ?_
  refine k_X0_reasonAgainst (C_X0_reason1 (by omega) (Nat.lt_of_lt_of_le hp hI.2.1)) (by decide) (by omega) ml_X3_226 (Nat.le_of_ble_eq_true rfl) dX3_demandNoReason_7 ?_
  refine K_if_eq (tgt := 24) dX3_demandNoReason_10 (by decide) (fun c10 => ?_) (fun c10 => ?_)
  · skip
    exact K_vret dX3_demandNoReason_24 ⟨rfl, by rfl⟩
  · skip
    exact absurd h c10

set_option maxHeartbeats 4000000 in
set_option maxRecDepth 100000 in
theorem T_X3_demandNoReason1 {l : Launch} {G : WG} {μ : Mem} (hfl : l.stackTraces = false)  {n : Nat} (hI : CI μ n) {p : Nat} (hp : p < n) {u : Int32} (h : ¬ cWhy1 μ 0 p = 0) : CtT l G 6 yX3_demandNoReason cX3_demandNoReason 4 none [.ref (adr G 0 0 0), .int (nI 1), .int (nI p), .int (u)] μ "java/lang/IllegalStateException" (μ) := by
  refine CtT_of (by decide +kernel) (Nat.le_of_ble_eq_true rfl) ?_
  refine K_aload_n dX3_demandNoReason_0 rfl ?_
  refine g_X3_10 dX3_demandNoReason_1  ?_
  refine K_iload_n dX3_demandNoReason_4 rfl ?_
  refine K_iload_n dX3_demandNoReason_5 rfl ?_
  refine K_iload_n dX3_demandNoReason_6 rfl ?_
  refine k_X0_reasonAgainst (C_X0_reason1 (by omega) (Nat.lt_of_lt_of_le hp hI.2.1)) (by decide) (by omega) ml_X3_226 (Nat.le_of_ble_eq_true rfl) dX3_demandNoReason_7 ?_
  refine K_if_eq (tgt := 24) dX3_demandNoReason_10 (by decide) (fun c10 => ?_) (fun c10 => ?_)
  · skip
    exact absurd c10 h
  · skip
    exact K_throw_aux (text := "there is a reason against it") true hfl (by decide +kernel) xk_ISE xi_ISE xg_ISE xb_ISE xo_ISE (by simp [nwC]) (by simp [nwS]) dX3_demandNoReason_13 dX3_demandNoReason_16 ⟨dX3_demandNoReason_17, dX3_demandNoReason_20, dX3_demandNoReason_23⟩ (Nat.le_of_ble_eq_true rfl) (by omega)

set_option maxHeartbeats 4000000 in
set_option maxRecDepth 100000 in
theorem C_X3_demandNoReason2 {l : Launch} {G : WG} {μ : Mem}  {n : Nat} (hI : CI μ n) {p : Nat} (hp : p < n) {u : Int32} (h : cWhy2 μ 0 p = 0) : Ct l G 3 yX3_demandNoReason cX3_demandNoReason 4 none [.ref (adr G 0 0 0), .int (nI 2), .int (nI p), .int (u)] (μ) none (μ) := by
  refine Ct_of (by decide +kernel) (Nat.le_of_ble_eq_true rfl) ?_
  refine K_aload_n dX3_demandNoReason_0 rfl ?_
  refine g_X3_10 dX3_demandNoReason_1  ?_
  refine K_iload_n dX3_demandNoReason_4 rfl ?_
  refine K_iload_n dX3_demandNoReason_5 rfl ?_
  refine K_iload_n dX3_demandNoReason_6 rfl ?_
  refine k_X0_reasonAgainst (C_X0_reason2 (by omega) (Nat.lt_of_lt_of_le hp hI.2.1)) (by decide) (by omega) ml_X3_226 (Nat.le_of_ble_eq_true rfl) dX3_demandNoReason_7 ?_
  refine K_if_eq (tgt := 24) dX3_demandNoReason_10 (by decide) (fun c10 => ?_) (fun c10 => ?_)
  · skip
    exact K_vret dX3_demandNoReason_24 ⟨rfl, by rfl⟩
  · skip
    exact absurd h c10

set_option maxHeartbeats 4000000 in
set_option maxRecDepth 100000 in
theorem T_X3_demandNoReason2 {l : Launch} {G : WG} {μ : Mem} (hfl : l.stackTraces = false)  {n : Nat} (hI : CI μ n) {p : Nat} (hp : p < n) {u : Int32} (h : ¬ cWhy2 μ 0 p = 0) : CtT l G 6 yX3_demandNoReason cX3_demandNoReason 4 none [.ref (adr G 0 0 0), .int (nI 2), .int (nI p), .int (u)] μ "java/lang/IllegalStateException" (μ) := by
  refine CtT_of (by decide +kernel) (Nat.le_of_ble_eq_true rfl) ?_
  refine K_aload_n dX3_demandNoReason_0 rfl ?_
  refine g_X3_10 dX3_demandNoReason_1  ?_
  refine K_iload_n dX3_demandNoReason_4 rfl ?_
  refine K_iload_n dX3_demandNoReason_5 rfl ?_
  refine K_iload_n dX3_demandNoReason_6 rfl ?_
  refine k_X0_reasonAgainst (C_X0_reason2 (by omega) (Nat.lt_of_lt_of_le hp hI.2.1)) (by decide) (by omega) ml_X3_226 (Nat.le_of_ble_eq_true rfl) dX3_demandNoReason_7 ?_
  refine K_if_eq (tgt := 24) dX3_demandNoReason_10 (by decide) (fun c10 => ?_) (fun c10 => ?_)
  · skip
    exact absurd c10 h
  · skip
    exact K_throw_aux (text := "there is a reason against it") true hfl (by decide +kernel) xk_ISE xi_ISE xg_ISE xb_ISE xo_ISE (by simp [nwC]) (by simp [nwS]) dX3_demandNoReason_13 dX3_demandNoReason_16 ⟨dX3_demandNoReason_17, dX3_demandNoReason_20, dX3_demandNoReason_23⟩ (Nat.le_of_ble_eq_true rfl) (by omega)

set_option maxHeartbeats 4000000 in
set_option maxRecDepth 100000 in
theorem C_X3_demandNoReason3 {l : Launch} {G : WG} {μ : Mem}  {n : Nat} (hI : CI μ n) {p : Nat} (hp : p < n) {u : Int32} (h : cWhy3 μ 0 p = 0) : Ct l G 3 yX3_demandNoReason cX3_demandNoReason 4 none [.ref (adr G 0 0 0), .int (nI 3), .int (nI p), .int (u)] (μ) none (μ) := by
  refine Ct_of (by decide +kernel) (Nat.le_of_ble_eq_true rfl) ?_
  refine K_aload_n dX3_demandNoReason_0 rfl ?_
  refine g_X3_10 dX3_demandNoReason_1  ?_
  refine K_iload_n dX3_demandNoReason_4 rfl ?_
  refine K_iload_n dX3_demandNoReason_5 rfl ?_
  refine K_iload_n dX3_demandNoReason_6 rfl ?_
  refine k_X0_reasonAgainst (C_X0_reason3 (by omega) (Nat.lt_of_lt_of_le hp hI.2.1)) (by decide) (by omega) ml_X3_226 (Nat.le_of_ble_eq_true rfl) dX3_demandNoReason_7 ?_
  refine K_if_eq (tgt := 24) dX3_demandNoReason_10 (by decide) (fun c10 => ?_) (fun c10 => ?_)
  · skip
    exact K_vret dX3_demandNoReason_24 ⟨rfl, by rfl⟩
  · skip
    exact absurd h c10

set_option maxHeartbeats 4000000 in
set_option maxRecDepth 100000 in
theorem T_X3_demandNoReason3 {l : Launch} {G : WG} {μ : Mem} (hfl : l.stackTraces = false)  {n : Nat} (hI : CI μ n) {p : Nat} (hp : p < n) {u : Int32} (h : ¬ cWhy3 μ 0 p = 0) : CtT l G 6 yX3_demandNoReason cX3_demandNoReason 4 none [.ref (adr G 0 0 0), .int (nI 3), .int (nI p), .int (u)] μ "java/lang/IllegalStateException" (μ) := by
  refine CtT_of (by decide +kernel) (Nat.le_of_ble_eq_true rfl) ?_
  refine K_aload_n dX3_demandNoReason_0 rfl ?_
  refine g_X3_10 dX3_demandNoReason_1  ?_
  refine K_iload_n dX3_demandNoReason_4 rfl ?_
  refine K_iload_n dX3_demandNoReason_5 rfl ?_
  refine K_iload_n dX3_demandNoReason_6 rfl ?_
  refine k_X0_reasonAgainst (C_X0_reason3 (by omega) (Nat.lt_of_lt_of_le hp hI.2.1)) (by decide) (by omega) ml_X3_226 (Nat.le_of_ble_eq_true rfl) dX3_demandNoReason_7 ?_
  refine K_if_eq (tgt := 24) dX3_demandNoReason_10 (by decide) (fun c10 => ?_) (fun c10 => ?_)
  · skip
    exact absurd c10 h
  · skip
    exact K_throw_aux (text := "there is a reason against it") true hfl (by decide +kernel) xk_ISE xi_ISE xg_ISE xb_ISE xo_ISE (by simp [nwC]) (by simp [nwS]) dX3_demandNoReason_13 dX3_demandNoReason_16 ⟨dX3_demandNoReason_17, dX3_demandNoReason_20, dX3_demandNoReason_23⟩ (Nat.le_of_ble_eq_true rfl) (by omega)

set_option maxHeartbeats 4000000 in
set_option maxRecDepth 100000 in
theorem C_X3_demandNoReason4 {l : Launch} {G : WG} {μ : Mem}  {n : Nat} (hI : CI μ n) {p : Nat} (hp : p < n) {u : Nat} (hu : u < 4) (h : cWhy4 μ 0 p u = 0) : Ct l G 2 yX3_demandNoReason cX3_demandNoReason 4 none [.ref (adr G 0 0 0), .int (nI 4), .int (nI p), .int (nI u)] (μ) none (μ) := by
  refine Ct_of (by decide +kernel) (Nat.le_of_ble_eq_true rfl) ?_
  refine K_aload_n dX3_demandNoReason_0 rfl ?_
  refine g_X3_10 dX3_demandNoReason_1  ?_
  refine K_iload_n dX3_demandNoReason_4 rfl ?_
  refine K_iload_n dX3_demandNoReason_5 rfl ?_
  refine K_iload_n dX3_demandNoReason_6 rfl ?_
  refine k_X0_reasonAgainst (C_X0_reason4 (by omega) (Nat.lt_of_lt_of_le hp hI.2.1) hu) (by decide) (by omega) ml_X3_226 (Nat.le_of_ble_eq_true rfl) dX3_demandNoReason_7 ?_
  refine K_if_eq (tgt := 24) dX3_demandNoReason_10 (by decide) (fun c10 => ?_) (fun c10 => ?_)
  · skip
    exact K_vret dX3_demandNoReason_24 ⟨rfl, by rfl⟩
  · skip
    exact absurd h c10

set_option maxHeartbeats 4000000 in
set_option maxRecDepth 100000 in
theorem T_X3_demandNoReason4 {l : Launch} {G : WG} {μ : Mem} (hfl : l.stackTraces = false)  {n : Nat} (hI : CI μ n) {p : Nat} (hp : p < n) {u : Nat} (hu : u < 4) (h : ¬ cWhy4 μ 0 p u = 0) : CtT l G 6 yX3_demandNoReason cX3_demandNoReason 4 none [.ref (adr G 0 0 0), .int (nI 4), .int (nI p), .int (nI u)] μ "java/lang/IllegalStateException" (μ) := by
  refine CtT_of (by decide +kernel) (Nat.le_of_ble_eq_true rfl) ?_
  refine K_aload_n dX3_demandNoReason_0 rfl ?_
  refine g_X3_10 dX3_demandNoReason_1  ?_
  refine K_iload_n dX3_demandNoReason_4 rfl ?_
  refine K_iload_n dX3_demandNoReason_5 rfl ?_
  refine K_iload_n dX3_demandNoReason_6 rfl ?_
  refine k_X0_reasonAgainst (C_X0_reason4 (by omega) (Nat.lt_of_lt_of_le hp hI.2.1) hu) (by decide) (by omega) ml_X3_226 (Nat.le_of_ble_eq_true rfl) dX3_demandNoReason_7 ?_
  refine K_if_eq (tgt := 24) dX3_demandNoReason_10 (by decide) (fun c10 => ?_) (fun c10 => ?_)
  · skip
    exact absurd c10 h
  · skip
    exact K_throw_aux (text := "there is a reason against it") true hfl (by decide +kernel) xk_ISE xi_ISE xg_ISE xb_ISE xo_ISE (by simp [nwC]) (by simp [nwS]) dX3_demandNoReason_13 dX3_demandNoReason_16 ⟨dX3_demandNoReason_17, dX3_demandNoReason_20, dX3_demandNoReason_23⟩ (Nat.le_of_ble_eq_true rfl) (by omega)

set_option maxHeartbeats 4000000 in
set_option maxRecDepth 100000 in
theorem C_X3_saveState {l : Launch} {G : WG} {μ : Mem}  {ns sc : Nat} (hS : SI μ ns sc) : Ct l G 2 yX3_saveState cX3_saveState 1 none [.ref (adr G 0 0 0)] (μ) none (cSave μ ns sc) := by
  refine Ct_of (by decide +kernel) (Nat.le_of_ble_eq_true rfl) ?_
  obtain ⟨h1, h2, h3, h4⟩ := hS
  have hcu := cur_lt h2
  refine K_aload_n dX3_saveState_0 rfl ?_
  refine g_X3_24 dX3_saveState_1  ?_
  refine K_top h1 ?_
  refine K_ifN_lt (by omega) (tgt := 16) dX3_saveState_4 (by decide) ?_
  refine K_aload_n dX3_saveState_7 rfl ?_
  refine g_X3_24 dX3_saveState_8  ?_
  refine K_top h1 ?_
  refine K_bipush (v := nI 6) dX3_saveState_11 (by decide) ?_
  refine K_icmpN_lt (by omega) (by omega) (tgt := 21) dX3_saveState_13 (by decide) (fun c13 => ?_) (fun c13 => ?_)
  · skip
    refine K_mem (show _ = cwr μ ns by unfold cwr; first | (rw [if_pos (show ns = 6 by omega)]; done) | (rw [if_neg (show ¬ ns = 6 by omega)]; done)) ?_
    refine K_aload_n dX3_saveState_21 rfl ?_
    refine g_X3_16 dX3_saveState_22  ?_
    refine K_aload_n dX3_saveState_25 rfl ?_
    refine g_X3_24 dX3_saveState_26  ?_
    refine K_top (cwr_3 h1) ?_
    refine ald1 dX3_saveState_29 (by omega) ?_
    refine K_aload_n dX3_saveState_30 rfl ?_
    refine g_X3_10 dX3_saveState_31  ?_
    refine k_X0_copyFrom (C_X0_copyFrom (i := cur ns + 1) (j := 0) (by omega) (by omega)) (by decide) (by omega) ml_X3_151 (Nat.le_of_ble_eq_true rfl) dX3_saveState_34 ?_
    refine K_aload_n dX3_saveState_37 rfl ?_
    refine K_dup dX3_saveState_38 rfl ?_
    refine g_X3_24 dX3_saveState_39  ?_
    refine K_top (show _ = nI (cur ns) by rw [copyL_tag (by omega)]; exact cwr_3 h1) ?_
    refine K_iconstN 1 dX3_saveState_42 rfl ?_
    refine K_iaddN dX3_saveState_43 ?_
    refine p_X3_24 dX3_saveState_44  ?_
    refine K_aload_n dX3_saveState_47 rfl ?_
    refine g_X3_20 dX3_saveState_48  ?_
    refine K_top (show _ = nI sc by simp only [mset]; rw [if_neg (by decide)]; rw [copyL_tag (by omega)]; exact cwr_2.trans h3) ?_
    refine K_bipush (v := nI 6) dX3_saveState_51 (by decide) ?_
    refine K_icmpN_ge (by omega) (by omega) (tgt := 66) dX3_saveState_53 (by decide) (fun c53 => ?_) (fun c53 => ?_)
    · skip
      refine K_vret dX3_saveState_66 ⟨rfl, ?_⟩
      first | (simp only [cSave, nxt, show decide (6 ≤ sc) = true from decide_eq_true c53, cond_true]; done) | (simp only [cSave, nxt, show decide (6 ≤ sc) = false from decide_eq_false (Nat.not_le.mpr c53), cond_false]; done)
    · skip
      refine K_aload_n dX3_saveState_56 rfl ?_
      refine K_dup dX3_saveState_57 rfl ?_
      refine g_X3_20 dX3_saveState_58  ?_
      refine K_top (show _ = nI sc by simp only [mset]; rw [if_neg (by decide)]; rw [copyL_tag (by omega)]; exact cwr_2.trans h3) ?_
      refine K_iconstN 1 dX3_saveState_61 rfl ?_
      refine K_iaddN dX3_saveState_62 ?_
      refine p_X3_20 dX3_saveState_63  ?_
      refine K_vret dX3_saveState_66 ⟨rfl, ?_⟩
      first | (simp only [cSave, nxt, show decide (6 ≤ sc) = true from decide_eq_true c53, cond_true]; done) | (simp only [cSave, nxt, show decide (6 ≤ sc) = false from decide_eq_false (Nat.not_le.mpr c53), cond_false]; done)
  · skip
    refine K_aload_n dX3_saveState_16 rfl ?_
    refine K_iconstN 0 dX3_saveState_17 rfl ?_
    refine p_X3_24 dX3_saveState_18  ?_
    refine K_mem (show _ = cwr μ ns by unfold cwr; first | (rw [if_pos (show ns = 6 by omega)]; done) | (rw [if_neg (show ¬ ns = 6 by omega)]; done)) ?_
    refine K_aload_n dX3_saveState_21 rfl ?_
    refine g_X3_16 dX3_saveState_22  ?_
    refine K_aload_n dX3_saveState_25 rfl ?_
    refine g_X3_24 dX3_saveState_26  ?_
    refine K_top (cwr_3 h1) ?_
    refine ald1 dX3_saveState_29 (by omega) ?_
    refine K_aload_n dX3_saveState_30 rfl ?_
    refine g_X3_10 dX3_saveState_31  ?_
    refine k_X0_copyFrom (C_X0_copyFrom (i := cur ns + 1) (j := 0) (by omega) (by omega)) (by decide) (by omega) ml_X3_151 (Nat.le_of_ble_eq_true rfl) dX3_saveState_34 ?_
    refine K_aload_n dX3_saveState_37 rfl ?_
    refine K_dup dX3_saveState_38 rfl ?_
    refine g_X3_24 dX3_saveState_39  ?_
    refine K_top (show _ = nI (cur ns) by rw [copyL_tag (by omega)]; exact cwr_3 h1) ?_
    refine K_iconstN 1 dX3_saveState_42 rfl ?_
    refine K_iaddN dX3_saveState_43 ?_
    refine p_X3_24 dX3_saveState_44  ?_
    refine K_aload_n dX3_saveState_47 rfl ?_
    refine g_X3_20 dX3_saveState_48  ?_
    refine K_top (show _ = nI sc by simp only [mset]; rw [if_neg (by decide)]; rw [copyL_tag (by omega)]; exact cwr_2.trans h3) ?_
    refine K_bipush (v := nI 6) dX3_saveState_51 (by decide) ?_
    refine K_icmpN_ge (by omega) (by omega) (tgt := 66) dX3_saveState_53 (by decide) (fun c53 => ?_) (fun c53 => ?_)
    · skip
      refine K_vret dX3_saveState_66 ⟨rfl, ?_⟩
      first | (simp only [cSave, nxt, show decide (6 ≤ sc) = true from decide_eq_true c53, cond_true]; done) | (simp only [cSave, nxt, show decide (6 ≤ sc) = false from decide_eq_false (Nat.not_le.mpr c53), cond_false]; done)
    · skip
      refine K_aload_n dX3_saveState_56 rfl ?_
      refine K_dup dX3_saveState_57 rfl ?_
      refine g_X3_20 dX3_saveState_58  ?_
      refine K_top (show _ = nI sc by simp only [mset]; rw [if_neg (by decide)]; rw [copyL_tag (by omega)]; exact cwr_2.trans h3) ?_
      refine K_iconstN 1 dX3_saveState_61 rfl ?_
      refine K_iaddN dX3_saveState_62 ?_
      refine p_X3_20 dX3_saveState_63  ?_
      refine K_vret dX3_saveState_66 ⟨rfl, ?_⟩
      first | (simp only [cSave, nxt, show decide (6 ≤ sc) = true from decide_eq_true c53, cond_true]; done) | (simp only [cSave, nxt, show decide (6 ≤ sc) = false from decide_eq_false (Nat.not_le.mpr c53), cond_false]; done)

set_option maxHeartbeats 4000000 in
set_option maxRecDepth 100000 in
theorem C_X3_phase0 {l : Launch} {G : WG} {μ : Mem}  {n : Nat} (hI : CI μ n) {p : Nat} (hp : p < n) : Ct l G 2 yX3_phase cX3_phase 4 (some .int) [.ref (adr G 0 0 0), .int (nI p), .int (nI 0)] (μ) (some (.int (cPhaseQ μ p 0))) (μ) := by
  refine Ct_of (by decide +kernel) (Nat.le_of_ble_eq_true rfl) ?_
  have hp6 := (Nat.lt_of_lt_of_le hp hI.2.1)
  refine K_aload_n dX3_phase_0 rfl ?_
  refine K_iload_n dX3_phase_1 rfl ?_
  refine k_X3_demandPhase (C_X3_demandPhase hI (cHas_nat hp hI.2.1)) (by decide)  ml_X3_51 (Nat.le_of_ble_eq_true rfl) dX3_phase_2 ?_
  refine K_iload_n dX3_phase_5 rfl ?_
  refine K_iconstN 0 dX3_phase_6 rfl ?_
  refine K_bipush (v := nI 13) dX3_phase_7 (by decide) ?_
  refine k_X3_demandRange (C_X3_demandRange (rOk_nat (by omega) (by omega))) (by decide) ml_X3_58 (Nat.le_of_ble_eq_true rfl) dX3_phase_9 ?_
  refine K_aload_n dX3_phase_12 rfl ?_
  refine g_X3_10 dX3_phase_13  ?_
  refine g_X3_65 dX3_phase_16 (by omega) ?_
  refine K_iload_n dX3_phase_19 rfl ?_
  refine ald7 dX3_phase_20 (by omega) (by omega) ?_
  refine K_astore_n dX3_phase_21 (by decide) rfl ?_
  refine K_iload_n dX3_phase_22 rfl ?_
  refine K_tableIn (tgt := 88) dX3_phase_23 (by decide) (by decide) rfl (by decide) ?_
  refine K_aload_n dX3_phase_88 rfl ?_
  refine g_X3_155 dX3_phase_89 (by omega) (by omega) ?_
  exact K_iret dX3_phase_92 ⟨by rfl, rfl⟩

set_option maxHeartbeats 4000000 in
set_option maxRecDepth 100000 in
theorem C_X3_phase1 {l : Launch} {G : WG} {μ : Mem}  {n : Nat} (hI : CI μ n) {p : Nat} (hp : p < n) : Ct l G 2 yX3_phase cX3_phase 4 (some .int) [.ref (adr G 0 0 0), .int (nI p), .int (nI 1)] (μ) (some (.int (cPhaseQ μ p 1))) (μ) := by
  refine Ct_of (by decide +kernel) (Nat.le_of_ble_eq_true rfl) ?_
  have hp6 := (Nat.lt_of_lt_of_le hp hI.2.1)
  refine K_aload_n dX3_phase_0 rfl ?_
  refine K_iload_n dX3_phase_1 rfl ?_
  refine k_X3_demandPhase (C_X3_demandPhase hI (cHas_nat hp hI.2.1)) (by decide)  ml_X3_51 (Nat.le_of_ble_eq_true rfl) dX3_phase_2 ?_
  refine K_iload_n dX3_phase_5 rfl ?_
  refine K_iconstN 0 dX3_phase_6 rfl ?_
  refine K_bipush (v := nI 13) dX3_phase_7 (by decide) ?_
  refine k_X3_demandRange (C_X3_demandRange (rOk_nat (by omega) (by omega))) (by decide) ml_X3_58 (Nat.le_of_ble_eq_true rfl) dX3_phase_9 ?_
  refine K_aload_n dX3_phase_12 rfl ?_
  refine g_X3_10 dX3_phase_13  ?_
  refine g_X3_65 dX3_phase_16 (by omega) ?_
  refine K_iload_n dX3_phase_19 rfl ?_
  refine ald7 dX3_phase_20 (by omega) (by omega) ?_
  refine K_astore_n dX3_phase_21 (by decide) rfl ?_
  refine K_iload_n dX3_phase_22 rfl ?_
  refine K_tableIn (tgt := 93) dX3_phase_23 (by decide) (by decide) rfl (by decide) ?_
  refine K_aload_n dX3_phase_93 rfl ?_
  refine k_X2_charge (C_X2_charge (by omega) (by omega)) (by decide) (by omega) (by omega) ml_X3_158 (Nat.le_of_ble_eq_true rfl) dX3_phase_94 ?_
  exact K_iret dX3_phase_97 ⟨by rfl, rfl⟩

set_option maxHeartbeats 4000000 in
set_option maxRecDepth 100000 in
theorem C_X3_phase2 {l : Launch} {G : WG} {μ : Mem}  {n : Nat} (hI : CI μ n) {p : Nat} (hp : p < n) : Ct l G 2 yX3_phase cX3_phase 4 (some .int) [.ref (adr G 0 0 0), .int (nI p), .int (nI 2)] (μ) (some (.int (cPhaseQ μ p 2))) (μ) := by
  refine Ct_of (by decide +kernel) (Nat.le_of_ble_eq_true rfl) ?_
  have hp6 := (Nat.lt_of_lt_of_le hp hI.2.1)
  refine K_aload_n dX3_phase_0 rfl ?_
  refine K_iload_n dX3_phase_1 rfl ?_
  refine k_X3_demandPhase (C_X3_demandPhase hI (cHas_nat hp hI.2.1)) (by decide)  ml_X3_51 (Nat.le_of_ble_eq_true rfl) dX3_phase_2 ?_
  refine K_iload_n dX3_phase_5 rfl ?_
  refine K_iconstN 0 dX3_phase_6 rfl ?_
  refine K_bipush (v := nI 13) dX3_phase_7 (by decide) ?_
  refine k_X3_demandRange (C_X3_demandRange (rOk_nat (by omega) (by omega))) (by decide) ml_X3_58 (Nat.le_of_ble_eq_true rfl) dX3_phase_9 ?_
  refine K_aload_n dX3_phase_12 rfl ?_
  refine g_X3_10 dX3_phase_13  ?_
  refine g_X3_65 dX3_phase_16 (by omega) ?_
  refine K_iload_n dX3_phase_19 rfl ?_
  refine ald7 dX3_phase_20 (by omega) (by omega) ?_
  refine K_astore_n dX3_phase_21 (by decide) rfl ?_
  refine K_iload_n dX3_phase_22 rfl ?_
  refine K_tableIn (tgt := 98) dX3_phase_23 (by decide) (by decide) rfl (by decide) ?_
  refine K_aload_n dX3_phase_98 rfl ?_
  refine k_X2_relief (C_X2_relief (by omega) (by omega)) (by decide) (by omega) (by omega) ml_X3_161 (Nat.le_of_ble_eq_true rfl) dX3_phase_99 ?_
  exact K_iret dX3_phase_102 ⟨by rfl, rfl⟩

set_option maxHeartbeats 4000000 in
set_option maxRecDepth 100000 in
theorem C_X3_phase3 {l : Launch} {G : WG} {μ : Mem}  {n : Nat} (hI : CI μ n) {p : Nat} (hp : p < n) : Ct l G 2 yX3_phase cX3_phase 4 (some .int) [.ref (adr G 0 0 0), .int (nI p), .int (nI 3)] (μ) (some (.int (cPhaseQ μ p 3))) (μ) := by
  refine Ct_of (by decide +kernel) (Nat.le_of_ble_eq_true rfl) ?_
  have hp6 := (Nat.lt_of_lt_of_le hp hI.2.1)
  refine K_aload_n dX3_phase_0 rfl ?_
  refine K_iload_n dX3_phase_1 rfl ?_
  refine k_X3_demandPhase (C_X3_demandPhase hI (cHas_nat hp hI.2.1)) (by decide)  ml_X3_51 (Nat.le_of_ble_eq_true rfl) dX3_phase_2 ?_
  refine K_iload_n dX3_phase_5 rfl ?_
  refine K_iconstN 0 dX3_phase_6 rfl ?_
  refine K_bipush (v := nI 13) dX3_phase_7 (by decide) ?_
  refine k_X3_demandRange (C_X3_demandRange (rOk_nat (by omega) (by omega))) (by decide) ml_X3_58 (Nat.le_of_ble_eq_true rfl) dX3_phase_9 ?_
  refine K_aload_n dX3_phase_12 rfl ?_
  refine g_X3_10 dX3_phase_13  ?_
  refine g_X3_65 dX3_phase_16 (by omega) ?_
  refine K_iload_n dX3_phase_19 rfl ?_
  refine ald7 dX3_phase_20 (by omega) (by omega) ?_
  refine K_astore_n dX3_phase_21 (by decide) rfl ?_
  refine K_iload_n dX3_phase_22 rfl ?_
  refine K_tableIn (tgt := 103) dX3_phase_23 (by decide) (by decide) rfl (by decide) ?_
  refine K_aload_n dX3_phase_103 rfl ?_
  refine k_X2_owed (C_X2_owed (by omega) (by omega)) (by decide) (by omega) (by omega) ml_X3_164 (Nat.le_of_ble_eq_true rfl) dX3_phase_104 ?_
  exact K_iret dX3_phase_107 ⟨by rfl, rfl⟩

set_option maxHeartbeats 4000000 in
set_option maxRecDepth 100000 in
theorem C_X3_phase4 {l : Launch} {G : WG} {μ : Mem}  {n : Nat} (hI : CI μ n) {p : Nat} (hp : p < n) : Ct l G 3 yX3_phase cX3_phase 4 (some .int) [.ref (adr G 0 0 0), .int (nI p), .int (nI 4)] (μ) (some (.int (cPhaseQ μ p 4))) (μ) := by
  refine Ct_of (by decide +kernel) (Nat.le_of_ble_eq_true rfl) ?_
  have hp6 := (Nat.lt_of_lt_of_le hp hI.2.1)
  refine K_aload_n dX3_phase_0 rfl ?_
  refine K_iload_n dX3_phase_1 rfl ?_
  refine k_X3_demandPhase (C_X3_demandPhase hI (cHas_nat hp hI.2.1)) (by decide)  ml_X3_51 (Nat.le_of_ble_eq_true rfl) dX3_phase_2 ?_
  refine K_iload_n dX3_phase_5 rfl ?_
  refine K_iconstN 0 dX3_phase_6 rfl ?_
  refine K_bipush (v := nI 13) dX3_phase_7 (by decide) ?_
  refine k_X3_demandRange (C_X3_demandRange (rOk_nat (by omega) (by omega))) (by decide) ml_X3_58 (Nat.le_of_ble_eq_true rfl) dX3_phase_9 ?_
  refine K_aload_n dX3_phase_12 rfl ?_
  refine g_X3_10 dX3_phase_13  ?_
  refine g_X3_65 dX3_phase_16 (by omega) ?_
  refine K_iload_n dX3_phase_19 rfl ?_
  refine ald7 dX3_phase_20 (by omega) (by omega) ?_
  refine K_astore_n dX3_phase_21 (by decide) rfl ?_
  refine K_iload_n dX3_phase_22 rfl ?_
  refine K_tableIn (tgt := 108) dX3_phase_23 (by decide) (by decide) rfl (by decide) ?_
  refine K_aload_n dX3_phase_108 rfl ?_
  refine K_aload_n dX3_phase_109 rfl ?_
  refine g_X3_10 dX3_phase_110  ?_
  refine g_X3_167 dX3_phase_113 (by omega) ?_
  refine k_X2_dueOn (C_X2_dueOn (by omega) (Nat.lt_of_lt_of_le hp hI.2.1) (hI.2.2 p (Nat.lt_of_lt_of_le hp hI.2.1)).1 (hI.2.2 p (Nat.lt_of_lt_of_le hp hI.2.1)).2) (by decide) (by omega) (by omega) ml_X3_170 (Nat.le_of_ble_eq_true rfl) dX3_phase_116 ?_
  exact K_iret dX3_phase_119 ⟨by rfl, rfl⟩

set_option maxHeartbeats 4000000 in
set_option maxRecDepth 100000 in
theorem C_X3_phase5 {l : Launch} {G : WG} {μ : Mem}  {n : Nat} (hI : CI μ n) {p : Nat} (hp : p < n) : Ct l G 2 yX3_phase cX3_phase 4 (some .int) [.ref (adr G 0 0 0), .int (nI p), .int (nI 5)] (μ) (some (.int (cPhaseQ μ p 5))) (μ) := by
  refine Ct_of (by decide +kernel) (Nat.le_of_ble_eq_true rfl) ?_
  have hp6 := (Nat.lt_of_lt_of_le hp hI.2.1)
  refine K_aload_n dX3_phase_0 rfl ?_
  refine K_iload_n dX3_phase_1 rfl ?_
  refine k_X3_demandPhase (C_X3_demandPhase hI (cHas_nat hp hI.2.1)) (by decide)  ml_X3_51 (Nat.le_of_ble_eq_true rfl) dX3_phase_2 ?_
  refine K_iload_n dX3_phase_5 rfl ?_
  refine K_iconstN 0 dX3_phase_6 rfl ?_
  refine K_bipush (v := nI 13) dX3_phase_7 (by decide) ?_
  refine k_X3_demandRange (C_X3_demandRange (rOk_nat (by omega) (by omega))) (by decide) ml_X3_58 (Nat.le_of_ble_eq_true rfl) dX3_phase_9 ?_
  refine K_aload_n dX3_phase_12 rfl ?_
  refine g_X3_10 dX3_phase_13  ?_
  refine g_X3_65 dX3_phase_16 (by omega) ?_
  refine K_iload_n dX3_phase_19 rfl ?_
  refine ald7 dX3_phase_20 (by omega) (by omega) ?_
  refine K_astore_n dX3_phase_21 (by decide) rfl ?_
  refine K_iload_n dX3_phase_22 rfl ?_
  refine K_tableIn (tgt := 120) dX3_phase_23 (by decide) (by decide) rfl (by decide) ?_
  refine K_aload_n dX3_phase_120 rfl ?_
  refine g_X3_173 dX3_phase_121 (by omega) (by omega) ?_
  exact K_iret dX3_phase_124 ⟨by rfl, rfl⟩

set_option maxHeartbeats 4000000 in
set_option maxRecDepth 100000 in
theorem C_X3_phase6 {l : Launch} {G : WG} {μ : Mem}  {n : Nat} (hI : CI μ n) {p : Nat} (hp : p < n) : Ct l G 2 yX3_phase cX3_phase 4 (some .int) [.ref (adr G 0 0 0), .int (nI p), .int (nI 6)] (μ) (some (.int (cPhaseQ μ p 6))) (μ) := by
  refine Ct_of (by decide +kernel) (Nat.le_of_ble_eq_true rfl) ?_
  have hp6 := (Nat.lt_of_lt_of_le hp hI.2.1)
  refine K_aload_n dX3_phase_0 rfl ?_
  refine K_iload_n dX3_phase_1 rfl ?_
  refine k_X3_demandPhase (C_X3_demandPhase hI (cHas_nat hp hI.2.1)) (by decide)  ml_X3_51 (Nat.le_of_ble_eq_true rfl) dX3_phase_2 ?_
  refine K_iload_n dX3_phase_5 rfl ?_
  refine K_iconstN 0 dX3_phase_6 rfl ?_
  refine K_bipush (v := nI 13) dX3_phase_7 (by decide) ?_
  refine k_X3_demandRange (C_X3_demandRange (rOk_nat (by omega) (by omega))) (by decide) ml_X3_58 (Nat.le_of_ble_eq_true rfl) dX3_phase_9 ?_
  refine K_aload_n dX3_phase_12 rfl ?_
  refine g_X3_10 dX3_phase_13  ?_
  refine g_X3_65 dX3_phase_16 (by omega) ?_
  refine K_iload_n dX3_phase_19 rfl ?_
  refine ald7 dX3_phase_20 (by omega) (by omega) ?_
  refine K_astore_n dX3_phase_21 (by decide) rfl ?_
  refine K_iload_n dX3_phase_22 rfl ?_
  refine K_tableIn (tgt := 125) dX3_phase_23 (by decide) (by decide) rfl (by decide) ?_
  refine K_aload_n dX3_phase_125 rfl ?_
  refine g_X3_176 dX3_phase_126 (by omega) (by omega) ?_
  exact K_iret dX3_phase_129 ⟨by rfl, rfl⟩

set_option maxHeartbeats 4000000 in
set_option maxRecDepth 100000 in
theorem C_X3_phase7 {l : Launch} {G : WG} {μ : Mem}  {n : Nat} (hI : CI μ n) {p : Nat} (hp : p < n) : Ct l G 2 yX3_phase cX3_phase 4 (some .int) [.ref (adr G 0 0 0), .int (nI p), .int (nI 7)] (μ) (some (.int (cPhaseQ μ p 7))) (μ) := by
  refine Ct_of (by decide +kernel) (Nat.le_of_ble_eq_true rfl) ?_
  have hp6 := (Nat.lt_of_lt_of_le hp hI.2.1)
  refine K_aload_n dX3_phase_0 rfl ?_
  refine K_iload_n dX3_phase_1 rfl ?_
  refine k_X3_demandPhase (C_X3_demandPhase hI (cHas_nat hp hI.2.1)) (by decide)  ml_X3_51 (Nat.le_of_ble_eq_true rfl) dX3_phase_2 ?_
  refine K_iload_n dX3_phase_5 rfl ?_
  refine K_iconstN 0 dX3_phase_6 rfl ?_
  refine K_bipush (v := nI 13) dX3_phase_7 (by decide) ?_
  refine k_X3_demandRange (C_X3_demandRange (rOk_nat (by omega) (by omega))) (by decide) ml_X3_58 (Nat.le_of_ble_eq_true rfl) dX3_phase_9 ?_
  refine K_aload_n dX3_phase_12 rfl ?_
  refine g_X3_10 dX3_phase_13  ?_
  refine g_X3_65 dX3_phase_16 (by omega) ?_
  refine K_iload_n dX3_phase_19 rfl ?_
  refine ald7 dX3_phase_20 (by omega) (by omega) ?_
  refine K_astore_n dX3_phase_21 (by decide) rfl ?_
  refine K_iload_n dX3_phase_22 rfl ?_
  refine K_tableIn (tgt := 130) dX3_phase_23 (by decide) (by decide) rfl (by decide) ?_
  refine K_aload_n dX3_phase_130 rfl ?_
  refine g_X3_179 dX3_phase_131 (by omega) (by omega) ?_
  exact K_iret dX3_phase_134 ⟨by rfl, rfl⟩

set_option maxHeartbeats 4000000 in
set_option maxRecDepth 100000 in
theorem C_X3_phase8 {l : Launch} {G : WG} {μ : Mem}  {n : Nat} (hI : CI μ n) {p : Nat} (hp : p < n) : Ct l G 2 yX3_phase cX3_phase 4 (some .int) [.ref (adr G 0 0 0), .int (nI p), .int (nI 8)] (μ) (some (.int (cPhaseQ μ p 8))) (μ) := by
  refine Ct_of (by decide +kernel) (Nat.le_of_ble_eq_true rfl) ?_
  have hp6 := (Nat.lt_of_lt_of_le hp hI.2.1)
  refine K_aload_n dX3_phase_0 rfl ?_
  refine K_iload_n dX3_phase_1 rfl ?_
  refine k_X3_demandPhase (C_X3_demandPhase hI (cHas_nat hp hI.2.1)) (by decide)  ml_X3_51 (Nat.le_of_ble_eq_true rfl) dX3_phase_2 ?_
  refine K_iload_n dX3_phase_5 rfl ?_
  refine K_iconstN 0 dX3_phase_6 rfl ?_
  refine K_bipush (v := nI 13) dX3_phase_7 (by decide) ?_
  refine k_X3_demandRange (C_X3_demandRange (rOk_nat (by omega) (by omega))) (by decide) ml_X3_58 (Nat.le_of_ble_eq_true rfl) dX3_phase_9 ?_
  refine K_aload_n dX3_phase_12 rfl ?_
  refine g_X3_10 dX3_phase_13  ?_
  refine g_X3_65 dX3_phase_16 (by omega) ?_
  refine K_iload_n dX3_phase_19 rfl ?_
  refine ald7 dX3_phase_20 (by omega) (by omega) ?_
  refine K_astore_n dX3_phase_21 (by decide) rfl ?_
  refine K_iload_n dX3_phase_22 rfl ?_
  refine K_tableIn (tgt := 135) dX3_phase_23 (by decide) (by decide) rfl (by decide) ?_
  refine K_aload_n dX3_phase_135 rfl ?_
  refine k_X2_lapsedSoFar (C_X2_lapsedSoFar (by omega) (by omega)) (by decide) (by omega) (by omega) ml_X3_182 (Nat.le_of_ble_eq_true rfl) dX3_phase_136 ?_
  exact K_iret dX3_phase_139 ⟨by rfl, rfl⟩

set_option maxHeartbeats 4000000 in
set_option maxRecDepth 100000 in
theorem C_X3_phase9 {l : Launch} {G : WG} {μ : Mem}  {n : Nat} (hI : CI μ n) {p : Nat} (hp : p < n) : Ct l G 2 yX3_phase cX3_phase 4 (some .int) [.ref (adr G 0 0 0), .int (nI p), .int (nI 9)] (μ) (some (.int (cPhaseQ μ p 9))) (μ) := by
  refine Ct_of (by decide +kernel) (Nat.le_of_ble_eq_true rfl) ?_
  have hp6 := (Nat.lt_of_lt_of_le hp hI.2.1)
  refine K_aload_n dX3_phase_0 rfl ?_
  refine K_iload_n dX3_phase_1 rfl ?_
  refine k_X3_demandPhase (C_X3_demandPhase hI (cHas_nat hp hI.2.1)) (by decide)  ml_X3_51 (Nat.le_of_ble_eq_true rfl) dX3_phase_2 ?_
  refine K_iload_n dX3_phase_5 rfl ?_
  refine K_iconstN 0 dX3_phase_6 rfl ?_
  refine K_bipush (v := nI 13) dX3_phase_7 (by decide) ?_
  refine k_X3_demandRange (C_X3_demandRange (rOk_nat (by omega) (by omega))) (by decide) ml_X3_58 (Nat.le_of_ble_eq_true rfl) dX3_phase_9 ?_
  refine K_aload_n dX3_phase_12 rfl ?_
  refine g_X3_10 dX3_phase_13  ?_
  refine g_X3_65 dX3_phase_16 (by omega) ?_
  refine K_iload_n dX3_phase_19 rfl ?_
  refine ald7 dX3_phase_20 (by omega) (by omega) ?_
  refine K_astore_n dX3_phase_21 (by decide) rfl ?_
  refine K_iload_n dX3_phase_22 rfl ?_
  refine K_tableIn (tgt := 140) dX3_phase_23 (by decide) (by decide) rfl (by decide) ?_
  refine K_aload_n dX3_phase_140 rfl ?_
  refine g_X3_185 dX3_phase_141 (by omega) (by omega) ?_
  refine K_if_eq (tgt := 151) dX3_phase_144 (by decide) (fun c144 => ?_) (fun c144 => ?_)
  · skip
    refine K_iconstN 0 dX3_phase_151 rfl ?_
    exact K_iret dX3_phase_152 ⟨by simp only [cPhaseQ, c144, decide_true, decide_false, cond_true, cond_false], rfl⟩
  · skip
    refine K_iconstN 1 dX3_phase_147 rfl ?_
    refine K_goto (tgt := 152) dX3_phase_148 (by decide) ?_
    exact K_iret dX3_phase_152 ⟨by simp only [cPhaseQ, c144, decide_true, decide_false, cond_true, cond_false], rfl⟩

set_option maxHeartbeats 4000000 in
set_option maxRecDepth 100000 in
theorem C_X3_phase10 {l : Launch} {G : WG} {μ : Mem}  {n : Nat} (hI : CI μ n) {p : Nat} (hp : p < n) : Ct l G 2 yX3_phase cX3_phase 4 (some .int) [.ref (adr G 0 0 0), .int (nI p), .int (nI 10)] (μ) (some (.int (cPhaseQ μ p 10))) (μ) := by
  refine Ct_of (by decide +kernel) (Nat.le_of_ble_eq_true rfl) ?_
  have hp6 := (Nat.lt_of_lt_of_le hp hI.2.1)
  refine K_aload_n dX3_phase_0 rfl ?_
  refine K_iload_n dX3_phase_1 rfl ?_
  refine k_X3_demandPhase (C_X3_demandPhase hI (cHas_nat hp hI.2.1)) (by decide)  ml_X3_51 (Nat.le_of_ble_eq_true rfl) dX3_phase_2 ?_
  refine K_iload_n dX3_phase_5 rfl ?_
  refine K_iconstN 0 dX3_phase_6 rfl ?_
  refine K_bipush (v := nI 13) dX3_phase_7 (by decide) ?_
  refine k_X3_demandRange (C_X3_demandRange (rOk_nat (by omega) (by omega))) (by decide) ml_X3_58 (Nat.le_of_ble_eq_true rfl) dX3_phase_9 ?_
  refine K_aload_n dX3_phase_12 rfl ?_
  refine g_X3_10 dX3_phase_13  ?_
  refine g_X3_65 dX3_phase_16 (by omega) ?_
  refine K_iload_n dX3_phase_19 rfl ?_
  refine ald7 dX3_phase_20 (by omega) (by omega) ?_
  refine K_astore_n dX3_phase_21 (by decide) rfl ?_
  refine K_iload_n dX3_phase_22 rfl ?_
  refine K_tableIn (tgt := 153) dX3_phase_23 (by decide) (by decide) rfl (by decide) ?_
  refine K_aload_n dX3_phase_153 rfl ?_
  refine g_X3_189 dX3_phase_154 (by omega) (by omega) ?_
  exact K_iret dX3_phase_157 ⟨by rfl, rfl⟩

set_option maxHeartbeats 4000000 in
set_option maxRecDepth 100000 in
theorem C_X3_phase11 {l : Launch} {G : WG} {μ : Mem}  {n : Nat} (hI : CI μ n) {p : Nat} (hp : p < n) : Ct l G 2 yX3_phase cX3_phase 4 (some .int) [.ref (adr G 0 0 0), .int (nI p), .int (nI 11)] (μ) (some (.int (cPhaseQ μ p 11))) (μ) := by
  refine Ct_of (by decide +kernel) (Nat.le_of_ble_eq_true rfl) ?_
  have hp6 := (Nat.lt_of_lt_of_le hp hI.2.1)
  refine K_aload_n dX3_phase_0 rfl ?_
  refine K_iload_n dX3_phase_1 rfl ?_
  refine k_X3_demandPhase (C_X3_demandPhase hI (cHas_nat hp hI.2.1)) (by decide)  ml_X3_51 (Nat.le_of_ble_eq_true rfl) dX3_phase_2 ?_
  refine K_iload_n dX3_phase_5 rfl ?_
  refine K_iconstN 0 dX3_phase_6 rfl ?_
  refine K_bipush (v := nI 13) dX3_phase_7 (by decide) ?_
  refine k_X3_demandRange (C_X3_demandRange (rOk_nat (by omega) (by omega))) (by decide) ml_X3_58 (Nat.le_of_ble_eq_true rfl) dX3_phase_9 ?_
  refine K_aload_n dX3_phase_12 rfl ?_
  refine g_X3_10 dX3_phase_13  ?_
  refine g_X3_65 dX3_phase_16 (by omega) ?_
  refine K_iload_n dX3_phase_19 rfl ?_
  refine ald7 dX3_phase_20 (by omega) (by omega) ?_
  refine K_astore_n dX3_phase_21 (by decide) rfl ?_
  refine K_iload_n dX3_phase_22 rfl ?_
  refine K_tableIn (tgt := 158) dX3_phase_23 (by decide) (by decide) rfl (by decide) ?_
  refine K_aload_n dX3_phase_158 rfl ?_
  refine k_X2_instalmentsPaidWhole (C_X2_instalmentsPaidWhole (by omega) (Nat.lt_of_lt_of_le hp hI.2.1) (hI.2.2 p (Nat.lt_of_lt_of_le hp hI.2.1)).1 (hI.2.2 p (Nat.lt_of_lt_of_le hp hI.2.1)).2) (by decide) (by omega) (by omega) ml_X3_192 (Nat.le_of_ble_eq_true rfl) dX3_phase_159 ?_
  exact K_iret dX3_phase_162 ⟨by rfl, rfl⟩

set_option maxHeartbeats 4000000 in
set_option maxRecDepth 100000 in
theorem C_X3_phase12 {l : Launch} {G : WG} {μ : Mem}  {n : Nat} (hI : CI μ n) {p : Nat} (hp : p < n) : Ct l G 2 yX3_phase cX3_phase 4 (some .int) [.ref (adr G 0 0 0), .int (nI p), .int (nI 12)] (μ) (some (.int (cPhaseQ μ p 12))) (μ) := by
  refine Ct_of (by decide +kernel) (Nat.le_of_ble_eq_true rfl) ?_
  have hp6 := (Nat.lt_of_lt_of_le hp hI.2.1)
  refine K_aload_n dX3_phase_0 rfl ?_
  refine K_iload_n dX3_phase_1 rfl ?_
  refine k_X3_demandPhase (C_X3_demandPhase hI (cHas_nat hp hI.2.1)) (by decide)  ml_X3_51 (Nat.le_of_ble_eq_true rfl) dX3_phase_2 ?_
  refine K_iload_n dX3_phase_5 rfl ?_
  refine K_iconstN 0 dX3_phase_6 rfl ?_
  refine K_bipush (v := nI 13) dX3_phase_7 (by decide) ?_
  refine k_X3_demandRange (C_X3_demandRange (rOk_nat (by omega) (by omega))) (by decide) ml_X3_58 (Nat.le_of_ble_eq_true rfl) dX3_phase_9 ?_
  refine K_aload_n dX3_phase_12 rfl ?_
  refine g_X3_10 dX3_phase_13  ?_
  refine g_X3_65 dX3_phase_16 (by omega) ?_
  refine K_iload_n dX3_phase_19 rfl ?_
  refine ald7 dX3_phase_20 (by omega) (by omega) ?_
  refine K_astore_n dX3_phase_21 (by decide) rfl ?_
  refine K_iload_n dX3_phase_22 rfl ?_
  refine K_tableIn (tgt := 163) dX3_phase_23 (by decide) (by decide) rfl (by decide) ?_
  refine K_aload_n dX3_phase_163 rfl ?_
  refine k_X2_areaOfAllUses (C_X2_areaOfAllUses (by omega) (by omega)) (by decide) (by omega) (by omega) ml_X3_195 (Nat.le_of_ble_eq_true rfl) dX3_phase_164 ?_
  exact K_iret dX3_phase_167 ⟨by rfl, rfl⟩

set_option maxHeartbeats 4000000 in
set_option maxRecDepth 100000 in
theorem C_X3_phase13 {l : Launch} {G : WG} {μ : Mem}  {n : Nat} (hI : CI μ n) {p : Nat} (hp : p < n) : Ct l G 2 yX3_phase cX3_phase 4 (some .int) [.ref (adr G 0 0 0), .int (nI p), .int (nI 13)] (μ) (some (.int (cPhaseQ μ p 13))) (μ) := by
  refine Ct_of (by decide +kernel) (Nat.le_of_ble_eq_true rfl) ?_
  have hp6 := (Nat.lt_of_lt_of_le hp hI.2.1)
  refine K_aload_n dX3_phase_0 rfl ?_
  refine K_iload_n dX3_phase_1 rfl ?_
  refine k_X3_demandPhase (C_X3_demandPhase hI (cHas_nat hp hI.2.1)) (by decide)  ml_X3_51 (Nat.le_of_ble_eq_true rfl) dX3_phase_2 ?_
  refine K_iload_n dX3_phase_5 rfl ?_
  refine K_iconstN 0 dX3_phase_6 rfl ?_
  refine K_bipush (v := nI 13) dX3_phase_7 (by decide) ?_
  refine k_X3_demandRange (C_X3_demandRange (rOk_nat (by omega) (by omega))) (by decide) ml_X3_58 (Nat.le_of_ble_eq_true rfl) dX3_phase_9 ?_
  refine K_aload_n dX3_phase_12 rfl ?_
  refine g_X3_10 dX3_phase_13  ?_
  refine g_X3_65 dX3_phase_16 (by omega) ?_
  refine K_iload_n dX3_phase_19 rfl ?_
  refine ald7 dX3_phase_20 (by omega) (by omega) ?_
  refine K_astore_n dX3_phase_21 (by decide) rfl ?_
  refine K_iload_n dX3_phase_22 rfl ?_
  refine K_tableOut (tgt := 168) dX3_phase_23 (by decide) (by decide) ?_
  refine K_aload_n dX3_phase_168 rfl ?_
  refine K_aload_n dX3_phase_169 rfl ?_
  refine g_X3_10 dX3_phase_170  ?_
  refine g_X3_94 dX3_phase_173 (by omega) ?_
  refine K_iconstN 3 dX3_phase_176 rfl ?_
  refine ald6 dX3_phase_177 (by omega) (by omega) ?_
  refine k_X2_roomForLand (C_X2_roomForLand (by omega) (by omega)) (by decide) (by omega) (by omega) ml_X3_198 (Nat.le_of_ble_eq_true rfl) dX3_phase_178 ?_
  exact K_iret dX3_phase_181 ⟨by rfl, rfl⟩

set_option maxHeartbeats 4000000 in
set_option maxRecDepth 100000 in
theorem C_X3_use0 {l : Launch} {G : WG} {μ : Mem}  {n : Nat} (hI : CI μ n) {p : Nat} (hp : p < n) {u : Nat} (hu : u < 4) : Ct l G 2 yX3_use cX3_use 5 (some .int) [.ref (adr G 0 0 0), .int (nI p), .int (nI u), .int (nI 0)] (μ) (some (.int (cUseQ μ p u 0))) (μ) := by
  refine Ct_of (by decide +kernel) (Nat.le_of_ble_eq_true rfl) ?_
  have hp6 := (Nat.lt_of_lt_of_le hp hI.2.1)
  refine K_aload_n dX3_use_0 rfl ?_
  refine K_iload_n dX3_use_1 rfl ?_
  refine k_X3_demandPhase (C_X3_demandPhase hI (cHas_nat hp hI.2.1)) (by decide)  ml_X3_51 (Nat.le_of_ble_eq_true rfl) dX3_use_2 ?_
  refine K_iload_n dX3_use_5 rfl ?_
  refine k_X3_demandUse (C_X3_demandUse (uOk_nat hu)) (by decide) ml_X3_55 (Nat.le_of_ble_eq_true rfl) dX3_use_6 ?_
  refine K_iload_n dX3_use_9 rfl ?_
  refine K_iconstN 0 dX3_use_10 rfl ?_
  refine K_iconstN 4 dX3_use_11 rfl ?_
  refine k_X3_demandRange (C_X3_demandRange (rOk_nat (by omega) (by omega))) (by decide) ml_X3_58 (Nat.le_of_ble_eq_true rfl) dX3_use_12 ?_
  refine K_aload_n dX3_use_15 rfl ?_
  refine g_X3_10 dX3_use_16  ?_
  refine g_X3_65 dX3_use_19 (by omega) ?_
  refine K_iload_n dX3_use_22 rfl ?_
  refine ald7 dX3_use_23 (by omega) (by omega) ?_
  refine K_astore dX3_use_24 (by decide) rfl ?_
  refine K_iload_n dX3_use_26 rfl ?_
  refine K_tableIn (tgt := 56) dX3_use_27 (by decide) (by decide) rfl (by decide) ?_
  refine K_aload dX3_use_56 rfl ?_
  refine g_X3_75 dX3_use_58 (by omega) (by omega) ?_
  refine K_iload_n dX3_use_61 rfl ?_
  refine ald9 dX3_use_62 (by omega) (by omega) (by omega) ?_
  exact K_iret dX3_use_63 ⟨by rfl, rfl⟩

set_option maxHeartbeats 4000000 in
set_option maxRecDepth 100000 in
theorem C_X3_whyNot0 {l : Launch} {G : WG} {μ : Mem}  {n : Nat} (hI : CI μ n) {p : Nat} (hp : p < n) {u : Nat} (hu : u < 4) : Ct l G 2 yX3_whyNot cX3_whyNot 4 (some .int) [.ref (adr G 0 0 0), .int (nI 0), .int (nI p), .int (nI u)] (μ) (some (.int (cWhy μ 0 p u 0))) (μ) := by
  refine Ct_of (by decide +kernel) (Nat.le_of_ble_eq_true rfl) ?_
  have hp6 := (Nat.lt_of_lt_of_le hp hI.2.1)
  refine K_aload_n dX3_whyNot_0 rfl ?_
  refine K_iload_n dX3_whyNot_1 rfl ?_
  refine k_X3_demandPhase (C_X3_demandPhase hI (cHas_nat hp hI.2.1)) (by decide)  ml_X3_51 (Nat.le_of_ble_eq_true rfl) dX3_whyNot_2 ?_
  refine K_iload_n dX3_whyNot_5 rfl ?_
  refine k_X3_demandUse (C_X3_demandUse (uOk_nat hu)) (by decide) ml_X3_55 (Nat.le_of_ble_eq_true rfl) dX3_whyNot_6 ?_
  refine K_iload_n dX3_whyNot_9 rfl ?_
  refine K_iconstN 0 dX3_whyNot_10 rfl ?_
  refine K_iconstN 4 dX3_whyNot_11 rfl ?_
  refine k_X3_demandRange (C_X3_demandRange (rOk_nat (by omega) (by omega))) (by decide) ml_X3_58 (Nat.le_of_ble_eq_true rfl) dX3_whyNot_12 ?_
  refine K_aload_n dX3_whyNot_15 rfl ?_
  refine g_X3_10 dX3_whyNot_16  ?_
  refine K_iload_n dX3_whyNot_19 rfl ?_
  refine K_iload_n dX3_whyNot_20 rfl ?_
  refine K_iload_n dX3_whyNot_21 rfl ?_
  refine k_X0_reasonAgainst (C_X0_reason0 (by omega) (by omega)) (by decide) (by omega) ml_X3_226 (Nat.le_of_ble_eq_true rfl) dX3_whyNot_22 ?_
  exact K_iret dX3_whyNot_25 ⟨by rfl, rfl⟩

set_option maxHeartbeats 4000000 in
set_option maxRecDepth 100000 in
theorem C_X3_use1 {l : Launch} {G : WG} {μ : Mem}  {n : Nat} (hI : CI μ n) {p : Nat} (hp : p < n) {u : Nat} (hu : u < 4) : Ct l G 2 yX3_use cX3_use 5 (some .int) [.ref (adr G 0 0 0), .int (nI p), .int (nI u), .int (nI 1)] (μ) (some (.int (cUseQ μ p u 1))) (μ) := by
  refine Ct_of (by decide +kernel) (Nat.le_of_ble_eq_true rfl) ?_
  have hp6 := (Nat.lt_of_lt_of_le hp hI.2.1)
  refine K_aload_n dX3_use_0 rfl ?_
  refine K_iload_n dX3_use_1 rfl ?_
  refine k_X3_demandPhase (C_X3_demandPhase hI (cHas_nat hp hI.2.1)) (by decide)  ml_X3_51 (Nat.le_of_ble_eq_true rfl) dX3_use_2 ?_
  refine K_iload_n dX3_use_5 rfl ?_
  refine k_X3_demandUse (C_X3_demandUse (uOk_nat hu)) (by decide) ml_X3_55 (Nat.le_of_ble_eq_true rfl) dX3_use_6 ?_
  refine K_iload_n dX3_use_9 rfl ?_
  refine K_iconstN 0 dX3_use_10 rfl ?_
  refine K_iconstN 4 dX3_use_11 rfl ?_
  refine k_X3_demandRange (C_X3_demandRange (rOk_nat (by omega) (by omega))) (by decide) ml_X3_58 (Nat.le_of_ble_eq_true rfl) dX3_use_12 ?_
  refine K_aload_n dX3_use_15 rfl ?_
  refine g_X3_10 dX3_use_16  ?_
  refine g_X3_65 dX3_use_19 (by omega) ?_
  refine K_iload_n dX3_use_22 rfl ?_
  refine ald7 dX3_use_23 (by omega) (by omega) ?_
  refine K_astore dX3_use_24 (by decide) rfl ?_
  refine K_iload_n dX3_use_26 rfl ?_
  refine K_tableIn (tgt := 64) dX3_use_27 (by decide) (by decide) rfl (by decide) ?_
  refine K_aload dX3_use_64 rfl ?_
  refine g_X3_201 dX3_use_66 (by omega) (by omega) ?_
  refine K_iload_n dX3_use_69 rfl ?_
  refine ald10 dX3_use_70 (by omega) (by omega) (by omega) ?_
  exact K_iret dX3_use_71 ⟨by rfl, rfl⟩

set_option maxHeartbeats 4000000 in
set_option maxRecDepth 100000 in
theorem C_X3_whyNot1 {l : Launch} {G : WG} {μ : Mem}  {n : Nat} (hI : CI μ n) {p : Nat} (hp : p < n) {u : Nat} (hu : u < 4) : Ct l G 2 yX3_whyNot cX3_whyNot 4 (some .int) [.ref (adr G 0 0 0), .int (nI 1), .int (nI p), .int (nI u)] (μ) (some (.int (cWhy μ 0 p u 1))) (μ) := by
  refine Ct_of (by decide +kernel) (Nat.le_of_ble_eq_true rfl) ?_
  have hp6 := (Nat.lt_of_lt_of_le hp hI.2.1)
  refine K_aload_n dX3_whyNot_0 rfl ?_
  refine K_iload_n dX3_whyNot_1 rfl ?_
  refine k_X3_demandPhase (C_X3_demandPhase hI (cHas_nat hp hI.2.1)) (by decide)  ml_X3_51 (Nat.le_of_ble_eq_true rfl) dX3_whyNot_2 ?_
  refine K_iload_n dX3_whyNot_5 rfl ?_
  refine k_X3_demandUse (C_X3_demandUse (uOk_nat hu)) (by decide) ml_X3_55 (Nat.le_of_ble_eq_true rfl) dX3_whyNot_6 ?_
  refine K_iload_n dX3_whyNot_9 rfl ?_
  refine K_iconstN 0 dX3_whyNot_10 rfl ?_
  refine K_iconstN 4 dX3_whyNot_11 rfl ?_
  refine k_X3_demandRange (C_X3_demandRange (rOk_nat (by omega) (by omega))) (by decide) ml_X3_58 (Nat.le_of_ble_eq_true rfl) dX3_whyNot_12 ?_
  refine K_aload_n dX3_whyNot_15 rfl ?_
  refine g_X3_10 dX3_whyNot_16  ?_
  refine K_iload_n dX3_whyNot_19 rfl ?_
  refine K_iload_n dX3_whyNot_20 rfl ?_
  refine K_iload_n dX3_whyNot_21 rfl ?_
  refine k_X0_reasonAgainst (C_X0_reason1 (by omega) (by omega)) (by decide) (by omega) ml_X3_226 (Nat.le_of_ble_eq_true rfl) dX3_whyNot_22 ?_
  exact K_iret dX3_whyNot_25 ⟨by rfl, rfl⟩

set_option maxHeartbeats 4000000 in
set_option maxRecDepth 100000 in
theorem C_X3_use2 {l : Launch} {G : WG} {μ : Mem}  {n : Nat} (hI : CI μ n) {p : Nat} (hp : p < n) {u : Nat} (hu : u < 4) : Ct l G 2 yX3_use cX3_use 5 (some .int) [.ref (adr G 0 0 0), .int (nI p), .int (nI u), .int (nI 2)] (μ) (some (.int (cUseQ μ p u 2))) (μ) := by
  refine Ct_of (by decide +kernel) (Nat.le_of_ble_eq_true rfl) ?_
  have hp6 := (Nat.lt_of_lt_of_le hp hI.2.1)
  refine K_aload_n dX3_use_0 rfl ?_
  refine K_iload_n dX3_use_1 rfl ?_
  refine k_X3_demandPhase (C_X3_demandPhase hI (cHas_nat hp hI.2.1)) (by decide)  ml_X3_51 (Nat.le_of_ble_eq_true rfl) dX3_use_2 ?_
  refine K_iload_n dX3_use_5 rfl ?_
  refine k_X3_demandUse (C_X3_demandUse (uOk_nat hu)) (by decide) ml_X3_55 (Nat.le_of_ble_eq_true rfl) dX3_use_6 ?_
  refine K_iload_n dX3_use_9 rfl ?_
  refine K_iconstN 0 dX3_use_10 rfl ?_
  refine K_iconstN 4 dX3_use_11 rfl ?_
  refine k_X3_demandRange (C_X3_demandRange (rOk_nat (by omega) (by omega))) (by decide) ml_X3_58 (Nat.le_of_ble_eq_true rfl) dX3_use_12 ?_
  refine K_aload_n dX3_use_15 rfl ?_
  refine g_X3_10 dX3_use_16  ?_
  refine g_X3_65 dX3_use_19 (by omega) ?_
  refine K_iload_n dX3_use_22 rfl ?_
  refine ald7 dX3_use_23 (by omega) (by omega) ?_
  refine K_astore dX3_use_24 (by decide) rfl ?_
  refine K_iload_n dX3_use_26 rfl ?_
  refine K_tableIn (tgt := 72) dX3_use_27 (by decide) (by decide) rfl (by decide) ?_
  refine K_aload dX3_use_72 rfl ?_
  refine g_X3_204 dX3_use_74 (by omega) (by omega) ?_
  refine K_iload_n dX3_use_77 rfl ?_
  refine ald11 dX3_use_78 (by omega) (by omega) (by omega) ?_
  exact K_iret dX3_use_79 ⟨by rfl, rfl⟩

set_option maxHeartbeats 4000000 in
set_option maxRecDepth 100000 in
theorem C_X3_whyNot2 {l : Launch} {G : WG} {μ : Mem}  {n : Nat} (hI : CI μ n) {p : Nat} (hp : p < n) {u : Nat} (hu : u < 4) : Ct l G 3 yX3_whyNot cX3_whyNot 4 (some .int) [.ref (adr G 0 0 0), .int (nI 2), .int (nI p), .int (nI u)] (μ) (some (.int (cWhy μ 0 p u 2))) (μ) := by
  refine Ct_of (by decide +kernel) (Nat.le_of_ble_eq_true rfl) ?_
  have hp6 := (Nat.lt_of_lt_of_le hp hI.2.1)
  refine K_aload_n dX3_whyNot_0 rfl ?_
  refine K_iload_n dX3_whyNot_1 rfl ?_
  refine k_X3_demandPhase (C_X3_demandPhase hI (cHas_nat hp hI.2.1)) (by decide)  ml_X3_51 (Nat.le_of_ble_eq_true rfl) dX3_whyNot_2 ?_
  refine K_iload_n dX3_whyNot_5 rfl ?_
  refine k_X3_demandUse (C_X3_demandUse (uOk_nat hu)) (by decide) ml_X3_55 (Nat.le_of_ble_eq_true rfl) dX3_whyNot_6 ?_
  refine K_iload_n dX3_whyNot_9 rfl ?_
  refine K_iconstN 0 dX3_whyNot_10 rfl ?_
  refine K_iconstN 4 dX3_whyNot_11 rfl ?_
  refine k_X3_demandRange (C_X3_demandRange (rOk_nat (by omega) (by omega))) (by decide) ml_X3_58 (Nat.le_of_ble_eq_true rfl) dX3_whyNot_12 ?_
  refine K_aload_n dX3_whyNot_15 rfl ?_
  refine g_X3_10 dX3_whyNot_16  ?_
  refine K_iload_n dX3_whyNot_19 rfl ?_
  refine K_iload_n dX3_whyNot_20 rfl ?_
  refine K_iload_n dX3_whyNot_21 rfl ?_
  refine k_X0_reasonAgainst (C_X0_reason2 (by omega) (by omega)) (by decide) (by omega) ml_X3_226 (Nat.le_of_ble_eq_true rfl) dX3_whyNot_22 ?_
  exact K_iret dX3_whyNot_25 ⟨by rfl, rfl⟩

set_option maxHeartbeats 4000000 in
set_option maxRecDepth 100000 in
theorem C_X3_use3 {l : Launch} {G : WG} {μ : Mem}  {n : Nat} (hI : CI μ n) {p : Nat} (hp : p < n) {u : Nat} (hu : u < 4) : Ct l G 2 yX3_use cX3_use 5 (some .int) [.ref (adr G 0 0 0), .int (nI p), .int (nI u), .int (nI 3)] (μ) (some (.int (cUseQ μ p u 3))) (μ) := by
  refine Ct_of (by decide +kernel) (Nat.le_of_ble_eq_true rfl) ?_
  have hp6 := (Nat.lt_of_lt_of_le hp hI.2.1)
  refine K_aload_n dX3_use_0 rfl ?_
  refine K_iload_n dX3_use_1 rfl ?_
  refine k_X3_demandPhase (C_X3_demandPhase hI (cHas_nat hp hI.2.1)) (by decide)  ml_X3_51 (Nat.le_of_ble_eq_true rfl) dX3_use_2 ?_
  refine K_iload_n dX3_use_5 rfl ?_
  refine k_X3_demandUse (C_X3_demandUse (uOk_nat hu)) (by decide) ml_X3_55 (Nat.le_of_ble_eq_true rfl) dX3_use_6 ?_
  refine K_iload_n dX3_use_9 rfl ?_
  refine K_iconstN 0 dX3_use_10 rfl ?_
  refine K_iconstN 4 dX3_use_11 rfl ?_
  refine k_X3_demandRange (C_X3_demandRange (rOk_nat (by omega) (by omega))) (by decide) ml_X3_58 (Nat.le_of_ble_eq_true rfl) dX3_use_12 ?_
  refine K_aload_n dX3_use_15 rfl ?_
  refine g_X3_10 dX3_use_16  ?_
  refine g_X3_65 dX3_use_19 (by omega) ?_
  refine K_iload_n dX3_use_22 rfl ?_
  refine ald7 dX3_use_23 (by omega) (by omega) ?_
  refine K_astore dX3_use_24 (by decide) rfl ?_
  refine K_iload_n dX3_use_26 rfl ?_
  refine K_tableIn (tgt := 80) dX3_use_27 (by decide) (by decide) rfl (by decide) ?_
  refine K_aload dX3_use_80 rfl ?_
  refine K_iload_n dX3_use_82 rfl ?_
  refine k_X2_chargeOfUse (C_X2_chargeOfUse (by omega) (by omega) (by omega)) (by decide) (by omega) (by omega) ml_X3_207 (Nat.le_of_ble_eq_true rfl) dX3_use_83 ?_
  exact K_iret dX3_use_86 ⟨by rfl, rfl⟩

set_option maxHeartbeats 4000000 in
set_option maxRecDepth 100000 in
theorem C_X3_whyNot3 {l : Launch} {G : WG} {μ : Mem}  {n : Nat} (hI : CI μ n) {p : Nat} (hp : p < n) {u : Nat} (hu : u < 4) : Ct l G 3 yX3_whyNot cX3_whyNot 4 (some .int) [.ref (adr G 0 0 0), .int (nI 3), .int (nI p), .int (nI u)] (μ) (some (.int (cWhy μ 0 p u 3))) (μ) := by
  refine Ct_of (by decide +kernel) (Nat.le_of_ble_eq_true rfl) ?_
  have hp6 := (Nat.lt_of_lt_of_le hp hI.2.1)
  refine K_aload_n dX3_whyNot_0 rfl ?_
  refine K_iload_n dX3_whyNot_1 rfl ?_
  refine k_X3_demandPhase (C_X3_demandPhase hI (cHas_nat hp hI.2.1)) (by decide)  ml_X3_51 (Nat.le_of_ble_eq_true rfl) dX3_whyNot_2 ?_
  refine K_iload_n dX3_whyNot_5 rfl ?_
  refine k_X3_demandUse (C_X3_demandUse (uOk_nat hu)) (by decide) ml_X3_55 (Nat.le_of_ble_eq_true rfl) dX3_whyNot_6 ?_
  refine K_iload_n dX3_whyNot_9 rfl ?_
  refine K_iconstN 0 dX3_whyNot_10 rfl ?_
  refine K_iconstN 4 dX3_whyNot_11 rfl ?_
  refine k_X3_demandRange (C_X3_demandRange (rOk_nat (by omega) (by omega))) (by decide) ml_X3_58 (Nat.le_of_ble_eq_true rfl) dX3_whyNot_12 ?_
  refine K_aload_n dX3_whyNot_15 rfl ?_
  refine g_X3_10 dX3_whyNot_16  ?_
  refine K_iload_n dX3_whyNot_19 rfl ?_
  refine K_iload_n dX3_whyNot_20 rfl ?_
  refine K_iload_n dX3_whyNot_21 rfl ?_
  refine k_X0_reasonAgainst (C_X0_reason3 (by omega) (by omega)) (by decide) (by omega) ml_X3_226 (Nat.le_of_ble_eq_true rfl) dX3_whyNot_22 ?_
  exact K_iret dX3_whyNot_25 ⟨by rfl, rfl⟩

set_option maxHeartbeats 4000000 in
set_option maxRecDepth 100000 in
theorem C_X3_use4 {l : Launch} {G : WG} {μ : Mem}  {n : Nat} (hI : CI μ n) {p : Nat} (hp : p < n) {u : Nat} (hu : u < 4) : Ct l G 2 yX3_use cX3_use 5 (some .int) [.ref (adr G 0 0 0), .int (nI p), .int (nI u), .int (nI 4)] (μ) (some (.int (cUseQ μ p u 4))) (μ) := by
  refine Ct_of (by decide +kernel) (Nat.le_of_ble_eq_true rfl) ?_
  have hp6 := (Nat.lt_of_lt_of_le hp hI.2.1)
  refine K_aload_n dX3_use_0 rfl ?_
  refine K_iload_n dX3_use_1 rfl ?_
  refine k_X3_demandPhase (C_X3_demandPhase hI (cHas_nat hp hI.2.1)) (by decide)  ml_X3_51 (Nat.le_of_ble_eq_true rfl) dX3_use_2 ?_
  refine K_iload_n dX3_use_5 rfl ?_
  refine k_X3_demandUse (C_X3_demandUse (uOk_nat hu)) (by decide) ml_X3_55 (Nat.le_of_ble_eq_true rfl) dX3_use_6 ?_
  refine K_iload_n dX3_use_9 rfl ?_
  refine K_iconstN 0 dX3_use_10 rfl ?_
  refine K_iconstN 4 dX3_use_11 rfl ?_
  refine k_X3_demandRange (C_X3_demandRange (rOk_nat (by omega) (by omega))) (by decide) ml_X3_58 (Nat.le_of_ble_eq_true rfl) dX3_use_12 ?_
  refine K_aload_n dX3_use_15 rfl ?_
  refine g_X3_10 dX3_use_16  ?_
  refine g_X3_65 dX3_use_19 (by omega) ?_
  refine K_iload_n dX3_use_22 rfl ?_
  refine ald7 dX3_use_23 (by omega) (by omega) ?_
  refine K_astore dX3_use_24 (by decide) rfl ?_
  refine K_iload_n dX3_use_26 rfl ?_
  refine K_tableOut (tgt := 87) dX3_use_27 (by decide) (by decide) ?_
  refine K_aload dX3_use_87 rfl ?_
  refine K_iload_n dX3_use_89 rfl ?_
  refine k_X2_reliefOfUse (C_X2_reliefOfUse (by omega) (by omega) (by omega)) (by decide) (by omega) (by omega) ml_X3_210 (Nat.le_of_ble_eq_true rfl) dX3_use_90 ?_
  exact K_iret dX3_use_93 ⟨by rfl, rfl⟩

set_option maxHeartbeats 4000000 in
set_option maxRecDepth 100000 in
theorem C_X3_whyNot4 {l : Launch} {G : WG} {μ : Mem}  {n : Nat} (hI : CI μ n) {p : Nat} (hp : p < n) {u : Nat} (hu : u < 4) : Ct l G 2 yX3_whyNot cX3_whyNot 4 (some .int) [.ref (adr G 0 0 0), .int (nI 4), .int (nI p), .int (nI u)] (μ) (some (.int (cWhy μ 0 p u 4))) (μ) := by
  refine Ct_of (by decide +kernel) (Nat.le_of_ble_eq_true rfl) ?_
  have hp6 := (Nat.lt_of_lt_of_le hp hI.2.1)
  refine K_aload_n dX3_whyNot_0 rfl ?_
  refine K_iload_n dX3_whyNot_1 rfl ?_
  refine k_X3_demandPhase (C_X3_demandPhase hI (cHas_nat hp hI.2.1)) (by decide)  ml_X3_51 (Nat.le_of_ble_eq_true rfl) dX3_whyNot_2 ?_
  refine K_iload_n dX3_whyNot_5 rfl ?_
  refine k_X3_demandUse (C_X3_demandUse (uOk_nat hu)) (by decide) ml_X3_55 (Nat.le_of_ble_eq_true rfl) dX3_whyNot_6 ?_
  refine K_iload_n dX3_whyNot_9 rfl ?_
  refine K_iconstN 0 dX3_whyNot_10 rfl ?_
  refine K_iconstN 4 dX3_whyNot_11 rfl ?_
  refine k_X3_demandRange (C_X3_demandRange (rOk_nat (by omega) (by omega))) (by decide) ml_X3_58 (Nat.le_of_ble_eq_true rfl) dX3_whyNot_12 ?_
  refine K_aload_n dX3_whyNot_15 rfl ?_
  refine g_X3_10 dX3_whyNot_16  ?_
  refine K_iload_n dX3_whyNot_19 rfl ?_
  refine K_iload_n dX3_whyNot_20 rfl ?_
  refine K_iload_n dX3_whyNot_21 rfl ?_
  refine k_X0_reasonAgainst (C_X0_reason4 (by omega) (by omega) (by omega)) (by decide) (by omega) ml_X3_226 (Nat.le_of_ble_eq_true rfl) dX3_whyNot_22 ?_
  exact K_iret dX3_whyNot_25 ⟨by rfl, rfl⟩

set_option maxHeartbeats 4000000 in
set_option maxRecDepth 100000 in
theorem C_X3_instalment0 {l : Launch} {G : WG} {μ : Mem}  {n : Nat} (hI : CI μ n) {p : Nat} (hp : p < n) {k : Nat} (hk : k < 4) : Ct l G 2 yX3_instalment cX3_instalment 5 (some .int) [.ref (adr G 0 0 0), .int (nI p), .int (nI k), .int (nI 0)] (μ) (some (.int (cInstQ μ p k 0))) (μ) := by
  refine Ct_of (by decide +kernel) (Nat.le_of_ble_eq_true rfl) ?_
  have hp6 := (Nat.lt_of_lt_of_le hp hI.2.1)
  have hW := (hI.2.2 p (Nat.lt_of_lt_of_le hp hI.2.1))
  refine K_aload_n dX3_instalment_0 rfl ?_
  refine K_iload_n dX3_instalment_1 rfl ?_
  refine k_X3_demandPhase (C_X3_demandPhase hI (cHas_nat hp hI.2.1)) (by decide)  ml_X3_51 (Nat.le_of_ble_eq_true rfl) dX3_instalment_2 ?_
  refine K_iload_n dX3_instalment_5 rfl ?_
  refine K_iconstN 0 dX3_instalment_6 rfl ?_
  refine K_iconstN 3 dX3_instalment_7 rfl ?_
  refine k_X3_demandRange (C_X3_demandRange (rOk_nat (b := 3) (by omega) (by omega))) (by decide) ml_X3_58 (Nat.le_of_ble_eq_true rfl) dX3_instalment_8 ?_
  refine K_iload_n dX3_instalment_11 rfl ?_
  refine K_iconstN 0 dX3_instalment_12 rfl ?_
  refine K_iconstN 2 dX3_instalment_13 rfl ?_
  refine k_X3_demandRange (C_X3_demandRange (rOk_nat (by omega) (by omega))) (by decide) ml_X3_58 (Nat.le_of_ble_eq_true rfl) dX3_instalment_14 ?_
  refine K_aload_n dX3_instalment_17 rfl ?_
  refine g_X3_10 dX3_instalment_18  ?_
  refine g_X3_65 dX3_instalment_21 (by omega) ?_
  refine K_iload_n dX3_instalment_24 rfl ?_
  refine ald7 dX3_instalment_25 (by omega) (by omega) ?_
  refine K_astore dX3_instalment_26 (by decide) rfl ?_
  refine K_iload_n dX3_instalment_28 rfl ?_
  refine K_aload dX3_instalment_29 rfl ?_
  refine g_X3_189 dX3_instalment_31 (by omega) (by omega) ?_
  refine K_top hW.1 ?_
  refine K_icmpN_lt (by omega) (by omega) (tgt := 39) dX3_instalment_34 (by decide) (fun c34 => ?_) (fun c34 => ?_)
  · skip
    refine K_iload_n dX3_instalment_39 rfl ?_
    refine K_lookup (tgt := 68) dX3_instalment_40 (by decide) rfl (by decide) ?_
    refine K_aload dX3_instalment_68 rfl ?_
    refine g_X3_213 dX3_instalment_70 (by omega) (by omega) ?_
    refine K_iload_n dX3_instalment_73 rfl ?_
    refine ald13 dX3_instalment_74 (by omega) (by omega) (by omega) ?_
    exact K_iret dX3_instalment_75 ⟨by first | (simp only [cInstQ, show decide (k < insN μ 0 p) = true from decide_eq_true c34, cond_true]; done) | (simp only [cInstQ, show decide (k < insN μ 0 p) = false from decide_eq_false (Nat.not_lt.mpr c34), cond_false]; done), rfl⟩
  · skip
    refine K_iconst (v := -1) dX3_instalment_37 (by decide) ?_
    exact K_iret dX3_instalment_38 ⟨by first | (simp only [cInstQ, show decide (k < insN μ 0 p) = true from decide_eq_true c34, cond_true]; done) | (simp only [cInstQ, show decide (k < insN μ 0 p) = false from decide_eq_false (Nat.not_lt.mpr c34), cond_false]; done), rfl⟩

set_option maxHeartbeats 4000000 in
set_option maxRecDepth 100000 in
theorem C_X3_ifBegun0 {l : Launch} {G : WG} {μ : Mem}  {n : Nat} (hI : CI μ n) {p : Nat} (hp : p < n) : Ct l G 2 yX3_ifBegun cX3_ifBegun 5 (some .int) [.ref (adr G 0 0 0), .int (nI p), .int (nI 0)] (μ) (some (.int (cIfQ μ p 0))) (μ) := by
  refine Ct_of (by decide +kernel) (Nat.le_of_ble_eq_true rfl) ?_
  have hp6 := (Nat.lt_of_lt_of_le hp hI.2.1)
  obtain ⟨hn1, hn4⟩ := partsN_le (cSum μ 0 p)
  refine K_aload_n dX3_ifBegun_0 rfl ?_
  refine K_iload_n dX3_ifBegun_1 rfl ?_
  refine k_X3_demandPhase (C_X3_demandPhase hI (cHas_nat hp hI.2.1)) (by decide)  ml_X3_51 (Nat.le_of_ble_eq_true rfl) dX3_ifBegun_2 ?_
  refine K_iload_n dX3_ifBegun_5 rfl ?_
  refine K_iconstN 0 dX3_ifBegun_6 rfl ?_
  refine K_iconstN 2 dX3_ifBegun_7 rfl ?_
  refine k_X3_demandRange (C_X3_demandRange (rOk_nat (by omega) (by omega))) (by decide) ml_X3_58 (Nat.le_of_ble_eq_true rfl) dX3_ifBegun_8 ?_
  refine K_aload_n dX3_ifBegun_11 rfl ?_
  refine g_X3_10 dX3_ifBegun_12  ?_
  refine K_iconstN 1 dX3_ifBegun_15 rfl ?_
  refine K_iload_n dX3_ifBegun_16 rfl ?_
  refine K_iconstN 0 dX3_ifBegun_17 rfl ?_
  refine k_X0_reasonAgainst (C_X0_reason1 (by omega) (by omega)) (by decide) (by omega) ml_X3_226 (Nat.le_of_ble_eq_true rfl) dX3_ifBegun_18 ?_
  refine K_if_eq (tgt := 26) dX3_ifBegun_21 (by decide) (fun c21 => ?_) (fun c21 => ?_)
  · skip
    refine K_aload_n dX3_ifBegun_26 rfl ?_
    refine g_X3_10 dX3_ifBegun_27  ?_
    refine g_X3_65 dX3_ifBegun_30 (by omega) ?_
    refine K_iload_n dX3_ifBegun_33 rfl ?_
    refine ald7 dX3_ifBegun_34 (by omega) (by omega) ?_
    refine k_X2_charge (C_X2_charge (by omega) (by omega)) (by decide) (by omega) (by omega) ml_X3_158 (Nat.le_of_ble_eq_true rfl) dX3_ifBegun_35 ?_
    refine K_aload_n dX3_ifBegun_38 rfl ?_
    refine g_X3_10 dX3_ifBegun_39  ?_
    refine g_X3_65 dX3_ifBegun_42 (by omega) ?_
    refine K_iload_n dX3_ifBegun_45 rfl ?_
    refine ald7 dX3_ifBegun_46 (by omega) (by omega) ?_
    refine k_X2_relief (C_X2_relief (by omega) (by omega)) (by decide) (by omega) (by omega) ml_X3_161 (Nat.le_of_ble_eq_true rfl) dX3_ifBegun_47 ?_
    refine K_isub dX3_ifBegun_50 ?_
    refine K_top (show _ = cSum μ 0 p from rfl) ?_
    refine K_istore_n dX3_ifBegun_51 (by decide) rfl ?_
    refine K_iload_n dX3_ifBegun_52 rfl ?_
    refine k_X3_instalmentsFor (C_X3_instalmentsFor ) (by decide) ml_X3_230 (Nat.le_of_ble_eq_true rfl) dX3_ifBegun_53 ?_
    refine K_istore dX3_ifBegun_56 (by decide) rfl ?_
    refine K_iload_n dX3_ifBegun_58 rfl ?_
    refine K_lookup (tgt := 84) dX3_ifBegun_59 (by decide) rfl (by decide) ?_
    refine K_iload_n dX3_ifBegun_84 rfl ?_
    exact K_iret dX3_ifBegun_85 ⟨by simp only [cIfQ, c21, decide_true, decide_false, cond_true, cond_false], rfl⟩
  · skip
    refine K_iconst (v := -1) dX3_ifBegun_24 (by decide) ?_
    exact K_iret dX3_ifBegun_25 ⟨by simp only [cIfQ, c21, decide_true, decide_false, cond_true, cond_false], rfl⟩

set_option maxHeartbeats 4000000 in
set_option maxRecDepth 100000 in
theorem C_X3_instalment1 {l : Launch} {G : WG} {μ : Mem}  {n : Nat} (hI : CI μ n) {p : Nat} (hp : p < n) {k : Nat} (hk : k < 4) : Ct l G 2 yX3_instalment cX3_instalment 5 (some .int) [.ref (adr G 0 0 0), .int (nI p), .int (nI k), .int (nI 1)] (μ) (some (.int (cInstQ μ p k 1))) (μ) := by
  refine Ct_of (by decide +kernel) (Nat.le_of_ble_eq_true rfl) ?_
  have hp6 := (Nat.lt_of_lt_of_le hp hI.2.1)
  have hW := (hI.2.2 p (Nat.lt_of_lt_of_le hp hI.2.1))
  refine K_aload_n dX3_instalment_0 rfl ?_
  refine K_iload_n dX3_instalment_1 rfl ?_
  refine k_X3_demandPhase (C_X3_demandPhase hI (cHas_nat hp hI.2.1)) (by decide)  ml_X3_51 (Nat.le_of_ble_eq_true rfl) dX3_instalment_2 ?_
  refine K_iload_n dX3_instalment_5 rfl ?_
  refine K_iconstN 0 dX3_instalment_6 rfl ?_
  refine K_iconstN 3 dX3_instalment_7 rfl ?_
  refine k_X3_demandRange (C_X3_demandRange (rOk_nat (b := 3) (by omega) (by omega))) (by decide) ml_X3_58 (Nat.le_of_ble_eq_true rfl) dX3_instalment_8 ?_
  refine K_iload_n dX3_instalment_11 rfl ?_
  refine K_iconstN 0 dX3_instalment_12 rfl ?_
  refine K_iconstN 2 dX3_instalment_13 rfl ?_
  refine k_X3_demandRange (C_X3_demandRange (rOk_nat (by omega) (by omega))) (by decide) ml_X3_58 (Nat.le_of_ble_eq_true rfl) dX3_instalment_14 ?_
  refine K_aload_n dX3_instalment_17 rfl ?_
  refine g_X3_10 dX3_instalment_18  ?_
  refine g_X3_65 dX3_instalment_21 (by omega) ?_
  refine K_iload_n dX3_instalment_24 rfl ?_
  refine ald7 dX3_instalment_25 (by omega) (by omega) ?_
  refine K_astore dX3_instalment_26 (by decide) rfl ?_
  refine K_iload_n dX3_instalment_28 rfl ?_
  refine K_aload dX3_instalment_29 rfl ?_
  refine g_X3_189 dX3_instalment_31 (by omega) (by omega) ?_
  refine K_top hW.1 ?_
  refine K_icmpN_lt (by omega) (by omega) (tgt := 39) dX3_instalment_34 (by decide) (fun c34 => ?_) (fun c34 => ?_)
  · skip
    refine K_iload_n dX3_instalment_39 rfl ?_
    refine K_lookup (tgt := 76) dX3_instalment_40 (by decide) rfl (by decide) ?_
    refine K_aload dX3_instalment_76 rfl ?_
    refine g_X3_216 dX3_instalment_78 (by omega) (by omega) ?_
    refine K_iload_n dX3_instalment_81 rfl ?_
    refine ald14 dX3_instalment_82 (by omega) (by omega) (by omega) ?_
    exact K_iret dX3_instalment_83 ⟨by first | (simp only [cInstQ, show decide (k < insN μ 0 p) = true from decide_eq_true c34, cond_true]; done) | (simp only [cInstQ, show decide (k < insN μ 0 p) = false from decide_eq_false (Nat.not_lt.mpr c34), cond_false]; done), rfl⟩
  · skip
    refine K_iconst (v := -1) dX3_instalment_37 (by decide) ?_
    exact K_iret dX3_instalment_38 ⟨by first | (simp only [cInstQ, show decide (k < insN μ 0 p) = true from decide_eq_true c34, cond_true]; done) | (simp only [cInstQ, show decide (k < insN μ 0 p) = false from decide_eq_false (Nat.not_lt.mpr c34), cond_false]; done), rfl⟩

set_option maxHeartbeats 4000000 in
set_option maxRecDepth 100000 in
theorem C_X3_ifBegun1 {l : Launch} {G : WG} {μ : Mem}  {n : Nat} (hI : CI μ n) {p : Nat} (hp : p < n) : Ct l G 2 yX3_ifBegun cX3_ifBegun 5 (some .int) [.ref (adr G 0 0 0), .int (nI p), .int (nI 1)] (μ) (some (.int (cIfQ μ p 1))) (μ) := by
  refine Ct_of (by decide +kernel) (Nat.le_of_ble_eq_true rfl) ?_
  have hp6 := (Nat.lt_of_lt_of_le hp hI.2.1)
  obtain ⟨hn1, hn4⟩ := partsN_le (cSum μ 0 p)
  refine K_aload_n dX3_ifBegun_0 rfl ?_
  refine K_iload_n dX3_ifBegun_1 rfl ?_
  refine k_X3_demandPhase (C_X3_demandPhase hI (cHas_nat hp hI.2.1)) (by decide)  ml_X3_51 (Nat.le_of_ble_eq_true rfl) dX3_ifBegun_2 ?_
  refine K_iload_n dX3_ifBegun_5 rfl ?_
  refine K_iconstN 0 dX3_ifBegun_6 rfl ?_
  refine K_iconstN 2 dX3_ifBegun_7 rfl ?_
  refine k_X3_demandRange (C_X3_demandRange (rOk_nat (by omega) (by omega))) (by decide) ml_X3_58 (Nat.le_of_ble_eq_true rfl) dX3_ifBegun_8 ?_
  refine K_aload_n dX3_ifBegun_11 rfl ?_
  refine g_X3_10 dX3_ifBegun_12  ?_
  refine K_iconstN 1 dX3_ifBegun_15 rfl ?_
  refine K_iload_n dX3_ifBegun_16 rfl ?_
  refine K_iconstN 0 dX3_ifBegun_17 rfl ?_
  refine k_X0_reasonAgainst (C_X0_reason1 (by omega) (by omega)) (by decide) (by omega) ml_X3_226 (Nat.le_of_ble_eq_true rfl) dX3_ifBegun_18 ?_
  refine K_if_eq (tgt := 26) dX3_ifBegun_21 (by decide) (fun c21 => ?_) (fun c21 => ?_)
  · skip
    refine K_aload_n dX3_ifBegun_26 rfl ?_
    refine g_X3_10 dX3_ifBegun_27  ?_
    refine g_X3_65 dX3_ifBegun_30 (by omega) ?_
    refine K_iload_n dX3_ifBegun_33 rfl ?_
    refine ald7 dX3_ifBegun_34 (by omega) (by omega) ?_
    refine k_X2_charge (C_X2_charge (by omega) (by omega)) (by decide) (by omega) (by omega) ml_X3_158 (Nat.le_of_ble_eq_true rfl) dX3_ifBegun_35 ?_
    refine K_aload_n dX3_ifBegun_38 rfl ?_
    refine g_X3_10 dX3_ifBegun_39  ?_
    refine g_X3_65 dX3_ifBegun_42 (by omega) ?_
    refine K_iload_n dX3_ifBegun_45 rfl ?_
    refine ald7 dX3_ifBegun_46 (by omega) (by omega) ?_
    refine k_X2_relief (C_X2_relief (by omega) (by omega)) (by decide) (by omega) (by omega) ml_X3_161 (Nat.le_of_ble_eq_true rfl) dX3_ifBegun_47 ?_
    refine K_isub dX3_ifBegun_50 ?_
    refine K_top (show _ = cSum μ 0 p from rfl) ?_
    refine K_istore_n dX3_ifBegun_51 (by decide) rfl ?_
    refine K_iload_n dX3_ifBegun_52 rfl ?_
    refine k_X3_instalmentsFor (C_X3_instalmentsFor ) (by decide) ml_X3_230 (Nat.le_of_ble_eq_true rfl) dX3_ifBegun_53 ?_
    refine K_istore dX3_ifBegun_56 (by decide) rfl ?_
    refine K_iload_n dX3_ifBegun_58 rfl ?_
    refine K_lookup (tgt := 86) dX3_ifBegun_59 (by decide) rfl (by decide) ?_
    refine K_iload dX3_ifBegun_86 rfl ?_
    exact K_iret dX3_ifBegun_88 ⟨by simp only [cIfQ, c21, decide_true, decide_false, cond_true, cond_false], rfl⟩
  · skip
    refine K_iconst (v := -1) dX3_ifBegun_24 (by decide) ?_
    exact K_iret dX3_ifBegun_25 ⟨by simp only [cIfQ, c21, decide_true, decide_false, cond_true, cond_false], rfl⟩

set_option maxHeartbeats 4000000 in
set_option maxRecDepth 100000 in
theorem C_X3_instalment2 {l : Launch} {G : WG} {μ : Mem}  {n : Nat} (hI : CI μ n) {p : Nat} (hp : p < n) {k : Nat} (hk : k < 4) : Ct l G 2 yX3_instalment cX3_instalment 5 (some .int) [.ref (adr G 0 0 0), .int (nI p), .int (nI k), .int (nI 2)] (μ) (some (.int (cInstQ μ p k 2))) (μ) := by
  refine Ct_of (by decide +kernel) (Nat.le_of_ble_eq_true rfl) ?_
  have hp6 := (Nat.lt_of_lt_of_le hp hI.2.1)
  have hW := (hI.2.2 p (Nat.lt_of_lt_of_le hp hI.2.1))
  refine K_aload_n dX3_instalment_0 rfl ?_
  refine K_iload_n dX3_instalment_1 rfl ?_
  refine k_X3_demandPhase (C_X3_demandPhase hI (cHas_nat hp hI.2.1)) (by decide)  ml_X3_51 (Nat.le_of_ble_eq_true rfl) dX3_instalment_2 ?_
  refine K_iload_n dX3_instalment_5 rfl ?_
  refine K_iconstN 0 dX3_instalment_6 rfl ?_
  refine K_iconstN 3 dX3_instalment_7 rfl ?_
  refine k_X3_demandRange (C_X3_demandRange (rOk_nat (b := 3) (by omega) (by omega))) (by decide) ml_X3_58 (Nat.le_of_ble_eq_true rfl) dX3_instalment_8 ?_
  refine K_iload_n dX3_instalment_11 rfl ?_
  refine K_iconstN 0 dX3_instalment_12 rfl ?_
  refine K_iconstN 2 dX3_instalment_13 rfl ?_
  refine k_X3_demandRange (C_X3_demandRange (rOk_nat (by omega) (by omega))) (by decide) ml_X3_58 (Nat.le_of_ble_eq_true rfl) dX3_instalment_14 ?_
  refine K_aload_n dX3_instalment_17 rfl ?_
  refine g_X3_10 dX3_instalment_18  ?_
  refine g_X3_65 dX3_instalment_21 (by omega) ?_
  refine K_iload_n dX3_instalment_24 rfl ?_
  refine ald7 dX3_instalment_25 (by omega) (by omega) ?_
  refine K_astore dX3_instalment_26 (by decide) rfl ?_
  refine K_iload_n dX3_instalment_28 rfl ?_
  refine K_aload dX3_instalment_29 rfl ?_
  refine g_X3_189 dX3_instalment_31 (by omega) (by omega) ?_
  refine K_top hW.1 ?_
  refine K_icmpN_lt (by omega) (by omega) (tgt := 39) dX3_instalment_34 (by decide) (fun c34 => ?_) (fun c34 => ?_)
  · skip
    refine K_iload_n dX3_instalment_39 rfl ?_
    refine K_lookup (tgt := 84) dX3_instalment_40 (by decide) rfl (by decide) ?_
    refine K_aload dX3_instalment_84 rfl ?_
    refine K_iload_n dX3_instalment_86 rfl ?_
    refine k_X2_lastDayOfInstalment (C_X2_lastDayOfInstalment (by omega) (by omega)) (by decide) (by omega) (by omega) ml_X3_219 (Nat.le_of_ble_eq_true rfl) dX3_instalment_87 ?_
    exact K_iret dX3_instalment_90 ⟨by first | (simp only [cInstQ, show decide (k < insN μ 0 p) = true from decide_eq_true c34, cond_true]; done) | (simp only [cInstQ, show decide (k < insN μ 0 p) = false from decide_eq_false (Nat.not_lt.mpr c34), cond_false]; done), rfl⟩
  · skip
    refine K_iconst (v := -1) dX3_instalment_37 (by decide) ?_
    exact K_iret dX3_instalment_38 ⟨by first | (simp only [cInstQ, show decide (k < insN μ 0 p) = true from decide_eq_true c34, cond_true]; done) | (simp only [cInstQ, show decide (k < insN μ 0 p) = false from decide_eq_false (Nat.not_lt.mpr c34), cond_false]; done), rfl⟩

set_option maxHeartbeats 4000000 in
set_option maxRecDepth 100000 in
theorem C_X3_ifBegun2 {l : Launch} {G : WG} {μ : Mem}  {n : Nat} (hI : CI μ n) {p : Nat} (hp : p < n) : Ct l G 2 yX3_ifBegun cX3_ifBegun 5 (some .int) [.ref (adr G 0 0 0), .int (nI p), .int (nI 2)] (μ) (some (.int (cIfQ μ p 2))) (μ) := by
  refine Ct_of (by decide +kernel) (Nat.le_of_ble_eq_true rfl) ?_
  have hp6 := (Nat.lt_of_lt_of_le hp hI.2.1)
  obtain ⟨hn1, hn4⟩ := partsN_le (cSum μ 0 p)
  refine K_aload_n dX3_ifBegun_0 rfl ?_
  refine K_iload_n dX3_ifBegun_1 rfl ?_
  refine k_X3_demandPhase (C_X3_demandPhase hI (cHas_nat hp hI.2.1)) (by decide)  ml_X3_51 (Nat.le_of_ble_eq_true rfl) dX3_ifBegun_2 ?_
  refine K_iload_n dX3_ifBegun_5 rfl ?_
  refine K_iconstN 0 dX3_ifBegun_6 rfl ?_
  refine K_iconstN 2 dX3_ifBegun_7 rfl ?_
  refine k_X3_demandRange (C_X3_demandRange (rOk_nat (by omega) (by omega))) (by decide) ml_X3_58 (Nat.le_of_ble_eq_true rfl) dX3_ifBegun_8 ?_
  refine K_aload_n dX3_ifBegun_11 rfl ?_
  refine g_X3_10 dX3_ifBegun_12  ?_
  refine K_iconstN 1 dX3_ifBegun_15 rfl ?_
  refine K_iload_n dX3_ifBegun_16 rfl ?_
  refine K_iconstN 0 dX3_ifBegun_17 rfl ?_
  refine k_X0_reasonAgainst (C_X0_reason1 (by omega) (by omega)) (by decide) (by omega) ml_X3_226 (Nat.le_of_ble_eq_true rfl) dX3_ifBegun_18 ?_
  refine K_if_eq (tgt := 26) dX3_ifBegun_21 (by decide) (fun c21 => ?_) (fun c21 => ?_)
  · skip
    refine K_aload_n dX3_ifBegun_26 rfl ?_
    refine g_X3_10 dX3_ifBegun_27  ?_
    refine g_X3_65 dX3_ifBegun_30 (by omega) ?_
    refine K_iload_n dX3_ifBegun_33 rfl ?_
    refine ald7 dX3_ifBegun_34 (by omega) (by omega) ?_
    refine k_X2_charge (C_X2_charge (by omega) (by omega)) (by decide) (by omega) (by omega) ml_X3_158 (Nat.le_of_ble_eq_true rfl) dX3_ifBegun_35 ?_
    refine K_aload_n dX3_ifBegun_38 rfl ?_
    refine g_X3_10 dX3_ifBegun_39  ?_
    refine g_X3_65 dX3_ifBegun_42 (by omega) ?_
    refine K_iload_n dX3_ifBegun_45 rfl ?_
    refine ald7 dX3_ifBegun_46 (by omega) (by omega) ?_
    refine k_X2_relief (C_X2_relief (by omega) (by omega)) (by decide) (by omega) (by omega) ml_X3_161 (Nat.le_of_ble_eq_true rfl) dX3_ifBegun_47 ?_
    refine K_isub dX3_ifBegun_50 ?_
    refine K_top (show _ = cSum μ 0 p from rfl) ?_
    refine K_istore_n dX3_ifBegun_51 (by decide) rfl ?_
    refine K_iload_n dX3_ifBegun_52 rfl ?_
    refine k_X3_instalmentsFor (C_X3_instalmentsFor ) (by decide) ml_X3_230 (Nat.le_of_ble_eq_true rfl) dX3_ifBegun_53 ?_
    refine K_istore dX3_ifBegun_56 (by decide) rfl ?_
    refine K_iload_n dX3_ifBegun_58 rfl ?_
    refine K_lookup (tgt := 89) dX3_ifBegun_59 (by decide) rfl (by decide) ?_
    refine K_iload_n dX3_ifBegun_89 rfl ?_
    refine K_iload dX3_ifBegun_90 rfl ?_
    refine K_iload dX3_ifBegun_92 rfl ?_
    refine K_iconstN 1 dX3_ifBegun_94 rfl ?_
    refine K_isubN (by omega) dX3_ifBegun_95 ?_
    refine k_X3_partOf (C_X3_partOf (n := partsN (cSum μ 0 p)) (by omega) (by omega)) (by decide) ml_X3_233 (Nat.le_of_ble_eq_true rfl) dX3_ifBegun_96 ?_
    exact K_iret dX3_ifBegun_99 ⟨by simp only [cIfQ, c21, decide_true, decide_false, cond_true, cond_false], rfl⟩
  · skip
    refine K_iconst (v := -1) dX3_ifBegun_24 (by decide) ?_
    exact K_iret dX3_ifBegun_25 ⟨by simp only [cIfQ, c21, decide_true, decide_false, cond_true, cond_false], rfl⟩

set_option maxHeartbeats 4000000 in
set_option maxRecDepth 100000 in
theorem C_X3_count0 {l : Launch} {G : WG} {μ : Mem}  {n : Nat} (hI : CI μ n) : Ct l G 1 yX3_count cX3_count 2 (some .int) [.ref (adr G 0 0 0), .int (nI 0)] (μ) (some (.int (cCountQ μ n 0))) (μ) := by
  refine Ct_of (by decide +kernel) (Nat.le_of_ble_eq_true rfl) ?_
  refine K_iload_n dX3_count_0 rfl ?_
  refine K_iconstN 0 dX3_count_1 rfl ?_
  refine K_bipush (v := nI 15) dX3_count_2 (by decide) ?_
  refine k_X3_demandRange (C_X3_demandRange (rOk_nat (by omega) (by omega))) (by decide) ml_X3_58 (Nat.le_of_ble_eq_true rfl) dX3_count_4 ?_
  refine K_iload_n dX3_count_7 rfl ?_
  refine K_tableIn (tgt := 88) dX3_count_8 (by decide) (by decide) rfl (by decide) ?_
  refine K_aload_n dX3_count_88 rfl ?_
  refine g_X3_10 dX3_count_89  ?_
  refine g_X3_34 dX3_count_92 (by omega) ?_
  exact K_iret dX3_count_95 ⟨by rfl, rfl⟩

set_option maxHeartbeats 4000000 in
set_option maxRecDepth 100000 in
theorem C_X3_count1 {l : Launch} {G : WG} {μ : Mem}  {n : Nat} (hI : CI μ n) : Ct l G 2 yX3_count cX3_count 2 (some .int) [.ref (adr G 0 0 0), .int (nI 1)] (μ) (some (.int (cCountQ μ n 1))) (μ) := by
  refine Ct_of (by decide +kernel) (Nat.le_of_ble_eq_true rfl) ?_
  refine K_iload_n dX3_count_0 rfl ?_
  refine K_iconstN 0 dX3_count_1 rfl ?_
  refine K_bipush (v := nI 15) dX3_count_2 (by decide) ?_
  refine k_X3_demandRange (C_X3_demandRange (rOk_nat (by omega) (by omega))) (by decide) ml_X3_58 (Nat.le_of_ble_eq_true rfl) dX3_count_4 ?_
  refine K_iload_n dX3_count_7 rfl ?_
  refine K_tableIn (tgt := 149) dX3_count_8 (by decide) (by decide) rfl (by decide) ?_
  refine K_aload_n dX3_count_149 rfl ?_
  refine g_X3_10 dX3_count_150  ?_
  refine K_iload_n dX3_count_153 rfl ?_
  refine k_X0_sumOverBegunPhases (C_X0_sumOver1 (by omega) hI.1 hI.2.1 hI.2.2) (by decide) (by omega) ml_X3_223 (Nat.le_of_ble_eq_true rfl) dX3_count_154 ?_
  exact K_iret dX3_count_157 ⟨by rfl, rfl⟩

set_option maxHeartbeats 4000000 in
set_option maxRecDepth 100000 in
theorem C_X3_count2 {l : Launch} {G : WG} {μ : Mem}  {n : Nat} (hI : CI μ n) : Ct l G 2 yX3_count cX3_count 2 (some .int) [.ref (adr G 0 0 0), .int (nI 2)] (μ) (some (.int (cCountQ μ n 2))) (μ) := by
  refine Ct_of (by decide +kernel) (Nat.le_of_ble_eq_true rfl) ?_
  refine K_iload_n dX3_count_0 rfl ?_
  refine K_iconstN 0 dX3_count_1 rfl ?_
  refine K_bipush (v := nI 15) dX3_count_2 (by decide) ?_
  refine k_X3_demandRange (C_X3_demandRange (rOk_nat (by omega) (by omega))) (by decide) ml_X3_58 (Nat.le_of_ble_eq_true rfl) dX3_count_4 ?_
  refine K_iload_n dX3_count_7 rfl ?_
  refine K_tableIn (tgt := 149) dX3_count_8 (by decide) (by decide) rfl (by decide) ?_
  refine K_aload_n dX3_count_149 rfl ?_
  refine g_X3_10 dX3_count_150  ?_
  refine K_iload_n dX3_count_153 rfl ?_
  refine k_X0_sumOverBegunPhases (C_X0_sumOver2 (by omega) hI.1 hI.2.1 hI.2.2) (by decide) (by omega) ml_X3_223 (Nat.le_of_ble_eq_true rfl) dX3_count_154 ?_
  exact K_iret dX3_count_157 ⟨by rfl, rfl⟩

set_option maxHeartbeats 4000000 in
set_option maxRecDepth 100000 in
theorem C_X3_count3 {l : Launch} {G : WG} {μ : Mem}  {n : Nat} (hI : CI μ n) : Ct l G 1 yX3_count cX3_count 2 (some .int) [.ref (adr G 0 0 0), .int (nI 3)] (μ) (some (.int (cCountQ μ n 3))) (μ) := by
  refine Ct_of (by decide +kernel) (Nat.le_of_ble_eq_true rfl) ?_
  refine K_iload_n dX3_count_0 rfl ?_
  refine K_iconstN 0 dX3_count_1 rfl ?_
  refine K_bipush (v := nI 15) dX3_count_2 (by decide) ?_
  refine k_X3_demandRange (C_X3_demandRange (rOk_nat (by omega) (by omega))) (by decide) ml_X3_58 (Nat.le_of_ble_eq_true rfl) dX3_count_4 ?_
  refine K_iload_n dX3_count_7 rfl ?_
  refine K_tableIn (tgt := 96) dX3_count_8 (by decide) (by decide) rfl (by decide) ?_
  refine K_aload_n dX3_count_96 rfl ?_
  refine g_X3_10 dX3_count_97  ?_
  refine g_X3_167 dX3_count_100 (by omega) ?_
  exact K_iret dX3_count_103 ⟨by rfl, rfl⟩

set_option maxHeartbeats 4000000 in
set_option maxRecDepth 100000 in
theorem C_X3_count4 {l : Launch} {G : WG} {μ : Mem}  {n : Nat} (hI : CI μ n) : Ct l G 3 yX3_count cX3_count 2 (some .int) [.ref (adr G 0 0 0), .int (nI 4)] (μ) (some (.int (cCountQ μ n 4))) (μ) := by
  refine Ct_of (by decide +kernel) (Nat.le_of_ble_eq_true rfl) ?_
  refine K_iload_n dX3_count_0 rfl ?_
  refine K_iconstN 0 dX3_count_1 rfl ?_
  refine K_bipush (v := nI 15) dX3_count_2 (by decide) ?_
  refine k_X3_demandRange (C_X3_demandRange (rOk_nat (by omega) (by omega))) (by decide) ml_X3_58 (Nat.le_of_ble_eq_true rfl) dX3_count_4 ?_
  refine K_iload_n dX3_count_7 rfl ?_
  refine K_tableIn (tgt := 149) dX3_count_8 (by decide) (by decide) rfl (by decide) ?_
  refine K_aload_n dX3_count_149 rfl ?_
  refine g_X3_10 dX3_count_150  ?_
  refine K_iload_n dX3_count_153 rfl ?_
  refine k_X0_sumOverBegunPhases (C_X0_sumOver4 (by omega) hI.1 hI.2.1 hI.2.2) (by decide) (by omega) ml_X3_223 (Nat.le_of_ble_eq_true rfl) dX3_count_154 ?_
  exact K_iret dX3_count_157 ⟨by rfl, rfl⟩

set_option maxHeartbeats 4000000 in
set_option maxRecDepth 100000 in
theorem C_X3_count5 {l : Launch} {G : WG} {μ : Mem}  {n : Nat} (hI : CI μ n) : Ct l G 3 yX3_count cX3_count 2 (some .int) [.ref (adr G 0 0 0), .int (nI 5)] (μ) (some (.int (cCountQ μ n 5))) (μ) := by
  refine Ct_of (by decide +kernel) (Nat.le_of_ble_eq_true rfl) ?_
  refine K_iload_n dX3_count_0 rfl ?_
  refine K_iconstN 0 dX3_count_1 rfl ?_
  refine K_bipush (v := nI 15) dX3_count_2 (by decide) ?_
  refine k_X3_demandRange (C_X3_demandRange (rOk_nat (by omega) (by omega))) (by decide) ml_X3_58 (Nat.le_of_ble_eq_true rfl) dX3_count_4 ?_
  refine K_iload_n dX3_count_7 rfl ?_
  refine K_tableIn (tgt := 149) dX3_count_8 (by decide) (by decide) rfl (by decide) ?_
  refine K_aload_n dX3_count_149 rfl ?_
  refine g_X3_10 dX3_count_150  ?_
  refine K_iload_n dX3_count_153 rfl ?_
  refine k_X0_sumOverBegunPhases (C_X0_sumOver5 (by omega) hI.1 hI.2.1 hI.2.2) (by decide) (by omega) ml_X3_223 (Nat.le_of_ble_eq_true rfl) dX3_count_154 ?_
  exact K_iret dX3_count_157 ⟨by rfl, rfl⟩

set_option maxHeartbeats 4000000 in
set_option maxRecDepth 100000 in
theorem C_X3_count6 {l : Launch} {G : WG} {μ : Mem}  {n : Nat} (hI : CI μ n) : Ct l G 2 yX3_count cX3_count 2 (some .int) [.ref (adr G 0 0 0), .int (nI 6)] (μ) (some (.int (cCountQ μ n 6))) (μ) := by
  refine Ct_of (by decide +kernel) (Nat.le_of_ble_eq_true rfl) ?_
  refine K_iload_n dX3_count_0 rfl ?_
  refine K_iconstN 0 dX3_count_1 rfl ?_
  refine K_bipush (v := nI 15) dX3_count_2 (by decide) ?_
  refine k_X3_demandRange (C_X3_demandRange (rOk_nat (by omega) (by omega))) (by decide) ml_X3_58 (Nat.le_of_ble_eq_true rfl) dX3_count_4 ?_
  refine K_iload_n dX3_count_7 rfl ?_
  refine K_tableIn (tgt := 149) dX3_count_8 (by decide) (by decide) rfl (by decide) ?_
  refine K_aload_n dX3_count_149 rfl ?_
  refine g_X3_10 dX3_count_150  ?_
  refine K_iload_n dX3_count_153 rfl ?_
  refine k_X0_sumOverBegunPhases (C_X0_sumOver6 (by omega) hI.1 hI.2.1 hI.2.2) (by decide) (by omega) ml_X3_223 (Nat.le_of_ble_eq_true rfl) dX3_count_154 ?_
  exact K_iret dX3_count_157 ⟨by rfl, rfl⟩

set_option maxHeartbeats 4000000 in
set_option maxRecDepth 100000 in
theorem C_X3_count7 {l : Launch} {G : WG} {μ : Mem}  {n : Nat} (hI : CI μ n) : Ct l G 2 yX3_count cX3_count 2 (some .int) [.ref (adr G 0 0 0), .int (nI 7)] (μ) (some (.int (cCountQ μ n 7))) (μ) := by
  refine Ct_of (by decide +kernel) (Nat.le_of_ble_eq_true rfl) ?_
  refine K_iload_n dX3_count_0 rfl ?_
  refine K_iconstN 0 dX3_count_1 rfl ?_
  refine K_bipush (v := nI 15) dX3_count_2 (by decide) ?_
  refine k_X3_demandRange (C_X3_demandRange (rOk_nat (by omega) (by omega))) (by decide) ml_X3_58 (Nat.le_of_ble_eq_true rfl) dX3_count_4 ?_
  refine K_iload_n dX3_count_7 rfl ?_
  refine K_tableIn (tgt := 149) dX3_count_8 (by decide) (by decide) rfl (by decide) ?_
  refine K_aload_n dX3_count_149 rfl ?_
  refine g_X3_10 dX3_count_150  ?_
  refine K_iload_n dX3_count_153 rfl ?_
  refine k_X0_sumOverBegunPhases (C_X0_sumOver7 (by omega) hI.1 hI.2.1 hI.2.2) (by decide) (by omega) ml_X3_223 (Nat.le_of_ble_eq_true rfl) dX3_count_154 ?_
  exact K_iret dX3_count_157 ⟨by rfl, rfl⟩

set_option maxHeartbeats 4000000 in
set_option maxRecDepth 100000 in
theorem C_X3_count8 {l : Launch} {G : WG} {μ : Mem}  {n : Nat} (hI : CI μ n) : Ct l G 2 yX3_count cX3_count 2 (some .int) [.ref (adr G 0 0 0), .int (nI 8)] (μ) (some (.int (cCountQ μ n 8))) (μ) := by
  refine Ct_of (by decide +kernel) (Nat.le_of_ble_eq_true rfl) ?_
  refine K_iload_n dX3_count_0 rfl ?_
  refine K_iconstN 0 dX3_count_1 rfl ?_
  refine K_bipush (v := nI 15) dX3_count_2 (by decide) ?_
  refine k_X3_demandRange (C_X3_demandRange (rOk_nat (by omega) (by omega))) (by decide) ml_X3_58 (Nat.le_of_ble_eq_true rfl) dX3_count_4 ?_
  refine K_iload_n dX3_count_7 rfl ?_
  refine K_tableIn (tgt := 149) dX3_count_8 (by decide) (by decide) rfl (by decide) ?_
  refine K_aload_n dX3_count_149 rfl ?_
  refine g_X3_10 dX3_count_150  ?_
  refine K_iload_n dX3_count_153 rfl ?_
  refine k_X0_sumOverBegunPhases (C_X0_sumOver8 (by omega) hI.1 hI.2.1 hI.2.2) (by decide) (by omega) ml_X3_223 (Nat.le_of_ble_eq_true rfl) dX3_count_154 ?_
  exact K_iret dX3_count_157 ⟨by rfl, rfl⟩

set_option maxHeartbeats 4000000 in
set_option maxRecDepth 100000 in
theorem C_X3_count9 {l : Launch} {G : WG} {μ : Mem}  {n : Nat} (hI : CI μ n) : Ct l G 4 yX3_count cX3_count 2 (some .int) [.ref (adr G 0 0 0), .int (nI 9)] (μ) (some (.int (cCountQ μ n 9))) (μ) := by
  refine Ct_of (by decide +kernel) (Nat.le_of_ble_eq_true rfl) ?_
  refine K_iload_n dX3_count_0 rfl ?_
  refine K_iconstN 0 dX3_count_1 rfl ?_
  refine K_bipush (v := nI 15) dX3_count_2 (by decide) ?_
  refine k_X3_demandRange (C_X3_demandRange (rOk_nat (by omega) (by omega))) (by decide) ml_X3_58 (Nat.le_of_ble_eq_true rfl) dX3_count_4 ?_
  refine K_iload_n dX3_count_7 rfl ?_
  refine K_tableIn (tgt := 149) dX3_count_8 (by decide) (by decide) rfl (by decide) ?_
  refine K_aload_n dX3_count_149 rfl ?_
  refine g_X3_10 dX3_count_150  ?_
  refine K_iload_n dX3_count_153 rfl ?_
  refine k_X0_sumOverBegunPhases (C_X0_sumOver9 (by omega) hI.1 hI.2.1 hI.2.2) (by decide) (by omega) ml_X3_223 (Nat.le_of_ble_eq_true rfl) dX3_count_154 ?_
  exact K_iret dX3_count_157 ⟨by rfl, rfl⟩

set_option maxHeartbeats 4000000 in
set_option maxRecDepth 100000 in
theorem C_X3_count10 {l : Launch} {G : WG} {μ : Mem}  {n : Nat} (hI : CI μ n) : Ct l G 5 yX3_count cX3_count 2 (some .int) [.ref (adr G 0 0 0), .int (nI 10)] (μ) (some (.int (cCountQ μ n 10))) (μ) := by
  refine Ct_of (by decide +kernel) (Nat.le_of_ble_eq_true rfl) ?_
  refine K_iload_n dX3_count_0 rfl ?_
  refine K_iconstN 0 dX3_count_1 rfl ?_
  refine K_bipush (v := nI 15) dX3_count_2 (by decide) ?_
  refine k_X3_demandRange (C_X3_demandRange (rOk_nat (by omega) (by omega))) (by decide) ml_X3_58 (Nat.le_of_ble_eq_true rfl) dX3_count_4 ?_
  refine K_iload_n dX3_count_7 rfl ?_
  refine K_tableIn (tgt := 149) dX3_count_8 (by decide) (by decide) rfl (by decide) ?_
  refine K_aload_n dX3_count_149 rfl ?_
  refine g_X3_10 dX3_count_150  ?_
  refine K_iload_n dX3_count_153 rfl ?_
  refine k_X0_sumOverBegunPhases (C_X0_sumOver10 (by omega) hI.1 hI.2.1 hI.2.2) (by decide) (by omega) ml_X3_223 (Nat.le_of_ble_eq_true rfl) dX3_count_154 ?_
  exact K_iret dX3_count_157 ⟨by rfl, rfl⟩

set_option maxHeartbeats 4000000 in
set_option maxRecDepth 100000 in
theorem C_X3_count11 {l : Launch} {G : WG} {μ : Mem}  {n : Nat} (hI : CI μ n) : Ct l G 1 yX3_count cX3_count 2 (some .int) [.ref (adr G 0 0 0), .int (nI 11)] (μ) (some (.int (cCountQ μ n 11))) (μ) := by
  refine Ct_of (by decide +kernel) (Nat.le_of_ble_eq_true rfl) ?_
  refine K_iload_n dX3_count_0 rfl ?_
  refine K_iconstN 0 dX3_count_1 rfl ?_
  refine K_bipush (v := nI 15) dX3_count_2 (by decide) ?_
  refine k_X3_demandRange (C_X3_demandRange (rOk_nat (by omega) (by omega))) (by decide) ml_X3_58 (Nat.le_of_ble_eq_true rfl) dX3_count_4 ?_
  refine K_iload_n dX3_count_7 rfl ?_
  refine K_tableIn (tgt := 104) dX3_count_8 (by decide) (by decide) rfl (by decide) ?_
  refine K_aload_n dX3_count_104 rfl ?_
  refine g_X3_10 dX3_count_105  ?_
  refine g_X3_222 dX3_count_108 (by omega) ?_
  refine K_iconstN 0 dX3_count_111 rfl ?_
  refine ald5 dX3_count_112 (by omega) (by omega) ?_
  exact K_iret dX3_count_113 ⟨by rfl, rfl⟩

set_option maxHeartbeats 4000000 in
set_option maxRecDepth 100000 in
theorem C_X3_count12 {l : Launch} {G : WG} {μ : Mem}  {n : Nat} (hI : CI μ n) : Ct l G 1 yX3_count cX3_count 2 (some .int) [.ref (adr G 0 0 0), .int (nI 12)] (μ) (some (.int (cCountQ μ n 12))) (μ) := by
  refine Ct_of (by decide +kernel) (Nat.le_of_ble_eq_true rfl) ?_
  refine K_iload_n dX3_count_0 rfl ?_
  refine K_iconstN 0 dX3_count_1 rfl ?_
  refine K_bipush (v := nI 15) dX3_count_2 (by decide) ?_
  refine k_X3_demandRange (C_X3_demandRange (rOk_nat (by omega) (by omega))) (by decide) ml_X3_58 (Nat.le_of_ble_eq_true rfl) dX3_count_4 ?_
  refine K_iload_n dX3_count_7 rfl ?_
  refine K_tableIn (tgt := 114) dX3_count_8 (by decide) (by decide) rfl (by decide) ?_
  refine K_aload_n dX3_count_114 rfl ?_
  refine g_X3_10 dX3_count_115  ?_
  refine g_X3_222 dX3_count_118 (by omega) ?_
  refine K_iconstN 1 dX3_count_121 rfl ?_
  refine ald5 dX3_count_122 (by omega) (by omega) ?_
  exact K_iret dX3_count_123 ⟨by rfl, rfl⟩

set_option maxHeartbeats 4000000 in
set_option maxRecDepth 100000 in
theorem C_X3_count13 {l : Launch} {G : WG} {μ : Mem}  {n : Nat} (hI : CI μ n) : Ct l G 1 yX3_count cX3_count 2 (some .int) [.ref (adr G 0 0 0), .int (nI 13)] (μ) (some (.int (cCountQ μ n 13))) (μ) := by
  refine Ct_of (by decide +kernel) (Nat.le_of_ble_eq_true rfl) ?_
  refine K_iload_n dX3_count_0 rfl ?_
  refine K_iconstN 0 dX3_count_1 rfl ?_
  refine K_bipush (v := nI 15) dX3_count_2 (by decide) ?_
  refine k_X3_demandRange (C_X3_demandRange (rOk_nat (by omega) (by omega))) (by decide) ml_X3_58 (Nat.le_of_ble_eq_true rfl) dX3_count_4 ?_
  refine K_iload_n dX3_count_7 rfl ?_
  refine K_tableIn (tgt := 124) dX3_count_8 (by decide) (by decide) rfl (by decide) ?_
  refine K_aload_n dX3_count_124 rfl ?_
  refine g_X3_10 dX3_count_125  ?_
  refine g_X3_222 dX3_count_128 (by omega) ?_
  refine K_iconstN 2 dX3_count_131 rfl ?_
  refine ald5 dX3_count_132 (by omega) (by omega) ?_
  exact K_iret dX3_count_133 ⟨by rfl, rfl⟩

set_option maxHeartbeats 4000000 in
set_option maxRecDepth 100000 in
theorem C_X3_count14 {l : Launch} {G : WG} {μ : Mem}  {n : Nat} (hI : CI μ n) : Ct l G 1 yX3_count cX3_count 2 (some .int) [.ref (adr G 0 0 0), .int (nI 14)] (μ) (some (.int (cCountQ μ n 14))) (μ) := by
  refine Ct_of (by decide +kernel) (Nat.le_of_ble_eq_true rfl) ?_
  refine K_iload_n dX3_count_0 rfl ?_
  refine K_iconstN 0 dX3_count_1 rfl ?_
  refine K_bipush (v := nI 15) dX3_count_2 (by decide) ?_
  refine k_X3_demandRange (C_X3_demandRange (rOk_nat (by omega) (by omega))) (by decide) ml_X3_58 (Nat.le_of_ble_eq_true rfl) dX3_count_4 ?_
  refine K_iload_n dX3_count_7 rfl ?_
  refine K_tableIn (tgt := 134) dX3_count_8 (by decide) (by decide) rfl (by decide) ?_
  refine K_aload_n dX3_count_134 rfl ?_
  refine g_X3_10 dX3_count_135  ?_
  refine g_X3_222 dX3_count_138 (by omega) ?_
  refine K_iconstN 3 dX3_count_141 rfl ?_
  refine ald5 dX3_count_142 (by omega) (by omega) ?_
  exact K_iret dX3_count_143 ⟨by rfl, rfl⟩

set_option maxHeartbeats 4000000 in
set_option maxRecDepth 100000 in
theorem C_X3_count15 {l : Launch} {G : WG} {μ : Mem}  {n : Nat} (hI : CI μ n) : Ct l G 1 yX3_count cX3_count 2 (some .int) [.ref (adr G 0 0 0), .int (nI 15)] (μ) (some (.int (cCountQ μ n 15))) (μ) := by
  refine Ct_of (by decide +kernel) (Nat.le_of_ble_eq_true rfl) ?_
  refine K_iload_n dX3_count_0 rfl ?_
  refine K_iconstN 0 dX3_count_1 rfl ?_
  refine K_bipush (v := nI 15) dX3_count_2 (by decide) ?_
  refine k_X3_demandRange (C_X3_demandRange (rOk_nat (by omega) (by omega))) (by decide) ml_X3_58 (Nat.le_of_ble_eq_true rfl) dX3_count_4 ?_
  refine K_iload_n dX3_count_7 rfl ?_
  refine K_tableIn (tgt := 144) dX3_count_8 (by decide) (by decide) rfl (by decide) ?_
  refine K_aload_n dX3_count_144 rfl ?_
  refine g_X3_20 dX3_count_145  ?_
  exact K_iret dX3_count_148 ⟨by rfl, rfl⟩

set_option maxHeartbeats 4000000 in
set_option maxRecDepth 100000 in
theorem C_X3_setting {l : Launch} {G : WG} {μ : Mem} {u : Nat} (hu : u < 4) : Ct l G 1 yX3_setting cX3_setting 2 (some .int) [.ref (adr G 0 0 0), .int (nI u)] (μ) (some (.int (μ.1 6 0 0 u))) (μ) := by
  refine Ct_of (by decide +kernel) (Nat.le_of_ble_eq_true rfl) ?_
  refine K_iload_n dX3_setting_0 rfl ?_
  refine k_X3_demandSetting (C_X3_demandSetting (uOk_nat hu)) (by decide) ml_X3_85 (Nat.le_of_ble_eq_true rfl) dX3_setting_1 ?_
  refine K_aload_n dX3_setting_4 rfl ?_
  refine g_X3_10 dX3_setting_5  ?_
  refine g_X3_94 dX3_setting_8 (by omega) ?_
  refine K_iload_n dX3_setting_11 rfl ?_
  refine ald6 dX3_setting_12 (by omega) (by omega) ?_
  exact K_iret dX3_setting_13 ⟨by rfl, rfl⟩

set_option maxHeartbeats 4000000 in
set_option maxRecDepth 100000 in
theorem C_X3_breaksIn {l : Launch} {G : WG} {μ : Mem}  {n : Nat} (hI : CI μ n) {p : Nat} (hp : p < n) : Ct l G 3 yX3_breaksIn cX3_breaksIn 2 (some .int) [.ref (adr G 0 0 0), .int (nI p)] (μ) (some (.int (cDays μ 0 p (insN μ 0 p)))) (μ) := by
  refine Ct_of (by decide +kernel) (Nat.le_of_ble_eq_true rfl) ?_
  refine K_aload_n dX3_breaksIn_0 rfl ?_
  refine K_iload_n dX3_breaksIn_1 rfl ?_
  refine k_X3_demandPhase (C_X3_demandPhase hI (cHas_nat hp hI.2.1)) (by decide)  ml_X3_51 (Nat.le_of_ble_eq_true rfl) dX3_breaksIn_2 ?_
  refine K_aload_n dX3_breaksIn_5 rfl ?_
  refine g_X3_10 dX3_breaksIn_6  ?_
  refine K_iload_n dX3_breaksIn_9 rfl ?_
  refine k_X0_daysToBreak (C_X0_daysToBreak (by omega) (Nat.lt_of_lt_of_le hp hI.2.1) hI.2.2) (by decide) (by omega) ml_X3_236 (Nat.le_of_ble_eq_true rfl) dX3_breaksIn_10 ?_
  exact K_iret dX3_breaksIn_13 ⟨by rfl, rfl⟩

set_option maxHeartbeats 4000000 in
set_option maxRecDepth 100000 in
theorem C_X3_dueIn {l : Launch} {G : WG} {μ : Mem}  {n : Nat} (hI : CI μ n) {p : Nat} (hp : p < n) {a : Int32} (hr : rOk a (nI 0) (nI 500) = true) : Ct l G 4 yX3_dueIn cX3_dueIn 3 (some .int) [.ref (adr G 0 0 0), .int (nI p), .int (a)] (μ) (some (.int (cDueIn μ p a))) (μ) := by
  refine Ct_of (by decide +kernel) (Nat.le_of_ble_eq_true rfl) ?_
  have hp6 := (Nat.lt_of_lt_of_le hp hI.2.1)
  refine K_aload_n dX3_dueIn_0 rfl ?_
  refine K_iload_n dX3_dueIn_1 rfl ?_
  refine k_X3_demandPhase (C_X3_demandPhase hI (cHas_nat hp hI.2.1)) (by decide)  ml_X3_51 (Nat.le_of_ble_eq_true rfl) dX3_dueIn_2 ?_
  refine K_iload_n dX3_dueIn_5 rfl ?_
  refine K_iconstN 0 dX3_dueIn_6 rfl ?_
  refine K_sipush (v := nI 500) dX3_dueIn_7 (by decide) ?_
  refine k_X3_demandRange (C_X3_demandRange hr) (by decide) ml_X3_58 (Nat.le_of_ble_eq_true rfl) dX3_dueIn_10 ?_
  refine K_aload_n dX3_dueIn_13 rfl ?_
  refine g_X3_10 dX3_dueIn_14  ?_
  refine K_iload_n dX3_dueIn_17 rfl ?_
  refine K_iload_n dX3_dueIn_18 rfl ?_
  refine k_X0_breaksWithin (C_X0_breaksWithin (by omega) (Nat.lt_of_lt_of_le hp hI.2.1) hI.2.2) (by decide) (by omega) ml_X3_242 (Nat.le_of_ble_eq_true rfl) dX3_dueIn_19 ?_
  refine K_ifb_eq (tgt := 48) dX3_dueIn_22 (by decide) (fun c22 => ?_) (fun c22 => ?_)
  · skip
    refine K_aload_n dX3_dueIn_48 rfl ?_
    refine g_X3_10 dX3_dueIn_49  ?_
    refine g_X3_65 dX3_dueIn_52 (by omega) ?_
    refine K_iload_n dX3_dueIn_55 rfl ?_
    refine ald7 dX3_dueIn_56 (by omega) (by omega) ?_
    refine K_aload_n dX3_dueIn_57 rfl ?_
    refine g_X3_10 dX3_dueIn_58  ?_
    refine g_X3_167 dX3_dueIn_61 (by omega) ?_
    refine K_iload_n dX3_dueIn_64 rfl ?_
    refine K_iadd dX3_dueIn_65 ?_
    refine k_X2_dueOn (C_X2_dueOn (by omega) (Nat.lt_of_lt_of_le hp hI.2.1) (hI.2.2 p (Nat.lt_of_lt_of_le hp hI.2.1)).1 (hI.2.2 p (Nat.lt_of_lt_of_le hp hI.2.1)).2) (by decide) (by omega) (by omega) ml_X3_170 (Nat.le_of_ble_eq_true rfl) dX3_dueIn_66 ?_
    exact K_iret dX3_dueIn_69 ⟨by simp only [cDueIn, c22, cond_true, cond_false], rfl⟩
  · skip
    refine K_aload_n dX3_dueIn_25 rfl ?_
    refine g_X3_10 dX3_dueIn_26  ?_
    refine g_X3_65 dX3_dueIn_29 (by omega) ?_
    refine K_iload_n dX3_dueIn_32 rfl ?_
    refine ald7 dX3_dueIn_33 (by omega) (by omega) ?_
    refine k_X2_owed (C_X2_owed (by omega) (by omega)) (by decide) (by omega) (by omega) ml_X3_164 (Nat.le_of_ble_eq_true rfl) dX3_dueIn_34 ?_
    refine K_aload_n dX3_dueIn_37 rfl ?_
    refine g_X3_10 dX3_dueIn_38  ?_
    refine K_iload_n dX3_dueIn_41 rfl ?_
    refine K_iload_n dX3_dueIn_42 rfl ?_
    refine k_X0_surchargeWithin (C_X0_surchargeWithin (by omega) (Nat.lt_of_lt_of_le hp hI.2.1) hI.2.2) (by decide) (by omega) ml_X3_239 (Nat.le_of_ble_eq_true rfl) dX3_dueIn_43 ?_
    refine K_iadd dX3_dueIn_46 ?_
    exact K_iret dX3_dueIn_47 ⟨by simp only [cDueIn, c22, cond_true, cond_false], rfl⟩

set_option maxHeartbeats 4000000 in
set_option maxRecDepth 100000 in
theorem C_X3_surchargesIn {l : Launch} {G : WG} {μ : Mem}  {n : Nat} (hI : CI μ n) {a : Int32} (hr : rOk a (nI 0) (nI 500) = true) : Ct l G 4 yX3_surchargesIn cX3_surchargesIn 4 (some .int) [.ref (adr G 0 0 0), .int (a)] (μ) (some (.int (cSurIn μ a n))) (μ) := by
  refine Ct_of (by decide +kernel) (Nat.le_of_ble_eq_true rfl) ?_
  obtain ⟨hN, hn, hW⟩ := hI
  refine K_iload_n dX3_surchargesIn_0 rfl ?_
  refine K_iconstN 0 dX3_surchargesIn_1 rfl ?_
  refine K_sipush (v := nI 500) dX3_surchargesIn_2 (by decide) ?_
  refine k_X3_demandRange (C_X3_demandRange hr) (by decide) ml_X3_58 (Nat.le_of_ble_eq_true rfl) dX3_surchargesIn_5 ?_
  refine K_iconstN 0 dX3_surchargesIn_8 rfl ?_
  refine K_istore_n dX3_surchargesIn_9 (by decide) rfl ?_
  refine K_iconstN 0 dX3_surchargesIn_10 rfl ?_
  refine K_istore_n dX3_surchargesIn_11 (by decide) rfl ?_
  refine K_lv [0, 1, 2, 3] rfl ?_
  refine K_for (n) (fun k => [(0, .ref (adr G 0 0 0)), (1, .int a), (2, .int (cSurIn μ a k)), (3, .int (nI k))]) (fun _ => μ) ?_ ?_
  · skip
    refine K_iload_n dX3_surchargesIn_12 rfl ?_
    refine K_aload_n dX3_surchargesIn_13 rfl ?_
    refine g_X3_10 dX3_surchargesIn_14  ?_
    refine g_X3_34 dX3_surchargesIn_17 (by omega) ?_
    refine K_top hN ?_
    refine K_icmpN_ge (by omega) (by omega) (tgt := 47) dX3_surchargesIn_20 (by decide) (fun c20 => ?_) (fun c20 => ?_)
    · skip
      refine K_iload_n dX3_surchargesIn_47 rfl ?_
      exact K_iret dX3_surchargesIn_48 ⟨by rfl, rfl⟩
    · skip
      exfalso; omega
  · intro k hk_k ih_1
    refine K_iload_n dX3_surchargesIn_12 rfl ?_
    refine K_aload_n dX3_surchargesIn_13 rfl ?_
    refine g_X3_10 dX3_surchargesIn_14  ?_
    refine g_X3_34 dX3_surchargesIn_17 (by omega) ?_
    refine K_top hN ?_
    refine K_icmpN_ge (by omega) (by omega) (tgt := 47) dX3_surchargesIn_20 (by decide) (fun c20 => ?_) (fun c20 => ?_)
    · skip
      exfalso; omega
    · skip
      refine K_iload_n dX3_surchargesIn_23 rfl ?_
      refine K_bipush (v := nI 6) dX3_surchargesIn_24 (by decide) ?_
      refine K_icmpN_ge (by omega) (by omega) (tgt := 47) dX3_surchargesIn_26 (by decide) (fun c26 => ?_) (fun c26 => ?_)
      · skip
        exfalso; omega
      · skip
        refine K_iload_n dX3_surchargesIn_29 rfl ?_
        refine K_aload_n dX3_surchargesIn_30 rfl ?_
        refine g_X3_10 dX3_surchargesIn_31  ?_
        refine K_iload_n dX3_surchargesIn_34 rfl ?_
        refine K_iload_n dX3_surchargesIn_35 rfl ?_
        refine k_X0_surchargeWithin (C_X0_surchargeWithin (by omega) (by omega) hW) (by decide) (by omega) ml_X3_239 (Nat.le_of_ble_eq_true rfl) dX3_surchargesIn_36 ?_
        refine K_iadd dX3_surchargesIn_39 ?_
        refine K_istore_n dX3_surchargesIn_40 (by decide) rfl ?_
        refine K_iincN (b := 1) dX3_surchargesIn_41 rfl rfl (by decide) rfl ?_
        refine K_goto (tgt := 12) dX3_surchargesIn_44 (by decide) ?_
        exact K_lv [0, 1, 2, 3] rfl ih_1

set_option maxHeartbeats 4000000 in
set_option maxRecDepth 100000 in
theorem C_X3_mostUrgent {l : Launch} {G : WG} {μ : Mem}  {n : Nat} (hI : CI μ n) : Ct l G 3 yX3_mostUrgent cX3_mostUrgent 8 (some .int) [.ref (adr G 0 0 0)] (μ) (some (.int ((urgK μ n).1))) (μ) := by
  refine Ct_of (by decide +kernel) (Nat.le_of_ble_eq_true rfl) ?_
  obtain ⟨hN, hn, hW⟩ := hI
  refine K_iconst (v := -1) dX3_mostUrgent_0 (by decide) ?_
  refine K_istore_n dX3_mostUrgent_1 (by decide) rfl ?_
  refine K_iconstN 0 dX3_mostUrgent_2 rfl ?_
  refine K_istore_n dX3_mostUrgent_3 (by decide) rfl ?_
  refine K_iconstN 0 dX3_mostUrgent_4 rfl ?_
  refine K_istore_n dX3_mostUrgent_5 (by decide) rfl ?_
  refine K_iconstN 0 dX3_mostUrgent_6 rfl ?_
  refine K_istore dX3_mostUrgent_7 (by decide) rfl ?_
  refine K_lv [0, 1, 2, 3, 4] rfl ?_
  refine K_for (n) (fun k => [(0, .ref (adr G 0 0 0)), (1, .int (urgK μ k).1), (2, .int (urgK μ k).2.1), (3, .int (urgK μ k).2.2), (4, .int (nI k))]) (fun _ => μ) ?_ ?_
  · skip
    refine K_iload dX3_mostUrgent_9 rfl ?_
    refine K_aload_n dX3_mostUrgent_11 rfl ?_
    refine g_X3_10 dX3_mostUrgent_12  ?_
    refine g_X3_34 dX3_mostUrgent_15 (by omega) ?_
    refine K_top hN ?_
    refine K_icmpN_ge (by omega) (by omega) (tgt := 110) dX3_mostUrgent_18 (by decide) (fun c18 => ?_) (fun c18 => ?_)
    · skip
      refine K_iload_n dX3_mostUrgent_110 rfl ?_
      exact K_iret dX3_mostUrgent_111 ⟨by rfl, rfl⟩
    · skip
      exfalso; omega
  · intro k hk_k ih_1
    refine K_iload dX3_mostUrgent_9 rfl ?_
    refine K_aload_n dX3_mostUrgent_11 rfl ?_
    refine g_X3_10 dX3_mostUrgent_12  ?_
    refine g_X3_34 dX3_mostUrgent_15 (by omega) ?_
    refine K_top hN ?_
    refine K_icmpN_ge (by omega) (by omega) (tgt := 110) dX3_mostUrgent_18 (by decide) (fun c18 => ?_) (fun c18 => ?_)
    · skip
      exfalso; omega
    · skip
      refine K_iload dX3_mostUrgent_21 rfl ?_
      refine K_bipush (v := nI 6) dX3_mostUrgent_23 (by decide) ?_
      refine K_icmpN_ge (by omega) (by omega) (tgt := 110) dX3_mostUrgent_25 (by decide) (fun c25 => ?_) (fun c25 => ?_)
      · skip
        exfalso; omega
      · skip
        refine K_aload_n dX3_mostUrgent_28 rfl ?_
        refine g_X3_10 dX3_mostUrgent_29  ?_
        refine K_iload dX3_mostUrgent_32 rfl ?_
        refine k_X0_daysToBreak (C_X0_daysToBreak (by omega) (by omega) hW) (by decide) (by omega) ml_X3_236 (Nat.le_of_ble_eq_true rfl) dX3_mostUrgent_34 ?_
        refine K_istore dX3_mostUrgent_37 (by decide) rfl ?_
        refine K_aload_n dX3_mostUrgent_39 rfl ?_
        refine g_X3_10 dX3_mostUrgent_40  ?_
        refine g_X3_65 dX3_mostUrgent_43 (by omega) ?_
        refine K_iload dX3_mostUrgent_46 rfl ?_
        refine ald7 dX3_mostUrgent_48 (by omega) (by omega) ?_
        refine k_X2_owed (C_X2_owed (by omega) (by omega)) (by decide) (by omega) (by omega) ml_X3_164 (Nat.le_of_ble_eq_true rfl) dX3_mostUrgent_49 ?_
        refine K_istore dX3_mostUrgent_52 (by decide) rfl ?_
        refine K_iload_n dX3_mostUrgent_54 rfl ?_
        refine K_iconst (v := -1) dX3_mostUrgent_55 (by decide) ?_
        refine K_icmp_eq (tgt := 77) dX3_mostUrgent_56 (by decide) (fun c56 => ?_) (fun c56 => ?_)
        · skip
          refine K_iconstN 1 dX3_mostUrgent_77 rfl ?_
          refine K_goto (tgt := 82) dX3_mostUrgent_78 (by decide) ?_
          refine K_istore dX3_mostUrgent_82 (by decide) rfl ?_
          refine K_iload dX3_mostUrgent_84 rfl ?_
          refine K_iconst (v := -1) dX3_mostUrgent_86 (by decide) ?_
          refine K_icmp_eq (tgt := 104) dX3_mostUrgent_87 (by decide) (fun c87 => ?_) (fun c87 => ?_)
          · skip
            refine K_iincN (b := 1) dX3_mostUrgent_104 rfl rfl (by decide) rfl ?_
            refine K_goto (tgt := 9) dX3_mostUrgent_107 (by decide) ?_
            exact K_lv [0, 1, 2, 3, 4] (by simp [lvpick, lkp, lvset, lvdel, Nat.beq, urgK, c56, c87]) ih_1
          · skip
            refine K_iload dX3_mostUrgent_90 rfl ?_
            refine K_ifN_eq (by omega) (tgt := 104) dX3_mostUrgent_92 (by decide) (fun c92 => absurd c92 (by decide)) (fun c92 => ?_)
            refine K_iload dX3_mostUrgent_95 rfl ?_
            refine K_istore_n dX3_mostUrgent_97 (by decide) rfl ?_
            refine K_iload dX3_mostUrgent_98 rfl ?_
            refine K_istore_n dX3_mostUrgent_100 (by decide) rfl ?_
            refine K_iload dX3_mostUrgent_101 rfl ?_
            refine K_istore_n dX3_mostUrgent_103 (by decide) rfl ?_
            refine K_iincN (b := 1) dX3_mostUrgent_104 rfl rfl (by decide) rfl ?_
            refine K_goto (tgt := 9) dX3_mostUrgent_107 (by decide) ?_
            exact K_lv [0, 1, 2, 3, 4] (by simp [lvpick, lkp, lvset, lvdel, Nat.beq, urgK, c56, c87]) ih_1
        · skip
          refine K_iload dX3_mostUrgent_59 rfl ?_
          refine K_iload_n dX3_mostUrgent_61 rfl ?_
          refine K_icmp_lt (tgt := 77) dX3_mostUrgent_62 (by decide) (fun c62 => ?_) (fun c62 => ?_)
          · skip
            refine K_iconstN 1 dX3_mostUrgent_77 rfl ?_
            refine K_goto (tgt := 82) dX3_mostUrgent_78 (by decide) ?_
            refine K_istore dX3_mostUrgent_82 (by decide) rfl ?_
            refine K_iload dX3_mostUrgent_84 rfl ?_
            refine K_iconst (v := -1) dX3_mostUrgent_86 (by decide) ?_
            refine K_icmp_eq (tgt := 104) dX3_mostUrgent_87 (by decide) (fun c87 => ?_) (fun c87 => ?_)
            · skip
              refine K_iincN (b := 1) dX3_mostUrgent_104 rfl rfl (by decide) rfl ?_
              refine K_goto (tgt := 9) dX3_mostUrgent_107 (by decide) ?_
              exact K_lv [0, 1, 2, 3, 4] (by simp [lvpick, lkp, lvset, lvdel, Nat.beq, urgK, c56, c62, c87]) ih_1
            · skip
              refine K_iload dX3_mostUrgent_90 rfl ?_
              refine K_ifN_eq (by omega) (tgt := 104) dX3_mostUrgent_92 (by decide) (fun c92 => absurd c92 (by decide)) (fun c92 => ?_)
              refine K_iload dX3_mostUrgent_95 rfl ?_
              refine K_istore_n dX3_mostUrgent_97 (by decide) rfl ?_
              refine K_iload dX3_mostUrgent_98 rfl ?_
              refine K_istore_n dX3_mostUrgent_100 (by decide) rfl ?_
              refine K_iload dX3_mostUrgent_101 rfl ?_
              refine K_istore_n dX3_mostUrgent_103 (by decide) rfl ?_
              refine K_iincN (b := 1) dX3_mostUrgent_104 rfl rfl (by decide) rfl ?_
              refine K_goto (tgt := 9) dX3_mostUrgent_107 (by decide) ?_
              exact K_lv [0, 1, 2, 3, 4] (by simp [lvpick, lkp, lvset, lvdel, Nat.beq, urgK, c56, c62, c87]) ih_1
          · skip
            refine K_iload dX3_mostUrgent_65 rfl ?_
            refine K_iload_n dX3_mostUrgent_67 rfl ?_
            refine K_icmp_ne (tgt := 81) dX3_mostUrgent_68 (by decide) (fun c68 => ?_) (fun c68 => ?_)
            · skip
              refine K_iconstN 0 dX3_mostUrgent_81 rfl ?_
              refine K_istore dX3_mostUrgent_82 (by decide) rfl ?_
              refine K_iload dX3_mostUrgent_84 rfl ?_
              refine K_iconst (v := -1) dX3_mostUrgent_86 (by decide) ?_
              refine K_icmp_eq (tgt := 104) dX3_mostUrgent_87 (by decide) (fun c87 => ?_) (fun c87 => ?_)
              · skip
                refine K_iincN (b := 1) dX3_mostUrgent_104 rfl rfl (by decide) rfl ?_
                refine K_goto (tgt := 9) dX3_mostUrgent_107 (by decide) ?_
                exact K_lv [0, 1, 2, 3, 4] (by simp [lvpick, lkp, lvset, lvdel, Nat.beq, urgK, c56, c62, c68, c87]) ih_1
              · skip
                refine K_iload dX3_mostUrgent_90 rfl ?_
                refine K_ifN_eq (by omega) (tgt := 104) dX3_mostUrgent_92 (by decide) (fun c92 => ?_) (fun c92 => absurd c92 (by decide))
                refine K_iincN (b := 1) dX3_mostUrgent_104 rfl rfl (by decide) rfl ?_
                refine K_goto (tgt := 9) dX3_mostUrgent_107 (by decide) ?_
                exact K_lv [0, 1, 2, 3, 4] (by simp [lvpick, lkp, lvset, lvdel, Nat.beq, urgK, c56, c62, c68, c87]) ih_1
            · skip
              refine K_iload dX3_mostUrgent_71 rfl ?_
              refine K_iload_n dX3_mostUrgent_73 rfl ?_
              refine K_icmp_le (tgt := 81) dX3_mostUrgent_74 (by decide) (fun c74 => ?_) (fun c74 => ?_)
              · skip
                refine K_iconstN 0 dX3_mostUrgent_81 rfl ?_
                refine K_istore dX3_mostUrgent_82 (by decide) rfl ?_
                refine K_iload dX3_mostUrgent_84 rfl ?_
                refine K_iconst (v := -1) dX3_mostUrgent_86 (by decide) ?_
                refine K_icmp_eq (tgt := 104) dX3_mostUrgent_87 (by decide) (fun c87 => ?_) (fun c87 => ?_)
                · skip
                  refine K_iincN (b := 1) dX3_mostUrgent_104 rfl rfl (by decide) rfl ?_
                  refine K_goto (tgt := 9) dX3_mostUrgent_107 (by decide) ?_
                  exact K_lv [0, 1, 2, 3, 4] (by simp [lvpick, lkp, lvset, lvdel, Nat.beq, urgK, c56, c62, c68, c74, (c68 ▸ c87)]) ih_1
                · skip
                  refine K_iload dX3_mostUrgent_90 rfl ?_
                  refine K_ifN_eq (by omega) (tgt := 104) dX3_mostUrgent_92 (by decide) (fun c92 => ?_) (fun c92 => absurd c92 (by decide))
                  refine K_iincN (b := 1) dX3_mostUrgent_104 rfl rfl (by decide) rfl ?_
                  refine K_goto (tgt := 9) dX3_mostUrgent_107 (by decide) ?_
                  exact K_lv [0, 1, 2, 3, 4] (by simp [lvpick, lkp, lvset, lvdel, Nat.beq, urgK, c56, c62, c68, c74, (c68 ▸ c87)]) ih_1
              · skip
                refine K_iconstN 1 dX3_mostUrgent_77 rfl ?_
                refine K_goto (tgt := 82) dX3_mostUrgent_78 (by decide) ?_
                refine K_istore dX3_mostUrgent_82 (by decide) rfl ?_
                refine K_iload dX3_mostUrgent_84 rfl ?_
                refine K_iconst (v := -1) dX3_mostUrgent_86 (by decide) ?_
                refine K_icmp_eq (tgt := 104) dX3_mostUrgent_87 (by decide) (fun c87 => ?_) (fun c87 => ?_)
                · skip
                  refine K_iincN (b := 1) dX3_mostUrgent_104 rfl rfl (by decide) rfl ?_
                  refine K_goto (tgt := 9) dX3_mostUrgent_107 (by decide) ?_
                  exact K_lv [0, 1, 2, 3, 4] (by simp [lvpick, lkp, lvset, lvdel, Nat.beq, urgK, c56, c62, c68, c74, (c68 ▸ c87)]) ih_1
                · skip
                  refine K_iload dX3_mostUrgent_90 rfl ?_
                  refine K_ifN_eq (by omega) (tgt := 104) dX3_mostUrgent_92 (by decide) (fun c92 => absurd c92 (by decide)) (fun c92 => ?_)
                  refine K_iload dX3_mostUrgent_95 rfl ?_
                  refine K_istore_n dX3_mostUrgent_97 (by decide) rfl ?_
                  refine K_iload dX3_mostUrgent_98 rfl ?_
                  refine K_istore_n dX3_mostUrgent_100 (by decide) rfl ?_
                  refine K_iload dX3_mostUrgent_101 rfl ?_
                  refine K_istore_n dX3_mostUrgent_103 (by decide) rfl ?_
                  refine K_iincN (b := 1) dX3_mostUrgent_104 rfl rfl (by decide) rfl ?_
                  refine K_goto (tgt := 9) dX3_mostUrgent_107 (by decide) ?_
                  exact K_lv [0, 1, 2, 3, 4] (by simp [lvpick, lkp, lvset, lvdel, Nat.beq, urgK, c56, c62, c68, c74, (c68 ▸ c87)]) ih_1
