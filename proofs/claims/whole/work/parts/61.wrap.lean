theorem cl_L_13 : Cond.classLink RL 13 "java/lang/IllegalStateException" ∈ UW := tb_in 492 (by decide +kernel) rfl
theorem cl_L_19 : Cond.classLink RL 19 "java/lang/IndexOutOfBoundsException" ∈ UW := tb_in 532 (by decide +kernel) rfl
theorem cl_L_21 : Cond.classLink RL 21 "java/lang/IllegalArgumentException" ∈ UW := tb_in 533 (by decide +kernel) rfl
def hh_addPhase : List (Nat × Nat × Nat × Nat) := [(0, 8, 11, 13)]
theorem mlL_addPhase : Cond.methodLink RL 7 yX3_addPhase ∈ UW := tb_in 493 (by decide +kernel) rfl
theorem W_addPhase {l : Launch} {G : WG} {d' nL : Nat} {cc : ByteArray} {μ μ' : Mem} {r : Int32} (hC : Ct l G d' yX3_addPhase cc nL (some .int) [.ref (adr G 0 0 0)] μ (some (.int r)) μ') (hm : MkV yX3_addPhase cc nL (some .int) 0) (hd : d' ≤ 10 ∧ nL ≤ 15) : CtW l G 11 yL_addPhase cL_addPhase 3 hh_addPhase ([.ref (adr G 0 0 0), .ref (adr G 21 0 0)]) μ 0 (mlset μ' 1 r.toInt64) := by
  refine CtW_of (by decide +kernel) (Nat.le_of_ble_eq_true rfl) ?_
  refine K_aload_n dL_addPhase_0 rfl ?_
  refine K_iconstN 0 dL_addPhase_1 rfl ?_
  refine K_aload_n dL_addPhase_2 rfl ?_
  refine K_callV (As := []) (rest := [.int (nI 0), .ref (adr G 21 0 0)]) hC hm mlL_addPhase ⟨by show d' + 1 ≤ 11; omega, by show 8 + (nL + 11) + 34 * d' ≤ 374; omega⟩ dm_0 rfl rfl rfl (Nat.le_of_ble_eq_true rfl) dL_addPhase_3 ?_
  refine K_i2l dL_addPhase_6 ?_
  refine K_lastore dL_addPhase_7 ?_
  refine K_goto (tgt := 14) dL_addPhase_8 (by decide) ?_
  refine K_iconst (v := 0) dL_addPhase_14 (by decide) ?_
  exact K_iretW dL_addPhase_15
theorem W_addPhase_ISE {l : Launch} {G : WG} {d' nL : Nat} {cc : ByteArray} {μ μ' : Mem} (hC : CtT l G d' yX3_addPhase cc nL (some .int) [.ref (adr G 0 0 0)] μ "java/lang/IllegalStateException" μ') (hm : MkV yX3_addPhase cc nL (some .int) 0) (hd : d' ≤ 10 ∧ nL ≤ 15) : CtW l G 11 yL_addPhase cL_addPhase 3 hh_addPhase ([.ref (adr G 0 0 0), .ref (adr G 21 0 0)]) μ 1 μ' := by
  refine CtW_of (by decide +kernel) (Nat.le_of_ble_eq_true rfl) ?_
  refine K_aload_n dL_addPhase_0 rfl ?_
  refine K_iconstN 0 dL_addPhase_1 rfl ?_
  refine K_aload_n dL_addPhase_2 rfl ?_
  refine K_catchV (As := []) (rest := [.int (nI 0), .ref (adr G 21 0 0)]) (hh := hh_addPhase) (pre := []) (suf := []) (0, 8, 11, 13) hC hm mlL_addPhase ⟨by show d' + 1 ≤ 11; omega, by show 8 + (nL + 11) + 34 * d' ≤ 374; omega⟩ ⟨Nat.le_refl 1, Nat.le_refl 6⟩ rfl rfl (Nat.le_of_ble_eq_true rfl) dL_addPhase_3 rfl (fun z hz => absurd hz List.not_mem_nil) (by decide) (by decide) cl_L_13 (by simp [nwC]) (fun q => ?_)
  refine J_astore_n dL_addPhase_11 (by decide) rfl ?_
  refine J_iconst (v := 1) dL_addPhase_12 (by decide) ?_
  exact J_iretW dL_addPhase_13
def hh_area : List (Nat × Nat × Nat × Nat) := [(0, 12, 15, 19), (0, 12, 19, 21), (0, 12, 23, 13)]
theorem mlL_area : Cond.methodLink RL 15 yX3_area ∈ UW := tb_in 534 (by decide +kernel) rfl
theorem W_area {l : Launch} {G : WG} {d' nL : Nat} {cc : ByteArray} {x y z : Int32} {μ μ' : Mem} {r : Int32} (hC : Ct l G d' yX3_area cc nL (some .int) [.ref (adr G 0 0 0), .int x, .int y, .int z] μ (some (.int r)) μ') (hm : MkV yX3_area cc nL (some .int) 3) (hd : d' ≤ 10 ∧ nL ≤ 15) : CtW l G 11 yL_area cL_area 6 hh_area ([.ref (adr G 0 0 0), .int x, .int y, .int z, .ref (adr G 21 0 0)]) μ 0 (mlset μ' 1 r.toInt64) := by
  refine CtW_of (by decide +kernel) (Nat.le_of_ble_eq_true rfl) ?_
  refine K_aload dL_area_0 rfl ?_
  refine K_iconstN 0 dL_area_2 rfl ?_
  refine K_aload_n dL_area_3 rfl ?_
  refine K_iload_n dL_area_4 rfl ?_
  refine K_iload_n dL_area_5 rfl ?_
  refine K_iload_n dL_area_6 rfl ?_
  refine K_callV (As := [.int x, .int y, .int z]) (rest := [.int (nI 0), .ref (adr G 21 0 0)]) hC hm mlL_area ⟨by show d' + 1 ≤ 11; omega, by show 8 + (nL + 11) + 34 * d' ≤ 374; omega⟩ dm_0 rfl rfl rfl (Nat.le_of_ble_eq_true rfl) dL_area_7 ?_
  refine K_i2l dL_area_10 ?_
  refine K_lastore dL_area_11 ?_
  refine K_goto (tgt := 27) dL_area_12 (by decide) ?_
  refine K_iconst (v := 0) dL_area_27 (by decide) ?_
  exact K_iretW dL_area_28
theorem W_area_IOB {l : Launch} {G : WG} {d' nL : Nat} {cc : ByteArray} {x y z : Int32} {μ μ' : Mem} (hC : CtT l G d' yX3_area cc nL (some .int) [.ref (adr G 0 0 0), .int x, .int y, .int z] μ "java/lang/IndexOutOfBoundsException" μ') (hm : MkV yX3_area cc nL (some .int) 3) (hd : d' ≤ 10 ∧ nL ≤ 15) : CtW l G 11 yL_area cL_area 6 hh_area ([.ref (adr G 0 0 0), .int x, .int y, .int z, .ref (adr G 21 0 0)]) μ 1 μ' := by
  refine CtW_of (by decide +kernel) (Nat.le_of_ble_eq_true rfl) ?_
  refine K_aload dL_area_0 rfl ?_
  refine K_iconstN 0 dL_area_2 rfl ?_
  refine K_aload_n dL_area_3 rfl ?_
  refine K_iload_n dL_area_4 rfl ?_
  refine K_iload_n dL_area_5 rfl ?_
  refine K_iload_n dL_area_6 rfl ?_
  refine K_catchV (As := [.int x, .int y, .int z]) (rest := [.int (nI 0), .ref (adr G 21 0 0)]) (hh := hh_area) (pre := []) (suf := [(0, 12, 19, 21), (0, 12, 23, 13)]) (0, 12, 15, 19) hC hm mlL_area ⟨by show d' + 1 ≤ 11; omega, by show 8 + (nL + 11) + 34 * d' ≤ 374; omega⟩ ⟨Nat.le_refl 1, Nat.le_refl 6⟩ rfl rfl (Nat.le_of_ble_eq_true rfl) dL_area_7 rfl (fun z hz => absurd hz List.not_mem_nil) (by decide) (by decide) cl_L_19 (by simp [nwC]) (fun q => ?_)
  refine J_astore dL_area_15 (by decide) rfl ?_
  refine J_iconst (v := 1) dL_area_17 (by decide) ?_
  exact J_iretW dL_area_18
theorem W_area_IAE {l : Launch} {G : WG} {d' nL : Nat} {cc : ByteArray} {x y z : Int32} {μ μ' : Mem} (hC : CtT l G d' yX3_area cc nL (some .int) [.ref (adr G 0 0 0), .int x, .int y, .int z] μ "java/lang/IllegalArgumentException" μ') (hm : MkV yX3_area cc nL (some .int) 3) (hd : d' ≤ 10 ∧ nL ≤ 15) : CtW l G 11 yL_area cL_area 6 hh_area ([.ref (adr G 0 0 0), .int x, .int y, .int z, .ref (adr G 21 0 0)]) μ 2 μ' := by
  refine CtW_of (by decide +kernel) (Nat.le_of_ble_eq_true rfl) ?_
  refine K_aload dL_area_0 rfl ?_
  refine K_iconstN 0 dL_area_2 rfl ?_
  refine K_aload_n dL_area_3 rfl ?_
  refine K_iload_n dL_area_4 rfl ?_
  refine K_iload_n dL_area_5 rfl ?_
  refine K_iload_n dL_area_6 rfl ?_
  refine K_catchV (As := [.int x, .int y, .int z]) (rest := [.int (nI 0), .ref (adr G 21 0 0)]) (hh := hh_area) (pre := [(0, 12, 15, 19)]) (suf := [(0, 12, 23, 13)]) (0, 12, 19, 21) hC hm mlL_area ⟨by show d' + 1 ≤ 11; omega, by show 8 + (nL + 11) + 34 * d' ≤ 374; omega⟩ ⟨Nat.le_refl 1, Nat.le_refl 6⟩ rfl rfl (Nat.le_of_ble_eq_true rfl) dL_area_7 rfl (fun z hz => by
    simp only [List.mem_cons, List.not_mem_nil, or_false] at hz
    subst hz
    · exact ⟨by decide, _, cl_L_19, by simp [nwNC]⟩) (by decide) (by decide) cl_L_21 (by simp [nwC]) (fun q => ?_)
  refine J_astore dL_area_19 (by decide) rfl ?_
  refine J_iconst (v := 2) dL_area_21 (by decide) ?_
  exact J_iretW dL_area_22
theorem W_area_ISE {l : Launch} {G : WG} {d' nL : Nat} {cc : ByteArray} {x y z : Int32} {μ μ' : Mem} (hC : CtT l G d' yX3_area cc nL (some .int) [.ref (adr G 0 0 0), .int x, .int y, .int z] μ "java/lang/IllegalStateException" μ') (hm : MkV yX3_area cc nL (some .int) 3) (hd : d' ≤ 10 ∧ nL ≤ 15) : CtW l G 11 yL_area cL_area 6 hh_area ([.ref (adr G 0 0 0), .int x, .int y, .int z, .ref (adr G 21 0 0)]) μ 3 μ' := by
  refine CtW_of (by decide +kernel) (Nat.le_of_ble_eq_true rfl) ?_
  refine K_aload dL_area_0 rfl ?_
  refine K_iconstN 0 dL_area_2 rfl ?_
  refine K_aload_n dL_area_3 rfl ?_
  refine K_iload_n dL_area_4 rfl ?_
  refine K_iload_n dL_area_5 rfl ?_
  refine K_iload_n dL_area_6 rfl ?_
  refine K_catchV (As := [.int x, .int y, .int z]) (rest := [.int (nI 0), .ref (adr G 21 0 0)]) (hh := hh_area) (pre := [(0, 12, 15, 19), (0, 12, 19, 21)]) (suf := []) (0, 12, 23, 13) hC hm mlL_area ⟨by show d' + 1 ≤ 11; omega, by show 8 + (nL + 11) + 34 * d' ≤ 374; omega⟩ ⟨Nat.le_refl 1, Nat.le_refl 6⟩ rfl rfl (Nat.le_of_ble_eq_true rfl) dL_area_7 rfl (fun z hz => by
    simp only [List.mem_cons, List.not_mem_nil, or_false] at hz
    rcases hz with rfl|rfl
    · exact ⟨by decide, _, cl_L_19, by simp [nwNC]⟩
    · exact ⟨by decide, _, cl_L_21, by simp [nwNC]⟩) (by decide) (by decide) cl_L_13 (by simp [nwC]) (fun q => ?_)
  refine J_astore dL_area_23 (by decide) rfl ?_
  refine J_iconst (v := 3) dL_area_25 (by decide) ?_
  exact J_iretW dL_area_26
def hh_exempt : List (Nat × Nat × Nat × Nat) := [(0, 12, 15, 19), (0, 12, 19, 21), (0, 12, 23, 13)]
theorem mlL_exempt : Cond.methodLink RL 23 yX3_exempt ∈ UW := tb_in 553 (by decide +kernel) rfl
theorem W_exempt {l : Launch} {G : WG} {d' nL : Nat} {cc : ByteArray} {x y z : Int32} {μ μ' : Mem} {r : Int32} (hC : Ct l G d' yX3_exempt cc nL (some .int) [.ref (adr G 0 0 0), .int x, .int y, .int z] μ (some (.int r)) μ') (hm : MkV yX3_exempt cc nL (some .int) 3) (hd : d' ≤ 10 ∧ nL ≤ 15) : CtW l G 11 yL_exempt cL_exempt 6 hh_exempt ([.ref (adr G 0 0 0), .int x, .int y, .int z, .ref (adr G 21 0 0)]) μ 0 (mlset μ' 1 r.toInt64) := by
  refine CtW_of (by decide +kernel) (Nat.le_of_ble_eq_true rfl) ?_
  refine K_aload dL_exempt_0 rfl ?_
  refine K_iconstN 0 dL_exempt_2 rfl ?_
  refine K_aload_n dL_exempt_3 rfl ?_
  refine K_iload_n dL_exempt_4 rfl ?_
  refine K_iload_n dL_exempt_5 rfl ?_
  refine K_iload_n dL_exempt_6 rfl ?_
  refine K_callV (As := [.int x, .int y, .int z]) (rest := [.int (nI 0), .ref (adr G 21 0 0)]) hC hm mlL_exempt ⟨by show d' + 1 ≤ 11; omega, by show 8 + (nL + 11) + 34 * d' ≤ 374; omega⟩ dm_0 rfl rfl rfl (Nat.le_of_ble_eq_true rfl) dL_exempt_7 ?_
  refine K_i2l dL_exempt_10 ?_
  refine K_lastore dL_exempt_11 ?_
  refine K_goto (tgt := 27) dL_exempt_12 (by decide) ?_
  refine K_iconst (v := 0) dL_exempt_27 (by decide) ?_
  exact K_iretW dL_exempt_28
theorem W_exempt_IOB {l : Launch} {G : WG} {d' nL : Nat} {cc : ByteArray} {x y z : Int32} {μ μ' : Mem} (hC : CtT l G d' yX3_exempt cc nL (some .int) [.ref (adr G 0 0 0), .int x, .int y, .int z] μ "java/lang/IndexOutOfBoundsException" μ') (hm : MkV yX3_exempt cc nL (some .int) 3) (hd : d' ≤ 10 ∧ nL ≤ 15) : CtW l G 11 yL_exempt cL_exempt 6 hh_exempt ([.ref (adr G 0 0 0), .int x, .int y, .int z, .ref (adr G 21 0 0)]) μ 1 μ' := by
  refine CtW_of (by decide +kernel) (Nat.le_of_ble_eq_true rfl) ?_
  refine K_aload dL_exempt_0 rfl ?_
  refine K_iconstN 0 dL_exempt_2 rfl ?_
  refine K_aload_n dL_exempt_3 rfl ?_
  refine K_iload_n dL_exempt_4 rfl ?_
  refine K_iload_n dL_exempt_5 rfl ?_
  refine K_iload_n dL_exempt_6 rfl ?_
  refine K_catchV (As := [.int x, .int y, .int z]) (rest := [.int (nI 0), .ref (adr G 21 0 0)]) (hh := hh_exempt) (pre := []) (suf := [(0, 12, 19, 21), (0, 12, 23, 13)]) (0, 12, 15, 19) hC hm mlL_exempt ⟨by show d' + 1 ≤ 11; omega, by show 8 + (nL + 11) + 34 * d' ≤ 374; omega⟩ ⟨Nat.le_refl 1, Nat.le_refl 6⟩ rfl rfl (Nat.le_of_ble_eq_true rfl) dL_exempt_7 rfl (fun z hz => absurd hz List.not_mem_nil) (by decide) (by decide) cl_L_19 (by simp [nwC]) (fun q => ?_)
  refine J_astore dL_exempt_15 (by decide) rfl ?_
  refine J_iconst (v := 1) dL_exempt_17 (by decide) ?_
  exact J_iretW dL_exempt_18
theorem W_exempt_IAE {l : Launch} {G : WG} {d' nL : Nat} {cc : ByteArray} {x y z : Int32} {μ μ' : Mem} (hC : CtT l G d' yX3_exempt cc nL (some .int) [.ref (adr G 0 0 0), .int x, .int y, .int z] μ "java/lang/IllegalArgumentException" μ') (hm : MkV yX3_exempt cc nL (some .int) 3) (hd : d' ≤ 10 ∧ nL ≤ 15) : CtW l G 11 yL_exempt cL_exempt 6 hh_exempt ([.ref (adr G 0 0 0), .int x, .int y, .int z, .ref (adr G 21 0 0)]) μ 2 μ' := by
  refine CtW_of (by decide +kernel) (Nat.le_of_ble_eq_true rfl) ?_
  refine K_aload dL_exempt_0 rfl ?_
  refine K_iconstN 0 dL_exempt_2 rfl ?_
  refine K_aload_n dL_exempt_3 rfl ?_
  refine K_iload_n dL_exempt_4 rfl ?_
  refine K_iload_n dL_exempt_5 rfl ?_
  refine K_iload_n dL_exempt_6 rfl ?_
  refine K_catchV (As := [.int x, .int y, .int z]) (rest := [.int (nI 0), .ref (adr G 21 0 0)]) (hh := hh_exempt) (pre := [(0, 12, 15, 19)]) (suf := [(0, 12, 23, 13)]) (0, 12, 19, 21) hC hm mlL_exempt ⟨by show d' + 1 ≤ 11; omega, by show 8 + (nL + 11) + 34 * d' ≤ 374; omega⟩ ⟨Nat.le_refl 1, Nat.le_refl 6⟩ rfl rfl (Nat.le_of_ble_eq_true rfl) dL_exempt_7 rfl (fun z hz => by
    simp only [List.mem_cons, List.not_mem_nil, or_false] at hz
    subst hz
    · exact ⟨by decide, _, cl_L_19, by simp [nwNC]⟩) (by decide) (by decide) cl_L_21 (by simp [nwC]) (fun q => ?_)
  refine J_astore dL_exempt_19 (by decide) rfl ?_
  refine J_iconst (v := 2) dL_exempt_21 (by decide) ?_
  exact J_iretW dL_exempt_22
theorem W_exempt_ISE {l : Launch} {G : WG} {d' nL : Nat} {cc : ByteArray} {x y z : Int32} {μ μ' : Mem} (hC : CtT l G d' yX3_exempt cc nL (some .int) [.ref (adr G 0 0 0), .int x, .int y, .int z] μ "java/lang/IllegalStateException" μ') (hm : MkV yX3_exempt cc nL (some .int) 3) (hd : d' ≤ 10 ∧ nL ≤ 15) : CtW l G 11 yL_exempt cL_exempt 6 hh_exempt ([.ref (adr G 0 0 0), .int x, .int y, .int z, .ref (adr G 21 0 0)]) μ 3 μ' := by
  refine CtW_of (by decide +kernel) (Nat.le_of_ble_eq_true rfl) ?_
  refine K_aload dL_exempt_0 rfl ?_
  refine K_iconstN 0 dL_exempt_2 rfl ?_
  refine K_aload_n dL_exempt_3 rfl ?_
  refine K_iload_n dL_exempt_4 rfl ?_
  refine K_iload_n dL_exempt_5 rfl ?_
  refine K_iload_n dL_exempt_6 rfl ?_
  refine K_catchV (As := [.int x, .int y, .int z]) (rest := [.int (nI 0), .ref (adr G 21 0 0)]) (hh := hh_exempt) (pre := [(0, 12, 15, 19), (0, 12, 19, 21)]) (suf := []) (0, 12, 23, 13) hC hm mlL_exempt ⟨by show d' + 1 ≤ 11; omega, by show 8 + (nL + 11) + 34 * d' ≤ 374; omega⟩ ⟨Nat.le_refl 1, Nat.le_refl 6⟩ rfl rfl (Nat.le_of_ble_eq_true rfl) dL_exempt_7 rfl (fun z hz => by
    simp only [List.mem_cons, List.not_mem_nil, or_false] at hz
    rcases hz with rfl|rfl
    · exact ⟨by decide, _, cl_L_19, by simp [nwNC]⟩
    · exact ⟨by decide, _, cl_L_21, by simp [nwNC]⟩) (by decide) (by decide) cl_L_13 (by simp [nwC]) (fun q => ?_)
  refine J_astore dL_exempt_23 (by decide) rfl ?_
  refine J_iconst (v := 3) dL_exempt_25 (by decide) ?_
  exact J_iretW dL_exempt_26
def hh_rate : List (Nat × Nat × Nat × Nat) := [(0, 10, 13, 19), (0, 10, 17, 21)]
theorem mlL_rate : Cond.methodLink RL 26 yX3_rate ∈ UW := tb_in 564 (by decide +kernel) rfl
theorem W_rate {l : Launch} {G : WG} {d' nL : Nat} {cc : ByteArray} {x y : Int32} {μ μ' : Mem} {r : Int32} (hC : Ct l G d' yX3_rate cc nL (some .int) [.ref (adr G 0 0 0), .int x, .int y] μ (some (.int r)) μ') (hm : MkV yX3_rate cc nL (some .int) 2) (hd : d' ≤ 10 ∧ nL ≤ 15) : CtW l G 11 yL_rate cL_rate 5 hh_rate ([.ref (adr G 0 0 0), .int x, .int y, .ref (adr G 21 0 0)]) μ 0 (mlset μ' 1 r.toInt64) := by
  refine CtW_of (by decide +kernel) (Nat.le_of_ble_eq_true rfl) ?_
  refine K_aload_n dL_rate_0 rfl ?_
  refine K_iconstN 0 dL_rate_1 rfl ?_
  refine K_aload_n dL_rate_2 rfl ?_
  refine K_iload_n dL_rate_3 rfl ?_
  refine K_iload_n dL_rate_4 rfl ?_
  refine K_callV (As := [.int x, .int y]) (rest := [.int (nI 0), .ref (adr G 21 0 0)]) hC hm mlL_rate ⟨by show d' + 1 ≤ 11; omega, by show 8 + (nL + 11) + 34 * d' ≤ 374; omega⟩ dm_0 rfl rfl rfl (Nat.le_of_ble_eq_true rfl) dL_rate_5 ?_
  refine K_i2l dL_rate_8 ?_
  refine K_lastore dL_rate_9 ?_
  refine K_goto (tgt := 21) dL_rate_10 (by decide) ?_
  refine K_iconst (v := 0) dL_rate_21 (by decide) ?_
  exact K_iretW dL_rate_22
theorem W_rate_IOB {l : Launch} {G : WG} {d' nL : Nat} {cc : ByteArray} {x y : Int32} {μ μ' : Mem} (hC : CtT l G d' yX3_rate cc nL (some .int) [.ref (adr G 0 0 0), .int x, .int y] μ "java/lang/IndexOutOfBoundsException" μ') (hm : MkV yX3_rate cc nL (some .int) 2) (hd : d' ≤ 10 ∧ nL ≤ 15) : CtW l G 11 yL_rate cL_rate 5 hh_rate ([.ref (adr G 0 0 0), .int x, .int y, .ref (adr G 21 0 0)]) μ 1 μ' := by
  refine CtW_of (by decide +kernel) (Nat.le_of_ble_eq_true rfl) ?_
  refine K_aload_n dL_rate_0 rfl ?_
  refine K_iconstN 0 dL_rate_1 rfl ?_
  refine K_aload_n dL_rate_2 rfl ?_
  refine K_iload_n dL_rate_3 rfl ?_
  refine K_iload_n dL_rate_4 rfl ?_
  refine K_catchV (As := [.int x, .int y]) (rest := [.int (nI 0), .ref (adr G 21 0 0)]) (hh := hh_rate) (pre := []) (suf := [(0, 10, 17, 21)]) (0, 10, 13, 19) hC hm mlL_rate ⟨by show d' + 1 ≤ 11; omega, by show 8 + (nL + 11) + 34 * d' ≤ 374; omega⟩ ⟨Nat.le_refl 1, Nat.le_refl 6⟩ rfl rfl (Nat.le_of_ble_eq_true rfl) dL_rate_5 rfl (fun z hz => absurd hz List.not_mem_nil) (by decide) (by decide) cl_L_19 (by simp [nwC]) (fun q => ?_)
  refine J_astore dL_rate_13 (by decide) rfl ?_
  refine J_iconst (v := 1) dL_rate_15 (by decide) ?_
  exact J_iretW dL_rate_16
theorem W_rate_IAE {l : Launch} {G : WG} {d' nL : Nat} {cc : ByteArray} {x y : Int32} {μ μ' : Mem} (hC : CtT l G d' yX3_rate cc nL (some .int) [.ref (adr G 0 0 0), .int x, .int y] μ "java/lang/IllegalArgumentException" μ') (hm : MkV yX3_rate cc nL (some .int) 2) (hd : d' ≤ 10 ∧ nL ≤ 15) : CtW l G 11 yL_rate cL_rate 5 hh_rate ([.ref (adr G 0 0 0), .int x, .int y, .ref (adr G 21 0 0)]) μ 2 μ' := by
  refine CtW_of (by decide +kernel) (Nat.le_of_ble_eq_true rfl) ?_
  refine K_aload_n dL_rate_0 rfl ?_
  refine K_iconstN 0 dL_rate_1 rfl ?_
  refine K_aload_n dL_rate_2 rfl ?_
  refine K_iload_n dL_rate_3 rfl ?_
  refine K_iload_n dL_rate_4 rfl ?_
  refine K_catchV (As := [.int x, .int y]) (rest := [.int (nI 0), .ref (adr G 21 0 0)]) (hh := hh_rate) (pre := [(0, 10, 13, 19)]) (suf := []) (0, 10, 17, 21) hC hm mlL_rate ⟨by show d' + 1 ≤ 11; omega, by show 8 + (nL + 11) + 34 * d' ≤ 374; omega⟩ ⟨Nat.le_refl 1, Nat.le_refl 6⟩ rfl rfl (Nat.le_of_ble_eq_true rfl) dL_rate_5 rfl (fun z hz => by
    simp only [List.mem_cons, List.not_mem_nil, or_false] at hz
    subst hz
    · exact ⟨by decide, _, cl_L_19, by simp [nwNC]⟩) (by decide) (by decide) cl_L_21 (by simp [nwC]) (fun q => ?_)
  refine J_astore dL_rate_17 (by decide) rfl ?_
  refine J_iconst (v := 2) dL_rate_19 (by decide) ?_
  exact J_iretW dL_rate_20
def hh_set : List (Nat × Nat × Nat × Nat) := [(0, 10, 13, 19), (0, 10, 17, 21)]
theorem mlL_set : Cond.methodLink RL 30 yX3_set ∈ UW := tb_in 575 (by decide +kernel) rfl
theorem W_set {l : Launch} {G : WG} {d' nL : Nat} {cc : ByteArray} {x y : Int32} {μ μ' : Mem} {r : Int32} (hC : Ct l G d' yX3_set cc nL (some .int) [.ref (adr G 0 0 0), .int x, .int y] μ (some (.int r)) μ') (hm : MkV yX3_set cc nL (some .int) 2) (hd : d' ≤ 10 ∧ nL ≤ 15) : CtW l G 11 yL_set cL_set 5 hh_set ([.ref (adr G 0 0 0), .int x, .int y, .ref (adr G 21 0 0)]) μ 0 (mlset μ' 1 r.toInt64) := by
  refine CtW_of (by decide +kernel) (Nat.le_of_ble_eq_true rfl) ?_
  refine K_aload_n dL_set_0 rfl ?_
  refine K_iconstN 0 dL_set_1 rfl ?_
  refine K_aload_n dL_set_2 rfl ?_
  refine K_iload_n dL_set_3 rfl ?_
  refine K_iload_n dL_set_4 rfl ?_
  refine K_callV (As := [.int x, .int y]) (rest := [.int (nI 0), .ref (adr G 21 0 0)]) hC hm mlL_set ⟨by show d' + 1 ≤ 11; omega, by show 8 + (nL + 11) + 34 * d' ≤ 374; omega⟩ dm_0 rfl rfl rfl (Nat.le_of_ble_eq_true rfl) dL_set_5 ?_
  refine K_i2l dL_set_8 ?_
  refine K_lastore dL_set_9 ?_
  refine K_goto (tgt := 21) dL_set_10 (by decide) ?_
  refine K_iconst (v := 0) dL_set_21 (by decide) ?_
  exact K_iretW dL_set_22
theorem W_set_IOB {l : Launch} {G : WG} {d' nL : Nat} {cc : ByteArray} {x y : Int32} {μ μ' : Mem} (hC : CtT l G d' yX3_set cc nL (some .int) [.ref (adr G 0 0 0), .int x, .int y] μ "java/lang/IndexOutOfBoundsException" μ') (hm : MkV yX3_set cc nL (some .int) 2) (hd : d' ≤ 10 ∧ nL ≤ 15) : CtW l G 11 yL_set cL_set 5 hh_set ([.ref (adr G 0 0 0), .int x, .int y, .ref (adr G 21 0 0)]) μ 1 μ' := by
  refine CtW_of (by decide +kernel) (Nat.le_of_ble_eq_true rfl) ?_
  refine K_aload_n dL_set_0 rfl ?_
  refine K_iconstN 0 dL_set_1 rfl ?_
  refine K_aload_n dL_set_2 rfl ?_
  refine K_iload_n dL_set_3 rfl ?_
  refine K_iload_n dL_set_4 rfl ?_
  refine K_catchV (As := [.int x, .int y]) (rest := [.int (nI 0), .ref (adr G 21 0 0)]) (hh := hh_set) (pre := []) (suf := [(0, 10, 17, 21)]) (0, 10, 13, 19) hC hm mlL_set ⟨by show d' + 1 ≤ 11; omega, by show 8 + (nL + 11) + 34 * d' ≤ 374; omega⟩ ⟨Nat.le_refl 1, Nat.le_refl 6⟩ rfl rfl (Nat.le_of_ble_eq_true rfl) dL_set_5 rfl (fun z hz => absurd hz List.not_mem_nil) (by decide) (by decide) cl_L_19 (by simp [nwC]) (fun q => ?_)
  refine J_astore dL_set_13 (by decide) rfl ?_
  refine J_iconst (v := 1) dL_set_15 (by decide) ?_
  exact J_iretW dL_set_16
theorem W_set_IAE {l : Launch} {G : WG} {d' nL : Nat} {cc : ByteArray} {x y : Int32} {μ μ' : Mem} (hC : CtT l G d' yX3_set cc nL (some .int) [.ref (adr G 0 0 0), .int x, .int y] μ "java/lang/IllegalArgumentException" μ') (hm : MkV yX3_set cc nL (some .int) 2) (hd : d' ≤ 10 ∧ nL ≤ 15) : CtW l G 11 yL_set cL_set 5 hh_set ([.ref (adr G 0 0 0), .int x, .int y, .ref (adr G 21 0 0)]) μ 2 μ' := by
  refine CtW_of (by decide +kernel) (Nat.le_of_ble_eq_true rfl) ?_
  refine K_aload_n dL_set_0 rfl ?_
  refine K_iconstN 0 dL_set_1 rfl ?_
  refine K_aload_n dL_set_2 rfl ?_
  refine K_iload_n dL_set_3 rfl ?_
  refine K_iload_n dL_set_4 rfl ?_
  refine K_catchV (As := [.int x, .int y]) (rest := [.int (nI 0), .ref (adr G 21 0 0)]) (hh := hh_set) (pre := [(0, 10, 13, 19)]) (suf := []) (0, 10, 17, 21) hC hm mlL_set ⟨by show d' + 1 ≤ 11; omega, by show 8 + (nL + 11) + 34 * d' ≤ 374; omega⟩ ⟨Nat.le_refl 1, Nat.le_refl 6⟩ rfl rfl (Nat.le_of_ble_eq_true rfl) dL_set_5 rfl (fun z hz => by
    simp only [List.mem_cons, List.not_mem_nil, or_false] at hz
    subst hz
    · exact ⟨by decide, _, cl_L_19, by simp [nwNC]⟩) (by decide) (by decide) cl_L_21 (by simp [nwC]) (fun q => ?_)
  refine J_astore dL_set_17 (by decide) rfl ?_
  refine J_iconst (v := 2) dL_set_19 (by decide) ?_
  exact J_iretW dL_set_20
def hh_begin : List (Nat × Nat × Nat × Nat) := [(0, 9, 12, 19), (0, 9, 15, 13)]
theorem mlL_begin : Cond.methodLink RL 33 yX3_begin ∈ UW := tb_in 590 (by decide +kernel) rfl
theorem W_begin {l : Launch} {G : WG} {d' nL : Nat} {cc : ByteArray} {x : Int32} {μ μ' : Mem} {r : Int32} (hC : Ct l G d' yX3_begin cc nL (some .int) [.ref (adr G 0 0 0), .int x] μ (some (.int r)) μ') (hm : MkV yX3_begin cc nL (some .int) 1) (hd : d' ≤ 10 ∧ nL ≤ 15) : CtW l G 11 yL_begin cL_begin 4 hh_begin ([.ref (adr G 0 0 0), .int x, .ref (adr G 21 0 0)]) μ 0 (mlset μ' 1 r.toInt64) := by
  refine CtW_of (by decide +kernel) (Nat.le_of_ble_eq_true rfl) ?_
  refine K_aload_n dL_begin_0 rfl ?_
  refine K_iconstN 0 dL_begin_1 rfl ?_
  refine K_aload_n dL_begin_2 rfl ?_
  refine K_iload_n dL_begin_3 rfl ?_
  refine K_callV (As := [.int x]) (rest := [.int (nI 0), .ref (adr G 21 0 0)]) hC hm mlL_begin ⟨by show d' + 1 ≤ 11; omega, by show 8 + (nL + 11) + 34 * d' ≤ 374; omega⟩ dm_0 rfl rfl rfl (Nat.le_of_ble_eq_true rfl) dL_begin_4 ?_
  refine K_i2l dL_begin_7 ?_
  refine K_lastore dL_begin_8 ?_
  refine K_goto (tgt := 18) dL_begin_9 (by decide) ?_
  refine K_iconst (v := 0) dL_begin_18 (by decide) ?_
  exact K_iretW dL_begin_19
theorem W_begin_IOB {l : Launch} {G : WG} {d' nL : Nat} {cc : ByteArray} {x : Int32} {μ μ' : Mem} (hC : CtT l G d' yX3_begin cc nL (some .int) [.ref (adr G 0 0 0), .int x] μ "java/lang/IndexOutOfBoundsException" μ') (hm : MkV yX3_begin cc nL (some .int) 1) (hd : d' ≤ 10 ∧ nL ≤ 15) : CtW l G 11 yL_begin cL_begin 4 hh_begin ([.ref (adr G 0 0 0), .int x, .ref (adr G 21 0 0)]) μ 1 μ' := by
  refine CtW_of (by decide +kernel) (Nat.le_of_ble_eq_true rfl) ?_
  refine K_aload_n dL_begin_0 rfl ?_
  refine K_iconstN 0 dL_begin_1 rfl ?_
  refine K_aload_n dL_begin_2 rfl ?_
  refine K_iload_n dL_begin_3 rfl ?_
  refine K_catchV (As := [.int x]) (rest := [.int (nI 0), .ref (adr G 21 0 0)]) (hh := hh_begin) (pre := []) (suf := [(0, 9, 15, 13)]) (0, 9, 12, 19) hC hm mlL_begin ⟨by show d' + 1 ≤ 11; omega, by show 8 + (nL + 11) + 34 * d' ≤ 374; omega⟩ ⟨Nat.le_refl 1, Nat.le_refl 6⟩ rfl rfl (Nat.le_of_ble_eq_true rfl) dL_begin_4 rfl (fun z hz => absurd hz List.not_mem_nil) (by decide) (by decide) cl_L_19 (by simp [nwC]) (fun q => ?_)
  refine J_astore_n dL_begin_12 (by decide) rfl ?_
  refine J_iconst (v := 1) dL_begin_13 (by decide) ?_
  exact J_iretW dL_begin_14
theorem W_begin_ISE {l : Launch} {G : WG} {d' nL : Nat} {cc : ByteArray} {x : Int32} {μ μ' : Mem} (hC : CtT l G d' yX3_begin cc nL (some .int) [.ref (adr G 0 0 0), .int x] μ "java/lang/IllegalStateException" μ') (hm : MkV yX3_begin cc nL (some .int) 1) (hd : d' ≤ 10 ∧ nL ≤ 15) : CtW l G 11 yL_begin cL_begin 4 hh_begin ([.ref (adr G 0 0 0), .int x, .ref (adr G 21 0 0)]) μ 2 μ' := by
  refine CtW_of (by decide +kernel) (Nat.le_of_ble_eq_true rfl) ?_
  refine K_aload_n dL_begin_0 rfl ?_
  refine K_iconstN 0 dL_begin_1 rfl ?_
  refine K_aload_n dL_begin_2 rfl ?_
  refine K_iload_n dL_begin_3 rfl ?_
  refine K_catchV (As := [.int x]) (rest := [.int (nI 0), .ref (adr G 21 0 0)]) (hh := hh_begin) (pre := [(0, 9, 12, 19)]) (suf := []) (0, 9, 15, 13) hC hm mlL_begin ⟨by show d' + 1 ≤ 11; omega, by show 8 + (nL + 11) + 34 * d' ≤ 374; omega⟩ ⟨Nat.le_refl 1, Nat.le_refl 6⟩ rfl rfl (Nat.le_of_ble_eq_true rfl) dL_begin_4 rfl (fun z hz => by
    simp only [List.mem_cons, List.not_mem_nil, or_false] at hz
    subst hz
    · exact ⟨by decide, _, cl_L_19, by simp [nwNC]⟩) (by decide) (by decide) cl_L_13 (by simp [nwC]) (fun q => ?_)
  refine J_astore_n dL_begin_15 (by decide) rfl ?_
  refine J_iconst (v := 2) dL_begin_16 (by decide) ?_
  exact J_iretW dL_begin_17
def hh_pay : List (Nat × Nat × Nat × Nat) := [(0, 10, 13, 19), (0, 10, 17, 21), (0, 10, 21, 13)]
theorem mlL_pay : Cond.methodLink RL 37 yX3_pay ∈ UW := tb_in 607 (by decide +kernel) rfl
theorem W_pay {l : Launch} {G : WG} {d' nL : Nat} {cc : ByteArray} {x y : Int32} {μ μ' : Mem} {r : Int32} (hC : Ct l G d' yX3_pay cc nL (some .int) [.ref (adr G 0 0 0), .int x, .int y] μ (some (.int r)) μ') (hm : MkV yX3_pay cc nL (some .int) 2) (hd : d' ≤ 10 ∧ nL ≤ 15) : CtW l G 11 yL_pay cL_pay 5 hh_pay ([.ref (adr G 0 0 0), .int x, .int y, .ref (adr G 21 0 0)]) μ 0 (mlset μ' 1 r.toInt64) := by
  refine CtW_of (by decide +kernel) (Nat.le_of_ble_eq_true rfl) ?_
  refine K_aload_n dL_pay_0 rfl ?_
  refine K_iconstN 0 dL_pay_1 rfl ?_
  refine K_aload_n dL_pay_2 rfl ?_
  refine K_iload_n dL_pay_3 rfl ?_
  refine K_iload_n dL_pay_4 rfl ?_
  refine K_callV (As := [.int x, .int y]) (rest := [.int (nI 0), .ref (adr G 21 0 0)]) hC hm mlL_pay ⟨by show d' + 1 ≤ 11; omega, by show 8 + (nL + 11) + 34 * d' ≤ 374; omega⟩ dm_0 rfl rfl rfl (Nat.le_of_ble_eq_true rfl) dL_pay_5 ?_
  refine K_i2l dL_pay_8 ?_
  refine K_lastore dL_pay_9 ?_
  refine K_goto (tgt := 25) dL_pay_10 (by decide) ?_
  refine K_iconst (v := 0) dL_pay_25 (by decide) ?_
  exact K_iretW dL_pay_26
theorem W_pay_IOB {l : Launch} {G : WG} {d' nL : Nat} {cc : ByteArray} {x y : Int32} {μ μ' : Mem} (hC : CtT l G d' yX3_pay cc nL (some .int) [.ref (adr G 0 0 0), .int x, .int y] μ "java/lang/IndexOutOfBoundsException" μ') (hm : MkV yX3_pay cc nL (some .int) 2) (hd : d' ≤ 10 ∧ nL ≤ 15) : CtW l G 11 yL_pay cL_pay 5 hh_pay ([.ref (adr G 0 0 0), .int x, .int y, .ref (adr G 21 0 0)]) μ 1 μ' := by
  refine CtW_of (by decide +kernel) (Nat.le_of_ble_eq_true rfl) ?_
  refine K_aload_n dL_pay_0 rfl ?_
  refine K_iconstN 0 dL_pay_1 rfl ?_
  refine K_aload_n dL_pay_2 rfl ?_
  refine K_iload_n dL_pay_3 rfl ?_
  refine K_iload_n dL_pay_4 rfl ?_
  refine K_catchV (As := [.int x, .int y]) (rest := [.int (nI 0), .ref (adr G 21 0 0)]) (hh := hh_pay) (pre := []) (suf := [(0, 10, 17, 21), (0, 10, 21, 13)]) (0, 10, 13, 19) hC hm mlL_pay ⟨by show d' + 1 ≤ 11; omega, by show 8 + (nL + 11) + 34 * d' ≤ 374; omega⟩ ⟨Nat.le_refl 1, Nat.le_refl 6⟩ rfl rfl (Nat.le_of_ble_eq_true rfl) dL_pay_5 rfl (fun z hz => absurd hz List.not_mem_nil) (by decide) (by decide) cl_L_19 (by simp [nwC]) (fun q => ?_)
  refine J_astore dL_pay_13 (by decide) rfl ?_
  refine J_iconst (v := 1) dL_pay_15 (by decide) ?_
  exact J_iretW dL_pay_16
theorem W_pay_IAE {l : Launch} {G : WG} {d' nL : Nat} {cc : ByteArray} {x y : Int32} {μ μ' : Mem} (hC : CtT l G d' yX3_pay cc nL (some .int) [.ref (adr G 0 0 0), .int x, .int y] μ "java/lang/IllegalArgumentException" μ') (hm : MkV yX3_pay cc nL (some .int) 2) (hd : d' ≤ 10 ∧ nL ≤ 15) : CtW l G 11 yL_pay cL_pay 5 hh_pay ([.ref (adr G 0 0 0), .int x, .int y, .ref (adr G 21 0 0)]) μ 2 μ' := by
  refine CtW_of (by decide +kernel) (Nat.le_of_ble_eq_true rfl) ?_
  refine K_aload_n dL_pay_0 rfl ?_
  refine K_iconstN 0 dL_pay_1 rfl ?_
  refine K_aload_n dL_pay_2 rfl ?_
  refine K_iload_n dL_pay_3 rfl ?_
  refine K_iload_n dL_pay_4 rfl ?_
  refine K_catchV (As := [.int x, .int y]) (rest := [.int (nI 0), .ref (adr G 21 0 0)]) (hh := hh_pay) (pre := [(0, 10, 13, 19)]) (suf := [(0, 10, 21, 13)]) (0, 10, 17, 21) hC hm mlL_pay ⟨by show d' + 1 ≤ 11; omega, by show 8 + (nL + 11) + 34 * d' ≤ 374; omega⟩ ⟨Nat.le_refl 1, Nat.le_refl 6⟩ rfl rfl (Nat.le_of_ble_eq_true rfl) dL_pay_5 rfl (fun z hz => by
    simp only [List.mem_cons, List.not_mem_nil, or_false] at hz
    subst hz
    · exact ⟨by decide, _, cl_L_19, by simp [nwNC]⟩) (by decide) (by decide) cl_L_21 (by simp [nwC]) (fun q => ?_)
  refine J_astore dL_pay_17 (by decide) rfl ?_
  refine J_iconst (v := 2) dL_pay_19 (by decide) ?_
  exact J_iretW dL_pay_20
theorem W_pay_ISE {l : Launch} {G : WG} {d' nL : Nat} {cc : ByteArray} {x y : Int32} {μ μ' : Mem} (hC : CtT l G d' yX3_pay cc nL (some .int) [.ref (adr G 0 0 0), .int x, .int y] μ "java/lang/IllegalStateException" μ') (hm : MkV yX3_pay cc nL (some .int) 2) (hd : d' ≤ 10 ∧ nL ≤ 15) : CtW l G 11 yL_pay cL_pay 5 hh_pay ([.ref (adr G 0 0 0), .int x, .int y, .ref (adr G 21 0 0)]) μ 3 μ' := by
  refine CtW_of (by decide +kernel) (Nat.le_of_ble_eq_true rfl) ?_
  refine K_aload_n dL_pay_0 rfl ?_
  refine K_iconstN 0 dL_pay_1 rfl ?_
  refine K_aload_n dL_pay_2 rfl ?_
  refine K_iload_n dL_pay_3 rfl ?_
  refine K_iload_n dL_pay_4 rfl ?_
  refine K_catchV (As := [.int x, .int y]) (rest := [.int (nI 0), .ref (adr G 21 0 0)]) (hh := hh_pay) (pre := [(0, 10, 13, 19), (0, 10, 17, 21)]) (suf := []) (0, 10, 21, 13) hC hm mlL_pay ⟨by show d' + 1 ≤ 11; omega, by show 8 + (nL + 11) + 34 * d' ≤ 374; omega⟩ ⟨Nat.le_refl 1, Nat.le_refl 6⟩ rfl rfl (Nat.le_of_ble_eq_true rfl) dL_pay_5 rfl (fun z hz => by
    simp only [List.mem_cons, List.not_mem_nil, or_false] at hz
    rcases hz with rfl|rfl
    · exact ⟨by decide, _, cl_L_19, by simp [nwNC]⟩
    · exact ⟨by decide, _, cl_L_21, by simp [nwNC]⟩) (by decide) (by decide) cl_L_13 (by simp [nwC]) (fun q => ?_)
  refine J_astore dL_pay_21 (by decide) rfl ?_
  refine J_iconst (v := 3) dL_pay_23 (by decide) ?_
  exact J_iretW dL_pay_24
def hh_land : List (Nat × Nat × Nat × Nat) := [(0, 10, 13, 19), (0, 10, 17, 21), (0, 10, 21, 13)]
theorem mlL_land : Cond.methodLink RL 40 yX3_land ∈ UW := tb_in 623 (by decide +kernel) rfl
theorem W_land {l : Launch} {G : WG} {d' nL : Nat} {cc : ByteArray} {x y : Int32} {μ μ' : Mem} {r : Int32} (hC : Ct l G d' yX3_land cc nL (some .int) [.ref (adr G 0 0 0), .int x, .int y] μ (some (.int r)) μ') (hm : MkV yX3_land cc nL (some .int) 2) (hd : d' ≤ 10 ∧ nL ≤ 15) : CtW l G 11 yL_land cL_land 5 hh_land ([.ref (adr G 0 0 0), .int x, .int y, .ref (adr G 21 0 0)]) μ 0 (mlset μ' 1 r.toInt64) := by
  refine CtW_of (by decide +kernel) (Nat.le_of_ble_eq_true rfl) ?_
  refine K_aload_n dL_land_0 rfl ?_
  refine K_iconstN 0 dL_land_1 rfl ?_
  refine K_aload_n dL_land_2 rfl ?_
  refine K_iload_n dL_land_3 rfl ?_
  refine K_iload_n dL_land_4 rfl ?_
  refine K_callV (As := [.int x, .int y]) (rest := [.int (nI 0), .ref (adr G 21 0 0)]) hC hm mlL_land ⟨by show d' + 1 ≤ 11; omega, by show 8 + (nL + 11) + 34 * d' ≤ 374; omega⟩ dm_0 rfl rfl rfl (Nat.le_of_ble_eq_true rfl) dL_land_5 ?_
  refine K_i2l dL_land_8 ?_
  refine K_lastore dL_land_9 ?_
  refine K_goto (tgt := 25) dL_land_10 (by decide) ?_
  refine K_iconst (v := 0) dL_land_25 (by decide) ?_
  exact K_iretW dL_land_26
theorem W_land_IOB {l : Launch} {G : WG} {d' nL : Nat} {cc : ByteArray} {x y : Int32} {μ μ' : Mem} (hC : CtT l G d' yX3_land cc nL (some .int) [.ref (adr G 0 0 0), .int x, .int y] μ "java/lang/IndexOutOfBoundsException" μ') (hm : MkV yX3_land cc nL (some .int) 2) (hd : d' ≤ 10 ∧ nL ≤ 15) : CtW l G 11 yL_land cL_land 5 hh_land ([.ref (adr G 0 0 0), .int x, .int y, .ref (adr G 21 0 0)]) μ 1 μ' := by
  refine CtW_of (by decide +kernel) (Nat.le_of_ble_eq_true rfl) ?_
  refine K_aload_n dL_land_0 rfl ?_
  refine K_iconstN 0 dL_land_1 rfl ?_
  refine K_aload_n dL_land_2 rfl ?_
  refine K_iload_n dL_land_3 rfl ?_
  refine K_iload_n dL_land_4 rfl ?_
  refine K_catchV (As := [.int x, .int y]) (rest := [.int (nI 0), .ref (adr G 21 0 0)]) (hh := hh_land) (pre := []) (suf := [(0, 10, 17, 21), (0, 10, 21, 13)]) (0, 10, 13, 19) hC hm mlL_land ⟨by show d' + 1 ≤ 11; omega, by show 8 + (nL + 11) + 34 * d' ≤ 374; omega⟩ ⟨Nat.le_refl 1, Nat.le_refl 6⟩ rfl rfl (Nat.le_of_ble_eq_true rfl) dL_land_5 rfl (fun z hz => absurd hz List.not_mem_nil) (by decide) (by decide) cl_L_19 (by simp [nwC]) (fun q => ?_)
  refine J_astore dL_land_13 (by decide) rfl ?_
  refine J_iconst (v := 1) dL_land_15 (by decide) ?_
  exact J_iretW dL_land_16
theorem W_land_IAE {l : Launch} {G : WG} {d' nL : Nat} {cc : ByteArray} {x y : Int32} {μ μ' : Mem} (hC : CtT l G d' yX3_land cc nL (some .int) [.ref (adr G 0 0 0), .int x, .int y] μ "java/lang/IllegalArgumentException" μ') (hm : MkV yX3_land cc nL (some .int) 2) (hd : d' ≤ 10 ∧ nL ≤ 15) : CtW l G 11 yL_land cL_land 5 hh_land ([.ref (adr G 0 0 0), .int x, .int y, .ref (adr G 21 0 0)]) μ 2 μ' := by
  refine CtW_of (by decide +kernel) (Nat.le_of_ble_eq_true rfl) ?_
  refine K_aload_n dL_land_0 rfl ?_
  refine K_iconstN 0 dL_land_1 rfl ?_
  refine K_aload_n dL_land_2 rfl ?_
  refine K_iload_n dL_land_3 rfl ?_
  refine K_iload_n dL_land_4 rfl ?_
  refine K_catchV (As := [.int x, .int y]) (rest := [.int (nI 0), .ref (adr G 21 0 0)]) (hh := hh_land) (pre := [(0, 10, 13, 19)]) (suf := [(0, 10, 21, 13)]) (0, 10, 17, 21) hC hm mlL_land ⟨by show d' + 1 ≤ 11; omega, by show 8 + (nL + 11) + 34 * d' ≤ 374; omega⟩ ⟨Nat.le_refl 1, Nat.le_refl 6⟩ rfl rfl (Nat.le_of_ble_eq_true rfl) dL_land_5 rfl (fun z hz => by
    simp only [List.mem_cons, List.not_mem_nil, or_false] at hz
    subst hz
    · exact ⟨by decide, _, cl_L_19, by simp [nwNC]⟩) (by decide) (by decide) cl_L_21 (by simp [nwC]) (fun q => ?_)
  refine J_astore dL_land_17 (by decide) rfl ?_
  refine J_iconst (v := 2) dL_land_19 (by decide) ?_
  exact J_iretW dL_land_20
theorem W_land_ISE {l : Launch} {G : WG} {d' nL : Nat} {cc : ByteArray} {x y : Int32} {μ μ' : Mem} (hC : CtT l G d' yX3_land cc nL (some .int) [.ref (adr G 0 0 0), .int x, .int y] μ "java/lang/IllegalStateException" μ') (hm : MkV yX3_land cc nL (some .int) 2) (hd : d' ≤ 10 ∧ nL ≤ 15) : CtW l G 11 yL_land cL_land 5 hh_land ([.ref (adr G 0 0 0), .int x, .int y, .ref (adr G 21 0 0)]) μ 3 μ' := by
  refine CtW_of (by decide +kernel) (Nat.le_of_ble_eq_true rfl) ?_
  refine K_aload_n dL_land_0 rfl ?_
  refine K_iconstN 0 dL_land_1 rfl ?_
  refine K_aload_n dL_land_2 rfl ?_
  refine K_iload_n dL_land_3 rfl ?_
  refine K_iload_n dL_land_4 rfl ?_
  refine K_catchV (As := [.int x, .int y]) (rest := [.int (nI 0), .ref (adr G 21 0 0)]) (hh := hh_land) (pre := [(0, 10, 13, 19), (0, 10, 17, 21)]) (suf := []) (0, 10, 21, 13) hC hm mlL_land ⟨by show d' + 1 ≤ 11; omega, by show 8 + (nL + 11) + 34 * d' ≤ 374; omega⟩ ⟨Nat.le_refl 1, Nat.le_refl 6⟩ rfl rfl (Nat.le_of_ble_eq_true rfl) dL_land_5 rfl (fun z hz => by
    simp only [List.mem_cons, List.not_mem_nil, or_false] at hz
    rcases hz with rfl|rfl
    · exact ⟨by decide, _, cl_L_19, by simp [nwNC]⟩
    · exact ⟨by decide, _, cl_L_21, by simp [nwNC]⟩) (by decide) (by decide) cl_L_13 (by simp [nwC]) (fun q => ?_)
  refine J_astore dL_land_21 (by decide) rfl ?_
  refine J_iconst (v := 3) dL_land_23 (by decide) ?_
  exact J_iretW dL_land_24
def hh_lapse : List (Nat × Nat × Nat × Nat) := [(0, 10, 13, 19), (0, 10, 17, 13)]
theorem mlL_lapse : Cond.methodLink RL 43 yX3_lapse ∈ UW := tb_in 635 (by decide +kernel) rfl
theorem W_lapse {l : Launch} {G : WG} {d' nL : Nat} {cc : ByteArray} {x y : Int32} {μ μ' : Mem} {r : Int32} (hC : Ct l G d' yX3_lapse cc nL (some .int) [.ref (adr G 0 0 0), .int x, .int y] μ (some (.int r)) μ') (hm : MkV yX3_lapse cc nL (some .int) 2) (hd : d' ≤ 10 ∧ nL ≤ 15) : CtW l G 11 yL_lapse cL_lapse 5 hh_lapse ([.ref (adr G 0 0 0), .int x, .int y, .ref (adr G 21 0 0)]) μ 0 (mlset μ' 1 r.toInt64) := by
  refine CtW_of (by decide +kernel) (Nat.le_of_ble_eq_true rfl) ?_
  refine K_aload_n dL_lapse_0 rfl ?_
  refine K_iconstN 0 dL_lapse_1 rfl ?_
  refine K_aload_n dL_lapse_2 rfl ?_
  refine K_iload_n dL_lapse_3 rfl ?_
  refine K_iload_n dL_lapse_4 rfl ?_
  refine K_callV (As := [.int x, .int y]) (rest := [.int (nI 0), .ref (adr G 21 0 0)]) hC hm mlL_lapse ⟨by show d' + 1 ≤ 11; omega, by show 8 + (nL + 11) + 34 * d' ≤ 374; omega⟩ dm_0 rfl rfl rfl (Nat.le_of_ble_eq_true rfl) dL_lapse_5 ?_
  refine K_i2l dL_lapse_8 ?_
  refine K_lastore dL_lapse_9 ?_
  refine K_goto (tgt := 21) dL_lapse_10 (by decide) ?_
  refine K_iconst (v := 0) dL_lapse_21 (by decide) ?_
  exact K_iretW dL_lapse_22
theorem W_lapse_IOB {l : Launch} {G : WG} {d' nL : Nat} {cc : ByteArray} {x y : Int32} {μ μ' : Mem} (hC : CtT l G d' yX3_lapse cc nL (some .int) [.ref (adr G 0 0 0), .int x, .int y] μ "java/lang/IndexOutOfBoundsException" μ') (hm : MkV yX3_lapse cc nL (some .int) 2) (hd : d' ≤ 10 ∧ nL ≤ 15) : CtW l G 11 yL_lapse cL_lapse 5 hh_lapse ([.ref (adr G 0 0 0), .int x, .int y, .ref (adr G 21 0 0)]) μ 1 μ' := by
  refine CtW_of (by decide +kernel) (Nat.le_of_ble_eq_true rfl) ?_
  refine K_aload_n dL_lapse_0 rfl ?_
  refine K_iconstN 0 dL_lapse_1 rfl ?_
  refine K_aload_n dL_lapse_2 rfl ?_
  refine K_iload_n dL_lapse_3 rfl ?_
  refine K_iload_n dL_lapse_4 rfl ?_
  refine K_catchV (As := [.int x, .int y]) (rest := [.int (nI 0), .ref (adr G 21 0 0)]) (hh := hh_lapse) (pre := []) (suf := [(0, 10, 17, 13)]) (0, 10, 13, 19) hC hm mlL_lapse ⟨by show d' + 1 ≤ 11; omega, by show 8 + (nL + 11) + 34 * d' ≤ 374; omega⟩ ⟨Nat.le_refl 1, Nat.le_refl 6⟩ rfl rfl (Nat.le_of_ble_eq_true rfl) dL_lapse_5 rfl (fun z hz => absurd hz List.not_mem_nil) (by decide) (by decide) cl_L_19 (by simp [nwC]) (fun q => ?_)
  refine J_astore dL_lapse_13 (by decide) rfl ?_
  refine J_iconst (v := 1) dL_lapse_15 (by decide) ?_
  exact J_iretW dL_lapse_16
theorem W_lapse_ISE {l : Launch} {G : WG} {d' nL : Nat} {cc : ByteArray} {x y : Int32} {μ μ' : Mem} (hC : CtT l G d' yX3_lapse cc nL (some .int) [.ref (adr G 0 0 0), .int x, .int y] μ "java/lang/IllegalStateException" μ') (hm : MkV yX3_lapse cc nL (some .int) 2) (hd : d' ≤ 10 ∧ nL ≤ 15) : CtW l G 11 yL_lapse cL_lapse 5 hh_lapse ([.ref (adr G 0 0 0), .int x, .int y, .ref (adr G 21 0 0)]) μ 2 μ' := by
  refine CtW_of (by decide +kernel) (Nat.le_of_ble_eq_true rfl) ?_
  refine K_aload_n dL_lapse_0 rfl ?_
  refine K_iconstN 0 dL_lapse_1 rfl ?_
  refine K_aload_n dL_lapse_2 rfl ?_
  refine K_iload_n dL_lapse_3 rfl ?_
  refine K_iload_n dL_lapse_4 rfl ?_
  refine K_catchV (As := [.int x, .int y]) (rest := [.int (nI 0), .ref (adr G 21 0 0)]) (hh := hh_lapse) (pre := [(0, 10, 13, 19)]) (suf := []) (0, 10, 17, 13) hC hm mlL_lapse ⟨by show d' + 1 ≤ 11; omega, by show 8 + (nL + 11) + 34 * d' ≤ 374; omega⟩ ⟨Nat.le_refl 1, Nat.le_refl 6⟩ rfl rfl (Nat.le_of_ble_eq_true rfl) dL_lapse_5 rfl (fun z hz => by
    simp only [List.mem_cons, List.not_mem_nil, or_false] at hz
    subst hz
    · exact ⟨by decide, _, cl_L_19, by simp [nwNC]⟩) (by decide) (by decide) cl_L_13 (by simp [nwC]) (fun q => ?_)
  refine J_astore dL_lapse_17 (by decide) rfl ?_
  refine J_iconst (v := 2) dL_lapse_19 (by decide) ?_
  exact J_iretW dL_lapse_20
def hh_pass : List (Nat × Nat × Nat × Nat) := [(0, 9, 12, 21), (0, 9, 15, 13)]
theorem mlL_pass : Cond.methodLink RL 46 yX3_pass ∈ UW := tb_in 647 (by decide +kernel) rfl
theorem W_pass {l : Launch} {G : WG} {d' nL : Nat} {cc : ByteArray} {x : Int32} {μ μ' : Mem} {r : Int32} (hC : Ct l G d' yX3_pass cc nL (some .int) [.ref (adr G 0 0 0), .int x] μ (some (.int r)) μ') (hm : MkV yX3_pass cc nL (some .int) 1) (hd : d' ≤ 10 ∧ nL ≤ 15) : CtW l G 11 yL_pass cL_pass 4 hh_pass ([.ref (adr G 0 0 0), .int x, .ref (adr G 21 0 0)]) μ 0 (mlset μ' 1 r.toInt64) := by
  refine CtW_of (by decide +kernel) (Nat.le_of_ble_eq_true rfl) ?_
  refine K_aload_n dL_pass_0 rfl ?_
  refine K_iconstN 0 dL_pass_1 rfl ?_
  refine K_aload_n dL_pass_2 rfl ?_
  refine K_iload_n dL_pass_3 rfl ?_
  refine K_callV (As := [.int x]) (rest := [.int (nI 0), .ref (adr G 21 0 0)]) hC hm mlL_pass ⟨by show d' + 1 ≤ 11; omega, by show 8 + (nL + 11) + 34 * d' ≤ 374; omega⟩ dm_0 rfl rfl rfl (Nat.le_of_ble_eq_true rfl) dL_pass_4 ?_
  refine K_i2l dL_pass_7 ?_
  refine K_lastore dL_pass_8 ?_
  refine K_goto (tgt := 18) dL_pass_9 (by decide) ?_
  refine K_iconst (v := 0) dL_pass_18 (by decide) ?_
  exact K_iretW dL_pass_19
theorem W_pass_IAE {l : Launch} {G : WG} {d' nL : Nat} {cc : ByteArray} {x : Int32} {μ μ' : Mem} (hC : CtT l G d' yX3_pass cc nL (some .int) [.ref (adr G 0 0 0), .int x] μ "java/lang/IllegalArgumentException" μ') (hm : MkV yX3_pass cc nL (some .int) 1) (hd : d' ≤ 10 ∧ nL ≤ 15) : CtW l G 11 yL_pass cL_pass 4 hh_pass ([.ref (adr G 0 0 0), .int x, .ref (adr G 21 0 0)]) μ 1 μ' := by
  refine CtW_of (by decide +kernel) (Nat.le_of_ble_eq_true rfl) ?_
  refine K_aload_n dL_pass_0 rfl ?_
  refine K_iconstN 0 dL_pass_1 rfl ?_
  refine K_aload_n dL_pass_2 rfl ?_
  refine K_iload_n dL_pass_3 rfl ?_
  refine K_catchV (As := [.int x]) (rest := [.int (nI 0), .ref (adr G 21 0 0)]) (hh := hh_pass) (pre := []) (suf := [(0, 9, 15, 13)]) (0, 9, 12, 21) hC hm mlL_pass ⟨by show d' + 1 ≤ 11; omega, by show 8 + (nL + 11) + 34 * d' ≤ 374; omega⟩ ⟨Nat.le_refl 1, Nat.le_refl 6⟩ rfl rfl (Nat.le_of_ble_eq_true rfl) dL_pass_4 rfl (fun z hz => absurd hz List.not_mem_nil) (by decide) (by decide) cl_L_21 (by simp [nwC]) (fun q => ?_)
  refine J_astore_n dL_pass_12 (by decide) rfl ?_
  refine J_iconst (v := 1) dL_pass_13 (by decide) ?_
  exact J_iretW dL_pass_14
theorem W_pass_ISE {l : Launch} {G : WG} {d' nL : Nat} {cc : ByteArray} {x : Int32} {μ μ' : Mem} (hC : CtT l G d' yX3_pass cc nL (some .int) [.ref (adr G 0 0 0), .int x] μ "java/lang/IllegalStateException" μ') (hm : MkV yX3_pass cc nL (some .int) 1) (hd : d' ≤ 10 ∧ nL ≤ 15) : CtW l G 11 yL_pass cL_pass 4 hh_pass ([.ref (adr G 0 0 0), .int x, .ref (adr G 21 0 0)]) μ 2 μ' := by
  refine CtW_of (by decide +kernel) (Nat.le_of_ble_eq_true rfl) ?_
  refine K_aload_n dL_pass_0 rfl ?_
  refine K_iconstN 0 dL_pass_1 rfl ?_
  refine K_aload_n dL_pass_2 rfl ?_
  refine K_iload_n dL_pass_3 rfl ?_
  refine K_catchV (As := [.int x]) (rest := [.int (nI 0), .ref (adr G 21 0 0)]) (hh := hh_pass) (pre := [(0, 9, 12, 21)]) (suf := []) (0, 9, 15, 13) hC hm mlL_pass ⟨by show d' + 1 ≤ 11; omega, by show 8 + (nL + 11) + 34 * d' ≤ 374; omega⟩ ⟨Nat.le_refl 1, Nat.le_refl 6⟩ rfl rfl (Nat.le_of_ble_eq_true rfl) dL_pass_4 rfl (fun z hz => by
    simp only [List.mem_cons, List.not_mem_nil, or_false] at hz
    subst hz
    · exact ⟨by decide, _, cl_L_21, by simp [nwNC]⟩) (by decide) (by decide) cl_L_13 (by simp [nwC]) (fun q => ?_)
  refine J_astore_n dL_pass_15 (by decide) rfl ?_
  refine J_iconst (v := 2) dL_pass_16 (by decide) ?_
  exact J_iretW dL_pass_17
def hh_append : List (Nat × Nat × Nat × Nat) := [(0, 9, 12, 21), (0, 9, 15, 13)]
theorem mlL_append : Cond.methodLink RL 49 yX3_append ∈ UW := tb_in 664 (by decide +kernel) rfl
theorem W_append {l : Launch} {G : WG} {d' nL : Nat} {cc : ByteArray} {x : Int32} {μ μ' : Mem} {r : Int32} (hC : Ct l G d' yX3_append cc nL (some .int) [.ref (adr G 0 0 0), .int x] μ (some (.int r)) μ') (hm : MkV yX3_append cc nL (some .int) 1) (hd : d' ≤ 10 ∧ nL ≤ 15) : CtW l G 11 yL_append cL_append 4 hh_append ([.ref (adr G 0 0 0), .int x, .ref (adr G 21 0 0)]) μ 0 (mlset μ' 1 r.toInt64) := by
  refine CtW_of (by decide +kernel) (Nat.le_of_ble_eq_true rfl) ?_
  refine K_aload_n dL_append_0 rfl ?_
  refine K_iconstN 0 dL_append_1 rfl ?_
  refine K_aload_n dL_append_2 rfl ?_
  refine K_iload_n dL_append_3 rfl ?_
  refine K_callV (As := [.int x]) (rest := [.int (nI 0), .ref (adr G 21 0 0)]) hC hm mlL_append ⟨by show d' + 1 ≤ 11; omega, by show 8 + (nL + 11) + 34 * d' ≤ 374; omega⟩ dm_0 rfl rfl rfl (Nat.le_of_ble_eq_true rfl) dL_append_4 ?_
  refine K_i2l dL_append_7 ?_
  refine K_lastore dL_append_8 ?_
  refine K_goto (tgt := 18) dL_append_9 (by decide) ?_
  refine K_iconst (v := 0) dL_append_18 (by decide) ?_
  exact K_iretW dL_append_19
theorem W_append_IAE {l : Launch} {G : WG} {d' nL : Nat} {cc : ByteArray} {x : Int32} {μ μ' : Mem} (hC : CtT l G d' yX3_append cc nL (some .int) [.ref (adr G 0 0 0), .int x] μ "java/lang/IllegalArgumentException" μ') (hm : MkV yX3_append cc nL (some .int) 1) (hd : d' ≤ 10 ∧ nL ≤ 15) : CtW l G 11 yL_append cL_append 4 hh_append ([.ref (adr G 0 0 0), .int x, .ref (adr G 21 0 0)]) μ 1 μ' := by
  refine CtW_of (by decide +kernel) (Nat.le_of_ble_eq_true rfl) ?_
  refine K_aload_n dL_append_0 rfl ?_
  refine K_iconstN 0 dL_append_1 rfl ?_
  refine K_aload_n dL_append_2 rfl ?_
  refine K_iload_n dL_append_3 rfl ?_
  refine K_catchV (As := [.int x]) (rest := [.int (nI 0), .ref (adr G 21 0 0)]) (hh := hh_append) (pre := []) (suf := [(0, 9, 15, 13)]) (0, 9, 12, 21) hC hm mlL_append ⟨by show d' + 1 ≤ 11; omega, by show 8 + (nL + 11) + 34 * d' ≤ 374; omega⟩ ⟨Nat.le_refl 1, Nat.le_refl 6⟩ rfl rfl (Nat.le_of_ble_eq_true rfl) dL_append_4 rfl (fun z hz => absurd hz List.not_mem_nil) (by decide) (by decide) cl_L_21 (by simp [nwC]) (fun q => ?_)
  refine J_astore_n dL_append_12 (by decide) rfl ?_
  refine J_iconst (v := 1) dL_append_13 (by decide) ?_
  exact J_iretW dL_append_14
theorem W_append_ISE {l : Launch} {G : WG} {d' nL : Nat} {cc : ByteArray} {x : Int32} {μ μ' : Mem} (hC : CtT l G d' yX3_append cc nL (some .int) [.ref (adr G 0 0 0), .int x] μ "java/lang/IllegalStateException" μ') (hm : MkV yX3_append cc nL (some .int) 1) (hd : d' ≤ 10 ∧ nL ≤ 15) : CtW l G 11 yL_append cL_append 4 hh_append ([.ref (adr G 0 0 0), .int x, .ref (adr G 21 0 0)]) μ 2 μ' := by
  refine CtW_of (by decide +kernel) (Nat.le_of_ble_eq_true rfl) ?_
  refine K_aload_n dL_append_0 rfl ?_
  refine K_iconstN 0 dL_append_1 rfl ?_
  refine K_aload_n dL_append_2 rfl ?_
  refine K_iload_n dL_append_3 rfl ?_
  refine K_catchV (As := [.int x]) (rest := [.int (nI 0), .ref (adr G 21 0 0)]) (hh := hh_append) (pre := [(0, 9, 12, 21)]) (suf := []) (0, 9, 15, 13) hC hm mlL_append ⟨by show d' + 1 ≤ 11; omega, by show 8 + (nL + 11) + 34 * d' ≤ 374; omega⟩ ⟨Nat.le_refl 1, Nat.le_refl 6⟩ rfl rfl (Nat.le_of_ble_eq_true rfl) dL_append_4 rfl (fun z hz => by
    simp only [List.mem_cons, List.not_mem_nil, or_false] at hz
    subst hz
    · exact ⟨by decide, _, cl_L_21, by simp [nwNC]⟩) (by decide) (by decide) cl_L_13 (by simp [nwC]) (fun q => ?_)
  refine J_astore_n dL_append_15 (by decide) rfl ?_
  refine J_iconst (v := 2) dL_append_16 (by decide) ?_
  exact J_iretW dL_append_17
def hh_run : List (Nat × Nat × Nat × Nat) := [(0, 8, 11, 21)]
theorem mlL_run : Cond.methodLink RL 52 yX3_run ∈ UW := tb_in 676 (by decide +kernel) rfl
theorem W_run {l : Launch} {G : WG} {d' nL : Nat} {cc : ByteArray} {μ μ' : Mem} {r : Int32} (hC : Ct l G d' yX3_run cc nL (some .int) [.ref (adr G 0 0 0)] μ (some (.int r)) μ') (hm : MkV yX3_run cc nL (some .int) 0) (hd : d' ≤ 10 ∧ nL ≤ 15) : CtW l G 11 yL_run cL_run 3 hh_run ([.ref (adr G 0 0 0), .ref (adr G 21 0 0)]) μ 0 (mlset μ' 1 r.toInt64) := by
  refine CtW_of (by decide +kernel) (Nat.le_of_ble_eq_true rfl) ?_
  refine K_aload_n dL_run_0 rfl ?_
  refine K_iconstN 0 dL_run_1 rfl ?_
  refine K_aload_n dL_run_2 rfl ?_
  refine K_callV (As := []) (rest := [.int (nI 0), .ref (adr G 21 0 0)]) hC hm mlL_run ⟨by show d' + 1 ≤ 11; omega, by show 8 + (nL + 11) + 34 * d' ≤ 374; omega⟩ dm_0 rfl rfl rfl (Nat.le_of_ble_eq_true rfl) dL_run_3 ?_
  refine K_i2l dL_run_6 ?_
  refine K_lastore dL_run_7 ?_
  refine K_goto (tgt := 14) dL_run_8 (by decide) ?_
  refine K_iconst (v := 0) dL_run_14 (by decide) ?_
  exact K_iretW dL_run_15
theorem W_run_IAE {l : Launch} {G : WG} {d' nL : Nat} {cc : ByteArray} {μ μ' : Mem} (hC : CtT l G d' yX3_run cc nL (some .int) [.ref (adr G 0 0 0)] μ "java/lang/IllegalArgumentException" μ') (hm : MkV yX3_run cc nL (some .int) 0) (hd : d' ≤ 10 ∧ nL ≤ 15) : CtW l G 11 yL_run cL_run 3 hh_run ([.ref (adr G 0 0 0), .ref (adr G 21 0 0)]) μ 1 μ' := by
  refine CtW_of (by decide +kernel) (Nat.le_of_ble_eq_true rfl) ?_
  refine K_aload_n dL_run_0 rfl ?_
  refine K_iconstN 0 dL_run_1 rfl ?_
  refine K_aload_n dL_run_2 rfl ?_
  refine K_catchV (As := []) (rest := [.int (nI 0), .ref (adr G 21 0 0)]) (hh := hh_run) (pre := []) (suf := []) (0, 8, 11, 21) hC hm mlL_run ⟨by show d' + 1 ≤ 11; omega, by show 8 + (nL + 11) + 34 * d' ≤ 374; omega⟩ ⟨Nat.le_refl 1, Nat.le_refl 6⟩ rfl rfl (Nat.le_of_ble_eq_true rfl) dL_run_3 rfl (fun z hz => absurd hz List.not_mem_nil) (by decide) (by decide) cl_L_21 (by simp [nwC]) (fun q => ?_)
  refine J_astore_n dL_run_11 (by decide) rfl ?_
  refine J_iconst (v := 1) dL_run_12 (by decide) ?_
  exact J_iretW dL_run_13
def hh_undo : List (Nat × Nat × Nat × Nat) := [(0, 8, 11, 13)]
theorem mlL_undo : Cond.methodLink RL 55 yX3_undo ∈ UW := tb_in 696 (by decide +kernel) rfl
theorem W_undo {l : Launch} {G : WG} {d' nL : Nat} {cc : ByteArray} {μ μ' : Mem} {r : Int32} (hC : Ct l G d' yX3_undo cc nL (some .int) [.ref (adr G 0 0 0)] μ (some (.int r)) μ') (hm : MkV yX3_undo cc nL (some .int) 0) (hd : d' ≤ 10 ∧ nL ≤ 15) : CtW l G 11 yL_undo cL_undo 3 hh_undo ([.ref (adr G 0 0 0), .ref (adr G 21 0 0)]) μ 0 (mlset μ' 1 r.toInt64) := by
  refine CtW_of (by decide +kernel) (Nat.le_of_ble_eq_true rfl) ?_
  refine K_aload_n dL_undo_0 rfl ?_
  refine K_iconstN 0 dL_undo_1 rfl ?_
  refine K_aload_n dL_undo_2 rfl ?_
  refine K_callV (As := []) (rest := [.int (nI 0), .ref (adr G 21 0 0)]) hC hm mlL_undo ⟨by show d' + 1 ≤ 11; omega, by show 8 + (nL + 11) + 34 * d' ≤ 374; omega⟩ dm_0 rfl rfl rfl (Nat.le_of_ble_eq_true rfl) dL_undo_3 ?_
  refine K_i2l dL_undo_6 ?_
  refine K_lastore dL_undo_7 ?_
  refine K_goto (tgt := 14) dL_undo_8 (by decide) ?_
  refine K_iconst (v := 0) dL_undo_14 (by decide) ?_
  exact K_iretW dL_undo_15
theorem W_undo_ISE {l : Launch} {G : WG} {d' nL : Nat} {cc : ByteArray} {μ μ' : Mem} (hC : CtT l G d' yX3_undo cc nL (some .int) [.ref (adr G 0 0 0)] μ "java/lang/IllegalStateException" μ') (hm : MkV yX3_undo cc nL (some .int) 0) (hd : d' ≤ 10 ∧ nL ≤ 15) : CtW l G 11 yL_undo cL_undo 3 hh_undo ([.ref (adr G 0 0 0), .ref (adr G 21 0 0)]) μ 1 μ' := by
  refine CtW_of (by decide +kernel) (Nat.le_of_ble_eq_true rfl) ?_
  refine K_aload_n dL_undo_0 rfl ?_
  refine K_iconstN 0 dL_undo_1 rfl ?_
  refine K_aload_n dL_undo_2 rfl ?_
  refine K_catchV (As := []) (rest := [.int (nI 0), .ref (adr G 21 0 0)]) (hh := hh_undo) (pre := []) (suf := []) (0, 8, 11, 13) hC hm mlL_undo ⟨by show d' + 1 ≤ 11; omega, by show 8 + (nL + 11) + 34 * d' ≤ 374; omega⟩ ⟨Nat.le_refl 1, Nat.le_refl 6⟩ rfl rfl (Nat.le_of_ble_eq_true rfl) dL_undo_3 rfl (fun z hz => absurd hz List.not_mem_nil) (by decide) (by decide) cl_L_13 (by simp [nwC]) (fun q => ?_)
  refine J_astore_n dL_undo_11 (by decide) rfl ?_
  refine J_iconst (v := 1) dL_undo_12 (by decide) ?_
  exact J_iretW dL_undo_13
def hh_phase : List (Nat × Nat × Nat × Nat) := [(0, 10, 13, 19), (0, 10, 17, 21)]
theorem mlL_phase : Cond.methodLink RL 58 yX3_phase ∈ UW := tb_in 704 (by decide +kernel) rfl
theorem W_phase {l : Launch} {G : WG} {d' nL : Nat} {cc : ByteArray} {x y : Int32} {μ μ' : Mem} {r : Int32} (hC : Ct l G d' yX3_phase cc nL (some .int) [.ref (adr G 0 0 0), .int x, .int y] μ (some (.int r)) μ') (hm : MkV yX3_phase cc nL (some .int) 2) (hd : d' ≤ 10 ∧ nL ≤ 15) : CtW l G 11 yL_phase cL_phase 5 hh_phase ([.ref (adr G 0 0 0), .int x, .int y, .ref (adr G 21 0 0)]) μ 0 (mlset μ' 1 r.toInt64) := by
  refine CtW_of (by decide +kernel) (Nat.le_of_ble_eq_true rfl) ?_
  refine K_aload_n dL_phase_0 rfl ?_
  refine K_iconstN 0 dL_phase_1 rfl ?_
  refine K_aload_n dL_phase_2 rfl ?_
  refine K_iload_n dL_phase_3 rfl ?_
  refine K_iload_n dL_phase_4 rfl ?_
  refine K_callV (As := [.int x, .int y]) (rest := [.int (nI 0), .ref (adr G 21 0 0)]) hC hm mlL_phase ⟨by show d' + 1 ≤ 11; omega, by show 8 + (nL + 11) + 34 * d' ≤ 374; omega⟩ dm_0 rfl rfl rfl (Nat.le_of_ble_eq_true rfl) dL_phase_5 ?_
  refine K_i2l dL_phase_8 ?_
  refine K_lastore dL_phase_9 ?_
  refine K_goto (tgt := 21) dL_phase_10 (by decide) ?_
  refine K_iconst (v := 0) dL_phase_21 (by decide) ?_
  exact K_iretW dL_phase_22
theorem W_phase_IOB {l : Launch} {G : WG} {d' nL : Nat} {cc : ByteArray} {x y : Int32} {μ μ' : Mem} (hC : CtT l G d' yX3_phase cc nL (some .int) [.ref (adr G 0 0 0), .int x, .int y] μ "java/lang/IndexOutOfBoundsException" μ') (hm : MkV yX3_phase cc nL (some .int) 2) (hd : d' ≤ 10 ∧ nL ≤ 15) : CtW l G 11 yL_phase cL_phase 5 hh_phase ([.ref (adr G 0 0 0), .int x, .int y, .ref (adr G 21 0 0)]) μ 1 μ' := by
  refine CtW_of (by decide +kernel) (Nat.le_of_ble_eq_true rfl) ?_
  refine K_aload_n dL_phase_0 rfl ?_
  refine K_iconstN 0 dL_phase_1 rfl ?_
  refine K_aload_n dL_phase_2 rfl ?_
  refine K_iload_n dL_phase_3 rfl ?_
  refine K_iload_n dL_phase_4 rfl ?_
  refine K_catchV (As := [.int x, .int y]) (rest := [.int (nI 0), .ref (adr G 21 0 0)]) (hh := hh_phase) (pre := []) (suf := [(0, 10, 17, 21)]) (0, 10, 13, 19) hC hm mlL_phase ⟨by show d' + 1 ≤ 11; omega, by show 8 + (nL + 11) + 34 * d' ≤ 374; omega⟩ ⟨Nat.le_refl 1, Nat.le_refl 6⟩ rfl rfl (Nat.le_of_ble_eq_true rfl) dL_phase_5 rfl (fun z hz => absurd hz List.not_mem_nil) (by decide) (by decide) cl_L_19 (by simp [nwC]) (fun q => ?_)
  refine J_astore dL_phase_13 (by decide) rfl ?_
  refine J_iconst (v := 1) dL_phase_15 (by decide) ?_
  exact J_iretW dL_phase_16
theorem W_phase_IAE {l : Launch} {G : WG} {d' nL : Nat} {cc : ByteArray} {x y : Int32} {μ μ' : Mem} (hC : CtT l G d' yX3_phase cc nL (some .int) [.ref (adr G 0 0 0), .int x, .int y] μ "java/lang/IllegalArgumentException" μ') (hm : MkV yX3_phase cc nL (some .int) 2) (hd : d' ≤ 10 ∧ nL ≤ 15) : CtW l G 11 yL_phase cL_phase 5 hh_phase ([.ref (adr G 0 0 0), .int x, .int y, .ref (adr G 21 0 0)]) μ 2 μ' := by
  refine CtW_of (by decide +kernel) (Nat.le_of_ble_eq_true rfl) ?_
  refine K_aload_n dL_phase_0 rfl ?_
  refine K_iconstN 0 dL_phase_1 rfl ?_
  refine K_aload_n dL_phase_2 rfl ?_
  refine K_iload_n dL_phase_3 rfl ?_
  refine K_iload_n dL_phase_4 rfl ?_
  refine K_catchV (As := [.int x, .int y]) (rest := [.int (nI 0), .ref (adr G 21 0 0)]) (hh := hh_phase) (pre := [(0, 10, 13, 19)]) (suf := []) (0, 10, 17, 21) hC hm mlL_phase ⟨by show d' + 1 ≤ 11; omega, by show 8 + (nL + 11) + 34 * d' ≤ 374; omega⟩ ⟨Nat.le_refl 1, Nat.le_refl 6⟩ rfl rfl (Nat.le_of_ble_eq_true rfl) dL_phase_5 rfl (fun z hz => by
    simp only [List.mem_cons, List.not_mem_nil, or_false] at hz
    subst hz
    · exact ⟨by decide, _, cl_L_19, by simp [nwNC]⟩) (by decide) (by decide) cl_L_21 (by simp [nwC]) (fun q => ?_)
  refine J_astore dL_phase_17 (by decide) rfl ?_
  refine J_iconst (v := 2) dL_phase_19 (by decide) ?_
  exact J_iretW dL_phase_20
def hh_use : List (Nat × Nat × Nat × Nat) := [(0, 12, 15, 19), (0, 12, 19, 21)]
theorem mlL_use : Cond.methodLink RL 61 yX3_use ∈ UW := tb_in 708 (by decide +kernel) rfl
theorem W_use {l : Launch} {G : WG} {d' nL : Nat} {cc : ByteArray} {x y z : Int32} {μ μ' : Mem} {r : Int32} (hC : Ct l G d' yX3_use cc nL (some .int) [.ref (adr G 0 0 0), .int x, .int y, .int z] μ (some (.int r)) μ') (hm : MkV yX3_use cc nL (some .int) 3) (hd : d' ≤ 10 ∧ nL ≤ 15) : CtW l G 11 yL_use cL_use 6 hh_use ([.ref (adr G 0 0 0), .int x, .int y, .int z, .ref (adr G 21 0 0)]) μ 0 (mlset μ' 1 r.toInt64) := by
  refine CtW_of (by decide +kernel) (Nat.le_of_ble_eq_true rfl) ?_
  refine K_aload dL_use_0 rfl ?_
  refine K_iconstN 0 dL_use_2 rfl ?_
  refine K_aload_n dL_use_3 rfl ?_
  refine K_iload_n dL_use_4 rfl ?_
  refine K_iload_n dL_use_5 rfl ?_
  refine K_iload_n dL_use_6 rfl ?_
  refine K_callV (As := [.int x, .int y, .int z]) (rest := [.int (nI 0), .ref (adr G 21 0 0)]) hC hm mlL_use ⟨by show d' + 1 ≤ 11; omega, by show 8 + (nL + 11) + 34 * d' ≤ 374; omega⟩ dm_0 rfl rfl rfl (Nat.le_of_ble_eq_true rfl) dL_use_7 ?_
  refine K_i2l dL_use_10 ?_
  refine K_lastore dL_use_11 ?_
  refine K_goto (tgt := 23) dL_use_12 (by decide) ?_
  refine K_iconst (v := 0) dL_use_23 (by decide) ?_
  exact K_iretW dL_use_24
theorem W_use_IOB {l : Launch} {G : WG} {d' nL : Nat} {cc : ByteArray} {x y z : Int32} {μ μ' : Mem} (hC : CtT l G d' yX3_use cc nL (some .int) [.ref (adr G 0 0 0), .int x, .int y, .int z] μ "java/lang/IndexOutOfBoundsException" μ') (hm : MkV yX3_use cc nL (some .int) 3) (hd : d' ≤ 10 ∧ nL ≤ 15) : CtW l G 11 yL_use cL_use 6 hh_use ([.ref (adr G 0 0 0), .int x, .int y, .int z, .ref (adr G 21 0 0)]) μ 1 μ' := by
  refine CtW_of (by decide +kernel) (Nat.le_of_ble_eq_true rfl) ?_
  refine K_aload dL_use_0 rfl ?_
  refine K_iconstN 0 dL_use_2 rfl ?_
  refine K_aload_n dL_use_3 rfl ?_
  refine K_iload_n dL_use_4 rfl ?_
  refine K_iload_n dL_use_5 rfl ?_
  refine K_iload_n dL_use_6 rfl ?_
  refine K_catchV (As := [.int x, .int y, .int z]) (rest := [.int (nI 0), .ref (adr G 21 0 0)]) (hh := hh_use) (pre := []) (suf := [(0, 12, 19, 21)]) (0, 12, 15, 19) hC hm mlL_use ⟨by show d' + 1 ≤ 11; omega, by show 8 + (nL + 11) + 34 * d' ≤ 374; omega⟩ ⟨Nat.le_refl 1, Nat.le_refl 6⟩ rfl rfl (Nat.le_of_ble_eq_true rfl) dL_use_7 rfl (fun z hz => absurd hz List.not_mem_nil) (by decide) (by decide) cl_L_19 (by simp [nwC]) (fun q => ?_)
  refine J_astore dL_use_15 (by decide) rfl ?_
  refine J_iconst (v := 1) dL_use_17 (by decide) ?_
  exact J_iretW dL_use_18
theorem W_use_IAE {l : Launch} {G : WG} {d' nL : Nat} {cc : ByteArray} {x y z : Int32} {μ μ' : Mem} (hC : CtT l G d' yX3_use cc nL (some .int) [.ref (adr G 0 0 0), .int x, .int y, .int z] μ "java/lang/IllegalArgumentException" μ') (hm : MkV yX3_use cc nL (some .int) 3) (hd : d' ≤ 10 ∧ nL ≤ 15) : CtW l G 11 yL_use cL_use 6 hh_use ([.ref (adr G 0 0 0), .int x, .int y, .int z, .ref (adr G 21 0 0)]) μ 2 μ' := by
  refine CtW_of (by decide +kernel) (Nat.le_of_ble_eq_true rfl) ?_
  refine K_aload dL_use_0 rfl ?_
  refine K_iconstN 0 dL_use_2 rfl ?_
  refine K_aload_n dL_use_3 rfl ?_
  refine K_iload_n dL_use_4 rfl ?_
  refine K_iload_n dL_use_5 rfl ?_
  refine K_iload_n dL_use_6 rfl ?_
  refine K_catchV (As := [.int x, .int y, .int z]) (rest := [.int (nI 0), .ref (adr G 21 0 0)]) (hh := hh_use) (pre := [(0, 12, 15, 19)]) (suf := []) (0, 12, 19, 21) hC hm mlL_use ⟨by show d' + 1 ≤ 11; omega, by show 8 + (nL + 11) + 34 * d' ≤ 374; omega⟩ ⟨Nat.le_refl 1, Nat.le_refl 6⟩ rfl rfl (Nat.le_of_ble_eq_true rfl) dL_use_7 rfl (fun z hz => by
    simp only [List.mem_cons, List.not_mem_nil, or_false] at hz
    subst hz
    · exact ⟨by decide, _, cl_L_19, by simp [nwNC]⟩) (by decide) (by decide) cl_L_21 (by simp [nwC]) (fun q => ?_)
  refine J_astore dL_use_19 (by decide) rfl ?_
  refine J_iconst (v := 2) dL_use_21 (by decide) ?_
  exact J_iretW dL_use_22
def hh_instalment : List (Nat × Nat × Nat × Nat) := [(0, 12, 15, 19), (0, 12, 19, 21)]
theorem mlL_instalment : Cond.methodLink RL 64 yX3_instalment ∈ UW := tb_in 712 (by decide +kernel) rfl
theorem W_instalment {l : Launch} {G : WG} {d' nL : Nat} {cc : ByteArray} {x y z : Int32} {μ μ' : Mem} {r : Int32} (hC : Ct l G d' yX3_instalment cc nL (some .int) [.ref (adr G 0 0 0), .int x, .int y, .int z] μ (some (.int r)) μ') (hm : MkV yX3_instalment cc nL (some .int) 3) (hd : d' ≤ 10 ∧ nL ≤ 15) : CtW l G 11 yL_instalment cL_instalment 6 hh_instalment ([.ref (adr G 0 0 0), .int x, .int y, .int z, .ref (adr G 21 0 0)]) μ 0 (mlset μ' 1 r.toInt64) := by
  refine CtW_of (by decide +kernel) (Nat.le_of_ble_eq_true rfl) ?_
  refine K_aload dL_instalment_0 rfl ?_
  refine K_iconstN 0 dL_instalment_2 rfl ?_
  refine K_aload_n dL_instalment_3 rfl ?_
  refine K_iload_n dL_instalment_4 rfl ?_
  refine K_iload_n dL_instalment_5 rfl ?_
  refine K_iload_n dL_instalment_6 rfl ?_
  refine K_callV (As := [.int x, .int y, .int z]) (rest := [.int (nI 0), .ref (adr G 21 0 0)]) hC hm mlL_instalment ⟨by show d' + 1 ≤ 11; omega, by show 8 + (nL + 11) + 34 * d' ≤ 374; omega⟩ dm_0 rfl rfl rfl (Nat.le_of_ble_eq_true rfl) dL_instalment_7 ?_
  refine K_i2l dL_instalment_10 ?_
  refine K_lastore dL_instalment_11 ?_
  refine K_goto (tgt := 23) dL_instalment_12 (by decide) ?_
  refine K_iconst (v := 0) dL_instalment_23 (by decide) ?_
  exact K_iretW dL_instalment_24
theorem W_instalment_IOB {l : Launch} {G : WG} {d' nL : Nat} {cc : ByteArray} {x y z : Int32} {μ μ' : Mem} (hC : CtT l G d' yX3_instalment cc nL (some .int) [.ref (adr G 0 0 0), .int x, .int y, .int z] μ "java/lang/IndexOutOfBoundsException" μ') (hm : MkV yX3_instalment cc nL (some .int) 3) (hd : d' ≤ 10 ∧ nL ≤ 15) : CtW l G 11 yL_instalment cL_instalment 6 hh_instalment ([.ref (adr G 0 0 0), .int x, .int y, .int z, .ref (adr G 21 0 0)]) μ 1 μ' := by
  refine CtW_of (by decide +kernel) (Nat.le_of_ble_eq_true rfl) ?_
  refine K_aload dL_instalment_0 rfl ?_
  refine K_iconstN 0 dL_instalment_2 rfl ?_
  refine K_aload_n dL_instalment_3 rfl ?_
  refine K_iload_n dL_instalment_4 rfl ?_
  refine K_iload_n dL_instalment_5 rfl ?_
  refine K_iload_n dL_instalment_6 rfl ?_
  refine K_catchV (As := [.int x, .int y, .int z]) (rest := [.int (nI 0), .ref (adr G 21 0 0)]) (hh := hh_instalment) (pre := []) (suf := [(0, 12, 19, 21)]) (0, 12, 15, 19) hC hm mlL_instalment ⟨by show d' + 1 ≤ 11; omega, by show 8 + (nL + 11) + 34 * d' ≤ 374; omega⟩ ⟨Nat.le_refl 1, Nat.le_refl 6⟩ rfl rfl (Nat.le_of_ble_eq_true rfl) dL_instalment_7 rfl (fun z hz => absurd hz List.not_mem_nil) (by decide) (by decide) cl_L_19 (by simp [nwC]) (fun q => ?_)
  refine J_astore dL_instalment_15 (by decide) rfl ?_
  refine J_iconst (v := 1) dL_instalment_17 (by decide) ?_
  exact J_iretW dL_instalment_18
theorem W_instalment_IAE {l : Launch} {G : WG} {d' nL : Nat} {cc : ByteArray} {x y z : Int32} {μ μ' : Mem} (hC : CtT l G d' yX3_instalment cc nL (some .int) [.ref (adr G 0 0 0), .int x, .int y, .int z] μ "java/lang/IllegalArgumentException" μ') (hm : MkV yX3_instalment cc nL (some .int) 3) (hd : d' ≤ 10 ∧ nL ≤ 15) : CtW l G 11 yL_instalment cL_instalment 6 hh_instalment ([.ref (adr G 0 0 0), .int x, .int y, .int z, .ref (adr G 21 0 0)]) μ 2 μ' := by
  refine CtW_of (by decide +kernel) (Nat.le_of_ble_eq_true rfl) ?_
  refine K_aload dL_instalment_0 rfl ?_
  refine K_iconstN 0 dL_instalment_2 rfl ?_
  refine K_aload_n dL_instalment_3 rfl ?_
  refine K_iload_n dL_instalment_4 rfl ?_
  refine K_iload_n dL_instalment_5 rfl ?_
  refine K_iload_n dL_instalment_6 rfl ?_
  refine K_catchV (As := [.int x, .int y, .int z]) (rest := [.int (nI 0), .ref (adr G 21 0 0)]) (hh := hh_instalment) (pre := [(0, 12, 15, 19)]) (suf := []) (0, 12, 19, 21) hC hm mlL_instalment ⟨by show d' + 1 ≤ 11; omega, by show 8 + (nL + 11) + 34 * d' ≤ 374; omega⟩ ⟨Nat.le_refl 1, Nat.le_refl 6⟩ rfl rfl (Nat.le_of_ble_eq_true rfl) dL_instalment_7 rfl (fun z hz => by
    simp only [List.mem_cons, List.not_mem_nil, or_false] at hz
    subst hz
    · exact ⟨by decide, _, cl_L_19, by simp [nwNC]⟩) (by decide) (by decide) cl_L_21 (by simp [nwC]) (fun q => ?_)
  refine J_astore dL_instalment_19 (by decide) rfl ?_
  refine J_iconst (v := 2) dL_instalment_21 (by decide) ?_
  exact J_iretW dL_instalment_22
def hh_count : List (Nat × Nat × Nat × Nat) := [(0, 9, 12, 21)]
theorem mlL_count : Cond.methodLink RL 67 yX3_count ∈ UW := tb_in 716 (by decide +kernel) rfl
theorem W_count {l : Launch} {G : WG} {d' nL : Nat} {cc : ByteArray} {x : Int32} {μ μ' : Mem} {r : Int32} (hC : Ct l G d' yX3_count cc nL (some .int) [.ref (adr G 0 0 0), .int x] μ (some (.int r)) μ') (hm : MkV yX3_count cc nL (some .int) 1) (hd : d' ≤ 10 ∧ nL ≤ 15) : CtW l G 11 yL_count cL_count 4 hh_count ([.ref (adr G 0 0 0), .int x, .ref (adr G 21 0 0)]) μ 0 (mlset μ' 1 r.toInt64) := by
  refine CtW_of (by decide +kernel) (Nat.le_of_ble_eq_true rfl) ?_
  refine K_aload_n dL_count_0 rfl ?_
  refine K_iconstN 0 dL_count_1 rfl ?_
  refine K_aload_n dL_count_2 rfl ?_
  refine K_iload_n dL_count_3 rfl ?_
  refine K_callV (As := [.int x]) (rest := [.int (nI 0), .ref (adr G 21 0 0)]) hC hm mlL_count ⟨by show d' + 1 ≤ 11; omega, by show 8 + (nL + 11) + 34 * d' ≤ 374; omega⟩ dm_0 rfl rfl rfl (Nat.le_of_ble_eq_true rfl) dL_count_4 ?_
  refine K_i2l dL_count_7 ?_
  refine K_lastore dL_count_8 ?_
  refine K_goto (tgt := 15) dL_count_9 (by decide) ?_
  refine K_iconst (v := 0) dL_count_15 (by decide) ?_
  exact K_iretW dL_count_16
theorem W_count_IAE {l : Launch} {G : WG} {d' nL : Nat} {cc : ByteArray} {x : Int32} {μ μ' : Mem} (hC : CtT l G d' yX3_count cc nL (some .int) [.ref (adr G 0 0 0), .int x] μ "java/lang/IllegalArgumentException" μ') (hm : MkV yX3_count cc nL (some .int) 1) (hd : d' ≤ 10 ∧ nL ≤ 15) : CtW l G 11 yL_count cL_count 4 hh_count ([.ref (adr G 0 0 0), .int x, .ref (adr G 21 0 0)]) μ 1 μ' := by
  refine CtW_of (by decide +kernel) (Nat.le_of_ble_eq_true rfl) ?_
  refine K_aload_n dL_count_0 rfl ?_
  refine K_iconstN 0 dL_count_1 rfl ?_
  refine K_aload_n dL_count_2 rfl ?_
  refine K_iload_n dL_count_3 rfl ?_
  refine K_catchV (As := [.int x]) (rest := [.int (nI 0), .ref (adr G 21 0 0)]) (hh := hh_count) (pre := []) (suf := []) (0, 9, 12, 21) hC hm mlL_count ⟨by show d' + 1 ≤ 11; omega, by show 8 + (nL + 11) + 34 * d' ≤ 374; omega⟩ ⟨Nat.le_refl 1, Nat.le_refl 6⟩ rfl rfl (Nat.le_of_ble_eq_true rfl) dL_count_4 rfl (fun z hz => absurd hz List.not_mem_nil) (by decide) (by decide) cl_L_21 (by simp [nwC]) (fun q => ?_)
  refine J_astore_n dL_count_12 (by decide) rfl ?_
  refine J_iconst (v := 1) dL_count_13 (by decide) ?_
  exact J_iretW dL_count_14
def hh_setting : List (Nat × Nat × Nat × Nat) := [(0, 9, 12, 19)]
theorem mlL_setting : Cond.methodLink RL 70 yX3_setting ∈ UW := tb_in 720 (by decide +kernel) rfl
theorem W_setting {l : Launch} {G : WG} {d' nL : Nat} {cc : ByteArray} {x : Int32} {μ μ' : Mem} {r : Int32} (hC : Ct l G d' yX3_setting cc nL (some .int) [.ref (adr G 0 0 0), .int x] μ (some (.int r)) μ') (hm : MkV yX3_setting cc nL (some .int) 1) (hd : d' ≤ 10 ∧ nL ≤ 15) : CtW l G 11 yL_setting cL_setting 4 hh_setting ([.ref (adr G 0 0 0), .int x, .ref (adr G 21 0 0)]) μ 0 (mlset μ' 1 r.toInt64) := by
  refine CtW_of (by decide +kernel) (Nat.le_of_ble_eq_true rfl) ?_
  refine K_aload_n dL_setting_0 rfl ?_
  refine K_iconstN 0 dL_setting_1 rfl ?_
  refine K_aload_n dL_setting_2 rfl ?_
  refine K_iload_n dL_setting_3 rfl ?_
  refine K_callV (As := [.int x]) (rest := [.int (nI 0), .ref (adr G 21 0 0)]) hC hm mlL_setting ⟨by show d' + 1 ≤ 11; omega, by show 8 + (nL + 11) + 34 * d' ≤ 374; omega⟩ dm_0 rfl rfl rfl (Nat.le_of_ble_eq_true rfl) dL_setting_4 ?_
  refine K_i2l dL_setting_7 ?_
  refine K_lastore dL_setting_8 ?_
  refine K_goto (tgt := 15) dL_setting_9 (by decide) ?_
  refine K_iconst (v := 0) dL_setting_15 (by decide) ?_
  exact K_iretW dL_setting_16
theorem W_setting_IOB {l : Launch} {G : WG} {d' nL : Nat} {cc : ByteArray} {x : Int32} {μ μ' : Mem} (hC : CtT l G d' yX3_setting cc nL (some .int) [.ref (adr G 0 0 0), .int x] μ "java/lang/IndexOutOfBoundsException" μ') (hm : MkV yX3_setting cc nL (some .int) 1) (hd : d' ≤ 10 ∧ nL ≤ 15) : CtW l G 11 yL_setting cL_setting 4 hh_setting ([.ref (adr G 0 0 0), .int x, .ref (adr G 21 0 0)]) μ 1 μ' := by
  refine CtW_of (by decide +kernel) (Nat.le_of_ble_eq_true rfl) ?_
  refine K_aload_n dL_setting_0 rfl ?_
  refine K_iconstN 0 dL_setting_1 rfl ?_
  refine K_aload_n dL_setting_2 rfl ?_
  refine K_iload_n dL_setting_3 rfl ?_
  refine K_catchV (As := [.int x]) (rest := [.int (nI 0), .ref (adr G 21 0 0)]) (hh := hh_setting) (pre := []) (suf := []) (0, 9, 12, 19) hC hm mlL_setting ⟨by show d' + 1 ≤ 11; omega, by show 8 + (nL + 11) + 34 * d' ≤ 374; omega⟩ ⟨Nat.le_refl 1, Nat.le_refl 6⟩ rfl rfl (Nat.le_of_ble_eq_true rfl) dL_setting_4 rfl (fun z hz => absurd hz List.not_mem_nil) (by decide) (by decide) cl_L_19 (by simp [nwC]) (fun q => ?_)
  refine J_astore_n dL_setting_12 (by decide) rfl ?_
  refine J_iconst (v := 1) dL_setting_13 (by decide) ?_
  exact J_iretW dL_setting_14
def hh_whyNot : List (Nat × Nat × Nat × Nat) := [(0, 12, 15, 19), (0, 12, 19, 21)]
theorem mlL_whyNot : Cond.methodLink RL 73 yX3_whyNot ∈ UW := tb_in 727 (by decide +kernel) rfl
theorem W_whyNot {l : Launch} {G : WG} {d' nL : Nat} {cc : ByteArray} {x y z : Int32} {μ μ' : Mem} {r : Int32} (hC : Ct l G d' yX3_whyNot cc nL (some .int) [.ref (adr G 0 0 0), .int x, .int y, .int z] μ (some (.int r)) μ') (hm : MkV yX3_whyNot cc nL (some .int) 3) (hd : d' ≤ 10 ∧ nL ≤ 15) : CtW l G 11 yL_whyNot cL_whyNot 6 hh_whyNot ([.ref (adr G 0 0 0), .int x, .int y, .int z, .ref (adr G 21 0 0)]) μ 0 (mlset μ' 1 r.toInt64) := by
  refine CtW_of (by decide +kernel) (Nat.le_of_ble_eq_true rfl) ?_
  refine K_aload dL_whyNot_0 rfl ?_
  refine K_iconstN 0 dL_whyNot_2 rfl ?_
  refine K_aload_n dL_whyNot_3 rfl ?_
  refine K_iload_n dL_whyNot_4 rfl ?_
  refine K_iload_n dL_whyNot_5 rfl ?_
  refine K_iload_n dL_whyNot_6 rfl ?_
  refine K_callV (As := [.int x, .int y, .int z]) (rest := [.int (nI 0), .ref (adr G 21 0 0)]) hC hm mlL_whyNot ⟨by show d' + 1 ≤ 11; omega, by show 8 + (nL + 11) + 34 * d' ≤ 374; omega⟩ dm_0 rfl rfl rfl (Nat.le_of_ble_eq_true rfl) dL_whyNot_7 ?_
  refine K_i2l dL_whyNot_10 ?_
  refine K_lastore dL_whyNot_11 ?_
  refine K_goto (tgt := 23) dL_whyNot_12 (by decide) ?_
  refine K_iconst (v := 0) dL_whyNot_23 (by decide) ?_
  exact K_iretW dL_whyNot_24
theorem W_whyNot_IOB {l : Launch} {G : WG} {d' nL : Nat} {cc : ByteArray} {x y z : Int32} {μ μ' : Mem} (hC : CtT l G d' yX3_whyNot cc nL (some .int) [.ref (adr G 0 0 0), .int x, .int y, .int z] μ "java/lang/IndexOutOfBoundsException" μ') (hm : MkV yX3_whyNot cc nL (some .int) 3) (hd : d' ≤ 10 ∧ nL ≤ 15) : CtW l G 11 yL_whyNot cL_whyNot 6 hh_whyNot ([.ref (adr G 0 0 0), .int x, .int y, .int z, .ref (adr G 21 0 0)]) μ 1 μ' := by
  refine CtW_of (by decide +kernel) (Nat.le_of_ble_eq_true rfl) ?_
  refine K_aload dL_whyNot_0 rfl ?_
  refine K_iconstN 0 dL_whyNot_2 rfl ?_
  refine K_aload_n dL_whyNot_3 rfl ?_
  refine K_iload_n dL_whyNot_4 rfl ?_
  refine K_iload_n dL_whyNot_5 rfl ?_
  refine K_iload_n dL_whyNot_6 rfl ?_
  refine K_catchV (As := [.int x, .int y, .int z]) (rest := [.int (nI 0), .ref (adr G 21 0 0)]) (hh := hh_whyNot) (pre := []) (suf := [(0, 12, 19, 21)]) (0, 12, 15, 19) hC hm mlL_whyNot ⟨by show d' + 1 ≤ 11; omega, by show 8 + (nL + 11) + 34 * d' ≤ 374; omega⟩ ⟨Nat.le_refl 1, Nat.le_refl 6⟩ rfl rfl (Nat.le_of_ble_eq_true rfl) dL_whyNot_7 rfl (fun z hz => absurd hz List.not_mem_nil) (by decide) (by decide) cl_L_19 (by simp [nwC]) (fun q => ?_)
  refine J_astore dL_whyNot_15 (by decide) rfl ?_
  refine J_iconst (v := 1) dL_whyNot_17 (by decide) ?_
  exact J_iretW dL_whyNot_18
theorem W_whyNot_IAE {l : Launch} {G : WG} {d' nL : Nat} {cc : ByteArray} {x y z : Int32} {μ μ' : Mem} (hC : CtT l G d' yX3_whyNot cc nL (some .int) [.ref (adr G 0 0 0), .int x, .int y, .int z] μ "java/lang/IllegalArgumentException" μ') (hm : MkV yX3_whyNot cc nL (some .int) 3) (hd : d' ≤ 10 ∧ nL ≤ 15) : CtW l G 11 yL_whyNot cL_whyNot 6 hh_whyNot ([.ref (adr G 0 0 0), .int x, .int y, .int z, .ref (adr G 21 0 0)]) μ 2 μ' := by
  refine CtW_of (by decide +kernel) (Nat.le_of_ble_eq_true rfl) ?_
  refine K_aload dL_whyNot_0 rfl ?_
  refine K_iconstN 0 dL_whyNot_2 rfl ?_
  refine K_aload_n dL_whyNot_3 rfl ?_
  refine K_iload_n dL_whyNot_4 rfl ?_
  refine K_iload_n dL_whyNot_5 rfl ?_
  refine K_iload_n dL_whyNot_6 rfl ?_
  refine K_catchV (As := [.int x, .int y, .int z]) (rest := [.int (nI 0), .ref (adr G 21 0 0)]) (hh := hh_whyNot) (pre := [(0, 12, 15, 19)]) (suf := []) (0, 12, 19, 21) hC hm mlL_whyNot ⟨by show d' + 1 ≤ 11; omega, by show 8 + (nL + 11) + 34 * d' ≤ 374; omega⟩ ⟨Nat.le_refl 1, Nat.le_refl 6⟩ rfl rfl (Nat.le_of_ble_eq_true rfl) dL_whyNot_7 rfl (fun z hz => by
    simp only [List.mem_cons, List.not_mem_nil, or_false] at hz
    subst hz
    · exact ⟨by decide, _, cl_L_19, by simp [nwNC]⟩) (by decide) (by decide) cl_L_21 (by simp [nwC]) (fun q => ?_)
  refine J_astore dL_whyNot_19 (by decide) rfl ?_
  refine J_iconst (v := 2) dL_whyNot_21 (by decide) ?_
  exact J_iretW dL_whyNot_22
def hh_ifBegun : List (Nat × Nat × Nat × Nat) := [(0, 10, 13, 19), (0, 10, 17, 21)]
theorem mlL_ifBegun : Cond.methodLink RL 76 yX3_ifBegun ∈ UW := tb_in 731 (by decide +kernel) rfl
theorem W_ifBegun {l : Launch} {G : WG} {d' nL : Nat} {cc : ByteArray} {x y : Int32} {μ μ' : Mem} {r : Int32} (hC : Ct l G d' yX3_ifBegun cc nL (some .int) [.ref (adr G 0 0 0), .int x, .int y] μ (some (.int r)) μ') (hm : MkV yX3_ifBegun cc nL (some .int) 2) (hd : d' ≤ 10 ∧ nL ≤ 15) : CtW l G 11 yL_ifBegun cL_ifBegun 5 hh_ifBegun ([.ref (adr G 0 0 0), .int x, .int y, .ref (adr G 21 0 0)]) μ 0 (mlset μ' 1 r.toInt64) := by
  refine CtW_of (by decide +kernel) (Nat.le_of_ble_eq_true rfl) ?_
  refine K_aload_n dL_ifBegun_0 rfl ?_
  refine K_iconstN 0 dL_ifBegun_1 rfl ?_
  refine K_aload_n dL_ifBegun_2 rfl ?_
  refine K_iload_n dL_ifBegun_3 rfl ?_
  refine K_iload_n dL_ifBegun_4 rfl ?_
  refine K_callV (As := [.int x, .int y]) (rest := [.int (nI 0), .ref (adr G 21 0 0)]) hC hm mlL_ifBegun ⟨by show d' + 1 ≤ 11; omega, by show 8 + (nL + 11) + 34 * d' ≤ 374; omega⟩ dm_0 rfl rfl rfl (Nat.le_of_ble_eq_true rfl) dL_ifBegun_5 ?_
  refine K_i2l dL_ifBegun_8 ?_
  refine K_lastore dL_ifBegun_9 ?_
  refine K_goto (tgt := 21) dL_ifBegun_10 (by decide) ?_
  refine K_iconst (v := 0) dL_ifBegun_21 (by decide) ?_
  exact K_iretW dL_ifBegun_22
theorem W_ifBegun_IOB {l : Launch} {G : WG} {d' nL : Nat} {cc : ByteArray} {x y : Int32} {μ μ' : Mem} (hC : CtT l G d' yX3_ifBegun cc nL (some .int) [.ref (adr G 0 0 0), .int x, .int y] μ "java/lang/IndexOutOfBoundsException" μ') (hm : MkV yX3_ifBegun cc nL (some .int) 2) (hd : d' ≤ 10 ∧ nL ≤ 15) : CtW l G 11 yL_ifBegun cL_ifBegun 5 hh_ifBegun ([.ref (adr G 0 0 0), .int x, .int y, .ref (adr G 21 0 0)]) μ 1 μ' := by
  refine CtW_of (by decide +kernel) (Nat.le_of_ble_eq_true rfl) ?_
  refine K_aload_n dL_ifBegun_0 rfl ?_
  refine K_iconstN 0 dL_ifBegun_1 rfl ?_
  refine K_aload_n dL_ifBegun_2 rfl ?_
  refine K_iload_n dL_ifBegun_3 rfl ?_
  refine K_iload_n dL_ifBegun_4 rfl ?_
  refine K_catchV (As := [.int x, .int y]) (rest := [.int (nI 0), .ref (adr G 21 0 0)]) (hh := hh_ifBegun) (pre := []) (suf := [(0, 10, 17, 21)]) (0, 10, 13, 19) hC hm mlL_ifBegun ⟨by show d' + 1 ≤ 11; omega, by show 8 + (nL + 11) + 34 * d' ≤ 374; omega⟩ ⟨Nat.le_refl 1, Nat.le_refl 6⟩ rfl rfl (Nat.le_of_ble_eq_true rfl) dL_ifBegun_5 rfl (fun z hz => absurd hz List.not_mem_nil) (by decide) (by decide) cl_L_19 (by simp [nwC]) (fun q => ?_)
  refine J_astore dL_ifBegun_13 (by decide) rfl ?_
  refine J_iconst (v := 1) dL_ifBegun_15 (by decide) ?_
  exact J_iretW dL_ifBegun_16
theorem W_ifBegun_IAE {l : Launch} {G : WG} {d' nL : Nat} {cc : ByteArray} {x y : Int32} {μ μ' : Mem} (hC : CtT l G d' yX3_ifBegun cc nL (some .int) [.ref (adr G 0 0 0), .int x, .int y] μ "java/lang/IllegalArgumentException" μ') (hm : MkV yX3_ifBegun cc nL (some .int) 2) (hd : d' ≤ 10 ∧ nL ≤ 15) : CtW l G 11 yL_ifBegun cL_ifBegun 5 hh_ifBegun ([.ref (adr G 0 0 0), .int x, .int y, .ref (adr G 21 0 0)]) μ 2 μ' := by
  refine CtW_of (by decide +kernel) (Nat.le_of_ble_eq_true rfl) ?_
  refine K_aload_n dL_ifBegun_0 rfl ?_
  refine K_iconstN 0 dL_ifBegun_1 rfl ?_
  refine K_aload_n dL_ifBegun_2 rfl ?_
  refine K_iload_n dL_ifBegun_3 rfl ?_
  refine K_iload_n dL_ifBegun_4 rfl ?_
  refine K_catchV (As := [.int x, .int y]) (rest := [.int (nI 0), .ref (adr G 21 0 0)]) (hh := hh_ifBegun) (pre := [(0, 10, 13, 19)]) (suf := []) (0, 10, 17, 21) hC hm mlL_ifBegun ⟨by show d' + 1 ≤ 11; omega, by show 8 + (nL + 11) + 34 * d' ≤ 374; omega⟩ ⟨Nat.le_refl 1, Nat.le_refl 6⟩ rfl rfl (Nat.le_of_ble_eq_true rfl) dL_ifBegun_5 rfl (fun z hz => by
    simp only [List.mem_cons, List.not_mem_nil, or_false] at hz
    subst hz
    · exact ⟨by decide, _, cl_L_19, by simp [nwNC]⟩) (by decide) (by decide) cl_L_21 (by simp [nwC]) (fun q => ?_)
  refine J_astore dL_ifBegun_17 (by decide) rfl ?_
  refine J_iconst (v := 2) dL_ifBegun_19 (by decide) ?_
  exact J_iretW dL_ifBegun_20
def hh_breaksIn : List (Nat × Nat × Nat × Nat) := [(0, 9, 12, 19)]
theorem mlL_breaksIn : Cond.methodLink RL 79 yX3_breaksIn ∈ UW := tb_in 735 (by decide +kernel) rfl
theorem W_breaksIn {l : Launch} {G : WG} {d' nL : Nat} {cc : ByteArray} {x : Int32} {μ μ' : Mem} {r : Int32} (hC : Ct l G d' yX3_breaksIn cc nL (some .int) [.ref (adr G 0 0 0), .int x] μ (some (.int r)) μ') (hm : MkV yX3_breaksIn cc nL (some .int) 1) (hd : d' ≤ 10 ∧ nL ≤ 15) : CtW l G 11 yL_breaksIn cL_breaksIn 4 hh_breaksIn ([.ref (adr G 0 0 0), .int x, .ref (adr G 21 0 0)]) μ 0 (mlset μ' 1 r.toInt64) := by
  refine CtW_of (by decide +kernel) (Nat.le_of_ble_eq_true rfl) ?_
  refine K_aload_n dL_breaksIn_0 rfl ?_
  refine K_iconstN 0 dL_breaksIn_1 rfl ?_
  refine K_aload_n dL_breaksIn_2 rfl ?_
  refine K_iload_n dL_breaksIn_3 rfl ?_
  refine K_callV (As := [.int x]) (rest := [.int (nI 0), .ref (adr G 21 0 0)]) hC hm mlL_breaksIn ⟨by show d' + 1 ≤ 11; omega, by show 8 + (nL + 11) + 34 * d' ≤ 374; omega⟩ dm_0 rfl rfl rfl (Nat.le_of_ble_eq_true rfl) dL_breaksIn_4 ?_
  refine K_i2l dL_breaksIn_7 ?_
  refine K_lastore dL_breaksIn_8 ?_
  refine K_goto (tgt := 15) dL_breaksIn_9 (by decide) ?_
  refine K_iconst (v := 0) dL_breaksIn_15 (by decide) ?_
  exact K_iretW dL_breaksIn_16
theorem W_breaksIn_IOB {l : Launch} {G : WG} {d' nL : Nat} {cc : ByteArray} {x : Int32} {μ μ' : Mem} (hC : CtT l G d' yX3_breaksIn cc nL (some .int) [.ref (adr G 0 0 0), .int x] μ "java/lang/IndexOutOfBoundsException" μ') (hm : MkV yX3_breaksIn cc nL (some .int) 1) (hd : d' ≤ 10 ∧ nL ≤ 15) : CtW l G 11 yL_breaksIn cL_breaksIn 4 hh_breaksIn ([.ref (adr G 0 0 0), .int x, .ref (adr G 21 0 0)]) μ 1 μ' := by
  refine CtW_of (by decide +kernel) (Nat.le_of_ble_eq_true rfl) ?_
  refine K_aload_n dL_breaksIn_0 rfl ?_
  refine K_iconstN 0 dL_breaksIn_1 rfl ?_
  refine K_aload_n dL_breaksIn_2 rfl ?_
  refine K_iload_n dL_breaksIn_3 rfl ?_
  refine K_catchV (As := [.int x]) (rest := [.int (nI 0), .ref (adr G 21 0 0)]) (hh := hh_breaksIn) (pre := []) (suf := []) (0, 9, 12, 19) hC hm mlL_breaksIn ⟨by show d' + 1 ≤ 11; omega, by show 8 + (nL + 11) + 34 * d' ≤ 374; omega⟩ ⟨Nat.le_refl 1, Nat.le_refl 6⟩ rfl rfl (Nat.le_of_ble_eq_true rfl) dL_breaksIn_4 rfl (fun z hz => absurd hz List.not_mem_nil) (by decide) (by decide) cl_L_19 (by simp [nwC]) (fun q => ?_)
  refine J_astore_n dL_breaksIn_12 (by decide) rfl ?_
  refine J_iconst (v := 1) dL_breaksIn_13 (by decide) ?_
  exact J_iretW dL_breaksIn_14
def hh_surchargesIn : List (Nat × Nat × Nat × Nat) := [(0, 9, 12, 21)]
theorem mlL_surchargesIn : Cond.methodLink RL 82 yX3_surchargesIn ∈ UW := tb_in 739 (by decide +kernel) rfl
theorem W_surchargesIn {l : Launch} {G : WG} {d' nL : Nat} {cc : ByteArray} {x : Int32} {μ μ' : Mem} {r : Int32} (hC : Ct l G d' yX3_surchargesIn cc nL (some .int) [.ref (adr G 0 0 0), .int x] μ (some (.int r)) μ') (hm : MkV yX3_surchargesIn cc nL (some .int) 1) (hd : d' ≤ 10 ∧ nL ≤ 15) : CtW l G 11 yL_surchargesIn cL_surchargesIn 4 hh_surchargesIn ([.ref (adr G 0 0 0), .int x, .ref (adr G 21 0 0)]) μ 0 (mlset μ' 1 r.toInt64) := by
  refine CtW_of (by decide +kernel) (Nat.le_of_ble_eq_true rfl) ?_
  refine K_aload_n dL_surchargesIn_0 rfl ?_
  refine K_iconstN 0 dL_surchargesIn_1 rfl ?_
  refine K_aload_n dL_surchargesIn_2 rfl ?_
  refine K_iload_n dL_surchargesIn_3 rfl ?_
  refine K_callV (As := [.int x]) (rest := [.int (nI 0), .ref (adr G 21 0 0)]) hC hm mlL_surchargesIn ⟨by show d' + 1 ≤ 11; omega, by show 8 + (nL + 11) + 34 * d' ≤ 374; omega⟩ dm_0 rfl rfl rfl (Nat.le_of_ble_eq_true rfl) dL_surchargesIn_4 ?_
  refine K_i2l dL_surchargesIn_7 ?_
  refine K_lastore dL_surchargesIn_8 ?_
  refine K_goto (tgt := 15) dL_surchargesIn_9 (by decide) ?_
  refine K_iconst (v := 0) dL_surchargesIn_15 (by decide) ?_
  exact K_iretW dL_surchargesIn_16
theorem W_surchargesIn_IAE {l : Launch} {G : WG} {d' nL : Nat} {cc : ByteArray} {x : Int32} {μ μ' : Mem} (hC : CtT l G d' yX3_surchargesIn cc nL (some .int) [.ref (adr G 0 0 0), .int x] μ "java/lang/IllegalArgumentException" μ') (hm : MkV yX3_surchargesIn cc nL (some .int) 1) (hd : d' ≤ 10 ∧ nL ≤ 15) : CtW l G 11 yL_surchargesIn cL_surchargesIn 4 hh_surchargesIn ([.ref (adr G 0 0 0), .int x, .ref (adr G 21 0 0)]) μ 1 μ' := by
  refine CtW_of (by decide +kernel) (Nat.le_of_ble_eq_true rfl) ?_
  refine K_aload_n dL_surchargesIn_0 rfl ?_
  refine K_iconstN 0 dL_surchargesIn_1 rfl ?_
  refine K_aload_n dL_surchargesIn_2 rfl ?_
  refine K_iload_n dL_surchargesIn_3 rfl ?_
  refine K_catchV (As := [.int x]) (rest := [.int (nI 0), .ref (adr G 21 0 0)]) (hh := hh_surchargesIn) (pre := []) (suf := []) (0, 9, 12, 21) hC hm mlL_surchargesIn ⟨by show d' + 1 ≤ 11; omega, by show 8 + (nL + 11) + 34 * d' ≤ 374; omega⟩ ⟨Nat.le_refl 1, Nat.le_refl 6⟩ rfl rfl (Nat.le_of_ble_eq_true rfl) dL_surchargesIn_4 rfl (fun z hz => absurd hz List.not_mem_nil) (by decide) (by decide) cl_L_21 (by simp [nwC]) (fun q => ?_)
  refine J_astore_n dL_surchargesIn_12 (by decide) rfl ?_
  refine J_iconst (v := 1) dL_surchargesIn_13 (by decide) ?_
  exact J_iretW dL_surchargesIn_14
def hh_dueIn : List (Nat × Nat × Nat × Nat) := [(0, 10, 13, 19), (0, 10, 17, 21)]
theorem mlL_dueIn : Cond.methodLink RL 85 yX3_dueIn ∈ UW := tb_in 743 (by decide +kernel) rfl
theorem W_dueIn {l : Launch} {G : WG} {d' nL : Nat} {cc : ByteArray} {x y : Int32} {μ μ' : Mem} {r : Int32} (hC : Ct l G d' yX3_dueIn cc nL (some .int) [.ref (adr G 0 0 0), .int x, .int y] μ (some (.int r)) μ') (hm : MkV yX3_dueIn cc nL (some .int) 2) (hd : d' ≤ 10 ∧ nL ≤ 15) : CtW l G 11 yL_dueIn cL_dueIn 5 hh_dueIn ([.ref (adr G 0 0 0), .int x, .int y, .ref (adr G 21 0 0)]) μ 0 (mlset μ' 1 r.toInt64) := by
  refine CtW_of (by decide +kernel) (Nat.le_of_ble_eq_true rfl) ?_
  refine K_aload_n dL_dueIn_0 rfl ?_
  refine K_iconstN 0 dL_dueIn_1 rfl ?_
  refine K_aload_n dL_dueIn_2 rfl ?_
  refine K_iload_n dL_dueIn_3 rfl ?_
  refine K_iload_n dL_dueIn_4 rfl ?_
  refine K_callV (As := [.int x, .int y]) (rest := [.int (nI 0), .ref (adr G 21 0 0)]) hC hm mlL_dueIn ⟨by show d' + 1 ≤ 11; omega, by show 8 + (nL + 11) + 34 * d' ≤ 374; omega⟩ dm_0 rfl rfl rfl (Nat.le_of_ble_eq_true rfl) dL_dueIn_5 ?_
  refine K_i2l dL_dueIn_8 ?_
  refine K_lastore dL_dueIn_9 ?_
  refine K_goto (tgt := 21) dL_dueIn_10 (by decide) ?_
  refine K_iconst (v := 0) dL_dueIn_21 (by decide) ?_
  exact K_iretW dL_dueIn_22
theorem W_dueIn_IOB {l : Launch} {G : WG} {d' nL : Nat} {cc : ByteArray} {x y : Int32} {μ μ' : Mem} (hC : CtT l G d' yX3_dueIn cc nL (some .int) [.ref (adr G 0 0 0), .int x, .int y] μ "java/lang/IndexOutOfBoundsException" μ') (hm : MkV yX3_dueIn cc nL (some .int) 2) (hd : d' ≤ 10 ∧ nL ≤ 15) : CtW l G 11 yL_dueIn cL_dueIn 5 hh_dueIn ([.ref (adr G 0 0 0), .int x, .int y, .ref (adr G 21 0 0)]) μ 1 μ' := by
  refine CtW_of (by decide +kernel) (Nat.le_of_ble_eq_true rfl) ?_
  refine K_aload_n dL_dueIn_0 rfl ?_
  refine K_iconstN 0 dL_dueIn_1 rfl ?_
  refine K_aload_n dL_dueIn_2 rfl ?_
  refine K_iload_n dL_dueIn_3 rfl ?_
  refine K_iload_n dL_dueIn_4 rfl ?_
  refine K_catchV (As := [.int x, .int y]) (rest := [.int (nI 0), .ref (adr G 21 0 0)]) (hh := hh_dueIn) (pre := []) (suf := [(0, 10, 17, 21)]) (0, 10, 13, 19) hC hm mlL_dueIn ⟨by show d' + 1 ≤ 11; omega, by show 8 + (nL + 11) + 34 * d' ≤ 374; omega⟩ ⟨Nat.le_refl 1, Nat.le_refl 6⟩ rfl rfl (Nat.le_of_ble_eq_true rfl) dL_dueIn_5 rfl (fun z hz => absurd hz List.not_mem_nil) (by decide) (by decide) cl_L_19 (by simp [nwC]) (fun q => ?_)
  refine J_astore dL_dueIn_13 (by decide) rfl ?_
  refine J_iconst (v := 1) dL_dueIn_15 (by decide) ?_
  exact J_iretW dL_dueIn_16
theorem W_dueIn_IAE {l : Launch} {G : WG} {d' nL : Nat} {cc : ByteArray} {x y : Int32} {μ μ' : Mem} (hC : CtT l G d' yX3_dueIn cc nL (some .int) [.ref (adr G 0 0 0), .int x, .int y] μ "java/lang/IllegalArgumentException" μ') (hm : MkV yX3_dueIn cc nL (some .int) 2) (hd : d' ≤ 10 ∧ nL ≤ 15) : CtW l G 11 yL_dueIn cL_dueIn 5 hh_dueIn ([.ref (adr G 0 0 0), .int x, .int y, .ref (adr G 21 0 0)]) μ 2 μ' := by
  refine CtW_of (by decide +kernel) (Nat.le_of_ble_eq_true rfl) ?_
  refine K_aload_n dL_dueIn_0 rfl ?_
  refine K_iconstN 0 dL_dueIn_1 rfl ?_
  refine K_aload_n dL_dueIn_2 rfl ?_
  refine K_iload_n dL_dueIn_3 rfl ?_
  refine K_iload_n dL_dueIn_4 rfl ?_
  refine K_catchV (As := [.int x, .int y]) (rest := [.int (nI 0), .ref (adr G 21 0 0)]) (hh := hh_dueIn) (pre := [(0, 10, 13, 19)]) (suf := []) (0, 10, 17, 21) hC hm mlL_dueIn ⟨by show d' + 1 ≤ 11; omega, by show 8 + (nL + 11) + 34 * d' ≤ 374; omega⟩ ⟨Nat.le_refl 1, Nat.le_refl 6⟩ rfl rfl (Nat.le_of_ble_eq_true rfl) dL_dueIn_5 rfl (fun z hz => by
    simp only [List.mem_cons, List.not_mem_nil, or_false] at hz
    subst hz
    · exact ⟨by decide, _, cl_L_19, by simp [nwNC]⟩) (by decide) (by decide) cl_L_21 (by simp [nwC]) (fun q => ?_)
  refine J_astore dL_dueIn_17 (by decide) rfl ?_
  refine J_iconst (v := 2) dL_dueIn_19 (by decide) ?_
  exact J_iretW dL_dueIn_20
