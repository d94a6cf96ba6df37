theorem CI_omr {μ : Mem} {n : Nat} {s : RS} (h : CI μ n) : CI (omr μ s) n := ⟨h.1, h.2.1, h.2.2.of fun _ _ => rfl⟩
def cRunK (c : Nat → Int32) (L n : Nat) : Nat → Nat → Mem × RS → Nat × (Mem × RS)
  | 0, k, x => (k, x)
  | f + 1, k, x => cond (rdNext c L x.2).1 (cond (coM (omr x.1 (rdNext c L x.2).2) n).1 (cRunK c L n f (k + 1) ((coM (omr x.1 (rdNext c L x.2).2) n).2, (rdNext c L x.2).2)) (k, ((coM (omr x.1 (rdNext c L x.2).2) n).2, (rdNext c L x.2).2))) (k, (omr x.1 (rdNext c L x.2).2, (rdNext c L x.2).2))
def cRd (μ : Mem) (L k : Nat) : Bool × RS := rdRow (μ.1 3 0 0) L (k, μ.1 2 0 0 3, μ.1 2 0 0 4, μ.1 2 0 0 5, μ.1 2 0 0 6)
def cRunV (μ : Mem) (L k ns sc : Nat) : Mem := cSave (omr μ (cRd μ L k).2) ns sc
def cRunS (μ : Mem) (L k ns sc n : Nat) : Nat × (Mem × RS) := cRunK (μ.1 3 0 0) L n 60 0 (omr (cRunV μ L k ns sc) (0, (cRd μ L k).2.2), (0, (cRd μ L k).2.2))
theorem cSave_tg {μ : Mem} {ns sc t : Nat} (h : 0 < t ∧ t < 4) : (cSave μ ns sc).1 t = μ.1 t := cSave_tag (Or.inl h)
theorem omr_same {μ : Mem} {s : RS} (h : ∀ k, μ.1 2 0 0 k = omF μ s k) : omr μ s = μ := by
  refine Prod.ext ?_ rfl
  funext t i p k
  show (if t = 2 ∧ i = 0 ∧ p = 0 then omF μ s k else μ.1 t i p k) = μ.1 t i p k
  by_cases h1 : t = 2 ∧ i = 0 ∧ p = 0
  · rw [if_pos h1]
    obtain ⟨rfl, rfl, rfl⟩ := h1
    exact (h k).symm
  · rw [if_neg h1]
theorem omF_eq {μ ν : Mem} {s : RS} (h : μ.1 2 = ν.1 2) (k : Nat) : omF μ s k = omF ν s k := by
  match k with
  | 0 | 1 => exact congrFun (congrFun (congrFun h 0) 0) _
  | 2 | 3 | 4 | 5 | 6 => rfl
  | k + 7 => exact congrFun (congrFun (congrFun h 0) 0) _
theorem omr_keep {μ ν : Mem} {s : RS} (h : ν.1 2 = (omr μ s).1 2) : omr ν s = ν := omr_same fun k => by
  rw [h, omr_k]
  match k with
  | 0 | 1 => exact ((congrFun (congrFun (congrFun h 0) 0) _).trans omr_k).symm
  | 2 | 3 | 4 | 5 | 6 => rfl
  | k + 7 => exact ((congrFun (congrFun (congrFun h 0) 0) _).trans omr_k).symm

set_option maxHeartbeats 4000000 in
set_option maxRecDepth 100000 in
theorem T_X3_run {l : Launch} {G : WG} {μ : Mem} (hfl : l.stackTraces = false) {L : Nat} (hL : μ.1 2 0 0 1 = nI L) (hL6 : L ≤ 60) {k : Nat} (hk : μ.1 2 0 0 2 = nI k) (h : (cRd μ L k).1 = false) : CtT l G 7 yX3_run cX3_run 2 (some .int) [.ref (adr G 0 0 0)] μ "java/lang/IllegalArgumentException" (omr μ (cRd μ L k).2) := by
  refine CtT_of (by decide +kernel) (Nat.le_of_ble_eq_true rfl) ?_
  refine K_aload_n dX3_run_0 rfl ?_
  refine g_X3_30 dX3_run_1  ?_
  refine K_mem (omr_self μ hk).symm ?_
  refine k_X1_readRow (C_X1_readRow (μ := μ) (s := (k, μ.1 2 0 0 3, μ.1 2 0 0 4, μ.1 2 0 0 5, μ.1 2 0 0 6)) hL hL6) (by decide)  ml_X3_128 (Nat.le_of_ble_eq_true rfl) dX3_run_4 ?_
  refine K_ifb_ne (tgt := 20) dX3_run_7 (by decide) (fun c7 => ?_) (fun c7 => ?_)
  · skip
    exact absurd (c7.symm.trans h) (by decide)
  · skip
    exact K_throw_aux (text := "the buffer is not a complete row of orders") false hfl (by decide +kernel) xk_IAE xi_IAE xg_IAE xb_IAE xo_IAE (by simp [nwC]) (by simp [nwS]) dX3_run_10 dX3_run_13 ⟨dX3_run_14, dX3_run_16, dX3_run_19⟩ (Nat.le_of_ble_eq_true rfl) (by omega)

set_option maxHeartbeats 4000000 in
set_option maxRecDepth 100000 in
theorem C_X3_run {l : Launch} {G : WG} {μ : Mem} {L : Nat} (hL : μ.1 2 0 0 1 = nI L) (hL6 : L ≤ 60) {k : Nat} (hk : μ.1 2 0 0 2 = nI k) (h : (cRd μ L k).1 = true) {n : Nat} (hI : CI μ n) {ns sc : Nat} (hS : SI μ ns sc) : Ct l G 6 yX3_run cX3_run 2 (some .int) [.ref (adr G 0 0 0)] (μ) (some (.int (nI (cRunS μ L k ns sc n).1))) (mset (cRunS μ L k ns sc n).2.1 2 0 0 1 (nI 0)) := by
  refine Ct_of (by decide +kernel) (Nat.le_of_ble_eq_true rfl) ?_
  have hV2 : (cRunV μ L k ns sc).1 2 0 0 1 = nI L := (congrFun (congrFun (congrFun (cSave_tg (by decide)) 0) 0) 1).trans hL
  have hV3 : (cRunV μ L k ns sc).1 3 0 0 = μ.1 3 0 0 := congrFun (congrFun (cSave_tg (by decide)) 0) 0
  have hVI : CI (cRunV μ L k ns sc) n := cSave_CI (CI_omr hI)
  have hVs : omr (cRunV μ L k ns sc) (cRd μ L k).2 = (cRunV μ L k ns sc) := omr_keep (cSave_tg (by decide))
  refine K_aload_n dX3_run_0 rfl ?_
  refine g_X3_30 dX3_run_1  ?_
  refine K_mem (omr_self μ hk).symm ?_
  refine k_X1_readRow (C_X1_readRow (μ := μ) (s := (k, μ.1 2 0 0 3, μ.1 2 0 0 4, μ.1 2 0 0 5, μ.1 2 0 0 6)) hL hL6) (by decide)  ml_X3_128 (Nat.le_of_ble_eq_true rfl) dX3_run_4 ?_
  refine K_ifb_ne (tgt := 20) dX3_run_7 (by decide) (fun c7 => ?_) (fun c7 => ?_)
  · skip
    refine K_aload_n dX3_run_20 rfl ?_
    refine k_X3_saveState (C_X3_saveState (μ := omr μ (cRd μ L k).2) hS) (by decide)  ml_X3_44 (Nat.le_of_ble_eq_true rfl) dX3_run_21 ?_
    refine K_aload_n dX3_run_24 rfl ?_
    refine g_X3_30 dX3_run_25  ?_
    refine K_mem hVs.symm ?_
    refine k_X1_rewind (C_X1_rewind (μ := (cRunV μ L k ns sc)) (s := (cRd μ L k).2) hV2 hL6) (by decide)  ml_X3_140 (Nat.le_of_ble_eq_true rfl) dX3_run_28 ?_
    refine K_iconstN 0 dX3_run_31 rfl ?_
    refine K_istore_n dX3_run_32 (by decide) rfl ?_
    refine K_lv [0, 1] rfl ?_
    refine K_whl (S := Nat × (Mem × RS)) (fun _ x => [(0, .ref (adr G 0 0 0)), (1, .int (nI x.1))]) (fun _ x => x.2.1) (fun f x => f + x.1 = 60 ∧ omr x.2.1 x.2.2 = x.2.1 ∧ x.2.1.1 3 0 0 = μ.1 3 0 0 ∧ x.2.1.1 2 0 0 1 = nI L ∧ CI x.2.1 n ∧ x.2.2.1 ≤ L ∧ cRunS μ L k ns sc n = cRunK (μ.1 3 0 0) L n f x.1 x.2) (fun f x hP ih => ?_) 60 (0, (omr (cRunV μ L k ns sc) (0, (cRd μ L k).2.2), (0, (cRd μ L k).2.2))) ⟨rfl, omr_omr, hV3, hV2, CI_omr hVI, Nat.zero_le L, rfl⟩
    obtain ⟨j, ν, s⟩ := x
    obtain ⟨hP1, hP2, hP3, hP4, hP5, hP6, hP7⟩ := hP
    simp only at hP2 hP3 hP4 hP5 hP6 hP7 ⊢
    refine K_iload_n dX3_run_33 rfl ?_
    refine K_bipush (v := nI 60) dX3_run_34 (by decide) ?_
    refine K_icmpN_ge (by omega) (by omega) (tgt := 62) dX3_run_36 (by decide) (fun c36 => ?_) (fun c36 => ?_)
    · skip
      refine K_aload_n dX3_run_62 rfl ?_
      refine g_X3_30 dX3_run_63  ?_
      refine K_iconstN 0 dX3_run_66 rfl ?_
      refine p_X3_120 dX3_run_67  ?_
      refine K_iload_n dX3_run_70 rfl ?_
      rw [hP7]
      obtain rfl : f = 0 := by omega
      exact K_iret dX3_run_71 ⟨rfl, rfl⟩
    · skip
      refine K_aload_n dX3_run_39 rfl ?_
      refine g_X3_30 dX3_run_40  ?_
      refine K_mem hP2.symm ?_
      refine k_X1_readNextOrder (C_X1_readNextOrder (μ := ν) (s := s) hP4 hL6 hP6) (by decide)  ml_X3_143 (Nat.le_of_ble_eq_true rfl) dX3_run_43 ?_
      rw [hP3]
      refine K_ifb_eq (tgt := 62) dX3_run_46 (by decide) (fun c46 => ?_) (fun c46 => ?_)
      · skip
        refine K_aload_n dX3_run_62 rfl ?_
        refine g_X3_30 dX3_run_63  ?_
        refine K_iconstN 0 dX3_run_66 rfl ?_
        refine p_X3_120 dX3_run_67  ?_
        refine K_iload_n dX3_run_70 rfl ?_
        rw [hP7]
        obtain ⟨f, rfl⟩ : ∃ g, f = g + 1 := ⟨f - 1, by omega⟩
        exact K_iret dX3_run_71 ⟨by simp only [cRunK, c46, cond_false], by simp only [cRunK, c46, cond_false]⟩
      · skip
        refine K_aload_n dX3_run_49 rfl ?_
        refine k_X3_carryOutOrder (C_X3_carryOutOrder (CI_omr hP5) (by exact rdNext_ok c46)) (by decide)  ml_X3_146 (Nat.le_of_ble_eq_true rfl) dX3_run_50 ?_
        refine K_ifb_eq (tgt := 62) dX3_run_53 (by decide) (fun c53 => ?_) (fun c53 => ?_)
        · skip
          refine K_aload_n dX3_run_62 rfl ?_
          refine g_X3_30 dX3_run_63  ?_
          refine K_iconstN 0 dX3_run_66 rfl ?_
          refine p_X3_120 dX3_run_67  ?_
          refine K_iload_n dX3_run_70 rfl ?_
          rw [hP7]
          obtain ⟨f, rfl⟩ : ∃ g, f = g + 1 := ⟨f - 1, by omega⟩
          exact K_iret dX3_run_71 ⟨by simp only [cRunK, c46, c53, cond_true, cond_false], by simp only [cRunK, c46, c53, cond_true, cond_false]⟩
        · skip
          refine K_iincN (b := 1) dX3_run_56 rfl rfl (by decide) rfl ?_
          refine K_goto (tgt := 33) dX3_run_59 (by decide) ?_
          exact K_lv [0, 1] rfl (ih (f - 1) (j + 1, ((coM (omr ν (rdNext (μ.1 3 0 0) L s).2) n).2, (rdNext (μ.1 3 0 0) L s).2)) (by omega) ⟨by omega, omr_keep (coP_tag (by decide)), (congrFun (congrFun (coP_tag (by decide)) 0) 0).trans hP3, (congrFun (congrFun (congrFun (coP_tag (by decide)) 0) 0) 1).trans hP4, coP_CI (CI_omr hP5), rdNext_le hP6, by obtain ⟨f, rfl⟩ : ∃ g, f = g + 1 := ⟨f - 1, by omega⟩; rw [hP7]; simp only [cRunK, c46, c53, cond_true, Nat.add_sub_cancel]⟩)
  · skip
    exact absurd (h.symm.trans c7) (by decide)
