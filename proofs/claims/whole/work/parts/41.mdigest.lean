theorem kpK_val {μ : Mem} : ∀ n k, (kpK μ n).1 20 0 0 k = if k < n then μ.1 16 0 0 k else μ.1 20 0 0 k
  | 0, k => by rw [if_neg (Nat.not_lt_zero k)]; rfl
  | n + 1, k => by
    show (mset (kpK μ n) 20 0 0 n ((kpK μ n).1 16 0 0 n)).1 20 0 0 k = _
    rw [kpK_tag (by decide)]
    by_cases e : k = n
    · subst e
      rw [mset_at, if_pos (Nat.lt_succ_self k)]
    · show (if 20 = 20 ∧ 0 = 0 ∧ 0 = 0 ∧ k = n then _ else (kpK μ n).1 20 0 0 k) = _
      rw [if_neg (fun q => e q.2.2.2), kpK_val n k]
      by_cases h : k < n
      · rw [if_pos h, if_pos (Nat.lt_succ_of_lt h)]
      · rw [if_neg h, if_neg (fun q => by omega)]
theorem kpK_ne {μ : Mem} {t i p : Nat} (h : ¬ (t = 20 ∧ i = 0 ∧ p = 0)) : ∀ n, (kpK μ n).1 t i p = μ.1 t i p
  | 0 => rfl
  | n + 1 => (mset_ne h).trans (kpK_ne h n)
theorem kpK_2 {μ : Mem} : ∀ n, (kpK μ n).2 = μ.2
  | 0 => rfl
  | n + 1 => kpK_2 n
theorem kpK_kpK {μ : Mem} {n : Nat} : kpK (kpK μ n) n = kpK μ n := by
  refine Prod.ext ?_ (kpK_2 n)
  funext t i p k
  by_cases h : t = 20 ∧ i = 0 ∧ p = 0
  · obtain ⟨rfl, rfl, rfl⟩ := h
    rw [kpK_val, kpK_val, kpK_tag (by decide)]
    by_cases h2 : k < n
    · rw [if_pos h2, if_pos h2]
    · rw [if_neg h2, if_neg h2]
  · rw [kpK_ne h]
def kq (μ : Mem) (k : Nat) : Mem := cond (decide (k = 0)) μ (kpK μ 232)
theorem kq_s {μ : Mem} {k : Nat} : kpK (kq μ k) 232 = kq μ (k + 1) := by
  have e : kq μ (k + 1) = kpK μ 232 := by unfold kq; rw [decide_eq_false (by omega)]; rfl
  rw [e]
  unfold kq
  cases decide (k = 0)
  · exact kpK_kpK
  · rfl
theorem kq_tag {μ : Mem} {k t : Nat} (h : t ≠ 20) : (kq μ k).1 t = μ.1 t := by
  unfold kq
  cases decide (k = 0)
  · exact kpK_tag h _
  · rfl
def mPh (z : Zr) (n p : Nat) (h : Int64) : Int64 := hPh (mPhase z p) (mUse z p) (mWhy4 z p) (mInst z p) (fun w => mWhy z p 0 w) (mThen z p) (mBreaks z p) (mDueNow (dpsK z n 100).1 p) h
def mDig (μ : Mem) (sc n L : Nat) : Int64 := hDig (mCount (μ.1 16 0 0) sc n) (μ.1 16 0 0) n (mPh (μ.1 16 0 0) n) (dpsK (μ.1 16 0 0) n 200).2 (mUrgK (μ.1 16 0 0) n) (mShare (μ.1 16 0 0) n).toInt64 L (μ.1 18 0 0)

set_option maxHeartbeats 1000000 in
set_option maxRecDepth 100000 in
theorem C_X4_digest {l : Launch} {G : WG} {μ : Mem} {n : Nat} (hZ : ZI (μ.1 16 0 0) n) {sc : Nat} (hs : μ.1 15 0 0 1 = nI sc) {L : Nat} (hL : μ.1 15 0 0 3 = nI L) (hL6 : L ≤ 60) : Ct l G 9 yX4_digest cX4_digest 2 (some .long) [.ref (adr G 15 0 0)] (μ) (some (.long (mDig μ sc n L))) (mlset (kq (mset μ 15 0 0 5 (nI 0)) (n + 1)) 0 (mDig μ sc n L)) := by
  refine Ct_of (by decide +kernel) (Nat.le_of_ble_eq_true rfl) ?_
  have hk16 : (kq (mset μ 15 0 0 5 (nI 0)) (n + 1)).1 16 0 0 = (μ.1 16 0 0) := congrFun (congrFun (kq_tag (by decide)) 0) 0
  have hk18 : ∀ j, (kq (mset μ 15 0 0 5 (nI 0)) (n + 1)).1 18 0 0 j = μ.1 18 0 0 j := fun j => (congrFun (congrFun (congrFun (kq_tag (t := 18) (by decide)) 0) 0) j).trans rfl
  have hk15 : (kq (mset μ 15 0 0 5 (nI 0)) (n + 1)).1 15 0 0 3 = nI L := (congrFun (congrFun (congrFun (kq_tag (t := 15) (by decide)) 0) 0) 3).trans ((mset_15 (by decide)).trans hL)
  have hn6 := hZ.2.1
  have hq16 : (kq (mset μ 15 0 0 5 (nI 0)) n).1 16 0 0 = (μ.1 16 0 0) := congrFun (congrFun (kq_tag (by decide)) 0) 0
  refine K_aload_n dX4_digest_0 rfl ?_
  refine K_iconstN 0 dX4_digest_1 rfl ?_
  refine p_X4_25 dX4_digest_2  ?_
  refine K_aload_n dX4_digest_5 rfl ?_
  refine K_ldc2 dX4_digest_6 cst_X4_250 ?_
  refine p_X4_242 dX4_digest_9  ?_
  refine K_iconstN 0 dX4_digest_12 rfl ?_
  refine K_istore_n dX4_digest_13 (by decide) rfl ?_
  refine K_lv [0, 1] rfl ?_
  refine K_for (16) (fun k => [(0, .ref (adr G 15 0 0)), (1, .int (nI k))]) (fun k => mlset (mset μ 15 0 0 5 (nI 0)) 0 (hxK (mCount (μ.1 16 0 0) sc n) 2591 k)) ?_ ?_
  · skip
    refine K_iload_n dX4_digest_14 rfl ?_
    refine K_bipush (v := nI 16) dX4_digest_15 (by decide) ?_
    refine K_icmpN_ge (by omega) (by omega) (tgt := 36) dX4_digest_17 (by decide) (fun c17 => ?_) (fun c17 => ?_)
    · skip
      refine K_iconstN 0 dX4_digest_36 rfl ?_
      refine K_istore_n dX4_digest_37 (by decide) rfl ?_
      refine K_lv [0, 1] rfl ?_
      refine K_mem (show mlset (mset μ 15 0 0 5 (nI 0)) 0 ((hxK (mCount (μ.1 16 0 0) sc n) 2591 16)) = mlset (mset μ 15 0 0 5 (nI 0)) 0 (hxK (μ.1 16 0 0) (hxK (mCount (μ.1 16 0 0) sc n) 2591 16) 0) by rw [hxK_z]) ?_
      refine K_for (4) (fun k => [(0, .ref (adr G 15 0 0)), (1, .int (nI k))]) (fun k => mlset (mset μ 15 0 0 5 (nI 0)) 0 (hxK (μ.1 16 0 0) (hxK (mCount (μ.1 16 0 0) sc n) 2591 16) k)) ?_ ?_
      · skip
        refine K_iload_n dX4_digest_38 rfl ?_
        refine K_iconstN 4 dX4_digest_39 rfl ?_
        refine K_icmpN_ge (by omega) (by omega) (tgt := 60) dX4_digest_40 (by decide) (fun c40 => ?_) (fun c40 => ?_)
        · skip
          refine K_iconstN 0 dX4_digest_60 rfl ?_
          refine K_istore_n dX4_digest_61 (by decide) rfl ?_
          refine K_lv [0, 1] rfl ?_
          refine K_mem (show mlset (mset μ 15 0 0 5 (nI 0)) 0 (hxK (μ.1 16 0 0) (hxK (mCount (μ.1 16 0 0) sc n) 2591 16) 4) = mlset (kq (mset μ 15 0 0 5 (nI 0)) 0) 0 (hxO (mPh (μ.1 16 0 0) n) (hxK (μ.1 16 0 0) (hxK (mCount (μ.1 16 0 0) sc n) 2591 16) 4) 0) by rw [hxO_z]; rfl) ?_
          refine K_for (n) (fun k => [(0, .ref (adr G 15 0 0)), (1, .int (nI k))]) (fun k => mlset (kq (mset μ 15 0 0 5 (nI 0)) k) 0 (hxO (mPh (μ.1 16 0 0) n) (hxK (μ.1 16 0 0) (hxK (mCount (μ.1 16 0 0) sc n) 2591 16) 4) k)) ?_ ?_
          · skip
            refine K_iload_n dX4_digest_62 rfl ?_
            refine K_aload_n dX4_digest_63 rfl ?_
            refine g_X4_7 dX4_digest_64  ?_
            refine K_bipush (v := nI 9) dX4_digest_67 (by decide) ?_
            refine ald16 dX4_digest_69 (by omega) ?_
            refine K_top (show _ = nI n from (congrFun (congrFun (congrFun (kq_tag (t := 16) (by decide)) 0) 0) 9).trans hZ.1) ?_
            refine K_icmpN_ge (by omega) (by omega) (tgt := 84) dX4_digest_70 (by decide) (fun c70 => ?_) (fun c70 => ?_)
            · skip
              refine K_aload_n dX4_digest_84 rfl ?_
              refine K_aload_n dX4_digest_85 rfl ?_
              refine K_sipush (v := nI 200) dX4_digest_86 (by decide) ?_
              refine k_X4_surchargesThen (C_X4_surchargesThen (z := μ.1 16 0 0) (by exact hq16) hZ (d := 200) (by omega)) (by decide)  ml_X4_227 (Nat.le_of_ble_eq_true rfl) dX4_digest_89 ?_
              refine K_mem (show kpK (mlset (kq (mset μ 15 0 0 5 (nI 0)) n) 0 (hxO (mPh (μ.1 16 0 0) n) (hxK (μ.1 16 0 0) (hxK (mCount (μ.1 16 0 0) sc n) 2591 16) 4) n)) 232 = mlset (kq (mset μ 15 0 0 5 (nI 0)) (n + 1)) 0 (hxO (mPh (μ.1 16 0 0) n) (hxK (μ.1 16 0 0) (hxK (mCount (μ.1 16 0 0) sc n) 2591 16) 4) n) by rw [kpK_ml, kq_s]) ?_
              refine K_i2l dX4_digest_92 ?_
              refine k_X4_mix C_X4_mix (by decide)  ml_X4_246 (Nat.le_of_ble_eq_true rfl) dX4_digest_93 ?_
              refine K_aload_n dX4_digest_96 rfl ?_
              refine K_aload_n dX4_digest_97 rfl ?_
              refine k_X4_urgentNow (C_X4_urgentNow (z := μ.1 16 0 0) (by exact hk16) hZ) (by decide)  ml_X4_230 (Nat.le_of_ble_eq_true rfl) dX4_digest_98 ?_
              refine K_i2l dX4_digest_101 ?_
              refine k_X4_mix C_X4_mix (by decide)  ml_X4_246 (Nat.le_of_ble_eq_true rfl) dX4_digest_102 ?_
              refine K_aload_n dX4_digest_105 rfl ?_
              refine K_aload_n dX4_digest_106 rfl ?_
              refine k_X4_share (C_X4_share (z := μ.1 16 0 0) (by exact hk16) hZ) (by decide)  ml_X4_236 (Nat.le_of_ble_eq_true rfl) dX4_digest_107 ?_
              refine K_callO (C_dbits (x := mShare (μ.1 16 0 0) n) shV_n) mk_dbits ml_X4_256 (by decide) rfl (Nat.le_of_ble_eq_true rfl) dX4_digest_110 ?_
              refine k_X4_mix C_X4_mix (by decide)  ml_X4_246 (Nat.le_of_ble_eq_true rfl) dX4_digest_113 ?_
              refine K_aload_n dX4_digest_116 rfl ?_
              refine K_aload_n dX4_digest_117 rfl ?_
              refine g_X4_148 dX4_digest_118  ?_
              refine K_top (show _ = nI L from hk15) ?_
              refine K_i2l dX4_digest_121 ?_
              refine k_X4_mix C_X4_mix (by decide)  ml_X4_246 (Nat.le_of_ble_eq_true rfl) dX4_digest_122 ?_
              refine K_iconstN 0 dX4_digest_125 rfl ?_
              refine K_istore_n dX4_digest_126 (by decide) rfl ?_
              refine K_lv [0, 1] rfl ?_
              refine K_mem (show mlset (kq (mset μ 15 0 0 5 (nI 0)) (n + 1)) 0 ((hx (hx (hx (hx (hxO (mPh (μ.1 16 0 0) n) (hxK (μ.1 16 0 0) (hxK (mCount (μ.1 16 0 0) sc n) 2591 16) 4) n) (dpsK (μ.1 16 0 0) n 200).2.toInt64) (mUrgK (μ.1 16 0 0) n).toInt64) (mShare (μ.1 16 0 0) n).toInt64) (nI L).toInt64)) = mlset (kq (mset μ 15 0 0 5 (nI 0)) (n + 1)) 0 (hxK (μ.1 18 0 0) (hx (hx (hx (hx (hxO (mPh (μ.1 16 0 0) n) (hxK (μ.1 16 0 0) (hxK (mCount (μ.1 16 0 0) sc n) 2591 16) 4) n) (dpsK (μ.1 16 0 0) n 200).2.toInt64) (mUrgK (μ.1 16 0 0) n).toInt64) (mShare (μ.1 16 0 0) n).toInt64) (nI L).toInt64) 0) by rw [hxK_z]) ?_
              refine K_for (L) (fun k => [(0, .ref (adr G 15 0 0)), (1, .int (nI k))]) (fun k => mlset (kq (mset μ 15 0 0 5 (nI 0)) (n + 1)) 0 (hxK (μ.1 18 0 0) (hx (hx (hx (hx (hxO (mPh (μ.1 16 0 0) n) (hxK (μ.1 16 0 0) (hxK (mCount (μ.1 16 0 0) sc n) 2591 16) 4) n) (dpsK (μ.1 16 0 0) n 200).2.toInt64) (mUrgK (μ.1 16 0 0) n).toInt64) (mShare (μ.1 16 0 0) n).toInt64) (nI L).toInt64) k)) ?_ ?_
              · skip
                refine K_iload_n dX4_digest_127 rfl ?_
                refine K_aload_n dX4_digest_128 rfl ?_
                refine g_X4_148 dX4_digest_129  ?_
                refine K_top (show _ = nI L from hk15) ?_
                refine K_icmpN_ge (by omega) (by omega) (tgt := 152) dX4_digest_132 (by decide) (fun c132 => ?_) (fun c132 => ?_)
                · skip
                  refine K_aload_n dX4_digest_152 rfl ?_
                  refine g_X4_242 dX4_digest_153  ?_
                  exact K_lret dX4_digest_156 ⟨rfl, rfl⟩
                · skip
                  exfalso; omega
              · intro k hk_k ih_4
                refine K_iload_n dX4_digest_127 rfl ?_
                refine K_aload_n dX4_digest_128 rfl ?_
                refine g_X4_148 dX4_digest_129  ?_
                refine K_top (show _ = nI L from hk15) ?_
                refine K_icmpN_ge (by omega) (by omega) (tgt := 152) dX4_digest_132 (by decide) (fun c132 => ?_) (fun c132 => ?_)
                · skip
                  exfalso; omega
                · skip
                  refine K_aload_n dX4_digest_135 rfl ?_
                  refine K_aload_n dX4_digest_136 rfl ?_
                  refine g_X4_16 dX4_digest_137  ?_
                  refine K_iload_n dX4_digest_140 rfl ?_
                  refine ald18 dX4_digest_141 (by omega) ?_
                  refine K_top (show _ = μ.1 18 0 0 k from hk18 k) ?_
                  refine K_i2l dX4_digest_142 ?_
                  refine k_X4_mix C_X4_mix (by decide)  ml_X4_246 (Nat.le_of_ble_eq_true rfl) dX4_digest_143 ?_
                  refine K_iincN (b := 1) dX4_digest_146 rfl rfl (by decide) rfl ?_
                  refine K_goto (tgt := 127) dX4_digest_149 (by decide) ?_
                  exact K_lv [0, 1] rfl ih_4
            · skip
              exfalso; omega
          · intro k hk_k ih_3
            refine K_iload_n dX4_digest_62 rfl ?_
            refine K_aload_n dX4_digest_63 rfl ?_
            refine g_X4_7 dX4_digest_64  ?_
            refine K_bipush (v := nI 9) dX4_digest_67 (by decide) ?_
            refine ald16 dX4_digest_69 (by omega) ?_
            refine K_top (show _ = nI n from (congrFun (congrFun (congrFun (kq_tag (t := 16) (by decide)) 0) 0) 9).trans hZ.1) ?_
            refine K_icmpN_ge (by omega) (by omega) (tgt := 84) dX4_digest_70 (by decide) (fun c70 => ?_) (fun c70 => ?_)
            · skip
              exfalso; omega
            · skip
              refine K_aload_n dX4_digest_73 rfl ?_
              refine K_iload_n dX4_digest_74 rfl ?_
              refine k_X4_mixPhase (C_X4_mixPhase (μ := kq (mset μ 15 0 0 5 (nI 0)) k) (z := μ.1 16 0 0) (congrFun (congrFun (kq_tag (by decide)) 0) 0) (by omega) hZ) (by decide)  ml_X4_252 (Nat.le_of_ble_eq_true rfl) dX4_digest_75 ?_
              refine K_mem (show mlset (kpK (kq (mset μ 15 0 0 5 (nI 0)) k) 232) 0 _ = mlset (kq (mset μ 15 0 0 5 (nI 0)) (k + 1)) 0 _ by rw [kq_s]) ?_
              refine K_iincN (b := 1) dX4_digest_78 rfl rfl (by decide) rfl ?_
              refine K_goto (tgt := 62) dX4_digest_81 (by decide) ?_
              exact K_lv [0, 1] rfl ih_3
        · skip
          exfalso; omega
      · intro k hk_k ih_2
        refine K_iload_n dX4_digest_38 rfl ?_
        refine K_iconstN 4 dX4_digest_39 rfl ?_
        refine K_icmpN_ge (by omega) (by omega) (tgt := 60) dX4_digest_40 (by decide) (fun c40 => ?_) (fun c40 => ?_)
        · skip
          exfalso; omega
        · skip
          refine K_aload_n dX4_digest_43 rfl ?_
          refine K_aload_n dX4_digest_44 rfl ?_
          refine g_X4_7 dX4_digest_45  ?_
          refine K_iload_n dX4_digest_48 rfl ?_
          refine ald16 dX4_digest_49 (by omega) ?_
          refine K_i2l dX4_digest_50 ?_
          refine k_X4_mix C_X4_mix (by decide)  ml_X4_246 (Nat.le_of_ble_eq_true rfl) dX4_digest_51 ?_
          refine K_iincN (b := 1) dX4_digest_54 rfl rfl (by decide) rfl ?_
          refine K_goto (tgt := 38) dX4_digest_57 (by decide) ?_
          exact K_lv [0, 1] rfl ih_2
    · skip
      exfalso; omega
  · intro k hk_k ih_1
    refine K_iload_n dX4_digest_14 rfl ?_
    refine K_bipush (v := nI 16) dX4_digest_15 (by decide) ?_
    refine K_icmpN_ge (by omega) (by omega) (tgt := 36) dX4_digest_17 (by decide) (fun c17 => ?_) (fun c17 => ?_)
    · skip
      exfalso; omega
    · skip
      refine K_aload_n dX4_digest_20 rfl ?_
      refine K_aload_n dX4_digest_21 rfl ?_
      refine K_iload_n dX4_digest_22 rfl ?_
      refine k_X4_counted (C_X4_counted (z := μ.1 16 0 0) (by exact rfl) hZ (by exact hs) (by omega)) (by decide)  ml_X4_209 (Nat.le_of_ble_eq_true rfl) dX4_digest_23 ?_
      refine K_i2l dX4_digest_26 ?_
      refine k_X4_mix C_X4_mix (by decide)  ml_X4_246 (Nat.le_of_ble_eq_true rfl) dX4_digest_27 ?_
      refine K_iincN (b := 1) dX4_digest_30 rfl rfl (by decide) rfl ?_
      refine K_goto (tgt := 14) dX4_digest_33 (by decide) ?_
      exact K_lv [0, 1] rfl ih_1
