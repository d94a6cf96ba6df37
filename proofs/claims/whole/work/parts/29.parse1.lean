set_option maxHeartbeats 4000000 in
set_option maxRecDepth 100000 in
theorem C_X4_isEnded {l : Launch} {G : WG} {μ : Mem} {s : PS} (hd : s.2.2.1 ≤ 5) : Ct l G 0 yX4_isEnded cX4_isEnded 1 (some .boolean) [.ref (adr G 15 0 0)] (pmr μ s) (some (.int (b2i (isEnd s)))) (pmr μ s) := by
  refine Ct_of (by decide +kernel) (Nat.le_of_ble_eq_true rfl) ?_
  refine K_aload_n dX4_isEnded_0 rfl ?_
  refine g_X4_157 dX4_isEnded_1  ?_
  refine K_top (show _ = nI s.2.2.1 from pmr_k) ?_
  refine K_iconstN 5 dX4_isEnded_4 rfl ?_
  refine K_icmpN_eq (by omega) (by omega) (tgt := 24) dX4_isEnded_5 (by decide) (fun c5 => ?_) (fun c5 => ?_)
  · skip
    refine K_iconstN 1 dX4_isEnded_24 rfl ?_
    refine K_goto (tgt := 29) dX4_isEnded_25 (by decide) ?_
    exact K_zret (by first | (simp [isEnd, c5]; rfl) | (simp [isEnd, c5, c13]; rfl) | (simp [isEnd, c5, c13, c21]; rfl)) dX4_isEnded_29 ⟨rfl, rfl⟩
  · skip
    refine K_aload_n dX4_isEnded_8 rfl ?_
    refine g_X4_157 dX4_isEnded_9  ?_
    refine K_top (show _ = nI s.2.2.1 from pmr_k) ?_
    refine K_iconstN 4 dX4_isEnded_12 rfl ?_
    refine K_icmpN_ne (by omega) (by omega) (tgt := 28) dX4_isEnded_13 (by decide) (fun c13 => ?_) (fun c13 => ?_)
    · skip
      refine K_iconstN 0 dX4_isEnded_28 rfl ?_
      exact K_zret (by first | (simp [isEnd, c5]; rfl) | (simp [isEnd, c5, c13]; rfl) | (simp [isEnd, c5, c13, c21]; rfl)) dX4_isEnded_29 ⟨rfl, rfl⟩
    · skip
      refine K_aload_n dX4_isEnded_16 rfl ?_
      refine g_X4_154 dX4_isEnded_17  ?_
      refine K_top (show _ = s.2.1 from pmr_k) ?_
      refine K_iconst (v := -1) dX4_isEnded_20 (by decide) ?_
      refine K_icmp_eq (tgt := 28) dX4_isEnded_21 (by decide) (fun c21 => ?_) (fun c21 => ?_)
      · skip
        refine K_iconstN 0 dX4_isEnded_28 rfl ?_
        exact K_zret (by first | (simp [isEnd, c5]; rfl) | (simp [isEnd, c5, c13]; rfl) | (simp [isEnd, c5, c13, c21]; rfl)) dX4_isEnded_29 ⟨rfl, rfl⟩
      · skip
        refine K_iconstN 1 dX4_isEnded_24 rfl ?_
        refine K_goto (tgt := 29) dX4_isEnded_25 (by decide) ?_
        exact K_zret (by first | (simp [isEnd, c5]; rfl) | (simp [isEnd, c5, c13]; rfl) | (simp [isEnd, c5, c13, c21]; rfl)) dX4_isEnded_29 ⟨rfl, rfl⟩

set_option maxHeartbeats 4000000 in
set_option maxRecDepth 100000 in
theorem C_X4_beginsOrder {l : Launch} {G : WG} {μ : Mem} {s : PS} (hs : s.1 ≤ 20) {c : Int32} : Ct l G 0 yX4_beginsOrder cX4_beginsOrder 2 (some .boolean) [.ref (adr G 15 0 0), .int (c)] (pmr μ s) (some (.int (b2i (tkBegin c s).1))) (pmr μ ((tkBegin c s).2)) := by
  refine Ct_of (by decide +kernel) (Nat.le_of_ble_eq_true rfl) ?_
  refine K_aload_n dX4_beginsOrder_0 rfl ?_
  refine g_X4_19 dX4_beginsOrder_1  ?_
  refine K_iconstN 4 dX4_beginsOrder_4 rfl ?_
  refine K_aload_n dX4_beginsOrder_5 rfl ?_
  refine g_X4_151 dX4_beginsOrder_6  ?_
  refine K_top (show _ = nI s.1 from pmr_k) ?_
  refine K_imulN dX4_beginsOrder_9 ?_
  refine K_iload_n dX4_beginsOrder_10 rfl ?_
  refine ast19 dX4_beginsOrder_11 (by omega) ?_
  refine K_mem pm_ps ?_
  refine K_aload_n dX4_beginsOrder_12 rfl ?_
  refine K_iconst (v := -1) dX4_beginsOrder_13 (by decide) ?_
  refine p_X4_154 dX4_beginsOrder_14  ?_
  refine K_mem pm_nu ?_
  refine K_aload_n dX4_beginsOrder_17 rfl ?_
  refine K_iload_n dX4_beginsOrder_18 rfl ?_
  refine K_bipush (v := nI 100) dX4_beginsOrder_19 (by decide) ?_
  refine K_icmp_ne (tgt := 28) dX4_beginsOrder_21 (by decide) (fun c21 => ?_) (fun c21 => ?_)
  · skip
    refine K_iconstN 1 dX4_beginsOrder_28 rfl ?_
    refine p_X4_157 dX4_beginsOrder_29  ?_
    refine K_mem pm_du ?_
    refine K_iload_n dX4_beginsOrder_32 rfl ?_
    refine K_bipush (v := nI 97) dX4_beginsOrder_33 (by decide) ?_
    refine K_icmp_eq (tgt := 56) dX4_beginsOrder_35 (by decide) (fun c35 => ?_) (fun c35 => ?_)
    · skip
      refine K_iconstN 1 dX4_beginsOrder_56 rfl ?_
      refine K_goto (tgt := 61) dX4_beginsOrder_57 (by decide) ?_
      exact K_zret (by first | (simp [tkBegin, c35]; rfl) | (simp [tkBegin, c35]; done)) dX4_beginsOrder_61 ⟨rfl, by simp [tkBegin, c21]⟩
    · skip
      refine K_iload_n dX4_beginsOrder_38 rfl ?_
      refine K_bipush (v := nI 98) dX4_beginsOrder_39 (by decide) ?_
      refine K_icmp_eq (tgt := 56) dX4_beginsOrder_41 (by decide) (fun c41 => ?_) (fun c41 => ?_)
      · skip
        refine K_iconstN 1 dX4_beginsOrder_56 rfl ?_
        refine K_goto (tgt := 61) dX4_beginsOrder_57 (by decide) ?_
        exact K_zret (by first | (simp [tkBegin, c35, c41]; rfl) | (simp [tkBegin, c35, c41]; done)) dX4_beginsOrder_61 ⟨rfl, by simp [tkBegin, c21]⟩
      · skip
        refine K_iload_n dX4_beginsOrder_44 rfl ?_
        refine K_bipush (v := nI 112) dX4_beginsOrder_45 (by decide) ?_
        refine K_icmp_eq (tgt := 56) dX4_beginsOrder_47 (by decide) (fun c47 => ?_) (fun c47 => ?_)
        · skip
          refine K_iconstN 1 dX4_beginsOrder_56 rfl ?_
          refine K_goto (tgt := 61) dX4_beginsOrder_57 (by decide) ?_
          exact K_zret (by first | (simp [tkBegin, c35, c41, c47]; rfl) | (simp [tkBegin, c35, c41, c47]; done)) dX4_beginsOrder_61 ⟨rfl, by simp [tkBegin, c21]⟩
        · skip
          refine K_iload_n dX4_beginsOrder_50 rfl ?_
          refine K_bipush (v := nI 100) dX4_beginsOrder_51 (by decide) ?_
          refine K_icmp_ne (tgt := 60) dX4_beginsOrder_53 (by decide) (fun c53 => ?_) (fun c53 => ?_)
          · skip
            refine K_iconstN 0 dX4_beginsOrder_60 rfl ?_
            exact K_zret (by first | (simp [tkBegin, c35, c41, c47, c53]; rfl) | (simp [tkBegin, c35, c41, c47, c53]; done)) dX4_beginsOrder_61 ⟨rfl, by simp [tkBegin, c21]⟩
          · skip
            refine K_iconstN 1 dX4_beginsOrder_56 rfl ?_
            refine K_goto (tgt := 61) dX4_beginsOrder_57 (by decide) ?_
            exact K_zret (by first | (simp [tkBegin, c35, c41, c47, c53]; rfl) | (simp [tkBegin, c35, c41, c47, c53]; done)) dX4_beginsOrder_61 ⟨rfl, by simp [tkBegin, c21]⟩
  · skip
    refine K_iconstN 4 dX4_beginsOrder_24 rfl ?_
    refine K_goto (tgt := 29) dX4_beginsOrder_25 (by decide) ?_
    refine p_X4_157 dX4_beginsOrder_29  ?_
    refine K_mem pm_du ?_
    refine K_iload_n dX4_beginsOrder_32 rfl ?_
    refine K_bipush (v := nI 97) dX4_beginsOrder_33 (by decide) ?_
    refine K_icmp_eq (tgt := 56) dX4_beginsOrder_35 (by decide) (fun c35 => ?_) (fun c35 => ?_)
    · skip
      refine K_iconstN 1 dX4_beginsOrder_56 rfl ?_
      refine K_goto (tgt := 61) dX4_beginsOrder_57 (by decide) ?_
      exact K_zret (by first | (simp [tkBegin, c35]; rfl) | (simp [tkBegin, c35]; done)) dX4_beginsOrder_61 ⟨rfl, by simp [tkBegin, c21]⟩
    · skip
      refine K_iload_n dX4_beginsOrder_38 rfl ?_
      refine K_bipush (v := nI 98) dX4_beginsOrder_39 (by decide) ?_
      refine K_icmp_eq (tgt := 56) dX4_beginsOrder_41 (by decide) (fun c41 => ?_) (fun c41 => ?_)
      · skip
        refine K_iconstN 1 dX4_beginsOrder_56 rfl ?_
        refine K_goto (tgt := 61) dX4_beginsOrder_57 (by decide) ?_
        exact K_zret (by first | (simp [tkBegin, c35, c41]; rfl) | (simp [tkBegin, c35, c41]; done)) dX4_beginsOrder_61 ⟨rfl, by simp [tkBegin, c21]⟩
      · skip
        refine K_iload_n dX4_beginsOrder_44 rfl ?_
        refine K_bipush (v := nI 112) dX4_beginsOrder_45 (by decide) ?_
        refine K_icmp_eq (tgt := 56) dX4_beginsOrder_47 (by decide) (fun c47 => ?_) (fun c47 => ?_)
        · skip
          refine K_iconstN 1 dX4_beginsOrder_56 rfl ?_
          refine K_goto (tgt := 61) dX4_beginsOrder_57 (by decide) ?_
          exact K_zret (by first | (simp [tkBegin, c35, c41, c47]; rfl) | (simp [tkBegin, c35, c41, c47]; done)) dX4_beginsOrder_61 ⟨rfl, by simp [tkBegin, c21]⟩
        · skip
          refine K_iload_n dX4_beginsOrder_50 rfl ?_
          refine K_bipush (v := nI 100) dX4_beginsOrder_51 (by decide) ?_
          refine K_icmp_ne (tgt := 60) dX4_beginsOrder_53 (by decide) (fun c53 => ?_) (fun c53 => ?_)
          · skip
            refine K_iconstN 0 dX4_beginsOrder_60 rfl ?_
            exact K_zret (by first | (simp [tkBegin, c35, c41, c47, c53]; rfl) | (simp [tkBegin, c35, c41, c47, c53]; done)) dX4_beginsOrder_61 ⟨rfl, by simp [tkBegin, c21]⟩
          · skip
            refine K_iconstN 1 dX4_beginsOrder_56 rfl ?_
            refine K_goto (tgt := 61) dX4_beginsOrder_57 (by decide) ?_
            exact K_zret (by first | (simp [tkBegin, c35, c41, c47, c53]; rfl) | (simp [tkBegin, c35, c41, c47, c53]; done)) dX4_beginsOrder_61 ⟨rfl, by simp [tkBegin, c21]⟩

set_option maxHeartbeats 4000000 in
set_option maxRecDepth 100000 in
theorem C_X4_takesPhase {l : Launch} {G : WG} {μ : Mem} {s : PS} (hs : s.1 ≤ 20) {c : Int32} : Ct l G 1 yX4_takesPhase cX4_takesPhase 3 (some .boolean) [.ref (adr G 15 0 0), .int (c)] (pmr μ s) (some (.int (b2i (tkPhase c s).1))) (pmr μ ((tkPhase c s).2)) := by
  refine Ct_of (by decide +kernel) (Nat.le_of_ble_eq_true rfl) ?_
  refine K_aload_n dX4_takesPhase_0 rfl ?_
  refine g_X4_19 dX4_takesPhase_1  ?_
  refine K_iconstN 4 dX4_takesPhase_4 rfl ?_
  refine K_aload_n dX4_takesPhase_5 rfl ?_
  refine g_X4_151 dX4_takesPhase_6  ?_
  refine K_top (show _ = nI s.1 from pmr_k) ?_
  refine K_imulN dX4_takesPhase_9 ?_
  refine ald19 dX4_takesPhase_10 (by omega) ?_
  refine K_top (show _ = pLet s from congrFun pmr_19 _) ?_
  refine K_istore_n dX4_takesPhase_11 (by decide) rfl ?_
  refine K_aload_n dX4_takesPhase_12 rfl ?_
  refine g_X4_19 dX4_takesPhase_13  ?_
  refine K_iconstN 4 dX4_takesPhase_16 rfl ?_
  refine K_aload_n dX4_takesPhase_17 rfl ?_
  refine g_X4_151 dX4_takesPhase_18  ?_
  refine K_top (show _ = nI s.1 from pmr_k) ?_
  refine K_imulN dX4_takesPhase_21 ?_
  refine K_iconstN 1 dX4_takesPhase_22 rfl ?_
  refine K_iaddN dX4_takesPhase_23 ?_
  refine K_iload_n dX4_takesPhase_24 rfl ?_
  refine K_bipush (v := nI 48) dX4_takesPhase_25 (by decide) ?_
  refine K_isub dX4_takesPhase_27 ?_
  refine ast19 dX4_takesPhase_28 (by omega) ?_
  refine K_mem pm_ps ?_
  refine K_aload_n dX4_takesPhase_29 rfl ?_
  refine K_iload_n dX4_takesPhase_30 rfl ?_
  refine K_bipush (v := nI 97) dX4_takesPhase_31 (by decide) ?_
  refine K_icmp_ne (tgt := 40) dX4_takesPhase_33 (by decide) (fun c33 => ?_) (fun c33 => ?_)
  · skip
    refine K_iload_n dX4_takesPhase_40 rfl ?_
    refine K_bipush (v := nI 98) dX4_takesPhase_41 (by decide) ?_
    refine K_icmp_ne (tgt := 50) dX4_takesPhase_43 (by decide) (fun c43 => ?_) (fun c43 => ?_)
    · skip
      refine K_iconstN 3 dX4_takesPhase_50 rfl ?_
      refine p_X4_157 dX4_takesPhase_51  ?_
      refine K_mem pm_du ?_
      refine K_iload_n dX4_takesPhase_54 rfl ?_
      refine K_bipush (v := nI 48) dX4_takesPhase_55 (by decide) ?_
      refine K_bipush (v := nI 53) dX4_takesPhase_57 (by decide) ?_
      refine k_X4_within (C_X4_within ) (by decide) ml_X4_32 (Nat.le_of_ble_eq_true rfl) dX4_takesPhase_59 ?_
      exact K_zret rfl dX4_takesPhase_62 ⟨rfl, by simp [tkPhase, nLet, c33, c43]⟩
    · skip
      refine K_iconstN 5 dX4_takesPhase_46 rfl ?_
      refine K_goto (tgt := 51) dX4_takesPhase_47 (by decide) ?_
      refine p_X4_157 dX4_takesPhase_51  ?_
      refine K_mem pm_du ?_
      refine K_iload_n dX4_takesPhase_54 rfl ?_
      refine K_bipush (v := nI 48) dX4_takesPhase_55 (by decide) ?_
      refine K_bipush (v := nI 53) dX4_takesPhase_57 (by decide) ?_
      refine k_X4_within (C_X4_within ) (by decide) ml_X4_32 (Nat.le_of_ble_eq_true rfl) dX4_takesPhase_59 ?_
      exact K_zret rfl dX4_takesPhase_62 ⟨rfl, by simp [tkPhase, nLet, c33, c43]⟩
  · skip
    refine K_iconstN 2 dX4_takesPhase_36 rfl ?_
    refine K_goto (tgt := 51) dX4_takesPhase_37 (by decide) ?_
    refine p_X4_157 dX4_takesPhase_51  ?_
    refine K_mem pm_du ?_
    refine K_iload_n dX4_takesPhase_54 rfl ?_
    refine K_bipush (v := nI 48) dX4_takesPhase_55 (by decide) ?_
    refine K_bipush (v := nI 53) dX4_takesPhase_57 (by decide) ?_
    refine k_X4_within (C_X4_within ) (by decide) ml_X4_32 (Nat.le_of_ble_eq_true rfl) dX4_takesPhase_59 ?_
    exact K_zret rfl dX4_takesPhase_62 ⟨rfl, by simp [tkPhase, nLet, c33]⟩

set_option maxHeartbeats 4000000 in
set_option maxRecDepth 100000 in
theorem C_X4_takesUse {l : Launch} {G : WG} {μ : Mem} {s : PS} (hs : s.1 ≤ 20) {c : Int32} : Ct l G 2 yX4_takesUse cX4_takesUse 2 (some .boolean) [.ref (adr G 15 0 0), .int (c)] (pmr μ s) (some (.int (b2i (tkUse c s).1))) (pmr μ ((tkUse c s).2)) := by
  refine Ct_of (by decide +kernel) (Nat.le_of_ble_eq_true rfl) ?_
  refine K_aload_n dX4_takesUse_0 rfl ?_
  refine g_X4_19 dX4_takesUse_1  ?_
  refine K_iconstN 4 dX4_takesUse_4 rfl ?_
  refine K_aload_n dX4_takesUse_5 rfl ?_
  refine g_X4_151 dX4_takesUse_6  ?_
  refine K_top (show _ = nI s.1 from pmr_k) ?_
  refine K_imulN dX4_takesUse_9 ?_
  refine K_iconstN 2 dX4_takesUse_10 rfl ?_
  refine K_iaddN dX4_takesUse_11 ?_
  refine K_iload_n dX4_takesUse_12 rfl ?_
  refine K_bipush (v := nI 48) dX4_takesUse_13 (by decide) ?_
  refine K_isub dX4_takesUse_15 ?_
  refine ast19 dX4_takesUse_16 (by omega) ?_
  refine K_mem pm_ps ?_
  refine K_aload_n dX4_takesUse_17 rfl ?_
  refine K_iconstN 3 dX4_takesUse_18 rfl ?_
  refine p_X4_157 dX4_takesUse_19  ?_
  refine K_mem pm_du ?_
  refine K_iload_n dX4_takesUse_22 rfl ?_
  refine K_bipush (v := nI 48) dX4_takesUse_23 (by decide) ?_
  refine K_isub dX4_takesUse_25 ?_
  refine k_X4_isUse (C_X4_isUse ) (by decide) ml_X4_87 (Nat.le_of_ble_eq_true rfl) dX4_takesUse_26 ?_
  exact K_zret (by rfl) dX4_takesUse_29 ⟨rfl, rfl⟩

set_option maxHeartbeats 4000000 in
set_option maxRecDepth 100000 in
theorem C_X4_takesDigit {l : Launch} {G : WG} {μ : Mem} {s : PS} (hs : s.1 ≤ 20) {d : Int32} : Ct l G 1 yX4_takesDigit cX4_takesDigit 6 (some .boolean) [.ref (adr G 15 0 0), .int (d)] (pmr μ s) (some (.int (b2i (tkDigit d s).1))) (pmr μ ((tkDigit d s).2)) := by
  refine Ct_of (by decide +kernel) (Nat.le_of_ble_eq_true rfl) ?_
  refine K_aload_n dX4_takesDigit_0 rfl ?_
  refine g_X4_19 dX4_takesDigit_1  ?_
  refine K_iconstN 4 dX4_takesDigit_4 rfl ?_
  refine K_aload_n dX4_takesDigit_5 rfl ?_
  refine g_X4_151 dX4_takesDigit_6  ?_
  refine K_top (show _ = nI s.1 from pmr_k) ?_
  refine K_imulN dX4_takesDigit_9 ?_
  refine ald19 dX4_takesDigit_10 (by omega) ?_
  refine K_top (show _ = pLet s from congrFun pmr_19 _) ?_
  refine K_istore_n dX4_takesDigit_11 (by decide) rfl ?_
  refine K_aload_n dX4_takesDigit_12 rfl ?_
  refine g_X4_154 dX4_takesDigit_13  ?_
  refine K_top (show _ = s.2.1 from pmr_k) ?_
  refine K_iconst (v := -1) dX4_takesDigit_16 (by decide) ?_
  refine K_icmp_ne (tgt := 24) dX4_takesDigit_17 (by decide) (fun c17 => ?_) (fun c17 => ?_)
  · skip
    refine K_bipush (v := nI 10) dX4_takesDigit_24 (by decide) ?_
    refine K_aload_n dX4_takesDigit_26 rfl ?_
    refine g_X4_154 dX4_takesDigit_27  ?_
    refine K_top (show _ = s.2.1 from pmr_k) ?_
    refine K_imul dX4_takesDigit_30 ?_
    refine K_iload_n dX4_takesDigit_31 rfl ?_
    refine K_iadd dX4_takesDigit_32 ?_
    refine K_top (show _ = dgW d s by first | (simp [dgW, c17]; done) | (simp [dgW, c17]; rfl)) ?_
    refine K_istore_n dX4_takesDigit_33 (by decide) rfl ?_
    refine K_iload_n dX4_takesDigit_34 rfl ?_
    refine K_bipush (v := nI 97) dX4_takesDigit_35 (by decide) ?_
    refine K_icmp_ne (tgt := 46) dX4_takesDigit_37 (by decide) (fun c37 => ?_) (fun c37 => ?_)
    · skip
      refine K_iload_n dX4_takesDigit_46 rfl ?_
      refine K_bipush (v := nI 112) dX4_takesDigit_47 (by decide) ?_
      refine K_icmp_ne (tgt := 57) dX4_takesDigit_49 (by decide) (fun c49 => ?_) (fun c49 => ?_)
      · skip
        refine K_bipush (v := nI 99) dX4_takesDigit_57 (by decide) ?_
        refine K_top (show _ = nI (dgM s) by first | (simp [dgM, nLet, c37]; done) | (simp [dgM, nLet, c37]; rfl) | (simp [dgM, nLet, c37, c49]; done) | (simp [dgM, nLet, c37, c49]; rfl)) ?_
        refine K_istore dX4_takesDigit_59 (by decide) rfl ?_
        refine K_iload_n dX4_takesDigit_61 rfl ?_
        refine K_iconstN 0 dX4_takesDigit_62 rfl ?_
        refine K_bipush (v := nI 9) dX4_takesDigit_63 (by decide) ?_
        refine k_X4_within (C_X4_within ) (by decide) ml_X4_32 (Nat.le_of_ble_eq_true rfl) dX4_takesDigit_65 ?_
        refine K_ifb_eq (tgt := 102) dX4_takesDigit_68 (by decide) (fun c68 => ?_) (fun c68 => ?_)
        · skip
          refine K_iconstN 0 dX4_takesDigit_102 rfl ?_
          refine K_top (show _ = b2i (dgI d s) by first | (simp [dgI, c68]; done) | (simp [dgI, c68]; rfl) | (simp [dgI, c68, c75]; done) | (simp [dgI, c68, c75]; rfl) | (simp [dgI, c68, c75, c95]; done) | (simp [dgI, c68, c75, c95]; rfl)) ?_
          refine K_istore dX4_takesDigit_103 (by decide) rfl ?_
          refine K_aload_n dX4_takesDigit_105 rfl ?_
          refine K_iload dX4_takesDigit_106 rfl ?_
          refine K_ifb_eq (tgt := 115) dX4_takesDigit_108 (by decide) (fun c108 => ?_) (fun c108 => ?_)
          · skip
            refine K_aload_n dX4_takesDigit_115 rfl ?_
            refine g_X4_154 dX4_takesDigit_116  ?_
            refine K_top (show _ = cond (dgI d s) (dgW d s) s.2.1 by rw [c108]; first | rfl | exact pmr_k) ?_
            refine p_X4_154 dX4_takesDigit_119  ?_
            refine K_mem pm_nu ?_
            refine K_aload_n dX4_takesDigit_122 rfl ?_
            refine g_X4_19 dX4_takesDigit_123  ?_
            refine K_iconstN 4 dX4_takesDigit_126 rfl ?_
            refine K_aload_n dX4_takesDigit_127 rfl ?_
            refine g_X4_151 dX4_takesDigit_128  ?_
            refine K_top (show _ = nI s.1 from pmr_k) ?_
            refine K_imulN dX4_takesDigit_131 ?_
            refine K_iconstN 3 dX4_takesDigit_132 rfl ?_
            refine K_iaddN dX4_takesDigit_133 ?_
            refine K_aload_n dX4_takesDigit_134 rfl ?_
            refine g_X4_154 dX4_takesDigit_135  ?_
            refine K_top (show _ = cond (dgI d s) (dgW d s) s.2.1 from pmr_k) ?_
            refine ast19 dX4_takesDigit_138 (by omega) ?_
            refine K_mem pm_ps ?_
            refine K_iload dX4_takesDigit_139 rfl ?_
            exact K_zret (by rfl) dX4_takesDigit_141 ⟨rfl, rfl⟩
          · skip
            refine K_iload_n dX4_takesDigit_111 rfl ?_
            refine K_goto (tgt := 119) dX4_takesDigit_112 (by decide) ?_
            refine K_top (show _ = cond (dgI d s) (dgW d s) s.2.1 by rw [c108]; first | rfl | exact pmr_k) ?_
            refine p_X4_154 dX4_takesDigit_119  ?_
            refine K_mem pm_nu ?_
            refine K_aload_n dX4_takesDigit_122 rfl ?_
            refine g_X4_19 dX4_takesDigit_123  ?_
            refine K_iconstN 4 dX4_takesDigit_126 rfl ?_
            refine K_aload_n dX4_takesDigit_127 rfl ?_
            refine g_X4_151 dX4_takesDigit_128  ?_
            refine K_top (show _ = nI s.1 from pmr_k) ?_
            refine K_imulN dX4_takesDigit_131 ?_
            refine K_iconstN 3 dX4_takesDigit_132 rfl ?_
            refine K_iaddN dX4_takesDigit_133 ?_
            refine K_aload_n dX4_takesDigit_134 rfl ?_
            refine g_X4_154 dX4_takesDigit_135  ?_
            refine K_top (show _ = cond (dgI d s) (dgW d s) s.2.1 from pmr_k) ?_
            refine ast19 dX4_takesDigit_138 (by omega) ?_
            refine K_mem pm_ps ?_
            refine K_iload dX4_takesDigit_139 rfl ?_
            exact K_zret (by rfl) dX4_takesDigit_141 ⟨rfl, rfl⟩
        · skip
          refine K_aload_n dX4_takesDigit_71 rfl ?_
          refine g_X4_154 dX4_takesDigit_72  ?_
          refine K_top (show _ = s.2.1 from pmr_k) ?_
          refine K_if_eq (tgt := 102) dX4_takesDigit_75 (by decide) (fun c75 => ?_) (fun c75 => ?_)
          · skip
            refine K_iconstN 0 dX4_takesDigit_102 rfl ?_
            refine K_top (show _ = b2i (dgI d s) by first | (simp [dgI, c68]; done) | (simp [dgI, c68]; rfl) | (simp [dgI, c68, c75]; done) | (simp [dgI, c68, c75]; rfl) | (simp [dgI, c68, c75, c95]; done) | (simp [dgI, c68, c75, c95]; rfl)) ?_
            refine K_istore dX4_takesDigit_103 (by decide) rfl ?_
            refine K_aload_n dX4_takesDigit_105 rfl ?_
            refine K_iload dX4_takesDigit_106 rfl ?_
            refine K_ifb_eq (tgt := 115) dX4_takesDigit_108 (by decide) (fun c108 => ?_) (fun c108 => ?_)
            · skip
              refine K_aload_n dX4_takesDigit_115 rfl ?_
              refine g_X4_154 dX4_takesDigit_116  ?_
              refine K_top (show _ = cond (dgI d s) (dgW d s) s.2.1 by rw [c108]; first | rfl | exact pmr_k) ?_
              refine p_X4_154 dX4_takesDigit_119  ?_
              refine K_mem pm_nu ?_
              refine K_aload_n dX4_takesDigit_122 rfl ?_
              refine g_X4_19 dX4_takesDigit_123  ?_
              refine K_iconstN 4 dX4_takesDigit_126 rfl ?_
              refine K_aload_n dX4_takesDigit_127 rfl ?_
              refine g_X4_151 dX4_takesDigit_128  ?_
              refine K_top (show _ = nI s.1 from pmr_k) ?_
              refine K_imulN dX4_takesDigit_131 ?_
              refine K_iconstN 3 dX4_takesDigit_132 rfl ?_
              refine K_iaddN dX4_takesDigit_133 ?_
              refine K_aload_n dX4_takesDigit_134 rfl ?_
              refine g_X4_154 dX4_takesDigit_135  ?_
              refine K_top (show _ = cond (dgI d s) (dgW d s) s.2.1 from pmr_k) ?_
              refine ast19 dX4_takesDigit_138 (by omega) ?_
              refine K_mem pm_ps ?_
              refine K_iload dX4_takesDigit_139 rfl ?_
              exact K_zret (by rfl) dX4_takesDigit_141 ⟨rfl, rfl⟩
            · skip
              refine K_iload_n dX4_takesDigit_111 rfl ?_
              refine K_goto (tgt := 119) dX4_takesDigit_112 (by decide) ?_
              refine K_top (show _ = cond (dgI d s) (dgW d s) s.2.1 by rw [c108]; first | rfl | exact pmr_k) ?_
              refine p_X4_154 dX4_takesDigit_119  ?_
              refine K_mem pm_nu ?_
              refine K_aload_n dX4_takesDigit_122 rfl ?_
              refine g_X4_19 dX4_takesDigit_123  ?_
              refine K_iconstN 4 dX4_takesDigit_126 rfl ?_
              refine K_aload_n dX4_takesDigit_127 rfl ?_
              refine g_X4_151 dX4_takesDigit_128  ?_
              refine K_top (show _ = nI s.1 from pmr_k) ?_
              refine K_imulN dX4_takesDigit_131 ?_
              refine K_iconstN 3 dX4_takesDigit_132 rfl ?_
              refine K_iaddN dX4_takesDigit_133 ?_
              refine K_aload_n dX4_takesDigit_134 rfl ?_
              refine g_X4_154 dX4_takesDigit_135  ?_
              refine K_top (show _ = cond (dgI d s) (dgW d s) s.2.1 from pmr_k) ?_
              refine ast19 dX4_takesDigit_138 (by omega) ?_
              refine K_mem pm_ps ?_
              refine K_iload dX4_takesDigit_139 rfl ?_
              exact K_zret (by rfl) dX4_takesDigit_141 ⟨rfl, rfl⟩
          · skip
            refine K_iload_n dX4_takesDigit_78 rfl ?_
            refine K_iload_n dX4_takesDigit_79 rfl ?_
            refine K_bipush (v := nI 97) dX4_takesDigit_80 (by decide) ?_
            refine K_icmp_ne (tgt := 89) dX4_takesDigit_82 (by decide) (fun c82 => ?_) (fun c82 => ?_)
            · skip
              refine K_iconstN 1 dX4_takesDigit_89 rfl ?_
              refine K_top (show _ = nI (dgL s) by first | (simp [dgL, c82]; done) | (simp [dgL, c82]; rfl)) ?_
              refine K_iload dX4_takesDigit_90 rfl ?_
              refine k_X4_within (C_X4_within ) (by decide) ml_X4_32 (Nat.le_of_ble_eq_true rfl) dX4_takesDigit_92 ?_
              refine K_ifb_eq (tgt := 102) dX4_takesDigit_95 (by decide) (fun c95 => ?_) (fun c95 => ?_)
              · skip
                refine K_iconstN 0 dX4_takesDigit_102 rfl ?_
                refine K_top (show _ = b2i (dgI d s) by first | (simp [dgI, c68]; done) | (simp [dgI, c68]; rfl) | (simp [dgI, c68, c75]; done) | (simp [dgI, c68, c75]; rfl) | (simp [dgI, c68, c75, c95]; done) | (simp [dgI, c68, c75, c95]; rfl)) ?_
                refine K_istore dX4_takesDigit_103 (by decide) rfl ?_
                refine K_aload_n dX4_takesDigit_105 rfl ?_
                refine K_iload dX4_takesDigit_106 rfl ?_
                refine K_ifb_eq (tgt := 115) dX4_takesDigit_108 (by decide) (fun c108 => ?_) (fun c108 => ?_)
                · skip
                  refine K_aload_n dX4_takesDigit_115 rfl ?_
                  refine g_X4_154 dX4_takesDigit_116  ?_
                  refine K_top (show _ = cond (dgI d s) (dgW d s) s.2.1 by rw [c108]; first | rfl | exact pmr_k) ?_
                  refine p_X4_154 dX4_takesDigit_119  ?_
                  refine K_mem pm_nu ?_
                  refine K_aload_n dX4_takesDigit_122 rfl ?_
                  refine g_X4_19 dX4_takesDigit_123  ?_
                  refine K_iconstN 4 dX4_takesDigit_126 rfl ?_
                  refine K_aload_n dX4_takesDigit_127 rfl ?_
                  refine g_X4_151 dX4_takesDigit_128  ?_
                  refine K_top (show _ = nI s.1 from pmr_k) ?_
                  refine K_imulN dX4_takesDigit_131 ?_
                  refine K_iconstN 3 dX4_takesDigit_132 rfl ?_
                  refine K_iaddN dX4_takesDigit_133 ?_
                  refine K_aload_n dX4_takesDigit_134 rfl ?_
                  refine g_X4_154 dX4_takesDigit_135  ?_
                  refine K_top (show _ = cond (dgI d s) (dgW d s) s.2.1 from pmr_k) ?_
                  refine ast19 dX4_takesDigit_138 (by omega) ?_
                  refine K_mem pm_ps ?_
                  refine K_iload dX4_takesDigit_139 rfl ?_
                  exact K_zret (by rfl) dX4_takesDigit_141 ⟨rfl, rfl⟩
                · skip
                  refine K_iload_n dX4_takesDigit_111 rfl ?_
                  refine K_goto (tgt := 119) dX4_takesDigit_112 (by decide) ?_
                  refine K_top (show _ = cond (dgI d s) (dgW d s) s.2.1 by rw [c108]; first | rfl | exact pmr_k) ?_
                  refine p_X4_154 dX4_takesDigit_119  ?_
                  refine K_mem pm_nu ?_
                  refine K_aload_n dX4_takesDigit_122 rfl ?_
                  refine g_X4_19 dX4_takesDigit_123  ?_
                  refine K_iconstN 4 dX4_takesDigit_126 rfl ?_
                  refine K_aload_n dX4_takesDigit_127 rfl ?_
                  refine g_X4_151 dX4_takesDigit_128  ?_
                  refine K_top (show _ = nI s.1 from pmr_k) ?_
                  refine K_imulN dX4_takesDigit_131 ?_
                  refine K_iconstN 3 dX4_takesDigit_132 rfl ?_
                  refine K_iaddN dX4_takesDigit_133 ?_
                  refine K_aload_n dX4_takesDigit_134 rfl ?_
                  refine g_X4_154 dX4_takesDigit_135  ?_
                  refine K_top (show _ = cond (dgI d s) (dgW d s) s.2.1 from pmr_k) ?_
                  refine ast19 dX4_takesDigit_138 (by omega) ?_
                  refine K_mem pm_ps ?_
                  refine K_iload dX4_takesDigit_139 rfl ?_
                  exact K_zret (by rfl) dX4_takesDigit_141 ⟨rfl, rfl⟩
              · skip
                refine K_iconstN 1 dX4_takesDigit_98 rfl ?_
                refine K_goto (tgt := 103) dX4_takesDigit_99 (by decide) ?_
                refine K_top (show _ = b2i (dgI d s) by first | (simp [dgI, c68]; done) | (simp [dgI, c68]; rfl) | (simp [dgI, c68, c75]; done) | (simp [dgI, c68, c75]; rfl) | (simp [dgI, c68, c75, c95]; done) | (simp [dgI, c68, c75, c95]; rfl)) ?_
                refine K_istore dX4_takesDigit_103 (by decide) rfl ?_
                refine K_aload_n dX4_takesDigit_105 rfl ?_
                refine K_iload dX4_takesDigit_106 rfl ?_
                refine K_ifb_eq (tgt := 115) dX4_takesDigit_108 (by decide) (fun c108 => ?_) (fun c108 => ?_)
                · skip
                  refine K_aload_n dX4_takesDigit_115 rfl ?_
                  refine g_X4_154 dX4_takesDigit_116  ?_
                  refine K_top (show _ = cond (dgI d s) (dgW d s) s.2.1 by rw [c108]; first | rfl | exact pmr_k) ?_
                  refine p_X4_154 dX4_takesDigit_119  ?_
                  refine K_mem pm_nu ?_
                  refine K_aload_n dX4_takesDigit_122 rfl ?_
                  refine g_X4_19 dX4_takesDigit_123  ?_
                  refine K_iconstN 4 dX4_takesDigit_126 rfl ?_
                  refine K_aload_n dX4_takesDigit_127 rfl ?_
                  refine g_X4_151 dX4_takesDigit_128  ?_
                  refine K_top (show _ = nI s.1 from pmr_k) ?_
                  refine K_imulN dX4_takesDigit_131 ?_
                  refine K_iconstN 3 dX4_takesDigit_132 rfl ?_
                  refine K_iaddN dX4_takesDigit_133 ?_
                  refine K_aload_n dX4_takesDigit_134 rfl ?_
                  refine g_X4_154 dX4_takesDigit_135  ?_
                  refine K_top (show _ = cond (dgI d s) (dgW d s) s.2.1 from pmr_k) ?_
                  refine ast19 dX4_takesDigit_138 (by omega) ?_
                  refine K_mem pm_ps ?_
                  refine K_iload dX4_takesDigit_139 rfl ?_
                  exact K_zret (by rfl) dX4_takesDigit_141 ⟨rfl, rfl⟩
                · skip
                  refine K_iload_n dX4_takesDigit_111 rfl ?_
                  refine K_goto (tgt := 119) dX4_takesDigit_112 (by decide) ?_
                  refine K_top (show _ = cond (dgI d s) (dgW d s) s.2.1 by rw [c108]; first | rfl | exact pmr_k) ?_
                  refine p_X4_154 dX4_takesDigit_119  ?_
                  refine K_mem pm_nu ?_
                  refine K_aload_n dX4_takesDigit_122 rfl ?_
                  refine g_X4_19 dX4_takesDigit_123  ?_
                  refine K_iconstN 4 dX4_takesDigit_126 rfl ?_
                  refine K_aload_n dX4_takesDigit_127 rfl ?_
                  refine g_X4_151 dX4_takesDigit_128  ?_
                  refine K_top (show _ = nI s.1 from pmr_k) ?_
                  refine K_imulN dX4_takesDigit_131 ?_
                  refine K_iconstN 3 dX4_takesDigit_132 rfl ?_
                  refine K_iaddN dX4_takesDigit_133 ?_
                  refine K_aload_n dX4_takesDigit_134 rfl ?_
                  refine g_X4_154 dX4_takesDigit_135  ?_
                  refine K_top (show _ = cond (dgI d s) (dgW d s) s.2.1 from pmr_k) ?_
                  refine ast19 dX4_takesDigit_138 (by omega) ?_
                  refine K_mem pm_ps ?_
                  refine K_iload dX4_takesDigit_139 rfl ?_
                  exact K_zret (by rfl) dX4_takesDigit_141 ⟨rfl, rfl⟩
            · skip
              refine K_iconstN 0 dX4_takesDigit_85 rfl ?_
              refine K_goto (tgt := 90) dX4_takesDigit_86 (by decide) ?_
              refine K_top (show _ = nI (dgL s) by first | (simp [dgL, c82]; done) | (simp [dgL, c82]; rfl)) ?_
              refine K_iload dX4_takesDigit_90 rfl ?_
              refine k_X4_within (C_X4_within ) (by decide) ml_X4_32 (Nat.le_of_ble_eq_true rfl) dX4_takesDigit_92 ?_
              refine K_ifb_eq (tgt := 102) dX4_takesDigit_95 (by decide) (fun c95 => ?_) (fun c95 => ?_)
              · skip
                refine K_iconstN 0 dX4_takesDigit_102 rfl ?_
                refine K_top (show _ = b2i (dgI d s) by first | (simp [dgI, c68]; done) | (simp [dgI, c68]; rfl) | (simp [dgI, c68, c75]; done) | (simp [dgI, c68, c75]; rfl) | (simp [dgI, c68, c75, c95]; done) | (simp [dgI, c68, c75, c95]; rfl)) ?_
                refine K_istore dX4_takesDigit_103 (by decide) rfl ?_
                refine K_aload_n dX4_takesDigit_105 rfl ?_
                refine K_iload dX4_takesDigit_106 rfl ?_
                refine K_ifb_eq (tgt := 115) dX4_takesDigit_108 (by decide) (fun c108 => ?_) (fun c108 => ?_)
                · skip
                  refine K_aload_n dX4_takesDigit_115 rfl ?_
                  refine g_X4_154 dX4_takesDigit_116  ?_
                  refine K_top (show _ = cond (dgI d s) (dgW d s) s.2.1 by rw [c108]; first | rfl | exact pmr_k) ?_
                  refine p_X4_154 dX4_takesDigit_119  ?_
                  refine K_mem pm_nu ?_
                  refine K_aload_n dX4_takesDigit_122 rfl ?_
                  refine g_X4_19 dX4_takesDigit_123  ?_
                  refine K_iconstN 4 dX4_takesDigit_126 rfl ?_
                  refine K_aload_n dX4_takesDigit_127 rfl ?_
                  refine g_X4_151 dX4_takesDigit_128  ?_
                  refine K_top (show _ = nI s.1 from pmr_k) ?_
                  refine K_imulN dX4_takesDigit_131 ?_
                  refine K_iconstN 3 dX4_takesDigit_132 rfl ?_
                  refine K_iaddN dX4_takesDigit_133 ?_
                  refine K_aload_n dX4_takesDigit_134 rfl ?_
                  refine g_X4_154 dX4_takesDigit_135  ?_
                  refine K_top (show _ = cond (dgI d s) (dgW d s) s.2.1 from pmr_k) ?_
                  refine ast19 dX4_takesDigit_138 (by omega) ?_
                  refine K_mem pm_ps ?_
                  refine K_iload dX4_takesDigit_139 rfl ?_
                  exact K_zret (by rfl) dX4_takesDigit_141 ⟨rfl, rfl⟩
                · skip
                  refine K_iload_n dX4_takesDigit_111 rfl ?_
                  refine K_goto (tgt := 119) dX4_takesDigit_112 (by decide) ?_
                  refine K_top (show _ = cond (dgI d s) (dgW d s) s.2.1 by rw [c108]; first | rfl | exact pmr_k) ?_
                  refine p_X4_154 dX4_takesDigit_119  ?_
                  refine K_mem pm_nu ?_
                  refine K_aload_n dX4_takesDigit_122 rfl ?_
                  refine g_X4_19 dX4_takesDigit_123  ?_
                  refine K_iconstN 4 dX4_takesDigit_126 rfl ?_
                  refine K_aload_n dX4_takesDigit_127 rfl ?_
                  refine g_X4_151 dX4_takesDigit_128  ?_
                  refine K_top (show _ = nI s.1 from pmr_k) ?_
                  refine K_imulN dX4_takesDigit_131 ?_
                  refine K_iconstN 3 dX4_takesDigit_132 rfl ?_
                  refine K_iaddN dX4_takesDigit_133 ?_
                  refine K_aload_n dX4_takesDigit_134 rfl ?_
                  refine g_X4_154 dX4_takesDigit_135  ?_
                  refine K_top (show _ = cond (dgI d s) (dgW d s) s.2.1 from pmr_k) ?_
                  refine ast19 dX4_takesDigit_138 (by omega) ?_
                  refine K_mem pm_ps ?_
                  refine K_iload dX4_takesDigit_139 rfl ?_
                  exact K_zret (by rfl) dX4_takesDigit_141 ⟨rfl, rfl⟩
              · skip
                refine K_iconstN 1 dX4_takesDigit_98 rfl ?_
                refine K_goto (tgt := 103) dX4_takesDigit_99 (by decide) ?_
                refine K_top (show _ = b2i (dgI d s) by first | (simp [dgI, c68]; done) | (simp [dgI, c68]; rfl) | (simp [dgI, c68, c75]; done) | (simp [dgI, c68, c75]; rfl) | (simp [dgI, c68, c75, c95]; done) | (simp [dgI, c68, c75, c95]; rfl)) ?_
                refine K_istore dX4_takesDigit_103 (by decide) rfl ?_
                refine K_aload_n dX4_takesDigit_105 rfl ?_
                refine K_iload dX4_takesDigit_106 rfl ?_
                refine K_ifb_eq (tgt := 115) dX4_takesDigit_108 (by decide) (fun c108 => ?_) (fun c108 => ?_)
                · skip
                  refine K_aload_n dX4_takesDigit_115 rfl ?_
                  refine g_X4_154 dX4_takesDigit_116  ?_
                  refine K_top (show _ = cond (dgI d s) (dgW d s) s.2.1 by rw [c108]; first | rfl | exact pmr_k) ?_
                  refine p_X4_154 dX4_takesDigit_119  ?_
                  refine K_mem pm_nu ?_
                  refine K_aload_n dX4_takesDigit_122 rfl ?_
                  refine g_X4_19 dX4_takesDigit_123  ?_
                  refine K_iconstN 4 dX4_takesDigit_126 rfl ?_
                  refine K_aload_n dX4_takesDigit_127 rfl ?_
                  refine g_X4_151 dX4_takesDigit_128  ?_
                  refine K_top (show _ = nI s.1 from pmr_k) ?_
                  refine K_imulN dX4_takesDigit_131 ?_
                  refine K_iconstN 3 dX4_takesDigit_132 rfl ?_
                  refine K_iaddN dX4_takesDigit_133 ?_
                  refine K_aload_n dX4_takesDigit_134 rfl ?_
                  refine g_X4_154 dX4_takesDigit_135  ?_
                  refine K_top (show _ = cond (dgI d s) (dgW d s) s.2.1 from pmr_k) ?_
                  refine ast19 dX4_takesDigit_138 (by omega) ?_
                  refine K_mem pm_ps ?_
                  refine K_iload dX4_takesDigit_139 rfl ?_
                  exact K_zret (by rfl) dX4_takesDigit_141 ⟨rfl, rfl⟩
                · skip
                  refine K_iload_n dX4_takesDigit_111 rfl ?_
                  refine K_goto (tgt := 119) dX4_takesDigit_112 (by decide) ?_
                  refine K_top (show _ = cond (dgI d s) (dgW d s) s.2.1 by rw [c108]; first | rfl | exact pmr_k) ?_
                  refine p_X4_154 dX4_takesDigit_119  ?_
                  refine K_mem pm_nu ?_
                  refine K_aload_n dX4_takesDigit_122 rfl ?_
                  refine g_X4_19 dX4_takesDigit_123  ?_
                  refine K_iconstN 4 dX4_takesDigit_126 rfl ?_
                  refine K_aload_n dX4_takesDigit_127 rfl ?_
                  refine g_X4_151 dX4_takesDigit_128  ?_
                  refine K_top (show _ = nI s.1 from pmr_k) ?_
                  refine K_imulN dX4_takesDigit_131 ?_
                  refine K_iconstN 3 dX4_takesDigit_132 rfl ?_
                  refine K_iaddN dX4_takesDigit_133 ?_
                  refine K_aload_n dX4_takesDigit_134 rfl ?_
                  refine g_X4_154 dX4_takesDigit_135  ?_
                  refine K_top (show _ = cond (dgI d s) (dgW d s) s.2.1 from pmr_k) ?_
                  refine ast19 dX4_takesDigit_138 (by omega) ?_
                  refine K_mem pm_ps ?_
                  refine K_iload dX4_takesDigit_139 rfl ?_
                  exact K_zret (by rfl) dX4_takesDigit_141 ⟨rfl, rfl⟩
      · skip
        refine K_ldc dX4_takesDigit_52 cst_X4_119 ?_
        refine K_goto (tgt := 59) dX4_takesDigit_54 (by decide) ?_
        refine K_top (show _ = nI (dgM s) by first | (simp [dgM, nLet, c37]; done) | (simp [dgM, nLet, c37]; rfl) | (simp [dgM, nLet, c37, c49]; done) | (simp [dgM, nLet, c37, c49]; rfl)) ?_
        refine K_istore dX4_takesDigit_59 (by decide) rfl ?_
        refine K_iload_n dX4_takesDigit_61 rfl ?_
        refine K_iconstN 0 dX4_takesDigit_62 rfl ?_
        refine K_bipush (v := nI 9) dX4_takesDigit_63 (by decide) ?_
        refine k_X4_within (C_X4_within ) (by decide) ml_X4_32 (Nat.le_of_ble_eq_true rfl) dX4_takesDigit_65 ?_
        refine K_ifb_eq (tgt := 102) dX4_takesDigit_68 (by decide) (fun c68 => ?_) (fun c68 => ?_)
        · skip
          refine K_iconstN 0 dX4_takesDigit_102 rfl ?_
          refine K_top (show _ = b2i (dgI d s) by first | (simp [dgI, c68]; done) | (simp [dgI, c68]; rfl) | (simp [dgI, c68, c75]; done) | (simp [dgI, c68, c75]; rfl) | (simp [dgI, c68, c75, c95]; done) | (simp [dgI, c68, c75, c95]; rfl)) ?_
          refine K_istore dX4_takesDigit_103 (by decide) rfl ?_
          refine K_aload_n dX4_takesDigit_105 rfl ?_
          refine K_iload dX4_takesDigit_106 rfl ?_
          refine K_ifb_eq (tgt := 115) dX4_takesDigit_108 (by decide) (fun c108 => ?_) (fun c108 => ?_)
          · skip
            refine K_aload_n dX4_takesDigit_115 rfl ?_
            refine g_X4_154 dX4_takesDigit_116  ?_
            refine K_top (show _ = cond (dgI d s) (dgW d s) s.2.1 by rw [c108]; first | rfl | exact pmr_k) ?_
            refine p_X4_154 dX4_takesDigit_119  ?_
            refine K_mem pm_nu ?_
            refine K_aload_n dX4_takesDigit_122 rfl ?_
            refine g_X4_19 dX4_takesDigit_123  ?_
            refine K_iconstN 4 dX4_takesDigit_126 rfl ?_
            refine K_aload_n dX4_takesDigit_127 rfl ?_
            refine g_X4_151 dX4_takesDigit_128  ?_
            refine K_top (show _ = nI s.1 from pmr_k) ?_
            refine K_imulN dX4_takesDigit_131 ?_
            refine K_iconstN 3 dX4_takesDigit_132 rfl ?_
            refine K_iaddN dX4_takesDigit_133 ?_
            refine K_aload_n dX4_takesDigit_134 rfl ?_
            refine g_X4_154 dX4_takesDigit_135  ?_
            refine K_top (show _ = cond (dgI d s) (dgW d s) s.2.1 from pmr_k) ?_
            refine ast19 dX4_takesDigit_138 (by omega) ?_
            refine K_mem pm_ps ?_
            refine K_iload dX4_takesDigit_139 rfl ?_
            exact K_zret (by rfl) dX4_takesDigit_141 ⟨rfl, rfl⟩
          · skip
            refine K_iload_n dX4_takesDigit_111 rfl ?_
            refine K_goto (tgt := 119) dX4_takesDigit_112 (by decide) ?_
            refine K_top (show _ = cond (dgI d s) (dgW d s) s.2.1 by rw [c108]; first | rfl | exact pmr_k) ?_
            refine p_X4_154 dX4_takesDigit_119  ?_
            refine K_mem pm_nu ?_
            refine K_aload_n dX4_takesDigit_122 rfl ?_
            refine g_X4_19 dX4_takesDigit_123  ?_
            refine K_iconstN 4 dX4_takesDigit_126 rfl ?_
            refine K_aload_n dX4_takesDigit_127 rfl ?_
            refine g_X4_151 dX4_takesDigit_128  ?_
            refine K_top (show _ = nI s.1 from pmr_k) ?_
            refine K_imulN dX4_takesDigit_131 ?_
            refine K_iconstN 3 dX4_takesDigit_132 rfl ?_
            refine K_iaddN dX4_takesDigit_133 ?_
            refine K_aload_n dX4_takesDigit_134 rfl ?_
            refine g_X4_154 dX4_takesDigit_135  ?_
            refine K_top (show _ = cond (dgI d s) (dgW d s) s.2.1 from pmr_k) ?_
            refine ast19 dX4_takesDigit_138 (by omega) ?_
            refine K_mem pm_ps ?_
            refine K_iload dX4_takesDigit_139 rfl ?_
            exact K_zret (by rfl) dX4_takesDigit_141 ⟨rfl, rfl⟩
        · skip
          refine K_aload_n dX4_takesDigit_71 rfl ?_
          refine g_X4_154 dX4_takesDigit_72  ?_
          refine K_top (show _ = s.2.1 from pmr_k) ?_
          refine K_if_eq (tgt := 102) dX4_takesDigit_75 (by decide) (fun c75 => ?_) (fun c75 => ?_)
          · skip
            refine K_iconstN 0 dX4_takesDigit_102 rfl ?_
            refine K_top (show _ = b2i (dgI d s) by first | (simp [dgI, c68]; done) | (simp [dgI, c68]; rfl) | (simp [dgI, c68, c75]; done) | (simp [dgI, c68, c75]; rfl) | (simp [dgI, c68, c75, c95]; done) | (simp [dgI, c68, c75, c95]; rfl)) ?_
            refine K_istore dX4_takesDigit_103 (by decide) rfl ?_
            refine K_aload_n dX4_takesDigit_105 rfl ?_
            refine K_iload dX4_takesDigit_106 rfl ?_
            refine K_ifb_eq (tgt := 115) dX4_takesDigit_108 (by decide) (fun c108 => ?_) (fun c108 => ?_)
            · skip
              refine K_aload_n dX4_takesDigit_115 rfl ?_
              refine g_X4_154 dX4_takesDigit_116  ?_
              refine K_top (show _ = cond (dgI d s) (dgW d s) s.2.1 by rw [c108]; first | rfl | exact pmr_k) ?_
              refine p_X4_154 dX4_takesDigit_119  ?_
              refine K_mem pm_nu ?_
              refine K_aload_n dX4_takesDigit_122 rfl ?_
              refine g_X4_19 dX4_takesDigit_123  ?_
              refine K_iconstN 4 dX4_takesDigit_126 rfl ?_
              refine K_aload_n dX4_takesDigit_127 rfl ?_
              refine g_X4_151 dX4_takesDigit_128  ?_
              refine K_top (show _ = nI s.1 from pmr_k) ?_
              refine K_imulN dX4_takesDigit_131 ?_
              refine K_iconstN 3 dX4_takesDigit_132 rfl ?_
              refine K_iaddN dX4_takesDigit_133 ?_
              refine K_aload_n dX4_takesDigit_134 rfl ?_
              refine g_X4_154 dX4_takesDigit_135  ?_
              refine K_top (show _ = cond (dgI d s) (dgW d s) s.2.1 from pmr_k) ?_
              refine ast19 dX4_takesDigit_138 (by omega) ?_
              refine K_mem pm_ps ?_
              refine K_iload dX4_takesDigit_139 rfl ?_
              exact K_zret (by rfl) dX4_takesDigit_141 ⟨rfl, rfl⟩
            · skip
              refine K_iload_n dX4_takesDigit_111 rfl ?_
              refine K_goto (tgt := 119) dX4_takesDigit_112 (by decide) ?_
              refine K_top (show _ = cond (dgI d s) (dgW d s) s.2.1 by rw [c108]; first | rfl | exact pmr_k) ?_
              refine p_X4_154 dX4_takesDigit_119  ?_
              refine K_mem pm_nu ?_
              refine K_aload_n dX4_takesDigit_122 rfl ?_
              refine g_X4_19 dX4_takesDigit_123  ?_
              refine K_iconstN 4 dX4_takesDigit_126 rfl ?_
              refine K_aload_n dX4_takesDigit_127 rfl ?_
              refine g_X4_151 dX4_takesDigit_128  ?_
              refine K_top (show _ = nI s.1 from pmr_k) ?_
              refine K_imulN dX4_takesDigit_131 ?_
              refine K_iconstN 3 dX4_takesDigit_132 rfl ?_
              refine K_iaddN dX4_takesDigit_133 ?_
              refine K_aload_n dX4_takesDigit_134 rfl ?_
              refine g_X4_154 dX4_takesDigit_135  ?_
              refine K_top (show _ = cond (dgI d s) (dgW d s) s.2.1 from pmr_k) ?_
              refine ast19 dX4_takesDigit_138 (by omega) ?_
              refine K_mem pm_ps ?_
              refine K_iload dX4_takesDigit_139 rfl ?_
              exact K_zret (by rfl) dX4_takesDigit_141 ⟨rfl, rfl⟩
          · skip
            refine K_iload_n dX4_takesDigit_78 rfl ?_
            refine K_iload_n dX4_takesDigit_79 rfl ?_
            refine K_bipush (v := nI 97) dX4_takesDigit_80 (by decide) ?_
            refine K_icmp_ne (tgt := 89) dX4_takesDigit_82 (by decide) (fun c82 => ?_) (fun c82 => ?_)
            · skip
              refine K_iconstN 1 dX4_takesDigit_89 rfl ?_
              refine K_top (show _ = nI (dgL s) by first | (simp [dgL, c82]; done) | (simp [dgL, c82]; rfl)) ?_
              refine K_iload dX4_takesDigit_90 rfl ?_
              refine k_X4_within (C_X4_within ) (by decide) ml_X4_32 (Nat.le_of_ble_eq_true rfl) dX4_takesDigit_92 ?_
              refine K_ifb_eq (tgt := 102) dX4_takesDigit_95 (by decide) (fun c95 => ?_) (fun c95 => ?_)
              · skip
                refine K_iconstN 0 dX4_takesDigit_102 rfl ?_
                refine K_top (show _ = b2i (dgI d s) by first | (simp [dgI, c68]; done) | (simp [dgI, c68]; rfl) | (simp [dgI, c68, c75]; done) | (simp [dgI, c68, c75]; rfl) | (simp [dgI, c68, c75, c95]; done) | (simp [dgI, c68, c75, c95]; rfl)) ?_
                refine K_istore dX4_takesDigit_103 (by decide) rfl ?_
                refine K_aload_n dX4_takesDigit_105 rfl ?_
                refine K_iload dX4_takesDigit_106 rfl ?_
                refine K_ifb_eq (tgt := 115) dX4_takesDigit_108 (by decide) (fun c108 => ?_) (fun c108 => ?_)
                · skip
                  refine K_aload_n dX4_takesDigit_115 rfl ?_
                  refine g_X4_154 dX4_takesDigit_116  ?_
                  refine K_top (show _ = cond (dgI d s) (dgW d s) s.2.1 by rw [c108]; first | rfl | exact pmr_k) ?_
                  refine p_X4_154 dX4_takesDigit_119  ?_
                  refine K_mem pm_nu ?_
                  refine K_aload_n dX4_takesDigit_122 rfl ?_
                  refine g_X4_19 dX4_takesDigit_123  ?_
                  refine K_iconstN 4 dX4_takesDigit_126 rfl ?_
                  refine K_aload_n dX4_takesDigit_127 rfl ?_
                  refine g_X4_151 dX4_takesDigit_128  ?_
                  refine K_top (show _ = nI s.1 from pmr_k) ?_
                  refine K_imulN dX4_takesDigit_131 ?_
                  refine K_iconstN 3 dX4_takesDigit_132 rfl ?_
                  refine K_iaddN dX4_takesDigit_133 ?_
                  refine K_aload_n dX4_takesDigit_134 rfl ?_
                  refine g_X4_154 dX4_takesDigit_135  ?_
                  refine K_top (show _ = cond (dgI d s) (dgW d s) s.2.1 from pmr_k) ?_
                  refine ast19 dX4_takesDigit_138 (by omega) ?_
                  refine K_mem pm_ps ?_
                  refine K_iload dX4_takesDigit_139 rfl ?_
                  exact K_zret (by rfl) dX4_takesDigit_141 ⟨rfl, rfl⟩
                · skip
                  refine K_iload_n dX4_takesDigit_111 rfl ?_
                  refine K_goto (tgt := 119) dX4_takesDigit_112 (by decide) ?_
                  refine K_top (show _ = cond (dgI d s) (dgW d s) s.2.1 by rw [c108]; first | rfl | exact pmr_k) ?_
                  refine p_X4_154 dX4_takesDigit_119  ?_
                  refine K_mem pm_nu ?_
                  refine K_aload_n dX4_takesDigit_122 rfl ?_
                  refine g_X4_19 dX4_takesDigit_123  ?_
                  refine K_iconstN 4 dX4_takesDigit_126 rfl ?_
                  refine K_aload_n dX4_takesDigit_127 rfl ?_
                  refine g_X4_151 dX4_takesDigit_128  ?_
                  refine K_top (show _ = nI s.1 from pmr_k) ?_
                  refine K_imulN dX4_takesDigit_131 ?_
                  refine K_iconstN 3 dX4_takesDigit_132 rfl ?_
                  refine K_iaddN dX4_takesDigit_133 ?_
                  refine K_aload_n dX4_takesDigit_134 rfl ?_
                  refine g_X4_154 dX4_takesDigit_135  ?_
                  refine K_top (show _ = cond (dgI d s) (dgW d s) s.2.1 from pmr_k) ?_
                  refine ast19 dX4_takesDigit_138 (by omega) ?_
                  refine K_mem pm_ps ?_
                  refine K_iload dX4_takesDigit_139 rfl ?_
                  exact K_zret (by rfl) dX4_takesDigit_141 ⟨rfl, rfl⟩
              · skip
                refine K_iconstN 1 dX4_takesDigit_98 rfl ?_
                refine K_goto (tgt := 103) dX4_takesDigit_99 (by decide) ?_
                refine K_top (show _ = b2i (dgI d s) by first | (simp [dgI, c68]; done) | (simp [dgI, c68]; rfl) | (simp [dgI, c68, c75]; done) | (simp [dgI, c68, c75]; rfl) | (simp [dgI, c68, c75, c95]; done) | (simp [dgI, c68, c75, c95]; rfl)) ?_
                refine K_istore dX4_takesDigit_103 (by decide) rfl ?_
                refine K_aload_n dX4_takesDigit_105 rfl ?_
                refine K_iload dX4_takesDigit_106 rfl ?_
                refine K_ifb_eq (tgt := 115) dX4_takesDigit_108 (by decide) (fun c108 => ?_) (fun c108 => ?_)
                · skip
                  refine K_aload_n dX4_takesDigit_115 rfl ?_
                  refine g_X4_154 dX4_takesDigit_116  ?_
                  refine K_top (show _ = cond (dgI d s) (dgW d s) s.2.1 by rw [c108]; first | rfl | exact pmr_k) ?_
                  refine p_X4_154 dX4_takesDigit_119  ?_
                  refine K_mem pm_nu ?_
                  refine K_aload_n dX4_takesDigit_122 rfl ?_
                  refine g_X4_19 dX4_takesDigit_123  ?_
                  refine K_iconstN 4 dX4_takesDigit_126 rfl ?_
                  refine K_aload_n dX4_takesDigit_127 rfl ?_
                  refine g_X4_151 dX4_takesDigit_128  ?_
                  refine K_top (show _ = nI s.1 from pmr_k) ?_
                  refine K_imulN dX4_takesDigit_131 ?_
                  refine K_iconstN 3 dX4_takesDigit_132 rfl ?_
                  refine K_iaddN dX4_takesDigit_133 ?_
                  refine K_aload_n dX4_takesDigit_134 rfl ?_
                  refine g_X4_154 dX4_takesDigit_135  ?_
                  refine K_top (show _ = cond (dgI d s) (dgW d s) s.2.1 from pmr_k) ?_
                  refine ast19 dX4_takesDigit_138 (by omega) ?_
                  refine K_mem pm_ps ?_
                  refine K_iload dX4_takesDigit_139 rfl ?_
                  exact K_zret (by rfl) dX4_takesDigit_141 ⟨rfl, rfl⟩
                · skip
                  refine K_iload_n dX4_takesDigit_111 rfl ?_
                  refine K_goto (tgt := 119) dX4_takesDigit_112 (by decide) ?_
                  refine K_top (show _ = cond (dgI d s) (dgW d s) s.2.1 by rw [c108]; first | rfl | exact pmr_k) ?_
                  refine p_X4_154 dX4_takesDigit_119  ?_
                  refine K_mem pm_nu ?_
                  refine K_aload_n dX4_takesDigit_122 rfl ?_
                  refine g_X4_19 dX4_takesDigit_123  ?_
                  refine K_iconstN 4 dX4_takesDigit_126 rfl ?_
                  refine K_aload_n dX4_takesDigit_127 rfl ?_
                  refine g_X4_151 dX4_takesDigit_128  ?_
                  refine K_top (show _ = nI s.1 from pmr_k) ?_
                  refine K_imulN dX4_takesDigit_131 ?_
                  refine K_iconstN 3 dX4_takesDigit_132 rfl ?_
                  refine K_iaddN dX4_takesDigit_133 ?_
                  refine K_aload_n dX4_takesDigit_134 rfl ?_
                  refine g_X4_154 dX4_takesDigit_135  ?_
                  refine K_top (show _ = cond (dgI d s) (dgW d s) s.2.1 from pmr_k) ?_
                  refine ast19 dX4_takesDigit_138 (by omega) ?_
                  refine K_mem pm_ps ?_
                  refine K_iload dX4_takesDigit_139 rfl ?_
                  exact K_zret (by rfl) dX4_takesDigit_141 ⟨rfl, rfl⟩
            · skip
              refine K_iconstN 0 dX4_takesDigit_85 rfl ?_
              refine K_goto (tgt := 90) dX4_takesDigit_86 (by decide) ?_
              refine K_top (show _ = nI (dgL s) by first | (simp [dgL, c82]; done) | (simp [dgL, c82]; rfl)) ?_
              refine K_iload dX4_takesDigit_90 rfl ?_
              refine k_X4_within (C_X4_within ) (by decide) ml_X4_32 (Nat.le_of_ble_eq_true rfl) dX4_takesDigit_92 ?_
              refine K_ifb_eq (tgt := 102) dX4_takesDigit_95 (by decide) (fun c95 => ?_) (fun c95 => ?_)
              · skip
                refine K_iconstN 0 dX4_takesDigit_102 rfl ?_
                refine K_top (show _ = b2i (dgI d s) by first | (simp [dgI, c68]; done) | (simp [dgI, c68]; rfl) | (simp [dgI, c68, c75]; done) | (simp [dgI, c68, c75]; rfl) | (simp [dgI, c68, c75, c95]; done) | (simp [dgI, c68, c75, c95]; rfl)) ?_
                refine K_istore dX4_takesDigit_103 (by decide) rfl ?_
                refine K_aload_n dX4_takesDigit_105 rfl ?_
                refine K_iload dX4_takesDigit_106 rfl ?_
                refine K_ifb_eq (tgt := 115) dX4_takesDigit_108 (by decide) (fun c108 => ?_) (fun c108 => ?_)
                · skip
                  refine K_aload_n dX4_takesDigit_115 rfl ?_
                  refine g_X4_154 dX4_takesDigit_116  ?_
                  refine K_top (show _ = cond (dgI d s) (dgW d s) s.2.1 by rw [c108]; first | rfl | exact pmr_k) ?_
                  refine p_X4_154 dX4_takesDigit_119  ?_
                  refine K_mem pm_nu ?_
                  refine K_aload_n dX4_takesDigit_122 rfl ?_
                  refine g_X4_19 dX4_takesDigit_123  ?_
                  refine K_iconstN 4 dX4_takesDigit_126 rfl ?_
                  refine K_aload_n dX4_takesDigit_127 rfl ?_
                  refine g_X4_151 dX4_takesDigit_128  ?_
                  refine K_top (show _ = nI s.1 from pmr_k) ?_
                  refine K_imulN dX4_takesDigit_131 ?_
                  refine K_iconstN 3 dX4_takesDigit_132 rfl ?_
                  refine K_iaddN dX4_takesDigit_133 ?_
                  refine K_aload_n dX4_takesDigit_134 rfl ?_
                  refine g_X4_154 dX4_takesDigit_135  ?_
                  refine K_top (show _ = cond (dgI d s) (dgW d s) s.2.1 from pmr_k) ?_
                  refine ast19 dX4_takesDigit_138 (by omega) ?_
                  refine K_mem pm_ps ?_
                  refine K_iload dX4_takesDigit_139 rfl ?_
                  exact K_zret (by rfl) dX4_takesDigit_141 ⟨rfl, rfl⟩
                · skip
                  refine K_iload_n dX4_takesDigit_111 rfl ?_
                  refine K_goto (tgt := 119) dX4_takesDigit_112 (by decide) ?_
                  refine K_top (show _ = cond (dgI d s) (dgW d s) s.2.1 by rw [c108]; first | rfl | exact pmr_k) ?_
                  refine p_X4_154 dX4_takesDigit_119  ?_
                  refine K_mem pm_nu ?_
                  refine K_aload_n dX4_takesDigit_122 rfl ?_
                  refine g_X4_19 dX4_takesDigit_123  ?_
                  refine K_iconstN 4 dX4_takesDigit_126 rfl ?_
                  refine K_aload_n dX4_takesDigit_127 rfl ?_
                  refine g_X4_151 dX4_takesDigit_128  ?_
                  refine K_top (show _ = nI s.1 from pmr_k) ?_
                  refine K_imulN dX4_takesDigit_131 ?_
                  refine K_iconstN 3 dX4_takesDigit_132 rfl ?_
                  refine K_iaddN dX4_takesDigit_133 ?_
                  refine K_aload_n dX4_takesDigit_134 rfl ?_
                  refine g_X4_154 dX4_takesDigit_135  ?_
                  refine K_top (show _ = cond (dgI d s) (dgW d s) s.2.1 from pmr_k) ?_
                  refine ast19 dX4_takesDigit_138 (by omega) ?_
                  refine K_mem pm_ps ?_
                  refine K_iload dX4_takesDigit_139 rfl ?_
                  exact K_zret (by rfl) dX4_takesDigit_141 ⟨rfl, rfl⟩
              · skip
                refine K_iconstN 1 dX4_takesDigit_98 rfl ?_
                refine K_goto (tgt := 103) dX4_takesDigit_99 (by decide) ?_
                refine K_top (show _ = b2i (dgI d s) by first | (simp [dgI, c68]; done) | (simp [dgI, c68]; rfl) | (simp [dgI, c68, c75]; done) | (simp [dgI, c68, c75]; rfl) | (simp [dgI, c68, c75, c95]; done) | (simp [dgI, c68, c75, c95]; rfl)) ?_
                refine K_istore dX4_takesDigit_103 (by decide) rfl ?_
                refine K_aload_n dX4_takesDigit_105 rfl ?_
                refine K_iload dX4_takesDigit_106 rfl ?_
                refine K_ifb_eq (tgt := 115) dX4_takesDigit_108 (by decide) (fun c108 => ?_) (fun c108 => ?_)
                · skip
                  refine K_aload_n dX4_takesDigit_115 rfl ?_
                  refine g_X4_154 dX4_takesDigit_116  ?_
                  refine K_top (show _ = cond (dgI d s) (dgW d s) s.2.1 by rw [c108]; first | rfl | exact pmr_k) ?_
                  refine p_X4_154 dX4_takesDigit_119  ?_
                  refine K_mem pm_nu ?_
                  refine K_aload_n dX4_takesDigit_122 rfl ?_
                  refine g_X4_19 dX4_takesDigit_123  ?_
                  refine K_iconstN 4 dX4_takesDigit_126 rfl ?_
                  refine K_aload_n dX4_takesDigit_127 rfl ?_
                  refine g_X4_151 dX4_takesDigit_128  ?_
                  refine K_top (show _ = nI s.1 from pmr_k) ?_
                  refine K_imulN dX4_takesDigit_131 ?_
                  refine K_iconstN 3 dX4_takesDigit_132 rfl ?_
                  refine K_iaddN dX4_takesDigit_133 ?_
                  refine K_aload_n dX4_takesDigit_134 rfl ?_
                  refine g_X4_154 dX4_takesDigit_135  ?_
                  refine K_top (show _ = cond (dgI d s) (dgW d s) s.2.1 from pmr_k) ?_
                  refine ast19 dX4_takesDigit_138 (by omega) ?_
                  refine K_mem pm_ps ?_
                  refine K_iload dX4_takesDigit_139 rfl ?_
                  exact K_zret (by rfl) dX4_takesDigit_141 ⟨rfl, rfl⟩
                · skip
                  refine K_iload_n dX4_takesDigit_111 rfl ?_
                  refine K_goto (tgt := 119) dX4_takesDigit_112 (by decide) ?_
                  refine K_top (show _ = cond (dgI d s) (dgW d s) s.2.1 by rw [c108]; first | rfl | exact pmr_k) ?_
                  refine p_X4_154 dX4_takesDigit_119  ?_
                  refine K_mem pm_nu ?_
                  refine K_aload_n dX4_takesDigit_122 rfl ?_
                  refine g_X4_19 dX4_takesDigit_123  ?_
                  refine K_iconstN 4 dX4_takesDigit_126 rfl ?_
                  refine K_aload_n dX4_takesDigit_127 rfl ?_
                  refine g_X4_151 dX4_takesDigit_128  ?_
                  refine K_top (show _ = nI s.1 from pmr_k) ?_
                  refine K_imulN dX4_takesDigit_131 ?_
                  refine K_iconstN 3 dX4_takesDigit_132 rfl ?_
                  refine K_iaddN dX4_takesDigit_133 ?_
                  refine K_aload_n dX4_takesDigit_134 rfl ?_
                  refine g_X4_154 dX4_takesDigit_135  ?_
                  refine K_top (show _ = cond (dgI d s) (dgW d s) s.2.1 from pmr_k) ?_
                  refine ast19 dX4_takesDigit_138 (by omega) ?_
                  refine K_mem pm_ps ?_
                  refine K_iload dX4_takesDigit_139 rfl ?_
                  exact K_zret (by rfl) dX4_takesDigit_141 ⟨rfl, rfl⟩
    · skip
      refine K_sipush (v := nI 999) dX4_takesDigit_40 (by decide) ?_
      refine K_goto (tgt := 59) dX4_takesDigit_43 (by decide) ?_
      refine K_top (show _ = nI (dgM s) by first | (simp [dgM, nLet, c37]; done) | (simp [dgM, nLet, c37]; rfl) | (simp [dgM, nLet, c37, c49]; done) | (simp [dgM, nLet, c37, c49]; rfl)) ?_
      refine K_istore dX4_takesDigit_59 (by decide) rfl ?_
      refine K_iload_n dX4_takesDigit_61 rfl ?_
      refine K_iconstN 0 dX4_takesDigit_62 rfl ?_
      refine K_bipush (v := nI 9) dX4_takesDigit_63 (by decide) ?_
      refine k_X4_within (C_X4_within ) (by decide) ml_X4_32 (Nat.le_of_ble_eq_true rfl) dX4_takesDigit_65 ?_
      refine K_ifb_eq (tgt := 102) dX4_takesDigit_68 (by decide) (fun c68 => ?_) (fun c68 => ?_)
      · skip
        refine K_iconstN 0 dX4_takesDigit_102 rfl ?_
        refine K_top (show _ = b2i (dgI d s) by first | (simp [dgI, c68]; done) | (simp [dgI, c68]; rfl) | (simp [dgI, c68, c75]; done) | (simp [dgI, c68, c75]; rfl) | (simp [dgI, c68, c75, c95]; done) | (simp [dgI, c68, c75, c95]; rfl)) ?_
        refine K_istore dX4_takesDigit_103 (by decide) rfl ?_
        refine K_aload_n dX4_takesDigit_105 rfl ?_
        refine K_iload dX4_takesDigit_106 rfl ?_
        refine K_ifb_eq (tgt := 115) dX4_takesDigit_108 (by decide) (fun c108 => ?_) (fun c108 => ?_)
        · skip
          refine K_aload_n dX4_takesDigit_115 rfl ?_
          refine g_X4_154 dX4_takesDigit_116  ?_
          refine K_top (show _ = cond (dgI d s) (dgW d s) s.2.1 by rw [c108]; first | rfl | exact pmr_k) ?_
          refine p_X4_154 dX4_takesDigit_119  ?_
          refine K_mem pm_nu ?_
          refine K_aload_n dX4_takesDigit_122 rfl ?_
          refine g_X4_19 dX4_takesDigit_123  ?_
          refine K_iconstN 4 dX4_takesDigit_126 rfl ?_
          refine K_aload_n dX4_takesDigit_127 rfl ?_
          refine g_X4_151 dX4_takesDigit_128  ?_
          refine K_top (show _ = nI s.1 from pmr_k) ?_
          refine K_imulN dX4_takesDigit_131 ?_
          refine K_iconstN 3 dX4_takesDigit_132 rfl ?_
          refine K_iaddN dX4_takesDigit_133 ?_
          refine K_aload_n dX4_takesDigit_134 rfl ?_
          refine g_X4_154 dX4_takesDigit_135  ?_
          refine K_top (show _ = cond (dgI d s) (dgW d s) s.2.1 from pmr_k) ?_
          refine ast19 dX4_takesDigit_138 (by omega) ?_
          refine K_mem pm_ps ?_
          refine K_iload dX4_takesDigit_139 rfl ?_
          exact K_zret (by rfl) dX4_takesDigit_141 ⟨rfl, rfl⟩
        · skip
          refine K_iload_n dX4_takesDigit_111 rfl ?_
          refine K_goto (tgt := 119) dX4_takesDigit_112 (by decide) ?_
          refine K_top (show _ = cond (dgI d s) (dgW d s) s.2.1 by rw [c108]; first | rfl | exact pmr_k) ?_
          refine p_X4_154 dX4_takesDigit_119  ?_
          refine K_mem pm_nu ?_
          refine K_aload_n dX4_takesDigit_122 rfl ?_
          refine g_X4_19 dX4_takesDigit_123  ?_
          refine K_iconstN 4 dX4_takesDigit_126 rfl ?_
          refine K_aload_n dX4_takesDigit_127 rfl ?_
          refine g_X4_151 dX4_takesDigit_128  ?_
          refine K_top (show _ = nI s.1 from pmr_k) ?_
          refine K_imulN dX4_takesDigit_131 ?_
          refine K_iconstN 3 dX4_takesDigit_132 rfl ?_
          refine K_iaddN dX4_takesDigit_133 ?_
          refine K_aload_n dX4_takesDigit_134 rfl ?_
          refine g_X4_154 dX4_takesDigit_135  ?_
          refine K_top (show _ = cond (dgI d s) (dgW d s) s.2.1 from pmr_k) ?_
          refine ast19 dX4_takesDigit_138 (by omega) ?_
          refine K_mem pm_ps ?_
          refine K_iload dX4_takesDigit_139 rfl ?_
          exact K_zret (by rfl) dX4_takesDigit_141 ⟨rfl, rfl⟩
      · skip
        refine K_aload_n dX4_takesDigit_71 rfl ?_
        refine g_X4_154 dX4_takesDigit_72  ?_
        refine K_top (show _ = s.2.1 from pmr_k) ?_
        refine K_if_eq (tgt := 102) dX4_takesDigit_75 (by decide) (fun c75 => ?_) (fun c75 => ?_)
        · skip
          refine K_iconstN 0 dX4_takesDigit_102 rfl ?_
          refine K_top (show _ = b2i (dgI d s) by first | (simp [dgI, c68]; done) | (simp [dgI, c68]; rfl) | (simp [dgI, c68, c75]; done) | (simp [dgI, c68, c75]; rfl) | (simp [dgI, c68, c75, c95]; done) | (simp [dgI, c68, c75, c95]; rfl)) ?_
          refine K_istore dX4_takesDigit_103 (by decide) rfl ?_
          refine K_aload_n dX4_takesDigit_105 rfl ?_
          refine K_iload dX4_takesDigit_106 rfl ?_
          refine K_ifb_eq (tgt := 115) dX4_takesDigit_108 (by decide) (fun c108 => ?_) (fun c108 => ?_)
          · skip
            refine K_aload_n dX4_takesDigit_115 rfl ?_
            refine g_X4_154 dX4_takesDigit_116  ?_
            refine K_top (show _ = cond (dgI d s) (dgW d s) s.2.1 by rw [c108]; first | rfl | exact pmr_k) ?_
            refine p_X4_154 dX4_takesDigit_119  ?_
            refine K_mem pm_nu ?_
            refine K_aload_n dX4_takesDigit_122 rfl ?_
            refine g_X4_19 dX4_takesDigit_123  ?_
            refine K_iconstN 4 dX4_takesDigit_126 rfl ?_
            refine K_aload_n dX4_takesDigit_127 rfl ?_
            refine g_X4_151 dX4_takesDigit_128  ?_
            refine K_top (show _ = nI s.1 from pmr_k) ?_
            refine K_imulN dX4_takesDigit_131 ?_
            refine K_iconstN 3 dX4_takesDigit_132 rfl ?_
            refine K_iaddN dX4_takesDigit_133 ?_
            refine K_aload_n dX4_takesDigit_134 rfl ?_
            refine g_X4_154 dX4_takesDigit_135  ?_
            refine K_top (show _ = cond (dgI d s) (dgW d s) s.2.1 from pmr_k) ?_
            refine ast19 dX4_takesDigit_138 (by omega) ?_
            refine K_mem pm_ps ?_
            refine K_iload dX4_takesDigit_139 rfl ?_
            exact K_zret (by rfl) dX4_takesDigit_141 ⟨rfl, rfl⟩
          · skip
            refine K_iload_n dX4_takesDigit_111 rfl ?_
            refine K_goto (tgt := 119) dX4_takesDigit_112 (by decide) ?_
            refine K_top (show _ = cond (dgI d s) (dgW d s) s.2.1 by rw [c108]; first | rfl | exact pmr_k) ?_
            refine p_X4_154 dX4_takesDigit_119  ?_
            refine K_mem pm_nu ?_
            refine K_aload_n dX4_takesDigit_122 rfl ?_
            refine g_X4_19 dX4_takesDigit_123  ?_
            refine K_iconstN 4 dX4_takesDigit_126 rfl ?_
            refine K_aload_n dX4_takesDigit_127 rfl ?_
            refine g_X4_151 dX4_takesDigit_128  ?_
            refine K_top (show _ = nI s.1 from pmr_k) ?_
            refine K_imulN dX4_takesDigit_131 ?_
            refine K_iconstN 3 dX4_takesDigit_132 rfl ?_
            refine K_iaddN dX4_takesDigit_133 ?_
            refine K_aload_n dX4_takesDigit_134 rfl ?_
            refine g_X4_154 dX4_takesDigit_135  ?_
            refine K_top (show _ = cond (dgI d s) (dgW d s) s.2.1 from pmr_k) ?_
            refine ast19 dX4_takesDigit_138 (by omega) ?_
            refine K_mem pm_ps ?_
            refine K_iload dX4_takesDigit_139 rfl ?_
            exact K_zret (by rfl) dX4_takesDigit_141 ⟨rfl, rfl⟩
        · skip
          refine K_iload_n dX4_takesDigit_78 rfl ?_
          refine K_iload_n dX4_takesDigit_79 rfl ?_
          refine K_bipush (v := nI 97) dX4_takesDigit_80 (by decide) ?_
          refine K_icmp_ne (tgt := 89) dX4_takesDigit_82 (by decide) (fun c82 => ?_) (fun c82 => ?_)
          · skip
            refine K_iconstN 1 dX4_takesDigit_89 rfl ?_
            refine K_top (show _ = nI (dgL s) by first | (simp [dgL, c82]; done) | (simp [dgL, c82]; rfl)) ?_
            refine K_iload dX4_takesDigit_90 rfl ?_
            refine k_X4_within (C_X4_within ) (by decide) ml_X4_32 (Nat.le_of_ble_eq_true rfl) dX4_takesDigit_92 ?_
            refine K_ifb_eq (tgt := 102) dX4_takesDigit_95 (by decide) (fun c95 => ?_) (fun c95 => ?_)
            · skip
              refine K_iconstN 0 dX4_takesDigit_102 rfl ?_
              refine K_top (show _ = b2i (dgI d s) by first | (simp [dgI, c68]; done) | (simp [dgI, c68]; rfl) | (simp [dgI, c68, c75]; done) | (simp [dgI, c68, c75]; rfl) | (simp [dgI, c68, c75, c95]; done) | (simp [dgI, c68, c75, c95]; rfl)) ?_
              refine K_istore dX4_takesDigit_103 (by decide) rfl ?_
              refine K_aload_n dX4_takesDigit_105 rfl ?_
              refine K_iload dX4_takesDigit_106 rfl ?_
              refine K_ifb_eq (tgt := 115) dX4_takesDigit_108 (by decide) (fun c108 => ?_) (fun c108 => ?_)
              · skip
                refine K_aload_n dX4_takesDigit_115 rfl ?_
                refine g_X4_154 dX4_takesDigit_116  ?_
                refine K_top (show _ = cond (dgI d s) (dgW d s) s.2.1 by rw [c108]; first | rfl | exact pmr_k) ?_
                refine p_X4_154 dX4_takesDigit_119  ?_
                refine K_mem pm_nu ?_
                refine K_aload_n dX4_takesDigit_122 rfl ?_
                refine g_X4_19 dX4_takesDigit_123  ?_
                refine K_iconstN 4 dX4_takesDigit_126 rfl ?_
                refine K_aload_n dX4_takesDigit_127 rfl ?_
                refine g_X4_151 dX4_takesDigit_128  ?_
                refine K_top (show _ = nI s.1 from pmr_k) ?_
                refine K_imulN dX4_takesDigit_131 ?_
                refine K_iconstN 3 dX4_takesDigit_132 rfl ?_
                refine K_iaddN dX4_takesDigit_133 ?_
                refine K_aload_n dX4_takesDigit_134 rfl ?_
                refine g_X4_154 dX4_takesDigit_135  ?_
                refine K_top (show _ = cond (dgI d s) (dgW d s) s.2.1 from pmr_k) ?_
                refine ast19 dX4_takesDigit_138 (by omega) ?_
                refine K_mem pm_ps ?_
                refine K_iload dX4_takesDigit_139 rfl ?_
                exact K_zret (by rfl) dX4_takesDigit_141 ⟨rfl, rfl⟩
              · skip
                refine K_iload_n dX4_takesDigit_111 rfl ?_
                refine K_goto (tgt := 119) dX4_takesDigit_112 (by decide) ?_
                refine K_top (show _ = cond (dgI d s) (dgW d s) s.2.1 by rw [c108]; first | rfl | exact pmr_k) ?_
                refine p_X4_154 dX4_takesDigit_119  ?_
                refine K_mem pm_nu ?_
                refine K_aload_n dX4_takesDigit_122 rfl ?_
                refine g_X4_19 dX4_takesDigit_123  ?_
                refine K_iconstN 4 dX4_takesDigit_126 rfl ?_
                refine K_aload_n dX4_takesDigit_127 rfl ?_
                refine g_X4_151 dX4_takesDigit_128  ?_
                refine K_top (show _ = nI s.1 from pmr_k) ?_
                refine K_imulN dX4_takesDigit_131 ?_
                refine K_iconstN 3 dX4_takesDigit_132 rfl ?_
                refine K_iaddN dX4_takesDigit_133 ?_
                refine K_aload_n dX4_takesDigit_134 rfl ?_
                refine g_X4_154 dX4_takesDigit_135  ?_
                refine K_top (show _ = cond (dgI d s) (dgW d s) s.2.1 from pmr_k) ?_
                refine ast19 dX4_takesDigit_138 (by omega) ?_
                refine K_mem pm_ps ?_
                refine K_iload dX4_takesDigit_139 rfl ?_
                exact K_zret (by rfl) dX4_takesDigit_141 ⟨rfl, rfl⟩
            · skip
              refine K_iconstN 1 dX4_takesDigit_98 rfl ?_
              refine K_goto (tgt := 103) dX4_takesDigit_99 (by decide) ?_
              refine K_top (show _ = b2i (dgI d s) by first | (simp [dgI, c68]; done) | (simp [dgI, c68]; rfl) | (simp [dgI, c68, c75]; done) | (simp [dgI, c68, c75]; rfl) | (simp [dgI, c68, c75, c95]; done) | (simp [dgI, c68, c75, c95]; rfl)) ?_
              refine K_istore dX4_takesDigit_103 (by decide) rfl ?_
              refine K_aload_n dX4_takesDigit_105 rfl ?_
              refine K_iload dX4_takesDigit_106 rfl ?_
              refine K_ifb_eq (tgt := 115) dX4_takesDigit_108 (by decide) (fun c108 => ?_) (fun c108 => ?_)
              · skip
                refine K_aload_n dX4_takesDigit_115 rfl ?_
                refine g_X4_154 dX4_takesDigit_116  ?_
                refine K_top (show _ = cond (dgI d s) (dgW d s) s.2.1 by rw [c108]; first | rfl | exact pmr_k) ?_
                refine p_X4_154 dX4_takesDigit_119  ?_
                refine K_mem pm_nu ?_
                refine K_aload_n dX4_takesDigit_122 rfl ?_
                refine g_X4_19 dX4_takesDigit_123  ?_
                refine K_iconstN 4 dX4_takesDigit_126 rfl ?_
                refine K_aload_n dX4_takesDigit_127 rfl ?_
                refine g_X4_151 dX4_takesDigit_128  ?_
                refine K_top (show _ = nI s.1 from pmr_k) ?_
                refine K_imulN dX4_takesDigit_131 ?_
                refine K_iconstN 3 dX4_takesDigit_132 rfl ?_
                refine K_iaddN dX4_takesDigit_133 ?_
                refine K_aload_n dX4_takesDigit_134 rfl ?_
                refine g_X4_154 dX4_takesDigit_135  ?_
                refine K_top (show _ = cond (dgI d s) (dgW d s) s.2.1 from pmr_k) ?_
                refine ast19 dX4_takesDigit_138 (by omega) ?_
                refine K_mem pm_ps ?_
                refine K_iload dX4_takesDigit_139 rfl ?_
                exact K_zret (by rfl) dX4_takesDigit_141 ⟨rfl, rfl⟩
              · skip
                refine K_iload_n dX4_takesDigit_111 rfl ?_
                refine K_goto (tgt := 119) dX4_takesDigit_112 (by decide) ?_
                refine K_top (show _ = cond (dgI d s) (dgW d s) s.2.1 by rw [c108]; first | rfl | exact pmr_k) ?_
                refine p_X4_154 dX4_takesDigit_119  ?_
                refine K_mem pm_nu ?_
                refine K_aload_n dX4_takesDigit_122 rfl ?_
                refine g_X4_19 dX4_takesDigit_123  ?_
                refine K_iconstN 4 dX4_takesDigit_126 rfl ?_
                refine K_aload_n dX4_takesDigit_127 rfl ?_
                refine g_X4_151 dX4_takesDigit_128  ?_
                refine K_top (show _ = nI s.1 from pmr_k) ?_
                refine K_imulN dX4_takesDigit_131 ?_
                refine K_iconstN 3 dX4_takesDigit_132 rfl ?_
                refine K_iaddN dX4_takesDigit_133 ?_
                refine K_aload_n dX4_takesDigit_134 rfl ?_
                refine g_X4_154 dX4_takesDigit_135  ?_
                refine K_top (show _ = cond (dgI d s) (dgW d s) s.2.1 from pmr_k) ?_
                refine ast19 dX4_takesDigit_138 (by omega) ?_
                refine K_mem pm_ps ?_
                refine K_iload dX4_takesDigit_139 rfl ?_
                exact K_zret (by rfl) dX4_takesDigit_141 ⟨rfl, rfl⟩
          · skip
            refine K_iconstN 0 dX4_takesDigit_85 rfl ?_
            refine K_goto (tgt := 90) dX4_takesDigit_86 (by decide) ?_
            refine K_top (show _ = nI (dgL s) by first | (simp [dgL, c82]; done) | (simp [dgL, c82]; rfl)) ?_
            refine K_iload dX4_takesDigit_90 rfl ?_
            refine k_X4_within (C_X4_within ) (by decide) ml_X4_32 (Nat.le_of_ble_eq_true rfl) dX4_takesDigit_92 ?_
            refine K_ifb_eq (tgt := 102) dX4_takesDigit_95 (by decide) (fun c95 => ?_) (fun c95 => ?_)
            · skip
              refine K_iconstN 0 dX4_takesDigit_102 rfl ?_
              refine K_top (show _ = b2i (dgI d s) by first | (simp [dgI, c68]; done) | (simp [dgI, c68]; rfl) | (simp [dgI, c68, c75]; done) | (simp [dgI, c68, c75]; rfl) | (simp [dgI, c68, c75, c95]; done) | (simp [dgI, c68, c75, c95]; rfl)) ?_
              refine K_istore dX4_takesDigit_103 (by decide) rfl ?_
              refine K_aload_n dX4_takesDigit_105 rfl ?_
              refine K_iload dX4_takesDigit_106 rfl ?_
              refine K_ifb_eq (tgt := 115) dX4_takesDigit_108 (by decide) (fun c108 => ?_) (fun c108 => ?_)
              · skip
                refine K_aload_n dX4_takesDigit_115 rfl ?_
                refine g_X4_154 dX4_takesDigit_116  ?_
                refine K_top (show _ = cond (dgI d s) (dgW d s) s.2.1 by rw [c108]; first | rfl | exact pmr_k) ?_
                refine p_X4_154 dX4_takesDigit_119  ?_
                refine K_mem pm_nu ?_
                refine K_aload_n dX4_takesDigit_122 rfl ?_
                refine g_X4_19 dX4_takesDigit_123  ?_
                refine K_iconstN 4 dX4_takesDigit_126 rfl ?_
                refine K_aload_n dX4_takesDigit_127 rfl ?_
                refine g_X4_151 dX4_takesDigit_128  ?_
                refine K_top (show _ = nI s.1 from pmr_k) ?_
                refine K_imulN dX4_takesDigit_131 ?_
                refine K_iconstN 3 dX4_takesDigit_132 rfl ?_
                refine K_iaddN dX4_takesDigit_133 ?_
                refine K_aload_n dX4_takesDigit_134 rfl ?_
                refine g_X4_154 dX4_takesDigit_135  ?_
                refine K_top (show _ = cond (dgI d s) (dgW d s) s.2.1 from pmr_k) ?_
                refine ast19 dX4_takesDigit_138 (by omega) ?_
                refine K_mem pm_ps ?_
                refine K_iload dX4_takesDigit_139 rfl ?_
                exact K_zret (by rfl) dX4_takesDigit_141 ⟨rfl, rfl⟩
              · skip
                refine K_iload_n dX4_takesDigit_111 rfl ?_
                refine K_goto (tgt := 119) dX4_takesDigit_112 (by decide) ?_
                refine K_top (show _ = cond (dgI d s) (dgW d s) s.2.1 by rw [c108]; first | rfl | exact pmr_k) ?_
                refine p_X4_154 dX4_takesDigit_119  ?_
                refine K_mem pm_nu ?_
                refine K_aload_n dX4_takesDigit_122 rfl ?_
                refine g_X4_19 dX4_takesDigit_123  ?_
                refine K_iconstN 4 dX4_takesDigit_126 rfl ?_
                refine K_aload_n dX4_takesDigit_127 rfl ?_
                refine g_X4_151 dX4_takesDigit_128  ?_
                refine K_top (show _ = nI s.1 from pmr_k) ?_
                refine K_imulN dX4_takesDigit_131 ?_
                refine K_iconstN 3 dX4_takesDigit_132 rfl ?_
                refine K_iaddN dX4_takesDigit_133 ?_
                refine K_aload_n dX4_takesDigit_134 rfl ?_
                refine g_X4_154 dX4_takesDigit_135  ?_
                refine K_top (show _ = cond (dgI d s) (dgW d s) s.2.1 from pmr_k) ?_
                refine ast19 dX4_takesDigit_138 (by omega) ?_
                refine K_mem pm_ps ?_
                refine K_iload dX4_takesDigit_139 rfl ?_
                exact K_zret (by rfl) dX4_takesDigit_141 ⟨rfl, rfl⟩
            · skip
              refine K_iconstN 1 dX4_takesDigit_98 rfl ?_
              refine K_goto (tgt := 103) dX4_takesDigit_99 (by decide) ?_
              refine K_top (show _ = b2i (dgI d s) by first | (simp [dgI, c68]; done) | (simp [dgI, c68]; rfl) | (simp [dgI, c68, c75]; done) | (simp [dgI, c68, c75]; rfl) | (simp [dgI, c68, c75, c95]; done) | (simp [dgI, c68, c75, c95]; rfl)) ?_
              refine K_istore dX4_takesDigit_103 (by decide) rfl ?_
              refine K_aload_n dX4_takesDigit_105 rfl ?_
              refine K_iload dX4_takesDigit_106 rfl ?_
              refine K_ifb_eq (tgt := 115) dX4_takesDigit_108 (by decide) (fun c108 => ?_) (fun c108 => ?_)
              · skip
                refine K_aload_n dX4_takesDigit_115 rfl ?_
                refine g_X4_154 dX4_takesDigit_116  ?_
                refine K_top (show _ = cond (dgI d s) (dgW d s) s.2.1 by rw [c108]; first | rfl | exact pmr_k) ?_
                refine p_X4_154 dX4_takesDigit_119  ?_
                refine K_mem pm_nu ?_
                refine K_aload_n dX4_takesDigit_122 rfl ?_
                refine g_X4_19 dX4_takesDigit_123  ?_
                refine K_iconstN 4 dX4_takesDigit_126 rfl ?_
                refine K_aload_n dX4_takesDigit_127 rfl ?_
                refine g_X4_151 dX4_takesDigit_128  ?_
                refine K_top (show _ = nI s.1 from pmr_k) ?_
                refine K_imulN dX4_takesDigit_131 ?_
                refine K_iconstN 3 dX4_takesDigit_132 rfl ?_
                refine K_iaddN dX4_takesDigit_133 ?_
                refine K_aload_n dX4_takesDigit_134 rfl ?_
                refine g_X4_154 dX4_takesDigit_135  ?_
                refine K_top (show _ = cond (dgI d s) (dgW d s) s.2.1 from pmr_k) ?_
                refine ast19 dX4_takesDigit_138 (by omega) ?_
                refine K_mem pm_ps ?_
                refine K_iload dX4_takesDigit_139 rfl ?_
                exact K_zret (by rfl) dX4_takesDigit_141 ⟨rfl, rfl⟩
              · skip
                refine K_iload_n dX4_takesDigit_111 rfl ?_
                refine K_goto (tgt := 119) dX4_takesDigit_112 (by decide) ?_
                refine K_top (show _ = cond (dgI d s) (dgW d s) s.2.1 by rw [c108]; first | rfl | exact pmr_k) ?_
                refine p_X4_154 dX4_takesDigit_119  ?_
                refine K_mem pm_nu ?_
                refine K_aload_n dX4_takesDigit_122 rfl ?_
                refine g_X4_19 dX4_takesDigit_123  ?_
                refine K_iconstN 4 dX4_takesDigit_126 rfl ?_
                refine K_aload_n dX4_takesDigit_127 rfl ?_
                refine g_X4_151 dX4_takesDigit_128  ?_
                refine K_top (show _ = nI s.1 from pmr_k) ?_
                refine K_imulN dX4_takesDigit_131 ?_
                refine K_iconstN 3 dX4_takesDigit_132 rfl ?_
                refine K_iaddN dX4_takesDigit_133 ?_
                refine K_aload_n dX4_takesDigit_134 rfl ?_
                refine g_X4_154 dX4_takesDigit_135  ?_
                refine K_top (show _ = cond (dgI d s) (dgW d s) s.2.1 from pmr_k) ?_
                refine ast19 dX4_takesDigit_138 (by omega) ?_
                refine K_mem pm_ps ?_
                refine K_iload dX4_takesDigit_139 rfl ?_
                exact K_zret (by rfl) dX4_takesDigit_141 ⟨rfl, rfl⟩
  · skip
    refine K_iload_n dX4_takesDigit_20 rfl ?_
    refine K_goto (tgt := 33) dX4_takesDigit_21 (by decide) ?_
    refine K_top (show _ = dgW d s by first | (simp [dgW, c17]; done) | (simp [dgW, c17]; rfl)) ?_
    refine K_istore_n dX4_takesDigit_33 (by decide) rfl ?_
    refine K_iload_n dX4_takesDigit_34 rfl ?_
    refine K_bipush (v := nI 97) dX4_takesDigit_35 (by decide) ?_
    refine K_icmp_ne (tgt := 46) dX4_takesDigit_37 (by decide) (fun c37 => ?_) (fun c37 => ?_)
    · skip
      refine K_iload_n dX4_takesDigit_46 rfl ?_
      refine K_bipush (v := nI 112) dX4_takesDigit_47 (by decide) ?_
      refine K_icmp_ne (tgt := 57) dX4_takesDigit_49 (by decide) (fun c49 => ?_) (fun c49 => ?_)
      · skip
        refine K_bipush (v := nI 99) dX4_takesDigit_57 (by decide) ?_
        refine K_top (show _ = nI (dgM s) by first | (simp [dgM, nLet, c37]; done) | (simp [dgM, nLet, c37]; rfl) | (simp [dgM, nLet, c37, c49]; done) | (simp [dgM, nLet, c37, c49]; rfl)) ?_
        refine K_istore dX4_takesDigit_59 (by decide) rfl ?_
        refine K_iload_n dX4_takesDigit_61 rfl ?_
        refine K_iconstN 0 dX4_takesDigit_62 rfl ?_
        refine K_bipush (v := nI 9) dX4_takesDigit_63 (by decide) ?_
        refine k_X4_within (C_X4_within ) (by decide) ml_X4_32 (Nat.le_of_ble_eq_true rfl) dX4_takesDigit_65 ?_
        refine K_ifb_eq (tgt := 102) dX4_takesDigit_68 (by decide) (fun c68 => ?_) (fun c68 => ?_)
        · skip
          refine K_iconstN 0 dX4_takesDigit_102 rfl ?_
          refine K_top (show _ = b2i (dgI d s) by first | (simp [dgI, c68]; done) | (simp [dgI, c68]; rfl) | (simp [dgI, c68, c75]; done) | (simp [dgI, c68, c75]; rfl) | (simp [dgI, c68, c75, c95]; done) | (simp [dgI, c68, c75, c95]; rfl)) ?_
          refine K_istore dX4_takesDigit_103 (by decide) rfl ?_
          refine K_aload_n dX4_takesDigit_105 rfl ?_
          refine K_iload dX4_takesDigit_106 rfl ?_
          refine K_ifb_eq (tgt := 115) dX4_takesDigit_108 (by decide) (fun c108 => ?_) (fun c108 => ?_)
          · skip
            refine K_aload_n dX4_takesDigit_115 rfl ?_
            refine g_X4_154 dX4_takesDigit_116  ?_
            refine K_top (show _ = cond (dgI d s) (dgW d s) s.2.1 by rw [c108]; first | rfl | exact pmr_k) ?_
            refine p_X4_154 dX4_takesDigit_119  ?_
            refine K_mem pm_nu ?_
            refine K_aload_n dX4_takesDigit_122 rfl ?_
            refine g_X4_19 dX4_takesDigit_123  ?_
            refine K_iconstN 4 dX4_takesDigit_126 rfl ?_
            refine K_aload_n dX4_takesDigit_127 rfl ?_
            refine g_X4_151 dX4_takesDigit_128  ?_
            refine K_top (show _ = nI s.1 from pmr_k) ?_
            refine K_imulN dX4_takesDigit_131 ?_
            refine K_iconstN 3 dX4_takesDigit_132 rfl ?_
            refine K_iaddN dX4_takesDigit_133 ?_
            refine K_aload_n dX4_takesDigit_134 rfl ?_
            refine g_X4_154 dX4_takesDigit_135  ?_
            refine K_top (show _ = cond (dgI d s) (dgW d s) s.2.1 from pmr_k) ?_
            refine ast19 dX4_takesDigit_138 (by omega) ?_
            refine K_mem pm_ps ?_
            refine K_iload dX4_takesDigit_139 rfl ?_
            exact K_zret (by rfl) dX4_takesDigit_141 ⟨rfl, rfl⟩
          · skip
            refine K_iload_n dX4_takesDigit_111 rfl ?_
            refine K_goto (tgt := 119) dX4_takesDigit_112 (by decide) ?_
            refine K_top (show _ = cond (dgI d s) (dgW d s) s.2.1 by rw [c108]; first | rfl | exact pmr_k) ?_
            refine p_X4_154 dX4_takesDigit_119  ?_
            refine K_mem pm_nu ?_
            refine K_aload_n dX4_takesDigit_122 rfl ?_
            refine g_X4_19 dX4_takesDigit_123  ?_
            refine K_iconstN 4 dX4_takesDigit_126 rfl ?_
            refine K_aload_n dX4_takesDigit_127 rfl ?_
            refine g_X4_151 dX4_takesDigit_128  ?_
            refine K_top (show _ = nI s.1 from pmr_k) ?_
            refine K_imulN dX4_takesDigit_131 ?_
            refine K_iconstN 3 dX4_takesDigit_132 rfl ?_
            refine K_iaddN dX4_takesDigit_133 ?_
            refine K_aload_n dX4_takesDigit_134 rfl ?_
            refine g_X4_154 dX4_takesDigit_135  ?_
            refine K_top (show _ = cond (dgI d s) (dgW d s) s.2.1 from pmr_k) ?_
            refine ast19 dX4_takesDigit_138 (by omega) ?_
            refine K_mem pm_ps ?_
            refine K_iload dX4_takesDigit_139 rfl ?_
            exact K_zret (by rfl) dX4_takesDigit_141 ⟨rfl, rfl⟩
        · skip
          refine K_aload_n dX4_takesDigit_71 rfl ?_
          refine g_X4_154 dX4_takesDigit_72  ?_
          refine K_top (show _ = s.2.1 from pmr_k) ?_
          refine K_if_eq (tgt := 102) dX4_takesDigit_75 (by decide) (fun c75 => ?_) (fun c75 => ?_)
          · skip
            refine K_iconstN 0 dX4_takesDigit_102 rfl ?_
            refine K_top (show _ = b2i (dgI d s) by first | (simp [dgI, c68]; done) | (simp [dgI, c68]; rfl) | (simp [dgI, c68, c75]; done) | (simp [dgI, c68, c75]; rfl) | (simp [dgI, c68, c75, c95]; done) | (simp [dgI, c68, c75, c95]; rfl)) ?_
            refine K_istore dX4_takesDigit_103 (by decide) rfl ?_
            refine K_aload_n dX4_takesDigit_105 rfl ?_
            refine K_iload dX4_takesDigit_106 rfl ?_
            refine K_ifb_eq (tgt := 115) dX4_takesDigit_108 (by decide) (fun c108 => ?_) (fun c108 => ?_)
            · skip
              refine K_aload_n dX4_takesDigit_115 rfl ?_
              refine g_X4_154 dX4_takesDigit_116  ?_
              refine K_top (show _ = cond (dgI d s) (dgW d s) s.2.1 by rw [c108]; first | rfl | exact pmr_k) ?_
              refine p_X4_154 dX4_takesDigit_119  ?_
              refine K_mem pm_nu ?_
              refine K_aload_n dX4_takesDigit_122 rfl ?_
              refine g_X4_19 dX4_takesDigit_123  ?_
              refine K_iconstN 4 dX4_takesDigit_126 rfl ?_
              refine K_aload_n dX4_takesDigit_127 rfl ?_
              refine g_X4_151 dX4_takesDigit_128  ?_
              refine K_top (show _ = nI s.1 from pmr_k) ?_
              refine K_imulN dX4_takesDigit_131 ?_
              refine K_iconstN 3 dX4_takesDigit_132 rfl ?_
              refine K_iaddN dX4_takesDigit_133 ?_
              refine K_aload_n dX4_takesDigit_134 rfl ?_
              refine g_X4_154 dX4_takesDigit_135  ?_
              refine K_top (show _ = cond (dgI d s) (dgW d s) s.2.1 from pmr_k) ?_
              refine ast19 dX4_takesDigit_138 (by omega) ?_
              refine K_mem pm_ps ?_
              refine K_iload dX4_takesDigit_139 rfl ?_
              exact K_zret (by rfl) dX4_takesDigit_141 ⟨rfl, rfl⟩
            · skip
              refine K_iload_n dX4_takesDigit_111 rfl ?_
              refine K_goto (tgt := 119) dX4_takesDigit_112 (by decide) ?_
              refine K_top (show _ = cond (dgI d s) (dgW d s) s.2.1 by rw [c108]; first | rfl | exact pmr_k) ?_
              refine p_X4_154 dX4_takesDigit_119  ?_
              refine K_mem pm_nu ?_
              refine K_aload_n dX4_takesDigit_122 rfl ?_
              refine g_X4_19 dX4_takesDigit_123  ?_
              refine K_iconstN 4 dX4_takesDigit_126 rfl ?_
              refine K_aload_n dX4_takesDigit_127 rfl ?_
              refine g_X4_151 dX4_takesDigit_128  ?_
              refine K_top (show _ = nI s.1 from pmr_k) ?_
              refine K_imulN dX4_takesDigit_131 ?_
              refine K_iconstN 3 dX4_takesDigit_132 rfl ?_
              refine K_iaddN dX4_takesDigit_133 ?_
              refine K_aload_n dX4_takesDigit_134 rfl ?_
              refine g_X4_154 dX4_takesDigit_135  ?_
              refine K_top (show _ = cond (dgI d s) (dgW d s) s.2.1 from pmr_k) ?_
              refine ast19 dX4_takesDigit_138 (by omega) ?_
              refine K_mem pm_ps ?_
              refine K_iload dX4_takesDigit_139 rfl ?_
              exact K_zret (by rfl) dX4_takesDigit_141 ⟨rfl, rfl⟩
          · skip
            refine K_iload_n dX4_takesDigit_78 rfl ?_
            refine K_iload_n dX4_takesDigit_79 rfl ?_
            refine K_bipush (v := nI 97) dX4_takesDigit_80 (by decide) ?_
            refine K_icmp_ne (tgt := 89) dX4_takesDigit_82 (by decide) (fun c82 => ?_) (fun c82 => ?_)
            · skip
              refine K_iconstN 1 dX4_takesDigit_89 rfl ?_
              refine K_top (show _ = nI (dgL s) by first | (simp [dgL, c82]; done) | (simp [dgL, c82]; rfl)) ?_
              refine K_iload dX4_takesDigit_90 rfl ?_
              refine k_X4_within (C_X4_within ) (by decide) ml_X4_32 (Nat.le_of_ble_eq_true rfl) dX4_takesDigit_92 ?_
              refine K_ifb_eq (tgt := 102) dX4_takesDigit_95 (by decide) (fun c95 => ?_) (fun c95 => ?_)
              · skip
                refine K_iconstN 0 dX4_takesDigit_102 rfl ?_
                refine K_top (show _ = b2i (dgI d s) by first | (simp [dgI, c68]; done) | (simp [dgI, c68]; rfl) | (simp [dgI, c68, c75]; done) | (simp [dgI, c68, c75]; rfl) | (simp [dgI, c68, c75, c95]; done) | (simp [dgI, c68, c75, c95]; rfl)) ?_
                refine K_istore dX4_takesDigit_103 (by decide) rfl ?_
                refine K_aload_n dX4_takesDigit_105 rfl ?_
                refine K_iload dX4_takesDigit_106 rfl ?_
                refine K_ifb_eq (tgt := 115) dX4_takesDigit_108 (by decide) (fun c108 => ?_) (fun c108 => ?_)
                · skip
                  refine K_aload_n dX4_takesDigit_115 rfl ?_
                  refine g_X4_154 dX4_takesDigit_116  ?_
                  refine K_top (show _ = cond (dgI d s) (dgW d s) s.2.1 by rw [c108]; first | rfl | exact pmr_k) ?_
                  refine p_X4_154 dX4_takesDigit_119  ?_
                  refine K_mem pm_nu ?_
                  refine K_aload_n dX4_takesDigit_122 rfl ?_
                  refine g_X4_19 dX4_takesDigit_123  ?_
                  refine K_iconstN 4 dX4_takesDigit_126 rfl ?_
                  refine K_aload_n dX4_takesDigit_127 rfl ?_
                  refine g_X4_151 dX4_takesDigit_128  ?_
                  refine K_top (show _ = nI s.1 from pmr_k) ?_
                  refine K_imulN dX4_takesDigit_131 ?_
                  refine K_iconstN 3 dX4_takesDigit_132 rfl ?_
                  refine K_iaddN dX4_takesDigit_133 ?_
                  refine K_aload_n dX4_takesDigit_134 rfl ?_
                  refine g_X4_154 dX4_takesDigit_135  ?_
                  refine K_top (show _ = cond (dgI d s) (dgW d s) s.2.1 from pmr_k) ?_
                  refine ast19 dX4_takesDigit_138 (by omega) ?_
                  refine K_mem pm_ps ?_
                  refine K_iload dX4_takesDigit_139 rfl ?_
                  exact K_zret (by rfl) dX4_takesDigit_141 ⟨rfl, rfl⟩
                · skip
                  refine K_iload_n dX4_takesDigit_111 rfl ?_
                  refine K_goto (tgt := 119) dX4_takesDigit_112 (by decide) ?_
                  refine K_top (show _ = cond (dgI d s) (dgW d s) s.2.1 by rw [c108]; first | rfl | exact pmr_k) ?_
                  refine p_X4_154 dX4_takesDigit_119  ?_
                  refine K_mem pm_nu ?_
                  refine K_aload_n dX4_takesDigit_122 rfl ?_
                  refine g_X4_19 dX4_takesDigit_123  ?_
                  refine K_iconstN 4 dX4_takesDigit_126 rfl ?_
                  refine K_aload_n dX4_takesDigit_127 rfl ?_
                  refine g_X4_151 dX4_takesDigit_128  ?_
                  refine K_top (show _ = nI s.1 from pmr_k) ?_
                  refine K_imulN dX4_takesDigit_131 ?_
                  refine K_iconstN 3 dX4_takesDigit_132 rfl ?_
                  refine K_iaddN dX4_takesDigit_133 ?_
                  refine K_aload_n dX4_takesDigit_134 rfl ?_
                  refine g_X4_154 dX4_takesDigit_135  ?_
                  refine K_top (show _ = cond (dgI d s) (dgW d s) s.2.1 from pmr_k) ?_
                  refine ast19 dX4_takesDigit_138 (by omega) ?_
                  refine K_mem pm_ps ?_
                  refine K_iload dX4_takesDigit_139 rfl ?_
                  exact K_zret (by rfl) dX4_takesDigit_141 ⟨rfl, rfl⟩
              · skip
                refine K_iconstN 1 dX4_takesDigit_98 rfl ?_
                refine K_goto (tgt := 103) dX4_takesDigit_99 (by decide) ?_
                refine K_top (show _ = b2i (dgI d s) by first | (simp [dgI, c68]; done) | (simp [dgI, c68]; rfl) | (simp [dgI, c68, c75]; done) | (simp [dgI, c68, c75]; rfl) | (simp [dgI, c68, c75, c95]; done) | (simp [dgI, c68, c75, c95]; rfl)) ?_
                refine K_istore dX4_takesDigit_103 (by decide) rfl ?_
                refine K_aload_n dX4_takesDigit_105 rfl ?_
                refine K_iload dX4_takesDigit_106 rfl ?_
                refine K_ifb_eq (tgt := 115) dX4_takesDigit_108 (by decide) (fun c108 => ?_) (fun c108 => ?_)
                · skip
                  refine K_aload_n dX4_takesDigit_115 rfl ?_
                  refine g_X4_154 dX4_takesDigit_116  ?_
                  refine K_top (show _ = cond (dgI d s) (dgW d s) s.2.1 by rw [c108]; first | rfl | exact pmr_k) ?_
                  refine p_X4_154 dX4_takesDigit_119  ?_
                  refine K_mem pm_nu ?_
                  refine K_aload_n dX4_takesDigit_122 rfl ?_
                  refine g_X4_19 dX4_takesDigit_123  ?_
                  refine K_iconstN 4 dX4_takesDigit_126 rfl ?_
                  refine K_aload_n dX4_takesDigit_127 rfl ?_
                  refine g_X4_151 dX4_takesDigit_128  ?_
                  refine K_top (show _ = nI s.1 from pmr_k) ?_
                  refine K_imulN dX4_takesDigit_131 ?_
                  refine K_iconstN 3 dX4_takesDigit_132 rfl ?_
                  refine K_iaddN dX4_takesDigit_133 ?_
                  refine K_aload_n dX4_takesDigit_134 rfl ?_
                  refine g_X4_154 dX4_takesDigit_135  ?_
                  refine K_top (show _ = cond (dgI d s) (dgW d s) s.2.1 from pmr_k) ?_
                  refine ast19 dX4_takesDigit_138 (by omega) ?_
                  refine K_mem pm_ps ?_
                  refine K_iload dX4_takesDigit_139 rfl ?_
                  exact K_zret (by rfl) dX4_takesDigit_141 ⟨rfl, rfl⟩
                · skip
                  refine K_iload_n dX4_takesDigit_111 rfl ?_
                  refine K_goto (tgt := 119) dX4_takesDigit_112 (by decide) ?_
                  refine K_top (show _ = cond (dgI d s) (dgW d s) s.2.1 by rw [c108]; first | rfl | exact pmr_k) ?_
                  refine p_X4_154 dX4_takesDigit_119  ?_
                  refine K_mem pm_nu ?_
                  refine K_aload_n dX4_takesDigit_122 rfl ?_
                  refine g_X4_19 dX4_takesDigit_123  ?_
                  refine K_iconstN 4 dX4_takesDigit_126 rfl ?_
                  refine K_aload_n dX4_takesDigit_127 rfl ?_
                  refine g_X4_151 dX4_takesDigit_128  ?_
                  refine K_top (show _ = nI s.1 from pmr_k) ?_
                  refine K_imulN dX4_takesDigit_131 ?_
                  refine K_iconstN 3 dX4_takesDigit_132 rfl ?_
                  refine K_iaddN dX4_takesDigit_133 ?_
                  refine K_aload_n dX4_takesDigit_134 rfl ?_
                  refine g_X4_154 dX4_takesDigit_135  ?_
                  refine K_top (show _ = cond (dgI d s) (dgW d s) s.2.1 from pmr_k) ?_
                  refine ast19 dX4_takesDigit_138 (by omega) ?_
                  refine K_mem pm_ps ?_
                  refine K_iload dX4_takesDigit_139 rfl ?_
                  exact K_zret (by rfl) dX4_takesDigit_141 ⟨rfl, rfl⟩
            · skip
              refine K_iconstN 0 dX4_takesDigit_85 rfl ?_
              refine K_goto (tgt := 90) dX4_takesDigit_86 (by decide) ?_
              refine K_top (show _ = nI (dgL s) by first | (simp [dgL, c82]; done) | (simp [dgL, c82]; rfl)) ?_
              refine K_iload dX4_takesDigit_90 rfl ?_
              refine k_X4_within (C_X4_within ) (by decide) ml_X4_32 (Nat.le_of_ble_eq_true rfl) dX4_takesDigit_92 ?_
              refine K_ifb_eq (tgt := 102) dX4_takesDigit_95 (by decide) (fun c95 => ?_) (fun c95 => ?_)
              · skip
                refine K_iconstN 0 dX4_takesDigit_102 rfl ?_
                refine K_top (show _ = b2i (dgI d s) by first | (simp [dgI, c68]; done) | (simp [dgI, c68]; rfl) | (simp [dgI, c68, c75]; done) | (simp [dgI, c68, c75]; rfl) | (simp [dgI, c68, c75, c95]; done) | (simp [dgI, c68, c75, c95]; rfl)) ?_
                refine K_istore dX4_takesDigit_103 (by decide) rfl ?_
                refine K_aload_n dX4_takesDigit_105 rfl ?_
                refine K_iload dX4_takesDigit_106 rfl ?_
                refine K_ifb_eq (tgt := 115) dX4_takesDigit_108 (by decide) (fun c108 => ?_) (fun c108 => ?_)
                · skip
                  refine K_aload_n dX4_takesDigit_115 rfl ?_
                  refine g_X4_154 dX4_takesDigit_116  ?_
                  refine K_top (show _ = cond (dgI d s) (dgW d s) s.2.1 by rw [c108]; first | rfl | exact pmr_k) ?_
                  refine p_X4_154 dX4_takesDigit_119  ?_
                  refine K_mem pm_nu ?_
                  refine K_aload_n dX4_takesDigit_122 rfl ?_
                  refine g_X4_19 dX4_takesDigit_123  ?_
                  refine K_iconstN 4 dX4_takesDigit_126 rfl ?_
                  refine K_aload_n dX4_takesDigit_127 rfl ?_
                  refine g_X4_151 dX4_takesDigit_128  ?_
                  refine K_top (show _ = nI s.1 from pmr_k) ?_
                  refine K_imulN dX4_takesDigit_131 ?_
                  refine K_iconstN 3 dX4_takesDigit_132 rfl ?_
                  refine K_iaddN dX4_takesDigit_133 ?_
                  refine K_aload_n dX4_takesDigit_134 rfl ?_
                  refine g_X4_154 dX4_takesDigit_135  ?_
                  refine K_top (show _ = cond (dgI d s) (dgW d s) s.2.1 from pmr_k) ?_
                  refine ast19 dX4_takesDigit_138 (by omega) ?_
                  refine K_mem pm_ps ?_
                  refine K_iload dX4_takesDigit_139 rfl ?_
                  exact K_zret (by rfl) dX4_takesDigit_141 ⟨rfl, rfl⟩
                · skip
                  refine K_iload_n dX4_takesDigit_111 rfl ?_
                  refine K_goto (tgt := 119) dX4_takesDigit_112 (by decide) ?_
                  refine K_top (show _ = cond (dgI d s) (dgW d s) s.2.1 by rw [c108]; first | rfl | exact pmr_k) ?_
                  refine p_X4_154 dX4_takesDigit_119  ?_
                  refine K_mem pm_nu ?_
                  refine K_aload_n dX4_takesDigit_122 rfl ?_
                  refine g_X4_19 dX4_takesDigit_123  ?_
                  refine K_iconstN 4 dX4_takesDigit_126 rfl ?_
                  refine K_aload_n dX4_takesDigit_127 rfl ?_
                  refine g_X4_151 dX4_takesDigit_128  ?_
                  refine K_top (show _ = nI s.1 from pmr_k) ?_
                  refine K_imulN dX4_takesDigit_131 ?_
                  refine K_iconstN 3 dX4_takesDigit_132 rfl ?_
                  refine K_iaddN dX4_takesDigit_133 ?_
                  refine K_aload_n dX4_takesDigit_134 rfl ?_
                  refine g_X4_154 dX4_takesDigit_135  ?_
                  refine K_top (show _ = cond (dgI d s) (dgW d s) s.2.1 from pmr_k) ?_
                  refine ast19 dX4_takesDigit_138 (by omega) ?_
                  refine K_mem pm_ps ?_
                  refine K_iload dX4_takesDigit_139 rfl ?_
                  exact K_zret (by rfl) dX4_takesDigit_141 ⟨rfl, rfl⟩
              · skip
                refine K_iconstN 1 dX4_takesDigit_98 rfl ?_
                refine K_goto (tgt := 103) dX4_takesDigit_99 (by decide) ?_
                refine K_top (show _ = b2i (dgI d s) by first | (simp [dgI, c68]; done) | (simp [dgI, c68]; rfl) | (simp [dgI, c68, c75]; done) | (simp [dgI, c68, c75]; rfl) | (simp [dgI, c68, c75, c95]; done) | (simp [dgI, c68, c75, c95]; rfl)) ?_
                refine K_istore dX4_takesDigit_103 (by decide) rfl ?_
                refine K_aload_n dX4_takesDigit_105 rfl ?_
                refine K_iload dX4_takesDigit_106 rfl ?_
                refine K_ifb_eq (tgt := 115) dX4_takesDigit_108 (by decide) (fun c108 => ?_) (fun c108 => ?_)
                · skip
                  refine K_aload_n dX4_takesDigit_115 rfl ?_
                  refine g_X4_154 dX4_takesDigit_116  ?_
                  refine K_top (show _ = cond (dgI d s) (dgW d s) s.2.1 by rw [c108]; first | rfl | exact pmr_k) ?_
                  refine p_X4_154 dX4_takesDigit_119  ?_
                  refine K_mem pm_nu ?_
                  refine K_aload_n dX4_takesDigit_122 rfl ?_
                  refine g_X4_19 dX4_takesDigit_123  ?_
                  refine K_iconstN 4 dX4_takesDigit_126 rfl ?_
                  refine K_aload_n dX4_takesDigit_127 rfl ?_
                  refine g_X4_151 dX4_takesDigit_128  ?_
                  refine K_top (show _ = nI s.1 from pmr_k) ?_
                  refine K_imulN dX4_takesDigit_131 ?_
                  refine K_iconstN 3 dX4_takesDigit_132 rfl ?_
                  refine K_iaddN dX4_takesDigit_133 ?_
                  refine K_aload_n dX4_takesDigit_134 rfl ?_
                  refine g_X4_154 dX4_takesDigit_135  ?_
                  refine K_top (show _ = cond (dgI d s) (dgW d s) s.2.1 from pmr_k) ?_
                  refine ast19 dX4_takesDigit_138 (by omega) ?_
                  refine K_mem pm_ps ?_
                  refine K_iload dX4_takesDigit_139 rfl ?_
                  exact K_zret (by rfl) dX4_takesDigit_141 ⟨rfl, rfl⟩
                · skip
                  refine K_iload_n dX4_takesDigit_111 rfl ?_
                  refine K_goto (tgt := 119) dX4_takesDigit_112 (by decide) ?_
                  refine K_top (show _ = cond (dgI d s) (dgW d s) s.2.1 by rw [c108]; first | rfl | exact pmr_k) ?_
                  refine p_X4_154 dX4_takesDigit_119  ?_
                  refine K_mem pm_nu ?_
                  refine K_aload_n dX4_takesDigit_122 rfl ?_
                  refine g_X4_19 dX4_takesDigit_123  ?_
                  refine K_iconstN 4 dX4_takesDigit_126 rfl ?_
                  refine K_aload_n dX4_takesDigit_127 rfl ?_
                  refine g_X4_151 dX4_takesDigit_128  ?_
                  refine K_top (show _ = nI s.1 from pmr_k) ?_
                  refine K_imulN dX4_takesDigit_131 ?_
                  refine K_iconstN 3 dX4_takesDigit_132 rfl ?_
                  refine K_iaddN dX4_takesDigit_133 ?_
                  refine K_aload_n dX4_takesDigit_134 rfl ?_
                  refine g_X4_154 dX4_takesDigit_135  ?_
                  refine K_top (show _ = cond (dgI d s) (dgW d s) s.2.1 from pmr_k) ?_
                  refine ast19 dX4_takesDigit_138 (by omega) ?_
                  refine K_mem pm_ps ?_
                  refine K_iload dX4_takesDigit_139 rfl ?_
                  exact K_zret (by rfl) dX4_takesDigit_141 ⟨rfl, rfl⟩
      · skip
        refine K_ldc dX4_takesDigit_52 cst_X4_119 ?_
        refine K_goto (tgt := 59) dX4_takesDigit_54 (by decide) ?_
        refine K_top (show _ = nI (dgM s) by first | (simp [dgM, nLet, c37]; done) | (simp [dgM, nLet, c37]; rfl) | (simp [dgM, nLet, c37, c49]; done) | (simp [dgM, nLet, c37, c49]; rfl)) ?_
        refine K_istore dX4_takesDigit_59 (by decide) rfl ?_
        refine K_iload_n dX4_takesDigit_61 rfl ?_
        refine K_iconstN 0 dX4_takesDigit_62 rfl ?_
        refine K_bipush (v := nI 9) dX4_takesDigit_63 (by decide) ?_
        refine k_X4_within (C_X4_within ) (by decide) ml_X4_32 (Nat.le_of_ble_eq_true rfl) dX4_takesDigit_65 ?_
        refine K_ifb_eq (tgt := 102) dX4_takesDigit_68 (by decide) (fun c68 => ?_) (fun c68 => ?_)
        · skip
          refine K_iconstN 0 dX4_takesDigit_102 rfl ?_
          refine K_top (show _ = b2i (dgI d s) by first | (simp [dgI, c68]; done) | (simp [dgI, c68]; rfl) | (simp [dgI, c68, c75]; done) | (simp [dgI, c68, c75]; rfl) | (simp [dgI, c68, c75, c95]; done) | (simp [dgI, c68, c75, c95]; rfl)) ?_
          refine K_istore dX4_takesDigit_103 (by decide) rfl ?_
          refine K_aload_n dX4_takesDigit_105 rfl ?_
          refine K_iload dX4_takesDigit_106 rfl ?_
          refine K_ifb_eq (tgt := 115) dX4_takesDigit_108 (by decide) (fun c108 => ?_) (fun c108 => ?_)
          · skip
            refine K_aload_n dX4_takesDigit_115 rfl ?_
            refine g_X4_154 dX4_takesDigit_116  ?_
            refine K_top (show _ = cond (dgI d s) (dgW d s) s.2.1 by rw [c108]; first | rfl | exact pmr_k) ?_
            refine p_X4_154 dX4_takesDigit_119  ?_
            refine K_mem pm_nu ?_
            refine K_aload_n dX4_takesDigit_122 rfl ?_
            refine g_X4_19 dX4_takesDigit_123  ?_
            refine K_iconstN 4 dX4_takesDigit_126 rfl ?_
            refine K_aload_n dX4_takesDigit_127 rfl ?_
            refine g_X4_151 dX4_takesDigit_128  ?_
            refine K_top (show _ = nI s.1 from pmr_k) ?_
            refine K_imulN dX4_takesDigit_131 ?_
            refine K_iconstN 3 dX4_takesDigit_132 rfl ?_
            refine K_iaddN dX4_takesDigit_133 ?_
            refine K_aload_n dX4_takesDigit_134 rfl ?_
            refine g_X4_154 dX4_takesDigit_135  ?_
            refine K_top (show _ = cond (dgI d s) (dgW d s) s.2.1 from pmr_k) ?_
            refine ast19 dX4_takesDigit_138 (by omega) ?_
            refine K_mem pm_ps ?_
            refine K_iload dX4_takesDigit_139 rfl ?_
            exact K_zret (by rfl) dX4_takesDigit_141 ⟨rfl, rfl⟩
          · skip
            refine K_iload_n dX4_takesDigit_111 rfl ?_
            refine K_goto (tgt := 119) dX4_takesDigit_112 (by decide) ?_
            refine K_top (show _ = cond (dgI d s) (dgW d s) s.2.1 by rw [c108]; first | rfl | exact pmr_k) ?_
            refine p_X4_154 dX4_takesDigit_119  ?_
            refine K_mem pm_nu ?_
            refine K_aload_n dX4_takesDigit_122 rfl ?_
            refine g_X4_19 dX4_takesDigit_123  ?_
            refine K_iconstN 4 dX4_takesDigit_126 rfl ?_
            refine K_aload_n dX4_takesDigit_127 rfl ?_
            refine g_X4_151 dX4_takesDigit_128  ?_
            refine K_top (show _ = nI s.1 from pmr_k) ?_
            refine K_imulN dX4_takesDigit_131 ?_
            refine K_iconstN 3 dX4_takesDigit_132 rfl ?_
            refine K_iaddN dX4_takesDigit_133 ?_
            refine K_aload_n dX4_takesDigit_134 rfl ?_
            refine g_X4_154 dX4_takesDigit_135  ?_
            refine K_top (show _ = cond (dgI d s) (dgW d s) s.2.1 from pmr_k) ?_
            refine ast19 dX4_takesDigit_138 (by omega) ?_
            refine K_mem pm_ps ?_
            refine K_iload dX4_takesDigit_139 rfl ?_
            exact K_zret (by rfl) dX4_takesDigit_141 ⟨rfl, rfl⟩
        · skip
          refine K_aload_n dX4_takesDigit_71 rfl ?_
          refine g_X4_154 dX4_takesDigit_72  ?_
          refine K_top (show _ = s.2.1 from pmr_k) ?_
          refine K_if_eq (tgt := 102) dX4_takesDigit_75 (by decide) (fun c75 => ?_) (fun c75 => ?_)
          · skip
            refine K_iconstN 0 dX4_takesDigit_102 rfl ?_
            refine K_top (show _ = b2i (dgI d s) by first | (simp [dgI, c68]; done) | (simp [dgI, c68]; rfl) | (simp [dgI, c68, c75]; done) | (simp [dgI, c68, c75]; rfl) | (simp [dgI, c68, c75, c95]; done) | (simp [dgI, c68, c75, c95]; rfl)) ?_
            refine K_istore dX4_takesDigit_103 (by decide) rfl ?_
            refine K_aload_n dX4_takesDigit_105 rfl ?_
            refine K_iload dX4_takesDigit_106 rfl ?_
            refine K_ifb_eq (tgt := 115) dX4_takesDigit_108 (by decide) (fun c108 => ?_) (fun c108 => ?_)
            · skip
              refine K_aload_n dX4_takesDigit_115 rfl ?_
              refine g_X4_154 dX4_takesDigit_116  ?_
              refine K_top (show _ = cond (dgI d s) (dgW d s) s.2.1 by rw [c108]; first | rfl | exact pmr_k) ?_
              refine p_X4_154 dX4_takesDigit_119  ?_
              refine K_mem pm_nu ?_
              refine K_aload_n dX4_takesDigit_122 rfl ?_
              refine g_X4_19 dX4_takesDigit_123  ?_
              refine K_iconstN 4 dX4_takesDigit_126 rfl ?_
              refine K_aload_n dX4_takesDigit_127 rfl ?_
              refine g_X4_151 dX4_takesDigit_128  ?_
              refine K_top (show _ = nI s.1 from pmr_k) ?_
              refine K_imulN dX4_takesDigit_131 ?_
              refine K_iconstN 3 dX4_takesDigit_132 rfl ?_
              refine K_iaddN dX4_takesDigit_133 ?_
              refine K_aload_n dX4_takesDigit_134 rfl ?_
              refine g_X4_154 dX4_takesDigit_135  ?_
              refine K_top (show _ = cond (dgI d s) (dgW d s) s.2.1 from pmr_k) ?_
              refine ast19 dX4_takesDigit_138 (by omega) ?_
              refine K_mem pm_ps ?_
              refine K_iload dX4_takesDigit_139 rfl ?_
              exact K_zret (by rfl) dX4_takesDigit_141 ⟨rfl, rfl⟩
            · skip
              refine K_iload_n dX4_takesDigit_111 rfl ?_
              refine K_goto (tgt := 119) dX4_takesDigit_112 (by decide) ?_
              refine K_top (show _ = cond (dgI d s) (dgW d s) s.2.1 by rw [c108]; first | rfl | exact pmr_k) ?_
              refine p_X4_154 dX4_takesDigit_119  ?_
              refine K_mem pm_nu ?_
              refine K_aload_n dX4_takesDigit_122 rfl ?_
              refine g_X4_19 dX4_takesDigit_123  ?_
              refine K_iconstN 4 dX4_takesDigit_126 rfl ?_
              refine K_aload_n dX4_takesDigit_127 rfl ?_
              refine g_X4_151 dX4_takesDigit_128  ?_
              refine K_top (show _ = nI s.1 from pmr_k) ?_
              refine K_imulN dX4_takesDigit_131 ?_
              refine K_iconstN 3 dX4_takesDigit_132 rfl ?_
              refine K_iaddN dX4_takesDigit_133 ?_
              refine K_aload_n dX4_takesDigit_134 rfl ?_
              refine g_X4_154 dX4_takesDigit_135  ?_
              refine K_top (show _ = cond (dgI d s) (dgW d s) s.2.1 from pmr_k) ?_
              refine ast19 dX4_takesDigit_138 (by omega) ?_
              refine K_mem pm_ps ?_
              refine K_iload dX4_takesDigit_139 rfl ?_
              exact K_zret (by rfl) dX4_takesDigit_141 ⟨rfl, rfl⟩
          · skip
            refine K_iload_n dX4_takesDigit_78 rfl ?_
            refine K_iload_n dX4_takesDigit_79 rfl ?_
            refine K_bipush (v := nI 97) dX4_takesDigit_80 (by decide) ?_
            refine K_icmp_ne (tgt := 89) dX4_takesDigit_82 (by decide) (fun c82 => ?_) (fun c82 => ?_)
            · skip
              refine K_iconstN 1 dX4_takesDigit_89 rfl ?_
              refine K_top (show _ = nI (dgL s) by first | (simp [dgL, c82]; done) | (simp [dgL, c82]; rfl)) ?_
              refine K_iload dX4_takesDigit_90 rfl ?_
              refine k_X4_within (C_X4_within ) (by decide) ml_X4_32 (Nat.le_of_ble_eq_true rfl) dX4_takesDigit_92 ?_
              refine K_ifb_eq (tgt := 102) dX4_takesDigit_95 (by decide) (fun c95 => ?_) (fun c95 => ?_)
              · skip
                refine K_iconstN 0 dX4_takesDigit_102 rfl ?_
                refine K_top (show _ = b2i (dgI d s) by first | (simp [dgI, c68]; done) | (simp [dgI, c68]; rfl) | (simp [dgI, c68, c75]; done) | (simp [dgI, c68, c75]; rfl) | (simp [dgI, c68, c75, c95]; done) | (simp [dgI, c68, c75, c95]; rfl)) ?_
                refine K_istore dX4_takesDigit_103 (by decide) rfl ?_
                refine K_aload_n dX4_takesDigit_105 rfl ?_
                refine K_iload dX4_takesDigit_106 rfl ?_
                refine K_ifb_eq (tgt := 115) dX4_takesDigit_108 (by decide) (fun c108 => ?_) (fun c108 => ?_)
                · skip
                  refine K_aload_n dX4_takesDigit_115 rfl ?_
                  refine g_X4_154 dX4_takesDigit_116  ?_
                  refine K_top (show _ = cond (dgI d s) (dgW d s) s.2.1 by rw [c108]; first | rfl | exact pmr_k) ?_
                  refine p_X4_154 dX4_takesDigit_119  ?_
                  refine K_mem pm_nu ?_
                  refine K_aload_n dX4_takesDigit_122 rfl ?_
                  refine g_X4_19 dX4_takesDigit_123  ?_
                  refine K_iconstN 4 dX4_takesDigit_126 rfl ?_
                  refine K_aload_n dX4_takesDigit_127 rfl ?_
                  refine g_X4_151 dX4_takesDigit_128  ?_
                  refine K_top (show _ = nI s.1 from pmr_k) ?_
                  refine K_imulN dX4_takesDigit_131 ?_
                  refine K_iconstN 3 dX4_takesDigit_132 rfl ?_
                  refine K_iaddN dX4_takesDigit_133 ?_
                  refine K_aload_n dX4_takesDigit_134 rfl ?_
                  refine g_X4_154 dX4_takesDigit_135  ?_
                  refine K_top (show _ = cond (dgI d s) (dgW d s) s.2.1 from pmr_k) ?_
                  refine ast19 dX4_takesDigit_138 (by omega) ?_
                  refine K_mem pm_ps ?_
                  refine K_iload dX4_takesDigit_139 rfl ?_
                  exact K_zret (by rfl) dX4_takesDigit_141 ⟨rfl, rfl⟩
                · skip
                  refine K_iload_n dX4_takesDigit_111 rfl ?_
                  refine K_goto (tgt := 119) dX4_takesDigit_112 (by decide) ?_
                  refine K_top (show _ = cond (dgI d s) (dgW d s) s.2.1 by rw [c108]; first | rfl | exact pmr_k) ?_
                  refine p_X4_154 dX4_takesDigit_119  ?_
                  refine K_mem pm_nu ?_
                  refine K_aload_n dX4_takesDigit_122 rfl ?_
                  refine g_X4_19 dX4_takesDigit_123  ?_
                  refine K_iconstN 4 dX4_takesDigit_126 rfl ?_
                  refine K_aload_n dX4_takesDigit_127 rfl ?_
                  refine g_X4_151 dX4_takesDigit_128  ?_
                  refine K_top (show _ = nI s.1 from pmr_k) ?_
                  refine K_imulN dX4_takesDigit_131 ?_
                  refine K_iconstN 3 dX4_takesDigit_132 rfl ?_
                  refine K_iaddN dX4_takesDigit_133 ?_
                  refine K_aload_n dX4_takesDigit_134 rfl ?_
                  refine g_X4_154 dX4_takesDigit_135  ?_
                  refine K_top (show _ = cond (dgI d s) (dgW d s) s.2.1 from pmr_k) ?_
                  refine ast19 dX4_takesDigit_138 (by omega) ?_
                  refine K_mem pm_ps ?_
                  refine K_iload dX4_takesDigit_139 rfl ?_
                  exact K_zret (by rfl) dX4_takesDigit_141 ⟨rfl, rfl⟩
              · skip
                refine K_iconstN 1 dX4_takesDigit_98 rfl ?_
                refine K_goto (tgt := 103) dX4_takesDigit_99 (by decide) ?_
                refine K_top (show _ = b2i (dgI d s) by first | (simp [dgI, c68]; done) | (simp [dgI, c68]; rfl) | (simp [dgI, c68, c75]; done) | (simp [dgI, c68, c75]; rfl) | (simp [dgI, c68, c75, c95]; done) | (simp [dgI, c68, c75, c95]; rfl)) ?_
                refine K_istore dX4_takesDigit_103 (by decide) rfl ?_
                refine K_aload_n dX4_takesDigit_105 rfl ?_
                refine K_iload dX4_takesDigit_106 rfl ?_
                refine K_ifb_eq (tgt := 115) dX4_takesDigit_108 (by decide) (fun c108 => ?_) (fun c108 => ?_)
                · skip
                  refine K_aload_n dX4_takesDigit_115 rfl ?_
                  refine g_X4_154 dX4_takesDigit_116  ?_
                  refine K_top (show _ = cond (dgI d s) (dgW d s) s.2.1 by rw [c108]; first | rfl | exact pmr_k) ?_
                  refine p_X4_154 dX4_takesDigit_119  ?_
                  refine K_mem pm_nu ?_
                  refine K_aload_n dX4_takesDigit_122 rfl ?_
                  refine g_X4_19 dX4_takesDigit_123  ?_
                  refine K_iconstN 4 dX4_takesDigit_126 rfl ?_
                  refine K_aload_n dX4_takesDigit_127 rfl ?_
                  refine g_X4_151 dX4_takesDigit_128  ?_
                  refine K_top (show _ = nI s.1 from pmr_k) ?_
                  refine K_imulN dX4_takesDigit_131 ?_
                  refine K_iconstN 3 dX4_takesDigit_132 rfl ?_
                  refine K_iaddN dX4_takesDigit_133 ?_
                  refine K_aload_n dX4_takesDigit_134 rfl ?_
                  refine g_X4_154 dX4_takesDigit_135  ?_
                  refine K_top (show _ = cond (dgI d s) (dgW d s) s.2.1 from pmr_k) ?_
                  refine ast19 dX4_takesDigit_138 (by omega) ?_
                  refine K_mem pm_ps ?_
                  refine K_iload dX4_takesDigit_139 rfl ?_
                  exact K_zret (by rfl) dX4_takesDigit_141 ⟨rfl, rfl⟩
                · skip
                  refine K_iload_n dX4_takesDigit_111 rfl ?_
                  refine K_goto (tgt := 119) dX4_takesDigit_112 (by decide) ?_
                  refine K_top (show _ = cond (dgI d s) (dgW d s) s.2.1 by rw [c108]; first | rfl | exact pmr_k) ?_
                  refine p_X4_154 dX4_takesDigit_119  ?_
                  refine K_mem pm_nu ?_
                  refine K_aload_n dX4_takesDigit_122 rfl ?_
                  refine g_X4_19 dX4_takesDigit_123  ?_
                  refine K_iconstN 4 dX4_takesDigit_126 rfl ?_
                  refine K_aload_n dX4_takesDigit_127 rfl ?_
                  refine g_X4_151 dX4_takesDigit_128  ?_
                  refine K_top (show _ = nI s.1 from pmr_k) ?_
                  refine K_imulN dX4_takesDigit_131 ?_
                  refine K_iconstN 3 dX4_takesDigit_132 rfl ?_
                  refine K_iaddN dX4_takesDigit_133 ?_
                  refine K_aload_n dX4_takesDigit_134 rfl ?_
                  refine g_X4_154 dX4_takesDigit_135  ?_
                  refine K_top (show _ = cond (dgI d s) (dgW d s) s.2.1 from pmr_k) ?_
                  refine ast19 dX4_takesDigit_138 (by omega) ?_
                  refine K_mem pm_ps ?_
                  refine K_iload dX4_takesDigit_139 rfl ?_
                  exact K_zret (by rfl) dX4_takesDigit_141 ⟨rfl, rfl⟩
            · skip
              refine K_iconstN 0 dX4_takesDigit_85 rfl ?_
              refine K_goto (tgt := 90) dX4_takesDigit_86 (by decide) ?_
              refine K_top (show _ = nI (dgL s) by first | (simp [dgL, c82]; done) | (simp [dgL, c82]; rfl)) ?_
              refine K_iload dX4_takesDigit_90 rfl ?_
              refine k_X4_within (C_X4_within ) (by decide) ml_X4_32 (Nat.le_of_ble_eq_true rfl) dX4_takesDigit_92 ?_
              refine K_ifb_eq (tgt := 102) dX4_takesDigit_95 (by decide) (fun c95 => ?_) (fun c95 => ?_)
              · skip
                refine K_iconstN 0 dX4_takesDigit_102 rfl ?_
                refine K_top (show _ = b2i (dgI d s) by first | (simp [dgI, c68]; done) | (simp [dgI, c68]; rfl) | (simp [dgI, c68, c75]; done) | (simp [dgI, c68, c75]; rfl) | (simp [dgI, c68, c75, c95]; done) | (simp [dgI, c68, c75, c95]; rfl)) ?_
                refine K_istore dX4_takesDigit_103 (by decide) rfl ?_
                refine K_aload_n dX4_takesDigit_105 rfl ?_
                refine K_iload dX4_takesDigit_106 rfl ?_
                refine K_ifb_eq (tgt := 115) dX4_takesDigit_108 (by decide) (fun c108 => ?_) (fun c108 => ?_)
                · skip
                  refine K_aload_n dX4_takesDigit_115 rfl ?_
                  refine g_X4_154 dX4_takesDigit_116  ?_
                  refine K_top (show _ = cond (dgI d s) (dgW d s) s.2.1 by rw [c108]; first | rfl | exact pmr_k) ?_
                  refine p_X4_154 dX4_takesDigit_119  ?_
                  refine K_mem pm_nu ?_
                  refine K_aload_n dX4_takesDigit_122 rfl ?_
                  refine g_X4_19 dX4_takesDigit_123  ?_
                  refine K_iconstN 4 dX4_takesDigit_126 rfl ?_
                  refine K_aload_n dX4_takesDigit_127 rfl ?_
                  refine g_X4_151 dX4_takesDigit_128  ?_
                  refine K_top (show _ = nI s.1 from pmr_k) ?_
                  refine K_imulN dX4_takesDigit_131 ?_
                  refine K_iconstN 3 dX4_takesDigit_132 rfl ?_
                  refine K_iaddN dX4_takesDigit_133 ?_
                  refine K_aload_n dX4_takesDigit_134 rfl ?_
                  refine g_X4_154 dX4_takesDigit_135  ?_
                  refine K_top (show _ = cond (dgI d s) (dgW d s) s.2.1 from pmr_k) ?_
                  refine ast19 dX4_takesDigit_138 (by omega) ?_
                  refine K_mem pm_ps ?_
                  refine K_iload dX4_takesDigit_139 rfl ?_
                  exact K_zret (by rfl) dX4_takesDigit_141 ⟨rfl, rfl⟩
                · skip
                  refine K_iload_n dX4_takesDigit_111 rfl ?_
                  refine K_goto (tgt := 119) dX4_takesDigit_112 (by decide) ?_
                  refine K_top (show _ = cond (dgI d s) (dgW d s) s.2.1 by rw [c108]; first | rfl | exact pmr_k) ?_
                  refine p_X4_154 dX4_takesDigit_119  ?_
                  refine K_mem pm_nu ?_
                  refine K_aload_n dX4_takesDigit_122 rfl ?_
                  refine g_X4_19 dX4_takesDigit_123  ?_
                  refine K_iconstN 4 dX4_takesDigit_126 rfl ?_
                  refine K_aload_n dX4_takesDigit_127 rfl ?_
                  refine g_X4_151 dX4_takesDigit_128  ?_
                  refine K_top (show _ = nI s.1 from pmr_k) ?_
                  refine K_imulN dX4_takesDigit_131 ?_
                  refine K_iconstN 3 dX4_takesDigit_132 rfl ?_
                  refine K_iaddN dX4_takesDigit_133 ?_
                  refine K_aload_n dX4_takesDigit_134 rfl ?_
                  refine g_X4_154 dX4_takesDigit_135  ?_
                  refine K_top (show _ = cond (dgI d s) (dgW d s) s.2.1 from pmr_k) ?_
                  refine ast19 dX4_takesDigit_138 (by omega) ?_
                  refine K_mem pm_ps ?_
                  refine K_iload dX4_takesDigit_139 rfl ?_
                  exact K_zret (by rfl) dX4_takesDigit_141 ⟨rfl, rfl⟩
              · skip
                refine K_iconstN 1 dX4_takesDigit_98 rfl ?_
                refine K_goto (tgt := 103) dX4_takesDigit_99 (by decide) ?_
                refine K_top (show _ = b2i (dgI d s) by first | (simp [dgI, c68]; done) | (simp [dgI, c68]; rfl) | (simp [dgI, c68, c75]; done) | (simp [dgI, c68, c75]; rfl) | (simp [dgI, c68, c75, c95]; done) | (simp [dgI, c68, c75, c95]; rfl)) ?_
                refine K_istore dX4_takesDigit_103 (by decide) rfl ?_
                refine K_aload_n dX4_takesDigit_105 rfl ?_
                refine K_iload dX4_takesDigit_106 rfl ?_
                refine K_ifb_eq (tgt := 115) dX4_takesDigit_108 (by decide) (fun c108 => ?_) (fun c108 => ?_)
                · skip
                  refine K_aload_n dX4_takesDigit_115 rfl ?_
                  refine g_X4_154 dX4_takesDigit_116  ?_
                  refine K_top (show _ = cond (dgI d s) (dgW d s) s.2.1 by rw [c108]; first | rfl | exact pmr_k) ?_
                  refine p_X4_154 dX4_takesDigit_119  ?_
                  refine K_mem pm_nu ?_
                  refine K_aload_n dX4_takesDigit_122 rfl ?_
                  refine g_X4_19 dX4_takesDigit_123  ?_
                  refine K_iconstN 4 dX4_takesDigit_126 rfl ?_
                  refine K_aload_n dX4_takesDigit_127 rfl ?_
                  refine g_X4_151 dX4_takesDigit_128  ?_
                  refine K_top (show _ = nI s.1 from pmr_k) ?_
                  refine K_imulN dX4_takesDigit_131 ?_
                  refine K_iconstN 3 dX4_takesDigit_132 rfl ?_
                  refine K_iaddN dX4_takesDigit_133 ?_
                  refine K_aload_n dX4_takesDigit_134 rfl ?_
                  refine g_X4_154 dX4_takesDigit_135  ?_
                  refine K_top (show _ = cond (dgI d s) (dgW d s) s.2.1 from pmr_k) ?_
                  refine ast19 dX4_takesDigit_138 (by omega) ?_
                  refine K_mem pm_ps ?_
                  refine K_iload dX4_takesDigit_139 rfl ?_
                  exact K_zret (by rfl) dX4_takesDigit_141 ⟨rfl, rfl⟩
                · skip
                  refine K_iload_n dX4_takesDigit_111 rfl ?_
                  refine K_goto (tgt := 119) dX4_takesDigit_112 (by decide) ?_
                  refine K_top (show _ = cond (dgI d s) (dgW d s) s.2.1 by rw [c108]; first | rfl | exact pmr_k) ?_
                  refine p_X4_154 dX4_takesDigit_119  ?_
                  refine K_mem pm_nu ?_
                  refine K_aload_n dX4_takesDigit_122 rfl ?_
                  refine g_X4_19 dX4_takesDigit_123  ?_
                  refine K_iconstN 4 dX4_takesDigit_126 rfl ?_
                  refine K_aload_n dX4_takesDigit_127 rfl ?_
                  refine g_X4_151 dX4_takesDigit_128  ?_
                  refine K_top (show _ = nI s.1 from pmr_k) ?_
                  refine K_imulN dX4_takesDigit_131 ?_
                  refine K_iconstN 3 dX4_takesDigit_132 rfl ?_
                  refine K_iaddN dX4_takesDigit_133 ?_
                  refine K_aload_n dX4_takesDigit_134 rfl ?_
                  refine g_X4_154 dX4_takesDigit_135  ?_
                  refine K_top (show _ = cond (dgI d s) (dgW d s) s.2.1 from pmr_k) ?_
                  refine ast19 dX4_takesDigit_138 (by omega) ?_
                  refine K_mem pm_ps ?_
                  refine K_iload dX4_takesDigit_139 rfl ?_
                  exact K_zret (by rfl) dX4_takesDigit_141 ⟨rfl, rfl⟩
    · skip
      refine K_sipush (v := nI 999) dX4_takesDigit_40 (by decide) ?_
      refine K_goto (tgt := 59) dX4_takesDigit_43 (by decide) ?_
      refine K_top (show _ = nI (dgM s) by first | (simp [dgM, nLet, c37]; done) | (simp [dgM, nLet, c37]; rfl) | (simp [dgM, nLet, c37, c49]; done) | (simp [dgM, nLet, c37, c49]; rfl)) ?_
      refine K_istore dX4_takesDigit_59 (by decide) rfl ?_
      refine K_iload_n dX4_takesDigit_61 rfl ?_
      refine K_iconstN 0 dX4_takesDigit_62 rfl ?_
      refine K_bipush (v := nI 9) dX4_takesDigit_63 (by decide) ?_
      refine k_X4_within (C_X4_within ) (by decide) ml_X4_32 (Nat.le_of_ble_eq_true rfl) dX4_takesDigit_65 ?_
      refine K_ifb_eq (tgt := 102) dX4_takesDigit_68 (by decide) (fun c68 => ?_) (fun c68 => ?_)
      · skip
        refine K_iconstN 0 dX4_takesDigit_102 rfl ?_
        refine K_top (show _ = b2i (dgI d s) by first | (simp [dgI, c68]; done) | (simp [dgI, c68]; rfl) | (simp [dgI, c68, c75]; done) | (simp [dgI, c68, c75]; rfl) | (simp [dgI, c68, c75, c95]; done) | (simp [dgI, c68, c75, c95]; rfl)) ?_
        refine K_istore dX4_takesDigit_103 (by decide) rfl ?_
        refine K_aload_n dX4_takesDigit_105 rfl ?_
        refine K_iload dX4_takesDigit_106 rfl ?_
        refine K_ifb_eq (tgt := 115) dX4_takesDigit_108 (by decide) (fun c108 => ?_) (fun c108 => ?_)
        · skip
          refine K_aload_n dX4_takesDigit_115 rfl ?_
          refine g_X4_154 dX4_takesDigit_116  ?_
          refine K_top (show _ = cond (dgI d s) (dgW d s) s.2.1 by rw [c108]; first | rfl | exact pmr_k) ?_
          refine p_X4_154 dX4_takesDigit_119  ?_
          refine K_mem pm_nu ?_
          refine K_aload_n dX4_takesDigit_122 rfl ?_
          refine g_X4_19 dX4_takesDigit_123  ?_
          refine K_iconstN 4 dX4_takesDigit_126 rfl ?_
          refine K_aload_n dX4_takesDigit_127 rfl ?_
          refine g_X4_151 dX4_takesDigit_128  ?_
          refine K_top (show _ = nI s.1 from pmr_k) ?_
          refine K_imulN dX4_takesDigit_131 ?_
          refine K_iconstN 3 dX4_takesDigit_132 rfl ?_
          refine K_iaddN dX4_takesDigit_133 ?_
          refine K_aload_n dX4_takesDigit_134 rfl ?_
          refine g_X4_154 dX4_takesDigit_135  ?_
          refine K_top (show _ = cond (dgI d s) (dgW d s) s.2.1 from pmr_k) ?_
          refine ast19 dX4_takesDigit_138 (by omega) ?_
          refine K_mem pm_ps ?_
          refine K_iload dX4_takesDigit_139 rfl ?_
          exact K_zret (by rfl) dX4_takesDigit_141 ⟨rfl, rfl⟩
        · skip
          refine K_iload_n dX4_takesDigit_111 rfl ?_
          refine K_goto (tgt := 119) dX4_takesDigit_112 (by decide) ?_
          refine K_top (show _ = cond (dgI d s) (dgW d s) s.2.1 by rw [c108]; first | rfl | exact pmr_k) ?_
          refine p_X4_154 dX4_takesDigit_119  ?_
          refine K_mem pm_nu ?_
          refine K_aload_n dX4_takesDigit_122 rfl ?_
          refine g_X4_19 dX4_takesDigit_123  ?_
          refine K_iconstN 4 dX4_takesDigit_126 rfl ?_
          refine K_aload_n dX4_takesDigit_127 rfl ?_
          refine g_X4_151 dX4_takesDigit_128  ?_
          refine K_top (show _ = nI s.1 from pmr_k) ?_
          refine K_imulN dX4_takesDigit_131 ?_
          refine K_iconstN 3 dX4_takesDigit_132 rfl ?_
          refine K_iaddN dX4_takesDigit_133 ?_
          refine K_aload_n dX4_takesDigit_134 rfl ?_
          refine g_X4_154 dX4_takesDigit_135  ?_
          refine K_top (show _ = cond (dgI d s) (dgW d s) s.2.1 from pmr_k) ?_
          refine ast19 dX4_takesDigit_138 (by omega) ?_
          refine K_mem pm_ps ?_
          refine K_iload dX4_takesDigit_139 rfl ?_
          exact K_zret (by rfl) dX4_takesDigit_141 ⟨rfl, rfl⟩
      · skip
        refine K_aload_n dX4_takesDigit_71 rfl ?_
        refine g_X4_154 dX4_takesDigit_72  ?_
        refine K_top (show _ = s.2.1 from pmr_k) ?_
        refine K_if_eq (tgt := 102) dX4_takesDigit_75 (by decide) (fun c75 => ?_) (fun c75 => ?_)
        · skip
          refine K_iconstN 0 dX4_takesDigit_102 rfl ?_
          refine K_top (show _ = b2i (dgI d s) by first | (simp [dgI, c68]; done) | (simp [dgI, c68]; rfl) | (simp [dgI, c68, c75]; done) | (simp [dgI, c68, c75]; rfl) | (simp [dgI, c68, c75, c95]; done) | (simp [dgI, c68, c75, c95]; rfl)) ?_
          refine K_istore dX4_takesDigit_103 (by decide) rfl ?_
          refine K_aload_n dX4_takesDigit_105 rfl ?_
          refine K_iload dX4_takesDigit_106 rfl ?_
          refine K_ifb_eq (tgt := 115) dX4_takesDigit_108 (by decide) (fun c108 => ?_) (fun c108 => ?_)
          · skip
            refine K_aload_n dX4_takesDigit_115 rfl ?_
            refine g_X4_154 dX4_takesDigit_116  ?_
            refine K_top (show _ = cond (dgI d s) (dgW d s) s.2.1 by rw [c108]; first | rfl | exact pmr_k) ?_
            refine p_X4_154 dX4_takesDigit_119  ?_
            refine K_mem pm_nu ?_
            refine K_aload_n dX4_takesDigit_122 rfl ?_
            refine g_X4_19 dX4_takesDigit_123  ?_
            refine K_iconstN 4 dX4_takesDigit_126 rfl ?_
            refine K_aload_n dX4_takesDigit_127 rfl ?_
            refine g_X4_151 dX4_takesDigit_128  ?_
            refine K_top (show _ = nI s.1 from pmr_k) ?_
            refine K_imulN dX4_takesDigit_131 ?_
            refine K_iconstN 3 dX4_takesDigit_132 rfl ?_
            refine K_iaddN dX4_takesDigit_133 ?_
            refine K_aload_n dX4_takesDigit_134 rfl ?_
            refine g_X4_154 dX4_takesDigit_135  ?_
            refine K_top (show _ = cond (dgI d s) (dgW d s) s.2.1 from pmr_k) ?_
            refine ast19 dX4_takesDigit_138 (by omega) ?_
            refine K_mem pm_ps ?_
            refine K_iload dX4_takesDigit_139 rfl ?_
            exact K_zret (by rfl) dX4_takesDigit_141 ⟨rfl, rfl⟩
          · skip
            refine K_iload_n dX4_takesDigit_111 rfl ?_
            refine K_goto (tgt := 119) dX4_takesDigit_112 (by decide) ?_
            refine K_top (show _ = cond (dgI d s) (dgW d s) s.2.1 by rw [c108]; first | rfl | exact pmr_k) ?_
            refine p_X4_154 dX4_takesDigit_119  ?_
            refine K_mem pm_nu ?_
            refine K_aload_n dX4_takesDigit_122 rfl ?_
            refine g_X4_19 dX4_takesDigit_123  ?_
            refine K_iconstN 4 dX4_takesDigit_126 rfl ?_
            refine K_aload_n dX4_takesDigit_127 rfl ?_
            refine g_X4_151 dX4_takesDigit_128  ?_
            refine K_top (show _ = nI s.1 from pmr_k) ?_
            refine K_imulN dX4_takesDigit_131 ?_
            refine K_iconstN 3 dX4_takesDigit_132 rfl ?_
            refine K_iaddN dX4_takesDigit_133 ?_
            refine K_aload_n dX4_takesDigit_134 rfl ?_
            refine g_X4_154 dX4_takesDigit_135  ?_
            refine K_top (show _ = cond (dgI d s) (dgW d s) s.2.1 from pmr_k) ?_
            refine ast19 dX4_takesDigit_138 (by omega) ?_
            refine K_mem pm_ps ?_
            refine K_iload dX4_takesDigit_139 rfl ?_
            exact K_zret (by rfl) dX4_takesDigit_141 ⟨rfl, rfl⟩
        · skip
          refine K_iload_n dX4_takesDigit_78 rfl ?_
          refine K_iload_n dX4_takesDigit_79 rfl ?_
          refine K_bipush (v := nI 97) dX4_takesDigit_80 (by decide) ?_
          refine K_icmp_ne (tgt := 89) dX4_takesDigit_82 (by decide) (fun c82 => ?_) (fun c82 => ?_)
          · skip
            refine K_iconstN 1 dX4_takesDigit_89 rfl ?_
            refine K_top (show _ = nI (dgL s) by first | (simp [dgL, c82]; done) | (simp [dgL, c82]; rfl)) ?_
            refine K_iload dX4_takesDigit_90 rfl ?_
            refine k_X4_within (C_X4_within ) (by decide) ml_X4_32 (Nat.le_of_ble_eq_true rfl) dX4_takesDigit_92 ?_
            refine K_ifb_eq (tgt := 102) dX4_takesDigit_95 (by decide) (fun c95 => ?_) (fun c95 => ?_)
            · skip
              refine K_iconstN 0 dX4_takesDigit_102 rfl ?_
              refine K_top (show _ = b2i (dgI d s) by first | (simp [dgI, c68]; done) | (simp [dgI, c68]; rfl) | (simp [dgI, c68, c75]; done) | (simp [dgI, c68, c75]; rfl) | (simp [dgI, c68, c75, c95]; done) | (simp [dgI, c68, c75, c95]; rfl)) ?_
              refine K_istore dX4_takesDigit_103 (by decide) rfl ?_
              refine K_aload_n dX4_takesDigit_105 rfl ?_
              refine K_iload dX4_takesDigit_106 rfl ?_
              refine K_ifb_eq (tgt := 115) dX4_takesDigit_108 (by decide) (fun c108 => ?_) (fun c108 => ?_)
              · skip
                refine K_aload_n dX4_takesDigit_115 rfl ?_
                refine g_X4_154 dX4_takesDigit_116  ?_
                refine K_top (show _ = cond (dgI d s) (dgW d s) s.2.1 by rw [c108]; first | rfl | exact pmr_k) ?_
                refine p_X4_154 dX4_takesDigit_119  ?_
                refine K_mem pm_nu ?_
                refine K_aload_n dX4_takesDigit_122 rfl ?_
                refine g_X4_19 dX4_takesDigit_123  ?_
                refine K_iconstN 4 dX4_takesDigit_126 rfl ?_
                refine K_aload_n dX4_takesDigit_127 rfl ?_
                refine g_X4_151 dX4_takesDigit_128  ?_
                refine K_top (show _ = nI s.1 from pmr_k) ?_
                refine K_imulN dX4_takesDigit_131 ?_
                refine K_iconstN 3 dX4_takesDigit_132 rfl ?_
                refine K_iaddN dX4_takesDigit_133 ?_
                refine K_aload_n dX4_takesDigit_134 rfl ?_
                refine g_X4_154 dX4_takesDigit_135  ?_
                refine K_top (show _ = cond (dgI d s) (dgW d s) s.2.1 from pmr_k) ?_
                refine ast19 dX4_takesDigit_138 (by omega) ?_
                refine K_mem pm_ps ?_
                refine K_iload dX4_takesDigit_139 rfl ?_
                exact K_zret (by rfl) dX4_takesDigit_141 ⟨rfl, rfl⟩
              · skip
                refine K_iload_n dX4_takesDigit_111 rfl ?_
                refine K_goto (tgt := 119) dX4_takesDigit_112 (by decide) ?_
                refine K_top (show _ = cond (dgI d s) (dgW d s) s.2.1 by rw [c108]; first | rfl | exact pmr_k) ?_
                refine p_X4_154 dX4_takesDigit_119  ?_
                refine K_mem pm_nu ?_
                refine K_aload_n dX4_takesDigit_122 rfl ?_
                refine g_X4_19 dX4_takesDigit_123  ?_
                refine K_iconstN 4 dX4_takesDigit_126 rfl ?_
                refine K_aload_n dX4_takesDigit_127 rfl ?_
                refine g_X4_151 dX4_takesDigit_128  ?_
                refine K_top (show _ = nI s.1 from pmr_k) ?_
                refine K_imulN dX4_takesDigit_131 ?_
                refine K_iconstN 3 dX4_takesDigit_132 rfl ?_
                refine K_iaddN dX4_takesDigit_133 ?_
                refine K_aload_n dX4_takesDigit_134 rfl ?_
                refine g_X4_154 dX4_takesDigit_135  ?_
                refine K_top (show _ = cond (dgI d s) (dgW d s) s.2.1 from pmr_k) ?_
                refine ast19 dX4_takesDigit_138 (by omega) ?_
                refine K_mem pm_ps ?_
                refine K_iload dX4_takesDigit_139 rfl ?_
                exact K_zret (by rfl) dX4_takesDigit_141 ⟨rfl, rfl⟩
            · skip
              refine K_iconstN 1 dX4_takesDigit_98 rfl ?_
              refine K_goto (tgt := 103) dX4_takesDigit_99 (by decide) ?_
              refine K_top (show _ = b2i (dgI d s) by first | (simp [dgI, c68]; done) | (simp [dgI, c68]; rfl) | (simp [dgI, c68, c75]; done) | (simp [dgI, c68, c75]; rfl) | (simp [dgI, c68, c75, c95]; done) | (simp [dgI, c68, c75, c95]; rfl)) ?_
              refine K_istore dX4_takesDigit_103 (by decide) rfl ?_
              refine K_aload_n dX4_takesDigit_105 rfl ?_
              refine K_iload dX4_takesDigit_106 rfl ?_
              refine K_ifb_eq (tgt := 115) dX4_takesDigit_108 (by decide) (fun c108 => ?_) (fun c108 => ?_)
              · skip
                refine K_aload_n dX4_takesDigit_115 rfl ?_
                refine g_X4_154 dX4_takesDigit_116  ?_
                refine K_top (show _ = cond (dgI d s) (dgW d s) s.2.1 by rw [c108]; first | rfl | exact pmr_k) ?_
                refine p_X4_154 dX4_takesDigit_119  ?_
                refine K_mem pm_nu ?_
                refine K_aload_n dX4_takesDigit_122 rfl ?_
                refine g_X4_19 dX4_takesDigit_123  ?_
                refine K_iconstN 4 dX4_takesDigit_126 rfl ?_
                refine K_aload_n dX4_takesDigit_127 rfl ?_
                refine g_X4_151 dX4_takesDigit_128  ?_
                refine K_top (show _ = nI s.1 from pmr_k) ?_
                refine K_imulN dX4_takesDigit_131 ?_
                refine K_iconstN 3 dX4_takesDigit_132 rfl ?_
                refine K_iaddN dX4_takesDigit_133 ?_
                refine K_aload_n dX4_takesDigit_134 rfl ?_
                refine g_X4_154 dX4_takesDigit_135  ?_
                refine K_top (show _ = cond (dgI d s) (dgW d s) s.2.1 from pmr_k) ?_
                refine ast19 dX4_takesDigit_138 (by omega) ?_
                refine K_mem pm_ps ?_
                refine K_iload dX4_takesDigit_139 rfl ?_
                exact K_zret (by rfl) dX4_takesDigit_141 ⟨rfl, rfl⟩
              · skip
                refine K_iload_n dX4_takesDigit_111 rfl ?_
                refine K_goto (tgt := 119) dX4_takesDigit_112 (by decide) ?_
                refine K_top (show _ = cond (dgI d s) (dgW d s) s.2.1 by rw [c108]; first | rfl | exact pmr_k) ?_
                refine p_X4_154 dX4_takesDigit_119  ?_
                refine K_mem pm_nu ?_
                refine K_aload_n dX4_takesDigit_122 rfl ?_
                refine g_X4_19 dX4_takesDigit_123  ?_
                refine K_iconstN 4 dX4_takesDigit_126 rfl ?_
                refine K_aload_n dX4_takesDigit_127 rfl ?_
                refine g_X4_151 dX4_takesDigit_128  ?_
                refine K_top (show _ = nI s.1 from pmr_k) ?_
                refine K_imulN dX4_takesDigit_131 ?_
                refine K_iconstN 3 dX4_takesDigit_132 rfl ?_
                refine K_iaddN dX4_takesDigit_133 ?_
                refine K_aload_n dX4_takesDigit_134 rfl ?_
                refine g_X4_154 dX4_takesDigit_135  ?_
                refine K_top (show _ = cond (dgI d s) (dgW d s) s.2.1 from pmr_k) ?_
                refine ast19 dX4_takesDigit_138 (by omega) ?_
                refine K_mem pm_ps ?_
                refine K_iload dX4_takesDigit_139 rfl ?_
                exact K_zret (by rfl) dX4_takesDigit_141 ⟨rfl, rfl⟩
          · skip
            refine K_iconstN 0 dX4_takesDigit_85 rfl ?_
            refine K_goto (tgt := 90) dX4_takesDigit_86 (by decide) ?_
            refine K_top (show _ = nI (dgL s) by first | (simp [dgL, c82]; done) | (simp [dgL, c82]; rfl)) ?_
            refine K_iload dX4_takesDigit_90 rfl ?_
            refine k_X4_within (C_X4_within ) (by decide) ml_X4_32 (Nat.le_of_ble_eq_true rfl) dX4_takesDigit_92 ?_
            refine K_ifb_eq (tgt := 102) dX4_takesDigit_95 (by decide) (fun c95 => ?_) (fun c95 => ?_)
            · skip
              refine K_iconstN 0 dX4_takesDigit_102 rfl ?_
              refine K_top (show _ = b2i (dgI d s) by first | (simp [dgI, c68]; done) | (simp [dgI, c68]; rfl) | (simp [dgI, c68, c75]; done) | (simp [dgI, c68, c75]; rfl) | (simp [dgI, c68, c75, c95]; done) | (simp [dgI, c68, c75, c95]; rfl)) ?_
              refine K_istore dX4_takesDigit_103 (by decide) rfl ?_
              refine K_aload_n dX4_takesDigit_105 rfl ?_
              refine K_iload dX4_takesDigit_106 rfl ?_
              refine K_ifb_eq (tgt := 115) dX4_takesDigit_108 (by decide) (fun c108 => ?_) (fun c108 => ?_)
              · skip
                refine K_aload_n dX4_takesDigit_115 rfl ?_
                refine g_X4_154 dX4_takesDigit_116  ?_
                refine K_top (show _ = cond (dgI d s) (dgW d s) s.2.1 by rw [c108]; first | rfl | exact pmr_k) ?_
                refine p_X4_154 dX4_takesDigit_119  ?_
                refine K_mem pm_nu ?_
                refine K_aload_n dX4_takesDigit_122 rfl ?_
                refine g_X4_19 dX4_takesDigit_123  ?_
                refine K_iconstN 4 dX4_takesDigit_126 rfl ?_
                refine K_aload_n dX4_takesDigit_127 rfl ?_
                refine g_X4_151 dX4_takesDigit_128  ?_
                refine K_top (show _ = nI s.1 from pmr_k) ?_
                refine K_imulN dX4_takesDigit_131 ?_
                refine K_iconstN 3 dX4_takesDigit_132 rfl ?_
                refine K_iaddN dX4_takesDigit_133 ?_
                refine K_aload_n dX4_takesDigit_134 rfl ?_
                refine g_X4_154 dX4_takesDigit_135  ?_
                refine K_top (show _ = cond (dgI d s) (dgW d s) s.2.1 from pmr_k) ?_
                refine ast19 dX4_takesDigit_138 (by omega) ?_
                refine K_mem pm_ps ?_
                refine K_iload dX4_takesDigit_139 rfl ?_
                exact K_zret (by rfl) dX4_takesDigit_141 ⟨rfl, rfl⟩
              · skip
                refine K_iload_n dX4_takesDigit_111 rfl ?_
                refine K_goto (tgt := 119) dX4_takesDigit_112 (by decide) ?_
                refine K_top (show _ = cond (dgI d s) (dgW d s) s.2.1 by rw [c108]; first | rfl | exact pmr_k) ?_
                refine p_X4_154 dX4_takesDigit_119  ?_
                refine K_mem pm_nu ?_
                refine K_aload_n dX4_takesDigit_122 rfl ?_
                refine g_X4_19 dX4_takesDigit_123  ?_
                refine K_iconstN 4 dX4_takesDigit_126 rfl ?_
                refine K_aload_n dX4_takesDigit_127 rfl ?_
                refine g_X4_151 dX4_takesDigit_128  ?_
                refine K_top (show _ = nI s.1 from pmr_k) ?_
                refine K_imulN dX4_takesDigit_131 ?_
                refine K_iconstN 3 dX4_takesDigit_132 rfl ?_
                refine K_iaddN dX4_takesDigit_133 ?_
                refine K_aload_n dX4_takesDigit_134 rfl ?_
                refine g_X4_154 dX4_takesDigit_135  ?_
                refine K_top (show _ = cond (dgI d s) (dgW d s) s.2.1 from pmr_k) ?_
                refine ast19 dX4_takesDigit_138 (by omega) ?_
                refine K_mem pm_ps ?_
                refine K_iload dX4_takesDigit_139 rfl ?_
                exact K_zret (by rfl) dX4_takesDigit_141 ⟨rfl, rfl⟩
            · skip
              refine K_iconstN 1 dX4_takesDigit_98 rfl ?_
              refine K_goto (tgt := 103) dX4_takesDigit_99 (by decide) ?_
              refine K_top (show _ = b2i (dgI d s) by first | (simp [dgI, c68]; done) | (simp [dgI, c68]; rfl) | (simp [dgI, c68, c75]; done) | (simp [dgI, c68, c75]; rfl) | (simp [dgI, c68, c75, c95]; done) | (simp [dgI, c68, c75, c95]; rfl)) ?_
              refine K_istore dX4_takesDigit_103 (by decide) rfl ?_
              refine K_aload_n dX4_takesDigit_105 rfl ?_
              refine K_iload dX4_takesDigit_106 rfl ?_
              refine K_ifb_eq (tgt := 115) dX4_takesDigit_108 (by decide) (fun c108 => ?_) (fun c108 => ?_)
              · skip
                refine K_aload_n dX4_takesDigit_115 rfl ?_
                refine g_X4_154 dX4_takesDigit_116  ?_
                refine K_top (show _ = cond (dgI d s) (dgW d s) s.2.1 by rw [c108]; first | rfl | exact pmr_k) ?_
                refine p_X4_154 dX4_takesDigit_119  ?_
                refine K_mem pm_nu ?_
                refine K_aload_n dX4_takesDigit_122 rfl ?_
                refine g_X4_19 dX4_takesDigit_123  ?_
                refine K_iconstN 4 dX4_takesDigit_126 rfl ?_
                refine K_aload_n dX4_takesDigit_127 rfl ?_
                refine g_X4_151 dX4_takesDigit_128  ?_
                refine K_top (show _ = nI s.1 from pmr_k) ?_
                refine K_imulN dX4_takesDigit_131 ?_
                refine K_iconstN 3 dX4_takesDigit_132 rfl ?_
                refine K_iaddN dX4_takesDigit_133 ?_
                refine K_aload_n dX4_takesDigit_134 rfl ?_
                refine g_X4_154 dX4_takesDigit_135  ?_
                refine K_top (show _ = cond (dgI d s) (dgW d s) s.2.1 from pmr_k) ?_
                refine ast19 dX4_takesDigit_138 (by omega) ?_
                refine K_mem pm_ps ?_
                refine K_iload dX4_takesDigit_139 rfl ?_
                exact K_zret (by rfl) dX4_takesDigit_141 ⟨rfl, rfl⟩
              · skip
                refine K_iload_n dX4_takesDigit_111 rfl ?_
                refine K_goto (tgt := 119) dX4_takesDigit_112 (by decide) ?_
                refine K_top (show _ = cond (dgI d s) (dgW d s) s.2.1 by rw [c108]; first | rfl | exact pmr_k) ?_
                refine p_X4_154 dX4_takesDigit_119  ?_
                refine K_mem pm_nu ?_
                refine K_aload_n dX4_takesDigit_122 rfl ?_
                refine g_X4_19 dX4_takesDigit_123  ?_
                refine K_iconstN 4 dX4_takesDigit_126 rfl ?_
                refine K_aload_n dX4_takesDigit_127 rfl ?_
                refine g_X4_151 dX4_takesDigit_128  ?_
                refine K_top (show _ = nI s.1 from pmr_k) ?_
                refine K_imulN dX4_takesDigit_131 ?_
                refine K_iconstN 3 dX4_takesDigit_132 rfl ?_
                refine K_iaddN dX4_takesDigit_133 ?_
                refine K_aload_n dX4_takesDigit_134 rfl ?_
                refine g_X4_154 dX4_takesDigit_135  ?_
                refine K_top (show _ = cond (dgI d s) (dgW d s) s.2.1 from pmr_k) ?_
                refine ast19 dX4_takesDigit_138 (by omega) ?_
                refine K_mem pm_ps ?_
                refine K_iload dX4_takesDigit_139 rfl ?_
                exact K_zret (by rfl) dX4_takesDigit_141 ⟨rfl, rfl⟩

set_option maxHeartbeats 4000000 in
set_option maxRecDepth 100000 in
theorem C_X4_takesNext0 {l : Launch} {G : WG} {μ : Mem} {rd : Nat} {nu : Int32} {ps : Nat → Int32} (hs : rd ≤ 20) {c : Int32} : Ct l G 3 yX4_takesNext cX4_takesNext 2 (some .boolean) [.ref (adr G 15 0 0), .int (c)] (pmr μ (rd, nu, 0, ps)) (some (.int (b2i (tkNext c (rd, nu, 0, ps)).1))) (pmr μ (tkNext c (rd, nu, 0, ps)).2) := by
  refine Ct_of (by decide +kernel) (Nat.le_of_ble_eq_true rfl) ?_
  refine K_iload_n dX4_takesNext_0 rfl ?_
  refine K_bipush (v := nI 59) dX4_takesNext_1 (by decide) ?_
  refine K_icmp_ne (tgt := 30) dX4_takesNext_3 (by decide) (fun c3 => ?_) (fun c3 => ?_)
  · skip
    refine K_aload_n dX4_takesNext_30 rfl ?_
    refine g_X4_157 dX4_takesNext_31  ?_
    refine K_top (show _ = nI 0 from pmr_k) ?_
    refine K_tableIn (tgt := 68) dX4_takesNext_34 (by decide) (by decide) rfl (by decide) ?_
    refine K_aload_n dX4_takesNext_68 rfl ?_
    refine K_iload_n dX4_takesNext_69 rfl ?_
    refine k_X4_beginsOrder (C_X4_beginsOrder (s := (rd, nu, 0, ps)) hs) (by decide)  ml_X4_164 (Nat.le_of_ble_eq_true rfl) dX4_takesNext_70 ?_
    have e : (decide (c = nI 59) && isEnd (rd, nu, 0, ps)) = false := by simp [c3]
    exact K_zret (b := (tkNext c (rd, nu, 0, ps)).1) (by simp only [tkNext, e, cond_false] <;> rfl) dX4_takesNext_73 ⟨rfl, by simp only [tkNext, e, cond_false]⟩
  · skip
    refine K_aload_n dX4_takesNext_6 rfl ?_
    refine k_X4_isEnded (C_X4_isEnded (s := (rd, nu, 0, ps)) (show (0 : Nat) ≤ 5 by decide)) (by decide)  ml_X4_160 (Nat.le_of_ble_eq_true rfl) dX4_takesNext_7 ?_
    refine K_ifb_eq (tgt := 30) dX4_takesNext_10 (by decide) (fun c10 => ?_) (fun c10 => ?_)
    · skip
      refine K_aload_n dX4_takesNext_30 rfl ?_
      refine g_X4_157 dX4_takesNext_31  ?_
      refine K_top (show _ = nI 0 from pmr_k) ?_
      refine K_tableIn (tgt := 68) dX4_takesNext_34 (by decide) (by decide) rfl (by decide) ?_
      refine K_aload_n dX4_takesNext_68 rfl ?_
      refine K_iload_n dX4_takesNext_69 rfl ?_
      refine k_X4_beginsOrder (C_X4_beginsOrder (s := (rd, nu, 0, ps)) hs) (by decide)  ml_X4_164 (Nat.le_of_ble_eq_true rfl) dX4_takesNext_70 ?_
      have e : (decide (c = nI 59) && isEnd (rd, nu, 0, ps)) = false := by simp [c10]
      exact K_zret (b := (tkNext c (rd, nu, 0, ps)).1) (by simp only [tkNext, e, cond_false] <;> rfl) dX4_takesNext_73 ⟨rfl, by simp only [tkNext, e, cond_false]⟩
    · skip
      refine K_aload_n dX4_takesNext_13 rfl ?_
      refine K_dup dX4_takesNext_14 rfl ?_
      refine g_X4_151 dX4_takesNext_15  ?_
      refine K_top (show _ = nI rd from pmr_k) ?_
      refine K_iconstN 1 dX4_takesNext_18 rfl ?_
      refine K_iaddN dX4_takesNext_19 ?_
      refine p_X4_151 dX4_takesNext_20  ?_
      refine K_mem pm_rd ?_
      refine K_aload_n dX4_takesNext_23 rfl ?_
      refine K_iconstN 0 dX4_takesNext_24 rfl ?_
      refine p_X4_157 dX4_takesNext_25  ?_
      refine K_mem pm_du ?_
      refine K_iconstN 1 dX4_takesNext_28 rfl ?_
      have e : (decide (c = nI 59) && isEnd (rd, nu, 0, ps)) = true := by simp [c3, c10]
      exact K_zret (b := true) rfl dX4_takesNext_29 ⟨by simp only [tkNext, e, cond_true], by simp only [tkNext, e, cond_true]⟩

set_option maxHeartbeats 4000000 in
set_option maxRecDepth 100000 in
theorem C_X4_takesNext1 {l : Launch} {G : WG} {μ : Mem} {rd : Nat} {nu : Int32} {ps : Nat → Int32} (hs : rd ≤ 20) {c : Int32} : Ct l G 3 yX4_takesNext cX4_takesNext 2 (some .boolean) [.ref (adr G 15 0 0), .int (c)] (pmr μ (rd, nu, 1, ps)) (some (.int (b2i (tkNext c (rd, nu, 1, ps)).1))) (pmr μ (tkNext c (rd, nu, 1, ps)).2) := by
  refine Ct_of (by decide +kernel) (Nat.le_of_ble_eq_true rfl) ?_
  refine K_iload_n dX4_takesNext_0 rfl ?_
  refine K_bipush (v := nI 59) dX4_takesNext_1 (by decide) ?_
  refine K_icmp_ne (tgt := 30) dX4_takesNext_3 (by decide) (fun c3 => ?_) (fun c3 => ?_)
  · skip
    refine K_aload_n dX4_takesNext_30 rfl ?_
    refine g_X4_157 dX4_takesNext_31  ?_
    refine K_top (show _ = nI 1 from pmr_k) ?_
    refine K_tableIn (tgt := 74) dX4_takesNext_34 (by decide) (by decide) rfl (by decide) ?_
    refine K_aload_n dX4_takesNext_74 rfl ?_
    refine K_iload_n dX4_takesNext_75 rfl ?_
    refine k_X4_takesPhase (C_X4_takesPhase (s := (rd, nu, 1, ps)) hs) (by decide)  ml_X4_167 (Nat.le_of_ble_eq_true rfl) dX4_takesNext_76 ?_
    have e : (decide (c = nI 59) && isEnd (rd, nu, 1, ps)) = false := by simp [c3]
    exact K_zret (b := (tkNext c (rd, nu, 1, ps)).1) (by simp only [tkNext, e, cond_false] <;> rfl) dX4_takesNext_79 ⟨rfl, by simp only [tkNext, e, cond_false]⟩
  · skip
    refine K_aload_n dX4_takesNext_6 rfl ?_
    refine k_X4_isEnded (C_X4_isEnded (s := (rd, nu, 1, ps)) (show (1 : Nat) ≤ 5 by decide)) (by decide)  ml_X4_160 (Nat.le_of_ble_eq_true rfl) dX4_takesNext_7 ?_
    refine K_ifb_eq (tgt := 30) dX4_takesNext_10 (by decide) (fun c10 => ?_) (fun c10 => ?_)
    · skip
      refine K_aload_n dX4_takesNext_30 rfl ?_
      refine g_X4_157 dX4_takesNext_31  ?_
      refine K_top (show _ = nI 1 from pmr_k) ?_
      refine K_tableIn (tgt := 74) dX4_takesNext_34 (by decide) (by decide) rfl (by decide) ?_
      refine K_aload_n dX4_takesNext_74 rfl ?_
      refine K_iload_n dX4_takesNext_75 rfl ?_
      refine k_X4_takesPhase (C_X4_takesPhase (s := (rd, nu, 1, ps)) hs) (by decide)  ml_X4_167 (Nat.le_of_ble_eq_true rfl) dX4_takesNext_76 ?_
      have e : (decide (c = nI 59) && isEnd (rd, nu, 1, ps)) = false := by simp [c10]
      exact K_zret (b := (tkNext c (rd, nu, 1, ps)).1) (by simp only [tkNext, e, cond_false] <;> rfl) dX4_takesNext_79 ⟨rfl, by simp only [tkNext, e, cond_false]⟩
    · skip
      refine K_aload_n dX4_takesNext_13 rfl ?_
      refine K_dup dX4_takesNext_14 rfl ?_
      refine g_X4_151 dX4_takesNext_15  ?_
      refine K_top (show _ = nI rd from pmr_k) ?_
      refine K_iconstN 1 dX4_takesNext_18 rfl ?_
      refine K_iaddN dX4_takesNext_19 ?_
      refine p_X4_151 dX4_takesNext_20  ?_
      refine K_mem pm_rd ?_
      refine K_aload_n dX4_takesNext_23 rfl ?_
      refine K_iconstN 0 dX4_takesNext_24 rfl ?_
      refine p_X4_157 dX4_takesNext_25  ?_
      refine K_mem pm_du ?_
      refine K_iconstN 1 dX4_takesNext_28 rfl ?_
      have e : (decide (c = nI 59) && isEnd (rd, nu, 1, ps)) = true := by simp [c3, c10]
      exact K_zret (b := true) rfl dX4_takesNext_29 ⟨by simp only [tkNext, e, cond_true], by simp only [tkNext, e, cond_true]⟩

set_option maxHeartbeats 4000000 in
set_option maxRecDepth 100000 in
theorem C_X4_takesNext2 {l : Launch} {G : WG} {μ : Mem} {rd : Nat} {nu : Int32} {ps : Nat → Int32} (hs : rd ≤ 20) {c : Int32} : Ct l G 3 yX4_takesNext cX4_takesNext 2 (some .boolean) [.ref (adr G 15 0 0), .int (c)] (pmr μ (rd, nu, 2, ps)) (some (.int (b2i (tkNext c (rd, nu, 2, ps)).1))) (pmr μ (tkNext c (rd, nu, 2, ps)).2) := by
  refine Ct_of (by decide +kernel) (Nat.le_of_ble_eq_true rfl) ?_
  refine K_iload_n dX4_takesNext_0 rfl ?_
  refine K_bipush (v := nI 59) dX4_takesNext_1 (by decide) ?_
  refine K_icmp_ne (tgt := 30) dX4_takesNext_3 (by decide) (fun c3 => ?_) (fun c3 => ?_)
  · skip
    refine K_aload_n dX4_takesNext_30 rfl ?_
    refine g_X4_157 dX4_takesNext_31  ?_
    refine K_top (show _ = nI 2 from pmr_k) ?_
    refine K_tableIn (tgt := 80) dX4_takesNext_34 (by decide) (by decide) rfl (by decide) ?_
    refine K_aload_n dX4_takesNext_80 rfl ?_
    refine K_iload_n dX4_takesNext_81 rfl ?_
    refine k_X4_takesUse (C_X4_takesUse (s := (rd, nu, 2, ps)) hs) (by decide)  ml_X4_170 (Nat.le_of_ble_eq_true rfl) dX4_takesNext_82 ?_
    have e : (decide (c = nI 59) && isEnd (rd, nu, 2, ps)) = false := by simp [c3]
    exact K_zret (b := (tkNext c (rd, nu, 2, ps)).1) (by simp only [tkNext, e, cond_false] <;> rfl) dX4_takesNext_85 ⟨rfl, by simp only [tkNext, e, cond_false]⟩
  · skip
    refine K_aload_n dX4_takesNext_6 rfl ?_
    refine k_X4_isEnded (C_X4_isEnded (s := (rd, nu, 2, ps)) (show (2 : Nat) ≤ 5 by decide)) (by decide)  ml_X4_160 (Nat.le_of_ble_eq_true rfl) dX4_takesNext_7 ?_
    refine K_ifb_eq (tgt := 30) dX4_takesNext_10 (by decide) (fun c10 => ?_) (fun c10 => ?_)
    · skip
      refine K_aload_n dX4_takesNext_30 rfl ?_
      refine g_X4_157 dX4_takesNext_31  ?_
      refine K_top (show _ = nI 2 from pmr_k) ?_
      refine K_tableIn (tgt := 80) dX4_takesNext_34 (by decide) (by decide) rfl (by decide) ?_
      refine K_aload_n dX4_takesNext_80 rfl ?_
      refine K_iload_n dX4_takesNext_81 rfl ?_
      refine k_X4_takesUse (C_X4_takesUse (s := (rd, nu, 2, ps)) hs) (by decide)  ml_X4_170 (Nat.le_of_ble_eq_true rfl) dX4_takesNext_82 ?_
      have e : (decide (c = nI 59) && isEnd (rd, nu, 2, ps)) = false := by simp [c10]
      exact K_zret (b := (tkNext c (rd, nu, 2, ps)).1) (by simp only [tkNext, e, cond_false] <;> rfl) dX4_takesNext_85 ⟨rfl, by simp only [tkNext, e, cond_false]⟩
    · skip
      refine K_aload_n dX4_takesNext_13 rfl ?_
      refine K_dup dX4_takesNext_14 rfl ?_
      refine g_X4_151 dX4_takesNext_15  ?_
      refine K_top (show _ = nI rd from pmr_k) ?_
      refine K_iconstN 1 dX4_takesNext_18 rfl ?_
      refine K_iaddN dX4_takesNext_19 ?_
      refine p_X4_151 dX4_takesNext_20  ?_
      refine K_mem pm_rd ?_
      refine K_aload_n dX4_takesNext_23 rfl ?_
      refine K_iconstN 0 dX4_takesNext_24 rfl ?_
      refine p_X4_157 dX4_takesNext_25  ?_
      refine K_mem pm_du ?_
      refine K_iconstN 1 dX4_takesNext_28 rfl ?_
      have e : (decide (c = nI 59) && isEnd (rd, nu, 2, ps)) = true := by simp [c3, c10]
      exact K_zret (b := true) rfl dX4_takesNext_29 ⟨by simp only [tkNext, e, cond_true], by simp only [tkNext, e, cond_true]⟩

set_option maxHeartbeats 4000000 in
set_option maxRecDepth 100000 in
theorem C_X4_takesNext3 {l : Launch} {G : WG} {μ : Mem} {rd : Nat} {nu : Int32} {ps : Nat → Int32} (hs : rd ≤ 20) {c : Int32} : Ct l G 3 yX4_takesNext cX4_takesNext 2 (some .boolean) [.ref (adr G 15 0 0), .int (c)] (pmr μ (rd, nu, 3, ps)) (some (.int (b2i (tkNext c (rd, nu, 3, ps)).1))) (pmr μ (tkNext c (rd, nu, 3, ps)).2) := by
  refine Ct_of (by decide +kernel) (Nat.le_of_ble_eq_true rfl) ?_
  refine K_iload_n dX4_takesNext_0 rfl ?_
  refine K_bipush (v := nI 59) dX4_takesNext_1 (by decide) ?_
  refine K_icmp_ne (tgt := 30) dX4_takesNext_3 (by decide) (fun c3 => ?_) (fun c3 => ?_)
  · skip
    refine K_aload_n dX4_takesNext_30 rfl ?_
    refine g_X4_157 dX4_takesNext_31  ?_
    refine K_top (show _ = nI 3 from pmr_k) ?_
    refine K_tableIn (tgt := 86) dX4_takesNext_34 (by decide) (by decide) rfl (by decide) ?_
    refine K_aload_n dX4_takesNext_86 rfl ?_
    refine K_iconstN 4 dX4_takesNext_87 rfl ?_
    refine p_X4_157 dX4_takesNext_88  ?_
    refine K_mem pm_du ?_
    refine K_iload_n dX4_takesNext_91 rfl ?_
    refine K_aload_n dX4_takesNext_92 rfl ?_
    refine g_X4_19 dX4_takesNext_93  ?_
    refine K_iconstN 4 dX4_takesNext_96 rfl ?_
    refine K_aload_n dX4_takesNext_97 rfl ?_
    refine g_X4_151 dX4_takesNext_98  ?_
    refine K_top (show _ = nI rd from pmr_k) ?_
    refine K_imulN dX4_takesNext_101 ?_
    refine ald19 dX4_takesNext_102 (by omega) ?_
    refine K_top (show _ = ps (4 * rd) from congrFun pmr_19 _) ?_
    refine K_bipush (v := nI 97) dX4_takesNext_103 (by decide) ?_
    refine K_icmp_ne (tgt := 113) dX4_takesNext_105 (by decide) (fun c105 => ?_) (fun c105 => ?_)
    · skip
      refine K_bipush (v := nI 58) dX4_takesNext_113 (by decide) ?_
      refine K_icmp_ne (tgt := 122) dX4_takesNext_115 (by decide) (fun c115 => ?_) (fun c115 => ?_)
      · skip
        refine K_iconstN 0 dX4_takesNext_122 rfl ?_
        have e : (decide (c = nI 59) && isEnd (rd, nu, 3, ps)) = false := by simp [c3]
        exact K_zret (b := (tkNext c (rd, nu, 3, ps)).1) (by simp only [tkNext, e, cond_false]; first | (simp [tkMid, pLet, c105, c115]; done) | (simp [tkMid, pLet, c105, c115]; rfl)) dX4_takesNext_123 ⟨rfl, by simp only [tkNext, e, cond_false]; simp [tkMid]⟩
      · skip
        refine K_iconstN 1 dX4_takesNext_118 rfl ?_
        refine K_goto (tgt := 123) dX4_takesNext_119 (by decide) ?_
        have e : (decide (c = nI 59) && isEnd (rd, nu, 3, ps)) = false := by simp [c3]
        exact K_zret (b := (tkNext c (rd, nu, 3, ps)).1) (by simp only [tkNext, e, cond_false]; first | (simp [tkMid, pLet, c105, c115]; done) | (simp [tkMid, pLet, c105, c115]; rfl)) dX4_takesNext_123 ⟨rfl, by simp only [tkNext, e, cond_false]; simp [tkMid]⟩
    · skip
      refine K_bipush (v := nI 61) dX4_takesNext_108 (by decide) ?_
      refine K_goto (tgt := 115) dX4_takesNext_110 (by decide) ?_
      refine K_icmp_ne (tgt := 122) dX4_takesNext_115 (by decide) (fun c115 => ?_) (fun c115 => ?_)
      · skip
        refine K_iconstN 0 dX4_takesNext_122 rfl ?_
        have e : (decide (c = nI 59) && isEnd (rd, nu, 3, ps)) = false := by simp [c3]
        exact K_zret (b := (tkNext c (rd, nu, 3, ps)).1) (by simp only [tkNext, e, cond_false]; first | (simp [tkMid, pLet, c105, c115]; done) | (simp [tkMid, pLet, c105, c115]; rfl)) dX4_takesNext_123 ⟨rfl, by simp only [tkNext, e, cond_false]; simp [tkMid]⟩
      · skip
        refine K_iconstN 1 dX4_takesNext_118 rfl ?_
        refine K_goto (tgt := 123) dX4_takesNext_119 (by decide) ?_
        have e : (decide (c = nI 59) && isEnd (rd, nu, 3, ps)) = false := by simp [c3]
        exact K_zret (b := (tkNext c (rd, nu, 3, ps)).1) (by simp only [tkNext, e, cond_false]; first | (simp [tkMid, pLet, c105, c115]; done) | (simp [tkMid, pLet, c105, c115]; rfl)) dX4_takesNext_123 ⟨rfl, by simp only [tkNext, e, cond_false]; simp [tkMid]⟩
  · skip
    refine K_aload_n dX4_takesNext_6 rfl ?_
    refine k_X4_isEnded (C_X4_isEnded (s := (rd, nu, 3, ps)) (show (3 : Nat) ≤ 5 by decide)) (by decide)  ml_X4_160 (Nat.le_of_ble_eq_true rfl) dX4_takesNext_7 ?_
    refine K_ifb_eq (tgt := 30) dX4_takesNext_10 (by decide) (fun c10 => ?_) (fun c10 => ?_)
    · skip
      refine K_aload_n dX4_takesNext_30 rfl ?_
      refine g_X4_157 dX4_takesNext_31  ?_
      refine K_top (show _ = nI 3 from pmr_k) ?_
      refine K_tableIn (tgt := 86) dX4_takesNext_34 (by decide) (by decide) rfl (by decide) ?_
      refine K_aload_n dX4_takesNext_86 rfl ?_
      refine K_iconstN 4 dX4_takesNext_87 rfl ?_
      refine p_X4_157 dX4_takesNext_88  ?_
      refine K_mem pm_du ?_
      refine K_iload_n dX4_takesNext_91 rfl ?_
      refine K_aload_n dX4_takesNext_92 rfl ?_
      refine g_X4_19 dX4_takesNext_93  ?_
      refine K_iconstN 4 dX4_takesNext_96 rfl ?_
      refine K_aload_n dX4_takesNext_97 rfl ?_
      refine g_X4_151 dX4_takesNext_98  ?_
      refine K_top (show _ = nI rd from pmr_k) ?_
      refine K_imulN dX4_takesNext_101 ?_
      refine ald19 dX4_takesNext_102 (by omega) ?_
      refine K_top (show _ = ps (4 * rd) from congrFun pmr_19 _) ?_
      refine K_bipush (v := nI 97) dX4_takesNext_103 (by decide) ?_
      refine K_icmp_ne (tgt := 113) dX4_takesNext_105 (by decide) (fun c105 => ?_) (fun c105 => ?_)
      · skip
        refine K_bipush (v := nI 58) dX4_takesNext_113 (by decide) ?_
        refine K_icmp_ne (tgt := 122) dX4_takesNext_115 (by decide) (fun c115 => ?_) (fun c115 => ?_)
        · skip
          refine K_iconstN 0 dX4_takesNext_122 rfl ?_
          have e : (decide (c = nI 59) && isEnd (rd, nu, 3, ps)) = false := by simp [c10]
          exact K_zret (b := (tkNext c (rd, nu, 3, ps)).1) (by simp only [tkNext, e, cond_false]; first | (simp [tkMid, pLet, c105, c115]; done) | (simp [tkMid, pLet, c105, c115]; rfl)) dX4_takesNext_123 ⟨rfl, by simp only [tkNext, e, cond_false]; simp [tkMid]⟩
        · skip
          refine K_iconstN 1 dX4_takesNext_118 rfl ?_
          refine K_goto (tgt := 123) dX4_takesNext_119 (by decide) ?_
          have e : (decide (c = nI 59) && isEnd (rd, nu, 3, ps)) = false := by simp [c10]
          exact K_zret (b := (tkNext c (rd, nu, 3, ps)).1) (by simp only [tkNext, e, cond_false]; first | (simp [tkMid, pLet, c105, c115]; done) | (simp [tkMid, pLet, c105, c115]; rfl)) dX4_takesNext_123 ⟨rfl, by simp only [tkNext, e, cond_false]; simp [tkMid]⟩
      · skip
        refine K_bipush (v := nI 61) dX4_takesNext_108 (by decide) ?_
        refine K_goto (tgt := 115) dX4_takesNext_110 (by decide) ?_
        refine K_icmp_ne (tgt := 122) dX4_takesNext_115 (by decide) (fun c115 => ?_) (fun c115 => ?_)
        · skip
          refine K_iconstN 0 dX4_takesNext_122 rfl ?_
          have e : (decide (c = nI 59) && isEnd (rd, nu, 3, ps)) = false := by simp [c10]
          exact K_zret (b := (tkNext c (rd, nu, 3, ps)).1) (by simp only [tkNext, e, cond_false]; first | (simp [tkMid, pLet, c105, c115]; done) | (simp [tkMid, pLet, c105, c115]; rfl)) dX4_takesNext_123 ⟨rfl, by simp only [tkNext, e, cond_false]; simp [tkMid]⟩
        · skip
          refine K_iconstN 1 dX4_takesNext_118 rfl ?_
          refine K_goto (tgt := 123) dX4_takesNext_119 (by decide) ?_
          have e : (decide (c = nI 59) && isEnd (rd, nu, 3, ps)) = false := by simp [c10]
          exact K_zret (b := (tkNext c (rd, nu, 3, ps)).1) (by simp only [tkNext, e, cond_false]; first | (simp [tkMid, pLet, c105, c115]; done) | (simp [tkMid, pLet, c105, c115]; rfl)) dX4_takesNext_123 ⟨rfl, by simp only [tkNext, e, cond_false]; simp [tkMid]⟩
    · skip
      refine K_aload_n dX4_takesNext_13 rfl ?_
      refine K_dup dX4_takesNext_14 rfl ?_
      refine g_X4_151 dX4_takesNext_15  ?_
      refine K_top (show _ = nI rd from pmr_k) ?_
      refine K_iconstN 1 dX4_takesNext_18 rfl ?_
      refine K_iaddN dX4_takesNext_19 ?_
      refine p_X4_151 dX4_takesNext_20  ?_
      refine K_mem pm_rd ?_
      refine K_aload_n dX4_takesNext_23 rfl ?_
      refine K_iconstN 0 dX4_takesNext_24 rfl ?_
      refine p_X4_157 dX4_takesNext_25  ?_
      refine K_mem pm_du ?_
      refine K_iconstN 1 dX4_takesNext_28 rfl ?_
      have e : (decide (c = nI 59) && isEnd (rd, nu, 3, ps)) = true := by simp [c3, c10]
      exact K_zret (b := true) rfl dX4_takesNext_29 ⟨by simp only [tkNext, e, cond_true], by simp only [tkNext, e, cond_true]⟩

set_option maxHeartbeats 4000000 in
set_option maxRecDepth 100000 in
theorem C_X4_takesNext4 {l : Launch} {G : WG} {μ : Mem} {rd : Nat} {nu : Int32} {ps : Nat → Int32} (hs : rd ≤ 20) {c : Int32} : Ct l G 3 yX4_takesNext cX4_takesNext 2 (some .boolean) [.ref (adr G 15 0 0), .int (c)] (pmr μ (rd, nu, 4, ps)) (some (.int (b2i (tkNext c (rd, nu, 4, ps)).1))) (pmr μ (tkNext c (rd, nu, 4, ps)).2) := by
  refine Ct_of (by decide +kernel) (Nat.le_of_ble_eq_true rfl) ?_
  refine K_iload_n dX4_takesNext_0 rfl ?_
  refine K_bipush (v := nI 59) dX4_takesNext_1 (by decide) ?_
  refine K_icmp_ne (tgt := 30) dX4_takesNext_3 (by decide) (fun c3 => ?_) (fun c3 => ?_)
  · skip
    refine K_aload_n dX4_takesNext_30 rfl ?_
    refine g_X4_157 dX4_takesNext_31  ?_
    refine K_top (show _ = nI 4 from pmr_k) ?_
    refine K_tableIn (tgt := 124) dX4_takesNext_34 (by decide) (by decide) rfl (by decide) ?_
    refine K_aload_n dX4_takesNext_124 rfl ?_
    refine K_iload_n dX4_takesNext_125 rfl ?_
    refine K_bipush (v := nI 48) dX4_takesNext_126 (by decide) ?_
    refine K_isub dX4_takesNext_128 ?_
    refine k_X4_takesDigit (C_X4_takesDigit (s := (rd, nu, 4, ps)) hs) (by decide)  ml_X4_173 (Nat.le_of_ble_eq_true rfl) dX4_takesNext_129 ?_
    have e : (decide (c = nI 59) && isEnd (rd, nu, 4, ps)) = false := by simp [c3]
    exact K_zret (b := (tkNext c (rd, nu, 4, ps)).1) (by simp only [tkNext, e, cond_false] <;> rfl) dX4_takesNext_132 ⟨rfl, by simp only [tkNext, e, cond_false]⟩
  · skip
    refine K_aload_n dX4_takesNext_6 rfl ?_
    refine k_X4_isEnded (C_X4_isEnded (s := (rd, nu, 4, ps)) (show (4 : Nat) ≤ 5 by decide)) (by decide)  ml_X4_160 (Nat.le_of_ble_eq_true rfl) dX4_takesNext_7 ?_
    refine K_ifb_eq (tgt := 30) dX4_takesNext_10 (by decide) (fun c10 => ?_) (fun c10 => ?_)
    · skip
      refine K_aload_n dX4_takesNext_30 rfl ?_
      refine g_X4_157 dX4_takesNext_31  ?_
      refine K_top (show _ = nI 4 from pmr_k) ?_
      refine K_tableIn (tgt := 124) dX4_takesNext_34 (by decide) (by decide) rfl (by decide) ?_
      refine K_aload_n dX4_takesNext_124 rfl ?_
      refine K_iload_n dX4_takesNext_125 rfl ?_
      refine K_bipush (v := nI 48) dX4_takesNext_126 (by decide) ?_
      refine K_isub dX4_takesNext_128 ?_
      refine k_X4_takesDigit (C_X4_takesDigit (s := (rd, nu, 4, ps)) hs) (by decide)  ml_X4_173 (Nat.le_of_ble_eq_true rfl) dX4_takesNext_129 ?_
      have e : (decide (c = nI 59) && isEnd (rd, nu, 4, ps)) = false := by simp [c10]
      exact K_zret (b := (tkNext c (rd, nu, 4, ps)).1) (by simp only [tkNext, e, cond_false] <;> rfl) dX4_takesNext_132 ⟨rfl, by simp only [tkNext, e, cond_false]⟩
    · skip
      refine K_aload_n dX4_takesNext_13 rfl ?_
      refine K_dup dX4_takesNext_14 rfl ?_
      refine g_X4_151 dX4_takesNext_15  ?_
      refine K_top (show _ = nI rd from pmr_k) ?_
      refine K_iconstN 1 dX4_takesNext_18 rfl ?_
      refine K_iaddN dX4_takesNext_19 ?_
      refine p_X4_151 dX4_takesNext_20  ?_
      refine K_mem pm_rd ?_
      refine K_aload_n dX4_takesNext_23 rfl ?_
      refine K_iconstN 0 dX4_takesNext_24 rfl ?_
      refine p_X4_157 dX4_takesNext_25  ?_
      refine K_mem pm_du ?_
      refine K_iconstN 1 dX4_takesNext_28 rfl ?_
      have e : (decide (c = nI 59) && isEnd (rd, nu, 4, ps)) = true := by simp [c3, c10]
      exact K_zret (b := true) rfl dX4_takesNext_29 ⟨by simp only [tkNext, e, cond_true], by simp only [tkNext, e, cond_true]⟩

set_option maxHeartbeats 4000000 in
set_option maxRecDepth 100000 in
theorem C_X4_takesNext5 {l : Launch} {G : WG} {μ : Mem} {rd : Nat} {nu : Int32} {ps : Nat → Int32} (hs : rd ≤ 20) {c : Int32} : Ct l G 3 yX4_takesNext cX4_takesNext 2 (some .boolean) [.ref (adr G 15 0 0), .int (c)] (pmr μ (rd, nu, 5, ps)) (some (.int (b2i (tkNext c (rd, nu, 5, ps)).1))) (pmr μ (tkNext c (rd, nu, 5, ps)).2) := by
  refine Ct_of (by decide +kernel) (Nat.le_of_ble_eq_true rfl) ?_
  refine K_iload_n dX4_takesNext_0 rfl ?_
  refine K_bipush (v := nI 59) dX4_takesNext_1 (by decide) ?_
  refine K_icmp_ne (tgt := 30) dX4_takesNext_3 (by decide) (fun c3 => ?_) (fun c3 => ?_)
  · skip
    refine K_aload_n dX4_takesNext_30 rfl ?_
    refine g_X4_157 dX4_takesNext_31  ?_
    refine K_top (show _ = nI 5 from pmr_k) ?_
    refine K_tableOut (tgt := 133) dX4_takesNext_34 (by decide) (by decide) ?_
    refine K_iconstN 0 dX4_takesNext_133 rfl ?_
    have e : (decide (c = nI 59) && isEnd (rd, nu, 5, ps)) = false := by simp [c3]
    exact K_zret (b := (tkNext c (rd, nu, 5, ps)).1) (by simp only [tkNext, e, cond_false] <;> rfl) dX4_takesNext_134 ⟨rfl, by simp only [tkNext, e, cond_false]⟩
  · skip
    refine K_aload_n dX4_takesNext_6 rfl ?_
    refine k_X4_isEnded (C_X4_isEnded (s := (rd, nu, 5, ps)) (show (5 : Nat) ≤ 5 by decide)) (by decide)  ml_X4_160 (Nat.le_of_ble_eq_true rfl) dX4_takesNext_7 ?_
    refine K_ifb_eq (tgt := 30) dX4_takesNext_10 (by decide) (fun c10 => ?_) (fun c10 => ?_)
    · skip
      refine K_aload_n dX4_takesNext_30 rfl ?_
      refine g_X4_157 dX4_takesNext_31  ?_
      refine K_top (show _ = nI 5 from pmr_k) ?_
      refine K_tableOut (tgt := 133) dX4_takesNext_34 (by decide) (by decide) ?_
      refine K_iconstN 0 dX4_takesNext_133 rfl ?_
      have e : (decide (c = nI 59) && isEnd (rd, nu, 5, ps)) = false := by simp [c10]
      exact K_zret (b := (tkNext c (rd, nu, 5, ps)).1) (by simp only [tkNext, e, cond_false] <;> rfl) dX4_takesNext_134 ⟨rfl, by simp only [tkNext, e, cond_false]⟩
    · skip
      refine K_aload_n dX4_takesNext_13 rfl ?_
      refine K_dup dX4_takesNext_14 rfl ?_
      refine g_X4_151 dX4_takesNext_15  ?_
      refine K_top (show _ = nI rd from pmr_k) ?_
      refine K_iconstN 1 dX4_takesNext_18 rfl ?_
      refine K_iaddN dX4_takesNext_19 ?_
      refine p_X4_151 dX4_takesNext_20  ?_
      refine K_mem pm_rd ?_
      refine K_aload_n dX4_takesNext_23 rfl ?_
      refine K_iconstN 0 dX4_takesNext_24 rfl ?_
      refine p_X4_157 dX4_takesNext_25  ?_
      refine K_mem pm_du ?_
      refine K_iconstN 1 dX4_takesNext_28 rfl ?_
      have e : (decide (c = nI 59) && isEnd (rd, nu, 5, ps)) = true := by simp [c3, c10]
      exact K_zret (b := true) rfl dX4_takesNext_29 ⟨by simp only [tkNext, e, cond_true], by simp only [tkNext, e, cond_true]⟩

set_option maxRecDepth 100000 in
theorem C_X4_takesNext {l : Launch} {G : WG} {μ : Mem} {s : PS} (hs : s.1 ≤ 20) (hd : s.2.2.1 ≤ 5) {c : Int32} : Ct l G 3 yX4_takesNext cX4_takesNext 2 (some .boolean) [.ref (adr G 15 0 0), .int c] (pmr μ s) (some (.int (b2i (tkNext c s).1))) (pmr μ (tkNext c s).2) := by
  obtain ⟨rd, nu, du, ps⟩ := s
  match du, hd with
  | 0, _ => exact C_X4_takesNext0 hs
  | 1, _ => exact C_X4_takesNext1 hs
  | 2, _ => exact C_X4_takesNext2 hs
  | 3, _ => exact C_X4_takesNext3 hs
  | 4, _ => exact C_X4_takesNext4 hs
  | 5, _ => exact C_X4_takesNext5 hs

set_option maxHeartbeats 4000000 in
set_option maxRecDepth 100000 in
theorem C_X4_rightUpTo {l : Launch} {G : WG} {μ : Mem} {L : Nat} (hL : μ.1 15 0 0 3 = nI L) (hL6 : L ≤ 60) : Ct l G 4 yX4_rightUpTo cX4_rightUpTo 2 (some .int) [.ref (adr G 15 0 0)] (μ) (some (.int (nI (rgK (μ.1 18 0 0) L 0 (0, μ.1 15 0 0 8, 0, μ.1 19 0 0)).1))) (pmr μ (rgK (μ.1 18 0 0) L 0 (0, μ.1 15 0 0 8, 0, μ.1 19 0 0)).2) := by
  refine Ct_of (by decide +kernel) (Nat.le_of_ble_eq_true rfl) ?_
  refine K_aload_n dX4_rightUpTo_0 rfl ?_
  refine K_iconstN 0 dX4_rightUpTo_1 rfl ?_
  refine p_X4_151 dX4_rightUpTo_2  ?_
  refine K_aload_n dX4_rightUpTo_5 rfl ?_
  refine K_iconstN 0 dX4_rightUpTo_6 rfl ?_
  refine p_X4_157 dX4_rightUpTo_7  ?_
  refine K_mem (pm_start μ) ?_
  refine K_iconstN 0 dX4_rightUpTo_10 rfl ?_
  refine K_istore_n dX4_rightUpTo_11 (by decide) rfl ?_
  refine K_lv [0, 1] rfl ?_
  refine K_whl (S := Nat × PS) (fun _ x => [(0, .ref (adr G 15 0 0)), (1, .int (nI x.1))]) (fun _ x => pmr μ x.2) (fun f x => f + x.1 = L ∧ pNeed x.2 ≤ x.1 ∧ x.2.2.2.1 ≤ 5 ∧ rgK (μ.1 18 0 0) L 0 (0, μ.1 15 0 0 8, 0, μ.1 19 0 0) = rgK (μ.1 18 0 0) f x.1 x.2) (fun f x hP ih => ?_) L (0, (0, μ.1 15 0 0 8, 0, μ.1 19 0 0)) ⟨rfl, Nat.le_refl 0, Nat.zero_le 5, rfl⟩
  obtain ⟨k, s⟩ := x
  obtain ⟨hP1, hP2, hP3, hP4⟩ := hP
  have hrd := pNeed_rd hP2 (by omega)
  refine K_iload_n dX4_rightUpTo_12 rfl ?_
  refine K_aload_n dX4_rightUpTo_13 rfl ?_
  refine g_X4_148 dX4_rightUpTo_14  ?_
  refine K_top (show _ = nI L from pmr_k.trans hL) ?_
  refine K_icmpN_ge (by omega) (by omega) (tgt := 39) dX4_rightUpTo_17 (by decide) (fun c17 => ?_) (fun c17 => ?_)
  · skip
    refine K_iload_n dX4_rightUpTo_39 rfl ?_
    rw [hP4]
    obtain rfl : f = 0 := by omega
    exact K_iret dX4_rightUpTo_40 ⟨rfl, rfl⟩
  · skip
    refine K_aload_n dX4_rightUpTo_20 rfl ?_
    refine K_aload_n dX4_rightUpTo_21 rfl ?_
    refine g_X4_16 dX4_rightUpTo_22  ?_
    refine K_iload_n dX4_rightUpTo_25 rfl ?_
    refine ald18 dX4_rightUpTo_26 (by omega) ?_
    refine K_top (show _ = μ.1 18 0 0 k by rw [pmr_tag (by decide) (by decide)]) ?_
    refine k_X4_takesNext (C_X4_takesNext hrd hP3) (by decide)  ml_X4_176 (Nat.le_of_ble_eq_true rfl) dX4_rightUpTo_27 ?_
    refine K_ifb_eq (tgt := 39) dX4_rightUpTo_30 (by decide) (fun c30 => ?_) (fun c30 => ?_)
    · skip
      refine K_iload_n dX4_rightUpTo_39 rfl ?_
      rw [hP4]
      obtain ⟨f, rfl⟩ : ∃ g, f = g + 1 := ⟨f - 1, by omega⟩
      exact K_iret dX4_rightUpTo_40 ⟨by simp only [rgK, c30, cond_false], by simp only [rgK, c30, cond_false]⟩
    · skip
      refine K_iincN (b := 1) dX4_rightUpTo_33 rfl rfl (by decide) rfl ?_
      refine K_goto (tgt := 12) dX4_rightUpTo_36 (by decide) ?_
      exact K_lv [0, 1] rfl (ih (f - 1) (k + 1, (tkNext (μ.1 18 0 0 k) s).2) (by omega) ⟨by omega, (tkNext_need hP3 hP2 c30).1, (tkNext_need hP3 hP2 c30).2, by obtain ⟨f, rfl⟩ : ∃ g, f = g + 1 := ⟨f - 1, by omega⟩; rw [hP4]; simp only [rgK, c30, cond_true, Nat.add_sub_cancel]⟩)

set_option maxHeartbeats 4000000 in
set_option maxRecDepth 100000 in
theorem C_X4_firstError {l : Launch} {G : WG} {μ : Mem} {L : Nat} (hL : μ.1 15 0 0 3 = nI L) (hL6 : L ≤ 60) : Ct l G 5 yX4_firstError cX4_firstError 1 (some .int) [.ref (adr G 15 0 0)] (μ) (some (.int (nI (rgK (μ.1 18 0 0) L 0 (0, μ.1 15 0 0 8, 0, μ.1 19 0 0)).1))) (pmr (mset μ 15 0 0 5 (nI 0)) (rgK (μ.1 18 0 0) L 0 (0, μ.1 15 0 0 8, 0, μ.1 19 0 0)).2) := by
  refine Ct_of (by decide +kernel) (Nat.le_of_ble_eq_true rfl) ?_
  refine K_aload_n dX4_firstError_0 rfl ?_
  refine K_iconstN 0 dX4_firstError_1 rfl ?_
  refine p_X4_25 dX4_firstError_2  ?_
  refine K_aload_n dX4_firstError_5 rfl ?_
  refine k_X4_rightUpTo (C_X4_rightUpTo (μ := (mset μ 15 0 0 5 (nI 0))) (by exact hL) hL6) (by decide)  ml_X4_179 (Nat.le_of_ble_eq_true rfl) dX4_firstError_6 ?_
  exact K_iret dX4_firstError_9 ⟨by rfl, rfl⟩

set_option maxHeartbeats 4000000 in
set_option maxRecDepth 100000 in
theorem C_X4_canCarryF {l : Launch} {G : WG} {μ : Mem} {z : Zr} (hz : μ.1 16 0 0 = z) {n : Nat} (hZ : ZI z n) {a b : Int32} (h : cHas n b = false) : Ct l G 2 yX4_canCarry cX4_canCarry 3 (some .boolean) [.ref (adr G 15 0 0), .int (a), .int (b)] (μ) (some (.int (b2i false))) (μ) := by
  refine Ct_of (by decide +kernel) (Nat.le_of_ble_eq_true rfl) ?_
  subst hz
  refine K_aload_n dX4_canCarry_0 rfl ?_
  refine K_iload_n dX4_canCarry_1 rfl ?_
  refine k_X4_isPhase (C_X4_isPhase rfl hZ) (by decide)  ml_X4_84 (Nat.le_of_ble_eq_true rfl) dX4_canCarry_2 ?_
  refine K_ifb_eq (tgt := 51) dX4_canCarry_5 (by decide) (fun c5 => ?_) (fun c5 => ?_)
  · skip
    refine K_iconstN 0 dX4_canCarry_51 rfl ?_
    exact K_zret (by rfl) dX4_canCarry_52 ⟨rfl, rfl⟩
  · skip
    exact absurd (c5.symm.trans h) (by decide)

set_option maxHeartbeats 4000000 in
set_option maxRecDepth 100000 in
theorem C_X4_canCarry {l : Launch} {G : WG} {μ : Mem} {z : Zr} (hz : μ.1 16 0 0 = z) {n : Nat} (hZ : ZI z n) {a : Int32} {p : Nat} (hp : p < n) : Ct l G 4 yX4_canCarry cX4_canCarry 3 (some .boolean) [.ref (adr G 15 0 0), .int (a), .int (nI p)] (μ) (some (.int (b2i (mCanC z n a (nI p))))) (μ) := by
  refine Ct_of (by decide +kernel) (Nat.le_of_ble_eq_true rfl) ?_
  subst hz
  have hp6 : p < 6 := Nat.lt_of_lt_of_le hp hZ.2.1
  have hph := cHas_nat hp hZ.2.1
  have hcl : (nI p).toNatClampNeg = p := nI_clamp (by omega)
  refine K_aload_n dX4_canCarry_0 rfl ?_
  refine K_iload_n dX4_canCarry_1 rfl ?_
  refine k_X4_isPhase (C_X4_isPhase rfl hZ) (by decide)  ml_X4_84 (Nat.le_of_ble_eq_true rfl) dX4_canCarry_2 ?_
  refine K_ifb_eq (tgt := 51) dX4_canCarry_5 (by decide) (fun c5 => ?_) (fun c5 => ?_)
  · skip
    exact absurd (c5.symm.trans hph) (by decide)
  · skip
    refine K_iload_n dX4_canCarry_8 rfl ?_
    refine K_bipush (v := nI 97) dX4_canCarry_9 (by decide) ?_
    refine K_icmp_ne (tgt := 25) dX4_canCarry_11 (by decide) (fun c11 => ?_) (fun c11 => ?_)
    · skip
      refine K_iload_n dX4_canCarry_25 rfl ?_
      refine K_bipush (v := nI 98) dX4_canCarry_26 (by decide) ?_
      refine K_icmp_ne (tgt := 39) dX4_canCarry_28 (by decide) (fun c28 => ?_) (fun c28 => ?_)
      · skip
        refine K_aload_n dX4_canCarry_39 rfl ?_
        refine K_iload_n dX4_canCarry_40 rfl ?_
        refine k_X4_whyNoPayment (C_X4_whyNoPayment rfl (by omega) hZ) (by decide)  ml_X4_71 (Nat.le_of_ble_eq_true rfl) dX4_canCarry_41 ?_
        refine K_if_ne (tgt := 51) dX4_canCarry_44 (by decide) (fun c44 => ?_) (fun c44 => ?_)
        · skip
          refine K_iconstN 0 dX4_canCarry_51 rfl ?_
          exact K_zret (b := mCanC (μ.1 16 0 0) n a (nI p)) (by first | (simp [mCanC, hph, hcl, nLet, c11, c28, c44]; done) | (simp [mCanC, hph, hcl, nLet, c11, c28, c44]; rfl)) dX4_canCarry_52 ⟨rfl, rfl⟩
        · skip
          refine K_iconstN 1 dX4_canCarry_47 rfl ?_
          refine K_goto (tgt := 52) dX4_canCarry_48 (by decide) ?_
          exact K_zret (b := mCanC (μ.1 16 0 0) n a (nI p)) (by first | (simp [mCanC, hph, hcl, nLet, c11, c28, c44]; done) | (simp [mCanC, hph, hcl, nLet, c11, c28, c44]; rfl)) dX4_canCarry_52 ⟨rfl, rfl⟩
      · skip
        refine K_aload_n dX4_canCarry_31 rfl ?_
        refine K_iload_n dX4_canCarry_32 rfl ?_
        refine k_X4_whyNoBeginning (C_X4_whyNoBeginning rfl (by omega)) (by decide)  ml_X4_106 (Nat.le_of_ble_eq_true rfl) dX4_canCarry_33 ?_
        refine K_goto (tgt := 44) dX4_canCarry_36 (by decide) ?_
        refine K_if_ne (tgt := 51) dX4_canCarry_44 (by decide) (fun c44 => ?_) (fun c44 => ?_)
        · skip
          refine K_iconstN 0 dX4_canCarry_51 rfl ?_
          exact K_zret (b := mCanC (μ.1 16 0 0) n a (nI p)) (by first | (simp [mCanC, hph, hcl, nLet, c11, c28, c44]; done) | (simp [mCanC, hph, hcl, nLet, c11, c28, c44]; rfl)) dX4_canCarry_52 ⟨rfl, rfl⟩
        · skip
          refine K_iconstN 1 dX4_canCarry_47 rfl ?_
          refine K_goto (tgt := 52) dX4_canCarry_48 (by decide) ?_
          exact K_zret (b := mCanC (μ.1 16 0 0) n a (nI p)) (by first | (simp [mCanC, hph, hcl, nLet, c11, c28, c44]; done) | (simp [mCanC, hph, hcl, nLet, c11, c28, c44]; rfl)) dX4_canCarry_52 ⟨rfl, rfl⟩
    · skip
      refine K_aload_n dX4_canCarry_14 rfl ?_
      refine K_iload_n dX4_canCarry_15 rfl ?_
      refine k_X4_hasBegun (C_X4_hasBegun rfl (by omega)) (by decide)  ml_X4_40 (Nat.le_of_ble_eq_true rfl) dX4_canCarry_16 ?_
      refine K_ifb_ne (tgt := 51) dX4_canCarry_19 (by decide) (fun c19 => ?_) (fun c19 => ?_)
      · skip
        refine K_iconstN 0 dX4_canCarry_51 rfl ?_
        exact K_zret (b := mCanC (μ.1 16 0 0) n a (nI p)) (by first | (simp [mCanC, hph, hcl, nLet, c11, c19]; done) | (simp [mCanC, hph, hcl, nLet, c11, c19]; rfl)) dX4_canCarry_52 ⟨rfl, rfl⟩
      · skip
        refine K_goto (tgt := 47) dX4_canCarry_22 (by decide) ?_
        refine K_iconstN 1 dX4_canCarry_47 rfl ?_
        refine K_goto (tgt := 52) dX4_canCarry_48 (by decide) ?_
        exact K_zret (b := mCanC (μ.1 16 0 0) n a (nI p)) (by first | (simp [mCanC, hph, hcl, nLet, c11, c19]; done) | (simp [mCanC, hph, hcl, nLet, c11, c19]; rfl)) dX4_canCarry_52 ⟨rfl, rfl⟩

set_option maxHeartbeats 4000000 in
set_option maxRecDepth 100000 in
theorem C_X4_carriesD {l : Launch} {G : WG} {μ : Mem} {z : Zr} {n : Nat} (hZ : ZI z n) {k : Nat} (hk : k ≤ 20) (h : (μ.1 19 0 0) (4 * k) = nI 100) {d : Nat} (hd : d < 2 ^ 31) (hv : (μ.1 19 0 0) (4 * k + 3) = nI d) : Ct l G 6 yX4_carries cX4_carries 7 (some .boolean) [.ref (adr G 15 0 0), .int (nI k)] (zmem μ z) (some (.int (b2i (mcP (μ.1 19 0 0) z n k).1))) (zmem μ (mcP (μ.1 19 0 0) z n k).2) := by
  refine Ct_of (by decide +kernel) (Nat.le_of_ble_eq_true rfl) ?_
  have e : mcP (μ.1 19 0 0) z n k = (mLeft z (nI d), cond (mLeft z (nI d)) (dpsK z n d).1 z) := by simp only [mcP, mCarry, h, hv, decide_true, cond_true, nI_clamp hd]
  refine K_aload_n dX4_carries_0 rfl ?_
  refine g_X4_19 dX4_carries_1  ?_
  refine K_iconstN 4 dX4_carries_4 rfl ?_
  refine K_iload_n dX4_carries_5 rfl ?_
  refine K_imulN dX4_carries_6 ?_
  refine ald19 dX4_carries_7 (by omega) ?_
  refine K_top (show _ = μ.1 19 0 0 (4 * k) from rfl) ?_
  refine K_istore_n dX4_carries_8 (by decide) rfl ?_
  refine K_aload_n dX4_carries_9 rfl ?_
  refine g_X4_19 dX4_carries_10  ?_
  refine K_iconstN 4 dX4_carries_13 rfl ?_
  refine K_iload_n dX4_carries_14 rfl ?_
  refine K_imulN dX4_carries_15 ?_
  refine K_iconstN 1 dX4_carries_16 rfl ?_
  refine K_iaddN dX4_carries_17 ?_
  refine ald19 dX4_carries_18 (by omega) ?_
  refine K_top (show _ = μ.1 19 0 0 (4 * k + 1) from rfl) ?_
  refine K_istore_n dX4_carries_19 (by decide) rfl ?_
  refine K_aload_n dX4_carries_20 rfl ?_
  refine g_X4_19 dX4_carries_21  ?_
  refine K_iconstN 4 dX4_carries_24 rfl ?_
  refine K_iload_n dX4_carries_25 rfl ?_
  refine K_imulN dX4_carries_26 ?_
  refine K_iconstN 3 dX4_carries_27 rfl ?_
  refine K_iaddN dX4_carries_28 ?_
  refine ald19 dX4_carries_29 (by omega) ?_
  refine K_top (show _ = nI d from hv) ?_
  refine K_istore dX4_carries_30 (by decide) rfl ?_
  refine K_iload_n dX4_carries_32 rfl ?_
  refine K_bipush (v := nI 100) dX4_carries_33 (by decide) ?_
  refine K_icmp_ne (tgt := 66) dX4_carries_35 (by decide) (fun c35 => ?_) (fun c35 => ?_)
  · skip
    exact absurd h c35
  · skip
    refine K_aload_n dX4_carries_38 rfl ?_
    refine K_iload dX4_carries_39 rfl ?_
    refine k_X4_canPass (C_X4_canPass zmem_16) (by decide)  ml_X4_142 (Nat.le_of_ble_eq_true rfl) dX4_carries_41 ?_
    refine K_istore dX4_carries_44 (by decide) rfl ?_
    refine K_aload_n dX4_carries_46 rfl ?_
    refine K_iload dX4_carries_47 rfl ?_
    refine K_ifb_eq (tgt := 57) dX4_carries_49 (by decide) (fun c49 => ?_) (fun c49 => ?_)
    · skip
      refine K_iconstN 0 dX4_carries_57 rfl ?_
      refine k_X4_daysPass (C_X4_daysPass hZ (d := 0) (by omega)) (by decide)  ml_X4_145 (Nat.le_of_ble_eq_true rfl) dX4_carries_58 ?_
      refine K_istore dX4_carries_61 (by decide) rfl ?_
      refine K_iload dX4_carries_63 rfl ?_
      exact K_zret (b := (mcP (μ.1 19 0 0) z n k).1) (by rw [e]) dX4_carries_65 ⟨rfl, by rw [e]; simp only [c49, cond_true, cond_false]; try rfl⟩
    · skip
      refine K_iload dX4_carries_52 rfl ?_
      refine K_goto (tgt := 58) dX4_carries_54 (by decide) ?_
      refine k_X4_daysPass (C_X4_daysPass hZ hd) (by decide)  ml_X4_145 (Nat.le_of_ble_eq_true rfl) dX4_carries_58 ?_
      refine K_istore dX4_carries_61 (by decide) rfl ?_
      refine K_iload dX4_carries_63 rfl ?_
      exact K_zret (b := (mcP (μ.1 19 0 0) z n k).1) (by rw [e]) dX4_carries_65 ⟨rfl, by rw [e]; simp only [c49, cond_true, cond_false]; try rfl⟩

set_option maxHeartbeats 4000000 in
set_option maxRecDepth 100000 in
theorem C_X4_carriesF {l : Launch} {G : WG} {μ : Mem} {z : Zr} {n : Nat} (hZ : ZI z n) {k : Nat} (hk : k ≤ 20) (h : ¬ (μ.1 19 0 0) (4 * k) = nI 100) (h2 : cHas n ((μ.1 19 0 0) (4 * k + 1)) = false) : Ct l G 6 yX4_carries cX4_carries 7 (some .boolean) [.ref (adr G 15 0 0), .int (nI k)] (zmem μ z) (some (.int (b2i (mcP (μ.1 19 0 0) z n k).1))) (zmem μ (mcP (μ.1 19 0 0) z n k).2) := by
  refine Ct_of (by decide +kernel) (Nat.le_of_ble_eq_true rfl) ?_
  have e : mcP (μ.1 19 0 0) z n k = (false, z) := by simp [mcP, mCarry, h, mCanC, h2]
  refine K_aload_n dX4_carries_0 rfl ?_
  refine g_X4_19 dX4_carries_1  ?_
  refine K_iconstN 4 dX4_carries_4 rfl ?_
  refine K_iload_n dX4_carries_5 rfl ?_
  refine K_imulN dX4_carries_6 ?_
  refine ald19 dX4_carries_7 (by omega) ?_
  refine K_top (show _ = μ.1 19 0 0 (4 * k) from rfl) ?_
  refine K_istore_n dX4_carries_8 (by decide) rfl ?_
  refine K_aload_n dX4_carries_9 rfl ?_
  refine g_X4_19 dX4_carries_10  ?_
  refine K_iconstN 4 dX4_carries_13 rfl ?_
  refine K_iload_n dX4_carries_14 rfl ?_
  refine K_imulN dX4_carries_15 ?_
  refine K_iconstN 1 dX4_carries_16 rfl ?_
  refine K_iaddN dX4_carries_17 ?_
  refine ald19 dX4_carries_18 (by omega) ?_
  refine K_top (show _ = μ.1 19 0 0 (4 * k + 1) from rfl) ?_
  refine K_istore_n dX4_carries_19 (by decide) rfl ?_
  refine K_aload_n dX4_carries_20 rfl ?_
  refine g_X4_19 dX4_carries_21  ?_
  refine K_iconstN 4 dX4_carries_24 rfl ?_
  refine K_iload_n dX4_carries_25 rfl ?_
  refine K_imulN dX4_carries_26 ?_
  refine K_iconstN 3 dX4_carries_27 rfl ?_
  refine K_iaddN dX4_carries_28 ?_
  refine ald19 dX4_carries_29 (by omega) ?_
  refine K_top (show _ = μ.1 19 0 0 (4 * k + 3) from rfl) ?_
  refine K_istore dX4_carries_30 (by decide) rfl ?_
  refine K_iload_n dX4_carries_32 rfl ?_
  refine K_bipush (v := nI 100) dX4_carries_33 (by decide) ?_
  refine K_icmp_ne (tgt := 66) dX4_carries_35 (by decide) (fun c35 => ?_) (fun c35 => ?_)
  · skip
    refine K_aload_n dX4_carries_66 rfl ?_
    refine K_iload_n dX4_carries_67 rfl ?_
    refine K_iload_n dX4_carries_68 rfl ?_
    refine k_X4_canCarry (C_X4_canCarryF zmem_16 hZ h2) (by decide)  ml_X4_182 (Nat.le_of_ble_eq_true rfl) dX4_carries_69 ?_
    refine K_ifb_ne (tgt := 77) dX4_carries_72 (by decide) (fun c72 => ?_) (fun c72 => ?_)
    · skip
      exact absurd c72 (by decide)
    · skip
      refine K_iconstN 0 dX4_carries_75 rfl ?_
      exact K_zret (b := (mcP (μ.1 19 0 0) z n k).1) (by rw [e]; rfl) dX4_carries_76 ⟨rfl, by rw [e]⟩
  · skip
    exact absurd c35 h

set_option maxHeartbeats 4000000 in
set_option maxRecDepth 100000 in
theorem C_X4_carriesP {l : Launch} {G : WG} {μ : Mem} {z : Zr} {n : Nat} (hZ : ZI z n) {k : Nat} (hk : k ≤ 20) (h : ¬ (μ.1 19 0 0) (4 * k) = nI 100) {p : Nat} (hp : p < n) (hP : (μ.1 19 0 0) (4 * k + 1) = nI p) (hu : (μ.1 19 0 0) (4 * k) = nI 97 → ∃ u, u < 4 ∧ (μ.1 19 0 0) (4 * k + 2) = nI u) : Ct l G 6 yX4_carries cX4_carries 7 (some .boolean) [.ref (adr G 15 0 0), .int (nI k)] (zmem μ z) (some (.int (b2i (mcP (μ.1 19 0 0) z n k).1))) (zmem μ (mcP (μ.1 19 0 0) z n k).2) := by
  refine Ct_of (by decide +kernel) (Nat.le_of_ble_eq_true rfl) ?_
  have hp6 : p < 6 := Nat.lt_of_lt_of_le hp hZ.2.1
  have hcl : (nI p).toNatClampNeg = p := nI_clamp (by omega)
  have hu1 : True := trivial
  refine K_aload_n dX4_carries_0 rfl ?_
  refine g_X4_19 dX4_carries_1  ?_
  refine K_iconstN 4 dX4_carries_4 rfl ?_
  refine K_iload_n dX4_carries_5 rfl ?_
  refine K_imulN dX4_carries_6 ?_
  refine ald19 dX4_carries_7 (by omega) ?_
  refine K_top (show _ = μ.1 19 0 0 (4 * k) from rfl) ?_
  refine K_istore_n dX4_carries_8 (by decide) rfl ?_
  refine K_aload_n dX4_carries_9 rfl ?_
  refine g_X4_19 dX4_carries_10  ?_
  refine K_iconstN 4 dX4_carries_13 rfl ?_
  refine K_iload_n dX4_carries_14 rfl ?_
  refine K_imulN dX4_carries_15 ?_
  refine K_iconstN 1 dX4_carries_16 rfl ?_
  refine K_iaddN dX4_carries_17 ?_
  refine ald19 dX4_carries_18 (by omega) ?_
  refine K_top (show _ = nI p from hP) ?_
  refine K_istore_n dX4_carries_19 (by decide) rfl ?_
  refine K_aload_n dX4_carries_20 rfl ?_
  refine g_X4_19 dX4_carries_21  ?_
  refine K_iconstN 4 dX4_carries_24 rfl ?_
  refine K_iload_n dX4_carries_25 rfl ?_
  refine K_imulN dX4_carries_26 ?_
  refine K_iconstN 3 dX4_carries_27 rfl ?_
  refine K_iaddN dX4_carries_28 ?_
  refine ald19 dX4_carries_29 (by omega) ?_
  refine K_top (show _ = μ.1 19 0 0 (4 * k + 3) from rfl) ?_
  refine K_istore dX4_carries_30 (by decide) rfl ?_
  refine K_iload_n dX4_carries_32 rfl ?_
  refine K_bipush (v := nI 100) dX4_carries_33 (by decide) ?_
  refine K_icmp_ne (tgt := 66) dX4_carries_35 (by decide) (fun c35 => ?_) (fun c35 => ?_)
  · skip
    refine K_aload_n dX4_carries_66 rfl ?_
    refine K_iload_n dX4_carries_67 rfl ?_
    refine K_iload_n dX4_carries_68 rfl ?_
    refine k_X4_canCarry (C_X4_canCarry zmem_16 hZ hp) (by decide)  ml_X4_182 (Nat.le_of_ble_eq_true rfl) dX4_carries_69 ?_
    refine K_ifb_ne (tgt := 77) dX4_carries_72 (by decide) (fun c72 => ?_) (fun c72 => ?_)
    · skip
      refine K_iload_n dX4_carries_77 rfl ?_
      refine K_bipush (v := nI 97) dX4_carries_78 (by decide) ?_
      refine K_icmp_ne (tgt := 102) dX4_carries_80 (by decide) (fun c80 => ?_) (fun c80 => ?_)
      · skip
        refine K_iload_n dX4_carries_102 rfl ?_
        refine K_bipush (v := nI 98) dX4_carries_103 (by decide) ?_
        refine K_icmp_ne (tgt := 116) dX4_carries_105 (by decide) (fun c105 => ?_) (fun c105 => ?_)
        · skip
          refine K_aload_n dX4_carries_116 rfl ?_
          refine K_iload_n dX4_carries_117 rfl ?_
          refine K_iload dX4_carries_118 rfl ?_
          refine K_bipush (v := nI 34) dX4_carries_120 (by decide) ?_
          refine k_X4_takes (C_X4_takes hZ hp6 (w := 34) (by omega)) (by decide)  ml_X4_123 (Nat.le_of_ble_eq_true rfl) dX4_carries_122 ?_
          refine K_istore dX4_carries_125 (by decide) rfl ?_
          refine K_iconstN 1 dX4_carries_127 rfl ?_
          exact K_zret (b := (mcP (μ.1 19 0 0) z n k).1) (by simp only [mcP, mCarry, h, hP, c72, decide_false, cond_false, cond_true] <;> (try simp only [hcl, hu1, c80, c105, decide_false, decide_true, cond_false, cond_true, nLet]) <;> rfl) dX4_carries_128 ⟨rfl, by simp only [mcP, mCarry, h, hP, c72, decide_false, cond_false, cond_true] <;> (try simp only [hcl, hu1, c80, c105, decide_false, decide_true, cond_false, cond_true, nLet]) <;> rfl⟩
        · skip
          refine K_aload_n dX4_carries_108 rfl ?_
          refine K_iload_n dX4_carries_109 rfl ?_
          refine k_X4_begins (C_X4_begins hp6) (by decide)  ml_X4_109 (Nat.le_of_ble_eq_true rfl) dX4_carries_110 ?_
          refine K_goto (tgt := 125) dX4_carries_113 (by decide) ?_
          refine K_istore dX4_carries_125 (by decide) rfl ?_
          refine K_iconstN 1 dX4_carries_127 rfl ?_
          exact K_zret (b := (mcP (μ.1 19 0 0) z n k).1) (by simp only [mcP, mCarry, h, hP, c72, decide_false, cond_false, cond_true] <;> (try simp only [hcl, hu1, c80, c105, decide_false, decide_true, cond_false, cond_true, nLet]) <;> rfl) dX4_carries_128 ⟨rfl, by simp only [mcP, mCarry, h, hP, c72, decide_false, cond_false, cond_true] <;> (try simp only [hcl, hu1, c80, c105, decide_false, decide_true, cond_false, cond_true, nLet]) <;> rfl⟩
      · skip
        refine K_aload_n dX4_carries_83 rfl ?_
        refine K_iload_n dX4_carries_84 rfl ?_
        refine K_aload_n dX4_carries_85 rfl ?_
        refine g_X4_19 dX4_carries_86  ?_
        refine K_iconstN 4 dX4_carries_89 rfl ?_
        refine K_iload_n dX4_carries_90 rfl ?_
        refine K_imulN dX4_carries_91 ?_
        refine K_iconstN 2 dX4_carries_92 rfl ?_
        refine K_iaddN dX4_carries_93 ?_
        refine ald19 dX4_carries_94 (by omega) ?_
        obtain ⟨u, hu4, huu⟩ := hu c80
        have hu1 : (μ.1 19 0 0 (4 * k + 2)).toNatClampNeg = u := by rw [huu]; exact nI_clamp (by omega)
        refine K_top (show _ = nI u from huu) ?_
        refine K_iload dX4_carries_95 rfl ?_
        refine k_X4_changeArea (C_X4_changeArea hp6 hu4) (by decide)  ml_X4_93 (Nat.le_of_ble_eq_true rfl) dX4_carries_97 ?_
        refine K_iconstN 1 dX4_carries_100 rfl ?_
        exact K_zret (b := (mcP (μ.1 19 0 0) z n k).1) (by simp only [mcP, mCarry, h, hP, c72, decide_false, cond_false, cond_true] <;> (try simp only [hcl, hu1, c80, decide_false, decide_true, cond_false, cond_true, nLet]) <;> rfl) dX4_carries_101 ⟨rfl, by simp only [mcP, mCarry, h, hP, c72, decide_false, cond_false, cond_true] <;> (try simp only [hcl, hu1, c80, decide_false, decide_true, cond_false, cond_true, nLet]) <;> rfl⟩
    · skip
      refine K_iconstN 0 dX4_carries_75 rfl ?_
      have e : mcP (μ.1 19 0 0) z n k = (false, z) := by simp [mcP, mCarry, h, hP, c72]
      exact K_zret (b := (mcP (μ.1 19 0 0) z n k).1) (by rw [e]; rfl) dX4_carries_76 ⟨rfl, by rw [e]⟩
  · skip
    exact absurd c35 h

set_option maxRecDepth 100000 in
theorem C_X4_carries {l : Launch} {G : WG} {μ : Mem} {z : Zr} {n : Nat} (hZ : ZI z n) {k : Nat} (hk : k ≤ 20) (ho : oOk (μ.1 19 0 0) k) : Ct l G 6 yX4_carries cX4_carries 7 (some .boolean) [.ref (adr G 15 0 0), .int (nI k)] (zmem μ z) (some (.int (b2i (mcP (μ.1 19 0 0) z n k).1))) (zmem μ (mcP (μ.1 19 0 0) z n k).2) := by
  by_cases h : μ.1 19 0 0 (4 * k) = nI 100
  · obtain ⟨d, hd, hv⟩ := ho.1 h
    exact C_X4_carriesD hZ hk h hd hv
  · cases h2 : cHas n (μ.1 19 0 0 (4 * k + 1))
    · exact C_X4_carriesF hZ hk h h2
    · obtain ⟨p, hp, hP⟩ := cHas_inv h2 hZ.2.1
      exact C_X4_carriesP hZ hk h hp hP ho.2
