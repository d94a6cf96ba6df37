set_option maxHeartbeats 4000000 in
set_option maxRecDepth 100000 in
theorem C_X1_isDigit {l : Launch} {G : WG} {μ : Mem} {L : Nat} (hL : μ.1 2 0 0 1 = nI L) (hL6 : L ≤ 60) {s : RS} (hs : s.1 ≤ L) {lo hi : Nat} (hlo : lo ≤ 9) (hhi : hi ≤ 9) : Ct l G 0 yX1_isDigit cX1_isDigit 3 (some .boolean) [.ref (adr G 2 0 0), .int (nI lo), .int (nI hi)] (omr μ s) (some (.int (b2i (isDig (μ.1 3 0 0) L s.1 lo hi)))) (omr μ s) := by
  refine Ct_of (by decide +kernel) (Nat.le_of_ble_eq_true rfl) ?_
  refine K_aload_n dX1_isDigit_0 rfl ?_
  refine g_X1_19 dX1_isDigit_1  ?_
  refine K_top (show _ = nI s.1 from rfl) ?_
  refine K_ifN_lt (by omega) (tgt := 54) dX1_isDigit_4 (by decide) ?_
  refine K_aload_n dX1_isDigit_7 rfl ?_
  refine g_X1_19 dX1_isDigit_8  ?_
  refine K_top (show _ = nI s.1 from rfl) ?_
  refine K_aload_n dX1_isDigit_11 rfl ?_
  refine g_X1_15 dX1_isDigit_12  ?_
  refine K_top (show _ = nI L from hL) ?_
  refine K_icmpN_ge (by omega) (by omega) (tgt := 54) dX1_isDigit_15 (by decide) (fun c15 => ?_) (fun c15 => ?_)
  · skip
    refine K_iconstN 0 dX1_isDigit_54 rfl ?_
    exact K_zret (by first | (simp [isDig, c15, c31, c47]; rfl) | (simp [isDig, c15, c31]; rfl) | (simp [isDig, Nat.not_lt.mpr c15]; rfl)) dX1_isDigit_55 ⟨rfl, rfl⟩
  · skip
    refine K_aload_n dX1_isDigit_18 rfl ?_
    refine g_X1_9 dX1_isDigit_19  ?_
    refine K_aload_n dX1_isDigit_22 rfl ?_
    refine g_X1_19 dX1_isDigit_23  ?_
    refine K_top (show _ = nI s.1 from rfl) ?_
    refine ald3 dX1_isDigit_26 (by omega) ?_
    refine K_top (show _ = μ.1 3 0 0 s.1 from rfl) ?_
    refine K_bipush (v := nI 48) dX1_isDigit_27 (by decide) ?_
    refine K_iload_n dX1_isDigit_29 rfl ?_
    refine K_iaddN dX1_isDigit_30 ?_
    refine K_icmp_lt (tgt := 54) dX1_isDigit_31 (by decide) (fun c31 => ?_) (fun c31 => ?_)
    · skip
      refine K_iconstN 0 dX1_isDigit_54 rfl ?_
      exact K_zret (by first | (simp [isDig, c15, c31, c47]; rfl) | (simp [isDig, c15, c31]; rfl) | (simp [isDig, Nat.not_lt.mpr c15]; rfl)) dX1_isDigit_55 ⟨rfl, rfl⟩
    · skip
      refine K_aload_n dX1_isDigit_34 rfl ?_
      refine g_X1_9 dX1_isDigit_35  ?_
      refine K_aload_n dX1_isDigit_38 rfl ?_
      refine g_X1_19 dX1_isDigit_39  ?_
      refine K_top (show _ = nI s.1 from rfl) ?_
      refine ald3 dX1_isDigit_42 (by omega) ?_
      refine K_top (show _ = μ.1 3 0 0 s.1 from rfl) ?_
      refine K_bipush (v := nI 48) dX1_isDigit_43 (by decide) ?_
      refine K_iload_n dX1_isDigit_45 rfl ?_
      refine K_iaddN dX1_isDigit_46 ?_
      refine K_icmp_gt (tgt := 54) dX1_isDigit_47 (by decide) (fun c47 => ?_) (fun c47 => ?_)
      · skip
        refine K_iconstN 0 dX1_isDigit_54 rfl ?_
        exact K_zret (by first | (simp [isDig, c15, c31, c47]; rfl) | (simp [isDig, c15, c31]; rfl) | (simp [isDig, Nat.not_lt.mpr c15]; rfl)) dX1_isDigit_55 ⟨rfl, rfl⟩
      · skip
        refine K_iconstN 1 dX1_isDigit_50 rfl ?_
        refine K_goto (tgt := 55) dX1_isDigit_51 (by decide) ?_
        exact K_zret (by first | (simp [isDig, c15, c31, c47]; rfl) | (simp [isDig, c15, c31]; rfl) | (simp [isDig, Nat.not_lt.mpr c15]; rfl)) dX1_isDigit_55 ⟨rfl, rfl⟩

set_option maxHeartbeats 4000000 in
set_option maxRecDepth 100000 in
theorem C_X1_readDigit {l : Launch} {G : WG} {μ : Mem} {L : Nat} (hL : μ.1 2 0 0 1 = nI L) (hL6 : L ≤ 60) {s : RS} (hs : s.1 ≤ L) {lo hi : Nat} (hlo : lo ≤ 9) (hhi : hi ≤ 9) : Ct l G 1 yX1_readDigit cX1_readDigit 3 (some .int) [.ref (adr G 2 0 0), .int (nI lo), .int (nI hi)] (omr μ s) (some (.int (dgV (μ.1 3 0 0) L s.1 lo hi))) (omr μ (dgA (μ.1 3 0 0) L s.1 lo hi, s.2)) := by
  refine Ct_of (by decide +kernel) (Nat.le_of_ble_eq_true rfl) ?_
  refine K_aload_n dX1_readDigit_0 rfl ?_
  refine K_iload_n dX1_readDigit_1 rfl ?_
  refine K_iload_n dX1_readDigit_2 rfl ?_
  refine k_X1_isDigit (C_X1_isDigit hL hL6 hs hlo hhi) (by decide)  ml_X1_62 (Nat.le_of_ble_eq_true rfl) dX1_readDigit_3 ?_
  refine K_ifb_ne (tgt := 11) dX1_readDigit_6 (by decide) (fun c6 => ?_) (fun c6 => ?_)
  · skip
    have hlt : s.1 < L := by simp [isDig] at c6; exact c6.1
    refine K_aload_n dX1_readDigit_11 rfl ?_
    refine K_dup dX1_readDigit_12 rfl ?_
    refine g_X1_19 dX1_readDigit_13  ?_
    refine K_top (show _ = nI s.1 from rfl) ?_
    refine K_iconstN 1 dX1_readDigit_16 rfl ?_
    refine K_iaddN dX1_readDigit_17 ?_
    refine p_X1_19 dX1_readDigit_18  ?_
    refine K_mem omr_at ?_
    refine K_aload_n dX1_readDigit_21 rfl ?_
    refine g_X1_9 dX1_readDigit_22  ?_
    refine K_aload_n dX1_readDigit_25 rfl ?_
    refine g_X1_19 dX1_readDigit_26  ?_
    refine K_top (show _ = nI (s.1 + 1) from rfl) ?_
    refine K_iconstN 1 dX1_readDigit_29 rfl ?_
    refine K_isubN (by omega) dX1_readDigit_30 ?_
    refine ald3 dX1_readDigit_31 (by omega) ?_
    refine K_top (show _ = μ.1 3 0 0 s.1 from rfl) ?_
    refine K_bipush (v := nI 48) dX1_readDigit_32 (by decide) ?_
    refine K_isub dX1_readDigit_34 ?_
    exact K_iret dX1_readDigit_35 ⟨by simp only [dgV, c6, cond_true], by simp only [dgA, c6, cond_true]⟩
  · skip
    refine K_iconst (v := -1) dX1_readDigit_9 (by decide) ?_
    exact K_iret dX1_readDigit_10 ⟨by simp only [dgV, c6, cond_false], by simp only [dgA, c6, cond_false]⟩

set_option maxHeartbeats 4000000 in
set_option maxRecDepth 100000 in
theorem C_X1_readSign {l : Launch} {G : WG} {μ : Mem} {L : Nat} (hL : μ.1 2 0 0 1 = nI L) (hL6 : L ≤ 60) {s : RS} (hs : s.1 ≤ L) {a : Int32} : Ct l G 0 yX1_readSign cX1_readSign 2 (some .boolean) [.ref (adr G 2 0 0), .int (a)] (omr μ s) (some (.int (b2i (rdSign (μ.1 3 0 0) L s a).1))) (omr μ (rdSign (μ.1 3 0 0) L s a).2) := by
  refine Ct_of (by decide +kernel) (Nat.le_of_ble_eq_true rfl) ?_
  refine K_aload_n dX1_readSign_0 rfl ?_
  refine g_X1_19 dX1_readSign_1  ?_
  refine K_top (show _ = nI s.1 from rfl) ?_
  refine K_ifN_lt (by omega) (tgt := 31) dX1_readSign_4 (by decide) ?_
  refine K_aload_n dX1_readSign_7 rfl ?_
  refine g_X1_19 dX1_readSign_8  ?_
  refine K_top (show _ = nI s.1 from rfl) ?_
  refine K_aload_n dX1_readSign_11 rfl ?_
  refine g_X1_15 dX1_readSign_12  ?_
  refine K_top (show _ = nI L from hL) ?_
  refine K_icmpN_ge (by omega) (by omega) (tgt := 31) dX1_readSign_15 (by decide) (fun c15 => ?_) (fun c15 => ?_)
  · skip
    refine K_iconstN 0 dX1_readSign_31 rfl ?_
    first | (exact K_zret (by simp [rdSign, isSgn, c15, c28]; rfl) dX1_readSign_32 ⟨rfl, by simp [rdSign, isSgn, c15, c28]⟩) | (exact K_zret (by simp [rdSign, isSgn, Nat.not_lt.mpr c15]; rfl) dX1_readSign_32 ⟨rfl, by simp [rdSign, isSgn, Nat.not_lt.mpr c15]⟩)
  · skip
    refine K_aload_n dX1_readSign_18 rfl ?_
    refine g_X1_9 dX1_readSign_19  ?_
    refine K_aload_n dX1_readSign_22 rfl ?_
    refine g_X1_19 dX1_readSign_23  ?_
    refine K_top (show _ = nI s.1 from rfl) ?_
    refine ald3 dX1_readSign_26 (by omega) ?_
    refine K_top (show _ = μ.1 3 0 0 s.1 from rfl) ?_
    refine K_iload_n dX1_readSign_27 rfl ?_
    refine K_icmp_eq (tgt := 33) dX1_readSign_28 (by decide) (fun c28 => ?_) (fun c28 => ?_)
    · skip
      refine K_aload_n dX1_readSign_33 rfl ?_
      refine K_dup dX1_readSign_34 rfl ?_
      refine g_X1_19 dX1_readSign_35  ?_
      refine K_top (show _ = nI s.1 from rfl) ?_
      refine K_iconstN 1 dX1_readSign_38 rfl ?_
      refine K_iaddN dX1_readSign_39 ?_
      refine p_X1_19 dX1_readSign_40  ?_
      refine K_mem omr_at ?_
      refine K_iconstN 1 dX1_readSign_43 rfl ?_
      exact K_zret (by simp [rdSign, isSgn, c15, c28]; rfl) dX1_readSign_44 ⟨rfl, by simp [rdSign, isSgn, c15, c28]⟩
    · skip
      refine K_iconstN 0 dX1_readSign_31 rfl ?_
      first | (exact K_zret (by simp [rdSign, isSgn, c15, c28]; rfl) dX1_readSign_32 ⟨rfl, by simp [rdSign, isSgn, c15, c28]⟩) | (exact K_zret (by simp [rdSign, isSgn, Nat.not_lt.mpr c15]; rfl) dX1_readSign_32 ⟨rfl, by simp [rdSign, isSgn, Nat.not_lt.mpr c15]⟩)

set_option maxHeartbeats 4000000 in
set_option maxRecDepth 100000 in
theorem C_X1_readPhase {l : Launch} {G : WG} {μ : Mem} {L : Nat} (hL : μ.1 2 0 0 1 = nI L) (hL6 : L ≤ 60) {s : RS} (hs : s.1 ≤ L) : Ct l G 2 yX1_readPhase cX1_readPhase 1 (some .boolean) [.ref (adr G 2 0 0)] (omr μ s) (some (.int (b2i (rdPhase (μ.1 3 0 0) L s).1))) (omr μ (rdPhase (μ.1 3 0 0) L s).2) := by
  refine Ct_of (by decide +kernel) (Nat.le_of_ble_eq_true rfl) ?_
  refine K_aload_n dX1_readPhase_0 rfl ?_
  refine K_aload_n dX1_readPhase_1 rfl ?_
  refine K_iconstN 0 dX1_readPhase_2 rfl ?_
  refine K_iconstN 5 dX1_readPhase_3 rfl ?_
  refine k_X1_readDigit (C_X1_readDigit (lo := 0) (hi := 5) hL hL6 hs (by omega) (by omega)) (by decide)  ml_X1_49 (Nat.le_of_ble_eq_true rfl) dX1_readPhase_4 ?_
  refine p_X1_53 dX1_readPhase_7  ?_
  refine K_mem omr_ph ?_
  refine K_aload_n dX1_readPhase_10 rfl ?_
  refine g_X1_53 dX1_readPhase_11  ?_
  refine K_top (show _ = dgV (μ.1 3 0 0) L s.1 0 5 from rfl) ?_
  refine K_iconst (v := -1) dX1_readPhase_14 (by decide) ?_
  refine K_icmp_eq (tgt := 22) dX1_readPhase_15 (by decide) (fun c15 => ?_) (fun c15 => ?_)
  · skip
    refine K_iconstN 0 dX1_readPhase_22 rfl ?_
    exact K_zret (by simp [rdPhase, c15]; rfl) dX1_readPhase_23 ⟨rfl, rfl⟩
  · skip
    refine K_iconstN 1 dX1_readPhase_18 rfl ?_
    refine K_goto (tgt := 23) dX1_readPhase_19 (by decide) ?_
    exact K_zret (by simp [rdPhase, c15]; rfl) dX1_readPhase_23 ⟨rfl, rfl⟩

set_option maxHeartbeats 4000000 in
set_option maxRecDepth 100000 in
theorem C_X1_readUse {l : Launch} {G : WG} {μ : Mem} {L : Nat} (hL : μ.1 2 0 0 1 = nI L) (hL6 : L ≤ 60) {s : RS} (hs : s.1 ≤ L) : Ct l G 2 yX1_readUse cX1_readUse 1 (some .boolean) [.ref (adr G 2 0 0)] (omr μ s) (some (.int (b2i (rdUse (μ.1 3 0 0) L s).1))) (omr μ (rdUse (μ.1 3 0 0) L s).2) := by
  refine Ct_of (by decide +kernel) (Nat.le_of_ble_eq_true rfl) ?_
  refine K_aload_n dX1_readUse_0 rfl ?_
  refine K_aload_n dX1_readUse_1 rfl ?_
  refine K_iconstN 0 dX1_readUse_2 rfl ?_
  refine K_iconstN 3 dX1_readUse_3 rfl ?_
  refine k_X1_readDigit (C_X1_readDigit (lo := 0) (hi := 3) hL hL6 hs (by omega) (by omega)) (by decide)  ml_X1_49 (Nat.le_of_ble_eq_true rfl) dX1_readUse_4 ?_
  refine p_X1_56 dX1_readUse_7  ?_
  refine K_mem omr_us ?_
  refine K_aload_n dX1_readUse_10 rfl ?_
  refine g_X1_56 dX1_readUse_11  ?_
  refine K_top (show _ = dgV (μ.1 3 0 0) L s.1 0 3 from rfl) ?_
  refine K_iconst (v := -1) dX1_readUse_14 (by decide) ?_
  refine K_icmp_eq (tgt := 22) dX1_readUse_15 (by decide) (fun c15 => ?_) (fun c15 => ?_)
  · skip
    refine K_iconstN 0 dX1_readUse_22 rfl ?_
    exact K_zret (by simp [rdUse, c15]; rfl) dX1_readUse_23 ⟨rfl, rfl⟩
  · skip
    refine K_iconstN 1 dX1_readUse_18 rfl ?_
    refine K_goto (tgt := 23) dX1_readUse_19 (by decide) ?_
    exact K_zret (by simp [rdUse, c15]; rfl) dX1_readUse_23 ⟨rfl, rfl⟩

set_option maxHeartbeats 4000000 in
set_option maxRecDepth 100000 in
theorem C_X1_readNumber {l : Launch} {G : WG} {μ : Mem} {L : Nat} (hL : μ.1 2 0 0 1 = nI L) (hL6 : L ≤ 60) {s : RS} (hs : s.1 ≤ L) {least most : Nat} (h1 : least ≤ 9) (h2 : 1 ≤ most) (h3 : most ≤ 9) : Ct l G 2 yX1_readNumber cX1_readNumber 4 (some .boolean) [.ref (adr G 2 0 0), .int (nI least), .int (nI most)] (omr μ s) (some (.int (b2i (rdNum (μ.1 3 0 0) L s least most).1))) (omr μ (rdNum (μ.1 3 0 0) L s least most).2) := by
  refine Ct_of (by decide +kernel) (Nat.le_of_ble_eq_true rfl) ?_
  refine K_aload_n dX1_readNumber_0 rfl ?_
  refine K_aload_n dX1_readNumber_1 rfl ?_
  refine K_iload_n dX1_readNumber_2 rfl ?_
  refine K_bipush (v := nI 9) dX1_readNumber_3 (by decide) ?_
  refine k_X1_readDigit (C_X1_readDigit hL hL6 hs h1 (by omega)) (by decide)  ml_X1_49 (Nat.le_of_ble_eq_true rfl) dX1_readNumber_5 ?_
  refine p_X1_59 dX1_readNumber_8  ?_
  refine K_mem omr_nu ?_
  refine K_aload_n dX1_readNumber_11 rfl ?_
  refine g_X1_59 dX1_readNumber_12  ?_
  refine K_top (show _ = (dgV (μ.1 3 0 0) L s.1 least 9) from rfl) ?_
  refine K_iconst (v := -1) dX1_readNumber_15 (by decide) ?_
  refine K_icmp_ne (tgt := 21) dX1_readNumber_16 (by decide) (fun c16 => ?_) (fun c16 => ?_)
  · skip
    refine K_aload_n dX1_readNumber_21 rfl ?_
    refine g_X1_59 dX1_readNumber_22  ?_
    refine K_top (show _ = (dgV (μ.1 3 0 0) L s.1 least 9) from rfl) ?_
    refine K_if_ne (tgt := 32) dX1_readNumber_25 (by decide) (fun c25 => ?_) (fun c25 => ?_)
    · skip
      refine K_iconstN 1 dX1_readNumber_32 rfl ?_
      refine K_istore_n dX1_readNumber_33 (by decide) rfl ?_
      refine K_lv [0, 1, 2, 3] (show _ = [(0, Value.ref (adr G 2 0 0)), (1, .int (nI least)), (2, .int (nI most)), (3, .int (nI (most - (most - 1))))] by rw [show most - (most - 1) = 1 by omega]; rfl) ?_
      refine K_whl (S := Nat × Int32) (fun f _ => [(0, .ref (adr G 2 0 0)), (1, .int (nI least)), (2, .int (nI most)), (3, .int (nI (most - f)))]) (fun _ x => omr μ (x.1, s.2.1, s.2.2.1, s.2.2.2.1, x.2)) (fun f x => f ≤ most ∧ x.1 ≤ L ∧ (rdNum (μ.1 3 0 0) L s least most) = (true, ((numK (μ.1 3 0 0) L f x.1 x.2).1, s.2.1, s.2.2.1, s.2.2.2.1, (numK (μ.1 3 0 0) L f x.1 x.2).2))) (fun f x hP ih => ?_) (most - 1) (dgA (μ.1 3 0 0) L s.1 least 9, (dgV (μ.1 3 0 0) L s.1 least 9)) ⟨by omega, dgA_le hs, by simp [rdNum, c16, c25]⟩
      obtain ⟨hP1, hP2, hP3⟩ := hP
      refine K_iload_n dX1_readNumber_34 rfl ?_
      refine K_iload_n dX1_readNumber_35 rfl ?_
      refine K_icmpN_ge (by omega) (by omega) (tgt := 74) dX1_readNumber_36 (by decide) (fun c36 => ?_) (fun c36 => ?_)
      · skip
        refine K_iconstN 1 dX1_readNumber_74 rfl ?_
        rw [hP3]
        first | (exact K_zret rfl dX1_readNumber_75 ⟨rfl, by rw [show f = 0 by omega]; rfl⟩) | (exact K_zret rfl dX1_readNumber_75 ⟨rfl, by obtain ⟨f, rfl⟩ : ∃ g, f = g + 1 := ⟨f - 1, by omega⟩; simp only [numK, show isDig (μ.1 3 0 0) L x.1 0 9 = false from c46, cond_false]⟩)
      · skip
        refine K_aload_n dX1_readNumber_39 rfl ?_
        refine K_iconstN 0 dX1_readNumber_40 rfl ?_
        refine K_bipush (v := nI 9) dX1_readNumber_41 (by decide) ?_
        refine k_X1_isDigit (C_X1_isDigit (s := (x.1, s.2.1, s.2.2.1, s.2.2.2.1, x.2)) (lo := 0) (hi := 9) hL hL6 (by exact hP2) (by omega) (by omega)) (by decide)  ml_X1_62 (Nat.le_of_ble_eq_true rfl) dX1_readNumber_43 ?_
        refine K_ifb_eq (tgt := 74) dX1_readNumber_46 (by decide) (fun c46 => ?_) (fun c46 => ?_)
        · skip
          refine K_iconstN 1 dX1_readNumber_74 rfl ?_
          rw [hP3]
          first | (exact K_zret rfl dX1_readNumber_75 ⟨rfl, by rw [show f = 0 by omega]; rfl⟩) | (exact K_zret rfl dX1_readNumber_75 ⟨rfl, by obtain ⟨f, rfl⟩ : ∃ g, f = g + 1 := ⟨f - 1, by omega⟩; simp only [numK, show isDig (μ.1 3 0 0) L x.1 0 9 = false from c46, cond_false]⟩)
        · skip
          refine K_aload_n dX1_readNumber_49 rfl ?_
          refine K_bipush (v := nI 10) dX1_readNumber_50 (by decide) ?_
          refine K_aload_n dX1_readNumber_52 rfl ?_
          refine g_X1_59 dX1_readNumber_53  ?_
          refine K_top (show _ = x.2 from rfl) ?_
          refine K_imul dX1_readNumber_56 ?_
          refine K_aload_n dX1_readNumber_57 rfl ?_
          refine K_iconstN 0 dX1_readNumber_58 rfl ?_
          refine K_bipush (v := nI 9) dX1_readNumber_59 (by decide) ?_
          refine k_X1_readDigit (C_X1_readDigit (s := (x.1, s.2.1, s.2.2.1, s.2.2.2.1, x.2)) (lo := 0) (hi := 9) hL hL6 (by exact hP2) (by omega) (by omega)) (by decide)  ml_X1_49 (Nat.le_of_ble_eq_true rfl) dX1_readNumber_61 ?_
          refine K_top (show _ = μ.1 3 0 0 x.1 - nI 48 by simp only [dgV, show isDig (μ.1 3 0 0) L x.1 0 9 = true from c46, cond_true]) ?_
          refine K_mem (show _ = omr μ (x.1 + 1, s.2.1, s.2.2.1, s.2.2.2.1, x.2) by simp only [dgA, show isDig (μ.1 3 0 0) L x.1 0 9 = true from c46, cond_true]) ?_
          refine K_iadd dX1_readNumber_64 ?_
          refine p_X1_59 dX1_readNumber_65  ?_
          refine K_mem omr_nu ?_
          refine K_iincN (b := 1) dX1_readNumber_68 rfl rfl (by decide) rfl ?_
          refine K_goto (tgt := 34) dX1_readNumber_71 (by decide) ?_
          exact K_lv [0, 1, 2, 3] (by rw [show most - (f - 1) = most - f + 1 by omega]; rfl) (ih (f - 1) (x.1 + 1, nI 10 * x.2 + (μ.1 3 0 0 x.1 - nI 48)) (by omega) ⟨by omega, by simp [isDig] at c46; exact c46.1, by rw [hP3, show f = (f - 1) + 1 by omega]; simp only [numK, c46, cond_true, Nat.add_sub_cancel]⟩)
    · skip
      refine K_iload_n dX1_readNumber_28 rfl ?_
      refine K_goto (tgt := 33) dX1_readNumber_29 (by decide) ?_
      refine K_istore_n dX1_readNumber_33 (by decide) rfl ?_
      refine K_lv [0, 1, 2, 3] rfl ?_
      refine K_whl (S := Nat × Int32) (fun f _ => [(0, .ref (adr G 2 0 0)), (1, .int (nI least)), (2, .int (nI most)), (3, .int (nI (most - f)))]) (fun _ x => omr μ (x.1, s.2.1, s.2.2.1, s.2.2.2.1, x.2)) (fun f x => f ≤ most ∧ x.1 ≤ L ∧ (rdNum (μ.1 3 0 0) L s least most) = (true, ((numK (μ.1 3 0 0) L f x.1 x.2).1, s.2.1, s.2.2.1, s.2.2.2.1, (numK (μ.1 3 0 0) L f x.1 x.2).2))) (fun f x hP ih => ?_) 0 (dgA (μ.1 3 0 0) L s.1 least 9, (dgV (μ.1 3 0 0) L s.1 least 9)) ⟨by omega, dgA_le hs, by simp [rdNum, numK, c16, c25]⟩
      obtain ⟨hP1, hP2, hP3⟩ := hP
      refine K_iload_n dX1_readNumber_34 rfl ?_
      refine K_iload_n dX1_readNumber_35 rfl ?_
      refine K_icmpN_ge (by omega) (by omega) (tgt := 74) dX1_readNumber_36 (by decide) (fun c36 => ?_) (fun c36 => ?_)
      · skip
        refine K_iconstN 1 dX1_readNumber_74 rfl ?_
        rw [hP3]
        first | (exact K_zret rfl dX1_readNumber_75 ⟨rfl, by rw [show f = 0 by omega]; rfl⟩) | (exact K_zret rfl dX1_readNumber_75 ⟨rfl, by obtain ⟨f, rfl⟩ : ∃ g, f = g + 1 := ⟨f - 1, by omega⟩; simp only [numK, show isDig (μ.1 3 0 0) L x.1 0 9 = false from c46, cond_false]⟩)
      · skip
        refine K_aload_n dX1_readNumber_39 rfl ?_
        refine K_iconstN 0 dX1_readNumber_40 rfl ?_
        refine K_bipush (v := nI 9) dX1_readNumber_41 (by decide) ?_
        refine k_X1_isDigit (C_X1_isDigit (s := (x.1, s.2.1, s.2.2.1, s.2.2.2.1, x.2)) (lo := 0) (hi := 9) hL hL6 (by exact hP2) (by omega) (by omega)) (by decide)  ml_X1_62 (Nat.le_of_ble_eq_true rfl) dX1_readNumber_43 ?_
        refine K_ifb_eq (tgt := 74) dX1_readNumber_46 (by decide) (fun c46 => ?_) (fun c46 => ?_)
        · skip
          refine K_iconstN 1 dX1_readNumber_74 rfl ?_
          rw [hP3]
          first | (exact K_zret rfl dX1_readNumber_75 ⟨rfl, by rw [show f = 0 by omega]; rfl⟩) | (exact K_zret rfl dX1_readNumber_75 ⟨rfl, by obtain ⟨f, rfl⟩ : ∃ g, f = g + 1 := ⟨f - 1, by omega⟩; simp only [numK, show isDig (μ.1 3 0 0) L x.1 0 9 = false from c46, cond_false]⟩)
        · skip
          refine K_aload_n dX1_readNumber_49 rfl ?_
          refine K_bipush (v := nI 10) dX1_readNumber_50 (by decide) ?_
          refine K_aload_n dX1_readNumber_52 rfl ?_
          refine g_X1_59 dX1_readNumber_53  ?_
          refine K_top (show _ = x.2 from rfl) ?_
          refine K_imul dX1_readNumber_56 ?_
          refine K_aload_n dX1_readNumber_57 rfl ?_
          refine K_iconstN 0 dX1_readNumber_58 rfl ?_
          refine K_bipush (v := nI 9) dX1_readNumber_59 (by decide) ?_
          refine k_X1_readDigit (C_X1_readDigit (s := (x.1, s.2.1, s.2.2.1, s.2.2.2.1, x.2)) (lo := 0) (hi := 9) hL hL6 (by exact hP2) (by omega) (by omega)) (by decide)  ml_X1_49 (Nat.le_of_ble_eq_true rfl) dX1_readNumber_61 ?_
          refine K_top (show _ = μ.1 3 0 0 x.1 - nI 48 by simp only [dgV, show isDig (μ.1 3 0 0) L x.1 0 9 = true from c46, cond_true]) ?_
          refine K_mem (show _ = omr μ (x.1 + 1, s.2.1, s.2.2.1, s.2.2.2.1, x.2) by simp only [dgA, show isDig (μ.1 3 0 0) L x.1 0 9 = true from c46, cond_true]) ?_
          refine K_iadd dX1_readNumber_64 ?_
          refine p_X1_59 dX1_readNumber_65  ?_
          refine K_mem omr_nu ?_
          refine K_iincN (b := 1) dX1_readNumber_68 rfl rfl (by decide) rfl ?_
          refine K_goto (tgt := 34) dX1_readNumber_71 (by decide) ?_
          exact K_lv [0, 1, 2, 3] (by rw [show most - (f - 1) = most - f + 1 by omega]; rfl) (ih (f - 1) (x.1 + 1, nI 10 * x.2 + (μ.1 3 0 0 x.1 - nI 48)) (by omega) ⟨by omega, by simp [isDig] at c46; exact c46.1, by rw [hP3, show f = (f - 1) + 1 by omega]; simp only [numK, c46, cond_true, Nat.add_sub_cancel]⟩)
  · skip
    refine K_iconstN 0 dX1_readNumber_19 rfl ?_
    exact K_zret (by simp [rdNum, c16]; rfl) dX1_readNumber_20 ⟨rfl, by simp [rdNum, c16]⟩

set_option maxHeartbeats 4000000 in
set_option maxRecDepth 100000 in
theorem C_X1_readOrder {l : Launch} {G : WG} {μ : Mem} {L : Nat} (hL : μ.1 2 0 0 1 = nI L) (hL6 : L ≤ 60) {s : RS} (hs : s.1 ≤ L) : Ct l G 3 yX1_readOrder cX1_readOrder 1 (some .boolean) [.ref (adr G 2 0 0)] (omr μ s) (some (.int (b2i (rdOrder (μ.1 3 0 0) L s).1))) (omr μ (rdOrder (μ.1 3 0 0) L s).2) := by
  refine Ct_of (by decide +kernel) (Nat.le_of_ble_eq_true rfl) ?_
  refine K_aload_n dX1_readOrder_0 rfl ?_
  refine K_bipush (v := nI 97) dX1_readOrder_1 (by decide) ?_
  refine k_X1_readSign (C_X1_readSign (s := s) hL hL6 (by exact hs)) (by decide)  ml_X1_29 (Nat.le_of_ble_eq_true rfl) dX1_readOrder_3 ?_
  refine K_ifb_eq (tgt := 53) dX1_readOrder_6 (by decide) (fun c6 => ?_) (fun c6 => ?_)
  · skip
    refine K_aload_n dX1_readOrder_53 rfl ?_
    refine K_bipush (v := nI 98) dX1_readOrder_54 (by decide) ?_
    refine k_X1_readSign (C_X1_readSign (s := (rdSign (μ.1 3 0 0) L s (nI 97)).2) hL hL6 (by exact (rdSign_le hs))) (by decide)  ml_X1_29 (Nat.le_of_ble_eq_true rfl) dX1_readOrder_56 ?_
    refine K_ifb_eq (tgt := 73) dX1_readOrder_59 (by decide) (fun c59 => ?_) (fun c59 => ?_)
    · skip
      refine K_aload_n dX1_readOrder_73 rfl ?_
      refine K_bipush (v := nI 112) dX1_readOrder_74 (by decide) ?_
      refine k_X1_readSign (C_X1_readSign (s := (rdSign (μ.1 3 0 0) L (rdSign (μ.1 3 0 0) L s (nI 97)).2 (nI 98)).2) hL hL6 (by exact (rdSign_le (rdSign_le hs)))) (by decide)  ml_X1_29 (Nat.le_of_ble_eq_true rfl) dX1_readOrder_76 ?_
      refine K_ifb_eq (tgt := 119) dX1_readOrder_79 (by decide) (fun c79 => ?_) (fun c79 => ?_)
      · skip
        refine K_aload_n dX1_readOrder_119 rfl ?_
        refine K_bipush (v := nI 100) dX1_readOrder_120 (by decide) ?_
        refine p_X1_36 dX1_readOrder_122  ?_
        refine K_mem (show _ = omr μ (setKd (rdSign (μ.1 3 0 0) L (rdSign (μ.1 3 0 0) L (rdSign (μ.1 3 0 0) L s (nI 97)).2 (nI 98)).2 (nI 112)).2 (nI 100)) from omr_kd) ?_
        refine K_aload_n dX1_readOrder_125 rfl ?_
        refine K_bipush (v := nI 100) dX1_readOrder_126 (by decide) ?_
        refine k_X1_readSign (C_X1_readSign (s := (setKd (rdSign (μ.1 3 0 0) L (rdSign (μ.1 3 0 0) L (rdSign (μ.1 3 0 0) L s (nI 97)).2 (nI 98)).2 (nI 112)).2 (nI 100))) hL hL6 (by exact (rdSign_le (rdSign_le (rdSign_le hs))))) (by decide)  ml_X1_29 (Nat.le_of_ble_eq_true rfl) dX1_readOrder_128 ?_
        refine K_ifb_eq (tgt := 147) dX1_readOrder_131 (by decide) (fun c131 => ?_) (fun c131 => ?_)
        · skip
          refine K_iconstN 0 dX1_readOrder_147 rfl ?_
          exact K_zret (b := (rdOrder (μ.1 3 0 0) L s).1) (by first | (simp only [rdOrder, andThen, c6, c59, c79, c131, cond_true, cond_false]; done) | (simp only [rdOrder, andThen, c6, c59, c79, c131, cond_true, cond_false]; rfl)) dX1_readOrder_148 ⟨rfl, by simp only [rdOrder, andThen, c6, c59, c79, c131, cond_true, cond_false]⟩
        · skip
          refine K_aload_n dX1_readOrder_134 rfl ?_
          refine K_iconstN 1 dX1_readOrder_135 rfl ?_
          refine K_iconstN 2 dX1_readOrder_136 rfl ?_
          refine k_X1_readNumber (C_X1_readNumber (s := (rdSign (μ.1 3 0 0) L (setKd (rdSign (μ.1 3 0 0) L (rdSign (μ.1 3 0 0) L (rdSign (μ.1 3 0 0) L s (nI 97)).2 (nI 98)).2 (nI 112)).2 (nI 100)) (nI 100)).2) hL hL6 (by exact (rdSign_le (rdSign_le (rdSign_le (rdSign_le hs))))) (least := 1) (most := 2) (by omega) (by omega) (by omega)) (by decide)  ml_X1_45 (Nat.le_of_ble_eq_true rfl) dX1_readOrder_137 ?_
          refine K_ifb_eq (tgt := 147) dX1_readOrder_140 (by decide) (fun c140 => ?_) (fun c140 => ?_)
          · skip
            refine K_iconstN 0 dX1_readOrder_147 rfl ?_
            exact K_zret (b := (rdOrder (μ.1 3 0 0) L s).1) (by first | (simp only [rdOrder, andThen, c6, c59, c79, c131, c140, cond_true, cond_false]; done) | (simp only [rdOrder, andThen, c6, c59, c79, c131, c140, cond_true, cond_false]; rfl)) dX1_readOrder_148 ⟨rfl, by simp only [rdOrder, andThen, c6, c59, c79, c131, c140, cond_true, cond_false]⟩
          · skip
            refine K_iconstN 1 dX1_readOrder_143 rfl ?_
            refine K_goto (tgt := 148) dX1_readOrder_144 (by decide) ?_
            exact K_zret (b := (rdOrder (μ.1 3 0 0) L s).1) (by first | (simp only [rdOrder, andThen, c6, c59, c79, c131, c140, cond_true, cond_false]; done) | (simp only [rdOrder, andThen, c6, c59, c79, c131, c140, cond_true, cond_false]; rfl)) dX1_readOrder_148 ⟨rfl, by simp only [rdOrder, andThen, c6, c59, c79, c131, c140, cond_true, cond_false]⟩
      · skip
        refine K_aload_n dX1_readOrder_82 rfl ?_
        refine K_bipush (v := nI 112) dX1_readOrder_83 (by decide) ?_
        refine p_X1_36 dX1_readOrder_85  ?_
        refine K_mem (show _ = omr μ (setKd (rdSign (μ.1 3 0 0) L (rdSign (μ.1 3 0 0) L (rdSign (μ.1 3 0 0) L s (nI 97)).2 (nI 98)).2 (nI 112)).2 (nI 112)) from omr_kd) ?_
        refine K_aload_n dX1_readOrder_88 rfl ?_
        refine k_X1_readPhase (C_X1_readPhase (s := (setKd (rdSign (μ.1 3 0 0) L (rdSign (μ.1 3 0 0) L (rdSign (μ.1 3 0 0) L s (nI 97)).2 (nI 98)).2 (nI 112)).2 (nI 112))) hL hL6 (by exact (rdSign_le (rdSign_le (rdSign_le hs))))) (by decide)  ml_X1_39 (Nat.le_of_ble_eq_true rfl) dX1_readOrder_89 ?_
        refine K_ifb_eq (tgt := 117) dX1_readOrder_92 (by decide) (fun c92 => ?_) (fun c92 => ?_)
        · skip
          refine K_iconstN 0 dX1_readOrder_117 rfl ?_
          exact K_zret (b := (rdOrder (μ.1 3 0 0) L s).1) (by first | (simp only [rdOrder, andThen, c6, c59, c79, c92, cond_true, cond_false]; done) | (simp only [rdOrder, andThen, c6, c59, c79, c92, cond_true, cond_false]; rfl)) dX1_readOrder_118 ⟨rfl, by simp only [rdOrder, andThen, c6, c59, c79, c92, cond_true, cond_false]⟩
        · skip
          refine K_aload_n dX1_readOrder_95 rfl ?_
          refine K_bipush (v := nI 58) dX1_readOrder_96 (by decide) ?_
          refine k_X1_readSign (C_X1_readSign (s := (rdPhase (μ.1 3 0 0) L (setKd (rdSign (μ.1 3 0 0) L (rdSign (μ.1 3 0 0) L (rdSign (μ.1 3 0 0) L s (nI 97)).2 (nI 98)).2 (nI 112)).2 (nI 112))).2) hL hL6 (by exact (rdPhase_le (setKd_le (rdSign_le (rdSign_le (rdSign_le hs))))))) (by decide)  ml_X1_29 (Nat.le_of_ble_eq_true rfl) dX1_readOrder_98 ?_
          refine K_ifb_eq (tgt := 117) dX1_readOrder_101 (by decide) (fun c101 => ?_) (fun c101 => ?_)
          · skip
            refine K_iconstN 0 dX1_readOrder_117 rfl ?_
            exact K_zret (b := (rdOrder (μ.1 3 0 0) L s).1) (by first | (simp only [rdOrder, andThen, c6, c59, c79, c92, c101, cond_true, cond_false]; done) | (simp only [rdOrder, andThen, c6, c59, c79, c92, c101, cond_true, cond_false]; rfl)) dX1_readOrder_118 ⟨rfl, by simp only [rdOrder, andThen, c6, c59, c79, c92, c101, cond_true, cond_false]⟩
          · skip
            refine K_aload_n dX1_readOrder_104 rfl ?_
            refine K_iconstN 1 dX1_readOrder_105 rfl ?_
            refine K_iconstN 5 dX1_readOrder_106 rfl ?_
            refine k_X1_readNumber (C_X1_readNumber (s := (rdSign (μ.1 3 0 0) L (rdPhase (μ.1 3 0 0) L (setKd (rdSign (μ.1 3 0 0) L (rdSign (μ.1 3 0 0) L (rdSign (μ.1 3 0 0) L s (nI 97)).2 (nI 98)).2 (nI 112)).2 (nI 112))).2 (nI 58)).2) hL hL6 (by exact (rdSign_le (rdPhase_le (setKd_le (rdSign_le (rdSign_le (rdSign_le hs))))))) (least := 1) (most := 5) (by omega) (by omega) (by omega)) (by decide)  ml_X1_45 (Nat.le_of_ble_eq_true rfl) dX1_readOrder_107 ?_
            refine K_ifb_eq (tgt := 117) dX1_readOrder_110 (by decide) (fun c110 => ?_) (fun c110 => ?_)
            · skip
              refine K_iconstN 0 dX1_readOrder_117 rfl ?_
              exact K_zret (b := (rdOrder (μ.1 3 0 0) L s).1) (by first | (simp only [rdOrder, andThen, c6, c59, c79, c92, c101, c110, cond_true, cond_false]; done) | (simp only [rdOrder, andThen, c6, c59, c79, c92, c101, c110, cond_true, cond_false]; rfl)) dX1_readOrder_118 ⟨rfl, by simp only [rdOrder, andThen, c6, c59, c79, c92, c101, c110, cond_true, cond_false]⟩
            · skip
              refine K_iconstN 1 dX1_readOrder_113 rfl ?_
              refine K_goto (tgt := 118) dX1_readOrder_114 (by decide) ?_
              exact K_zret (b := (rdOrder (μ.1 3 0 0) L s).1) (by first | (simp only [rdOrder, andThen, c6, c59, c79, c92, c101, c110, cond_true, cond_false]; done) | (simp only [rdOrder, andThen, c6, c59, c79, c92, c101, c110, cond_true, cond_false]; rfl)) dX1_readOrder_118 ⟨rfl, by simp only [rdOrder, andThen, c6, c59, c79, c92, c101, c110, cond_true, cond_false]⟩
    · skip
      refine K_aload_n dX1_readOrder_62 rfl ?_
      refine K_bipush (v := nI 98) dX1_readOrder_63 (by decide) ?_
      refine p_X1_36 dX1_readOrder_65  ?_
      refine K_mem (show _ = omr μ (setKd (rdSign (μ.1 3 0 0) L (rdSign (μ.1 3 0 0) L s (nI 97)).2 (nI 98)).2 (nI 98)) from omr_kd) ?_
      refine K_aload_n dX1_readOrder_68 rfl ?_
      refine k_X1_readPhase (C_X1_readPhase (s := (setKd (rdSign (μ.1 3 0 0) L (rdSign (μ.1 3 0 0) L s (nI 97)).2 (nI 98)).2 (nI 98))) hL hL6 (by exact (rdSign_le (rdSign_le hs)))) (by decide)  ml_X1_39 (Nat.le_of_ble_eq_true rfl) dX1_readOrder_69 ?_
      exact K_zret (b := (rdOrder (μ.1 3 0 0) L s).1) (by first | (simp only [rdOrder, andThen, c6, c59, cond_true, cond_false]; done) | (simp only [rdOrder, andThen, c6, c59, cond_true, cond_false]; rfl)) dX1_readOrder_72 ⟨rfl, by simp only [rdOrder, andThen, c6, c59, cond_true, cond_false]⟩
  · skip
    refine K_aload_n dX1_readOrder_9 rfl ?_
    refine K_bipush (v := nI 97) dX1_readOrder_10 (by decide) ?_
    refine p_X1_36 dX1_readOrder_12  ?_
    refine K_mem (show _ = omr μ (setKd (rdSign (μ.1 3 0 0) L s (nI 97)).2 (nI 97)) from omr_kd) ?_
    refine K_aload_n dX1_readOrder_15 rfl ?_
    refine k_X1_readPhase (C_X1_readPhase (s := (setKd (rdSign (μ.1 3 0 0) L s (nI 97)).2 (nI 97))) hL hL6 (by exact (rdSign_le hs))) (by decide)  ml_X1_39 (Nat.le_of_ble_eq_true rfl) dX1_readOrder_16 ?_
    refine K_ifb_eq (tgt := 51) dX1_readOrder_19 (by decide) (fun c19 => ?_) (fun c19 => ?_)
    · skip
      refine K_iconstN 0 dX1_readOrder_51 rfl ?_
      exact K_zret (b := (rdOrder (μ.1 3 0 0) L s).1) (by first | (simp only [rdOrder, andThen, c6, c19, cond_true, cond_false]; done) | (simp only [rdOrder, andThen, c6, c19, cond_true, cond_false]; rfl)) dX1_readOrder_52 ⟨rfl, by simp only [rdOrder, andThen, c6, c19, cond_true, cond_false]⟩
    · skip
      refine K_aload_n dX1_readOrder_22 rfl ?_
      refine k_X1_readUse (C_X1_readUse (s := (rdPhase (μ.1 3 0 0) L (setKd (rdSign (μ.1 3 0 0) L s (nI 97)).2 (nI 97))).2) hL hL6 (by exact (rdPhase_le (setKd_le (rdSign_le hs))))) (by decide)  ml_X1_42 (Nat.le_of_ble_eq_true rfl) dX1_readOrder_23 ?_
      refine K_ifb_eq (tgt := 51) dX1_readOrder_26 (by decide) (fun c26 => ?_) (fun c26 => ?_)
      · skip
        refine K_iconstN 0 dX1_readOrder_51 rfl ?_
        exact K_zret (b := (rdOrder (μ.1 3 0 0) L s).1) (by first | (simp only [rdOrder, andThen, c6, c19, c26, cond_true, cond_false]; done) | (simp only [rdOrder, andThen, c6, c19, c26, cond_true, cond_false]; rfl)) dX1_readOrder_52 ⟨rfl, by simp only [rdOrder, andThen, c6, c19, c26, cond_true, cond_false]⟩
      · skip
        refine K_aload_n dX1_readOrder_29 rfl ?_
        refine K_bipush (v := nI 61) dX1_readOrder_30 (by decide) ?_
        refine k_X1_readSign (C_X1_readSign (s := (rdUse (μ.1 3 0 0) L (rdPhase (μ.1 3 0 0) L (setKd (rdSign (μ.1 3 0 0) L s (nI 97)).2 (nI 97))).2).2) hL hL6 (by exact (rdUse_le (rdPhase_le (setKd_le (rdSign_le hs)))))) (by decide)  ml_X1_29 (Nat.le_of_ble_eq_true rfl) dX1_readOrder_32 ?_
        refine K_ifb_eq (tgt := 51) dX1_readOrder_35 (by decide) (fun c35 => ?_) (fun c35 => ?_)
        · skip
          refine K_iconstN 0 dX1_readOrder_51 rfl ?_
          exact K_zret (b := (rdOrder (μ.1 3 0 0) L s).1) (by first | (simp only [rdOrder, andThen, c6, c19, c26, c35, cond_true, cond_false]; done) | (simp only [rdOrder, andThen, c6, c19, c26, c35, cond_true, cond_false]; rfl)) dX1_readOrder_52 ⟨rfl, by simp only [rdOrder, andThen, c6, c19, c26, c35, cond_true, cond_false]⟩
        · skip
          refine K_aload_n dX1_readOrder_38 rfl ?_
          refine K_iconstN 0 dX1_readOrder_39 rfl ?_
          refine K_iconstN 3 dX1_readOrder_40 rfl ?_
          refine k_X1_readNumber (C_X1_readNumber (s := (rdSign (μ.1 3 0 0) L (rdUse (μ.1 3 0 0) L (rdPhase (μ.1 3 0 0) L (setKd (rdSign (μ.1 3 0 0) L s (nI 97)).2 (nI 97))).2).2 (nI 61)).2) hL hL6 (by exact (rdSign_le (rdUse_le (rdPhase_le (setKd_le (rdSign_le hs)))))) (least := 0) (most := 3) (by omega) (by omega) (by omega)) (by decide)  ml_X1_45 (Nat.le_of_ble_eq_true rfl) dX1_readOrder_41 ?_
          refine K_ifb_eq (tgt := 51) dX1_readOrder_44 (by decide) (fun c44 => ?_) (fun c44 => ?_)
          · skip
            refine K_iconstN 0 dX1_readOrder_51 rfl ?_
            exact K_zret (b := (rdOrder (μ.1 3 0 0) L s).1) (by first | (simp only [rdOrder, andThen, c6, c19, c26, c35, c44, cond_true, cond_false]; done) | (simp only [rdOrder, andThen, c6, c19, c26, c35, c44, cond_true, cond_false]; rfl)) dX1_readOrder_52 ⟨rfl, by simp only [rdOrder, andThen, c6, c19, c26, c35, c44, cond_true, cond_false]⟩
          · skip
            refine K_iconstN 1 dX1_readOrder_47 rfl ?_
            refine K_goto (tgt := 52) dX1_readOrder_48 (by decide) ?_
            exact K_zret (b := (rdOrder (μ.1 3 0 0) L s).1) (by first | (simp only [rdOrder, andThen, c6, c19, c26, c35, c44, cond_true, cond_false]; done) | (simp only [rdOrder, andThen, c6, c19, c26, c35, c44, cond_true, cond_false]; rfl)) dX1_readOrder_52 ⟨rfl, by simp only [rdOrder, andThen, c6, c19, c26, c35, c44, cond_true, cond_false]⟩

set_option maxHeartbeats 4000000 in
set_option maxRecDepth 100000 in
theorem C_X1_readNextOrder {l : Launch} {G : WG} {μ : Mem} {L : Nat} (hL : μ.1 2 0 0 1 = nI L) (hL6 : L ≤ 60) {s : RS} (hs : s.1 ≤ L) : Ct l G 4 yX1_readNextOrder cX1_readNextOrder 1 (some .boolean) [.ref (adr G 2 0 0)] (omr μ s) (some (.int (b2i (rdNext (μ.1 3 0 0) L s).1))) (omr μ (rdNext (μ.1 3 0 0) L s).2) := by
  refine Ct_of (by decide +kernel) (Nat.le_of_ble_eq_true rfl) ?_
  refine K_aload_n dX1_readNextOrder_0 rfl ?_
  refine g_X1_19 dX1_readNextOrder_1  ?_
  refine K_top (show _ = nI s.1 from rfl) ?_
  refine K_ifN_eq (by omega) (tgt := 16) dX1_readNextOrder_4 (by decide) (fun c4 => ?_) (fun c4 => ?_)
  · skip
    refine K_aload_n dX1_readNextOrder_16 rfl ?_
    refine k_X1_readOrder (C_X1_readOrder (s := s) hL hL6 (by exact hs)) (by decide)  ml_X1_33 (Nat.le_of_ble_eq_true rfl) dX1_readNextOrder_17 ?_
    refine K_ifb_eq (tgt := 27) dX1_readNextOrder_20 (by decide) (fun c20 => ?_) (fun c20 => ?_)
    · skip
      refine K_iconstN 0 dX1_readNextOrder_27 rfl ?_
      exact K_zret (b := (rdNext (μ.1 3 0 0) L s).1) (by first | (simp [rdNext, andThen, c4, c20]; done) | (simp [rdNext, andThen, c4, c20]; rfl)) dX1_readNextOrder_28 ⟨rfl, by simp [rdNext, andThen, c4, c20]⟩
    · skip
      refine K_iconstN 1 dX1_readNextOrder_23 rfl ?_
      refine K_goto (tgt := 28) dX1_readNextOrder_24 (by decide) ?_
      exact K_zret (b := (rdNext (μ.1 3 0 0) L s).1) (by first | (simp [rdNext, andThen, c4, c20]; done) | (simp [rdNext, andThen, c4, c20]; rfl)) dX1_readNextOrder_28 ⟨rfl, by simp [rdNext, andThen, c4, c20]⟩
  · skip
    refine K_aload_n dX1_readNextOrder_7 rfl ?_
    refine K_bipush (v := nI 59) dX1_readNextOrder_8 (by decide) ?_
    refine k_X1_readSign (C_X1_readSign (s := s) hL hL6 (by exact hs)) (by decide)  ml_X1_29 (Nat.le_of_ble_eq_true rfl) dX1_readNextOrder_10 ?_
    refine K_ifb_eq (tgt := 27) dX1_readNextOrder_13 (by decide) (fun c13 => ?_) (fun c13 => ?_)
    · skip
      refine K_iconstN 0 dX1_readNextOrder_27 rfl ?_
      exact K_zret (b := (rdNext (μ.1 3 0 0) L s).1) (by first | (simp [rdNext, andThen, c4, c13]; done) | (simp [rdNext, andThen, c4, c13]; rfl)) dX1_readNextOrder_28 ⟨rfl, by simp [rdNext, andThen, c4, c13]⟩
    · skip
      refine K_aload_n dX1_readNextOrder_16 rfl ?_
      refine k_X1_readOrder (C_X1_readOrder (s := (rdSign (μ.1 3 0 0) L s (nI 59)).2) hL hL6 (by exact (rdSign_le hs))) (by decide)  ml_X1_33 (Nat.le_of_ble_eq_true rfl) dX1_readNextOrder_17 ?_
      refine K_ifb_eq (tgt := 27) dX1_readNextOrder_20 (by decide) (fun c20 => ?_) (fun c20 => ?_)
      · skip
        refine K_iconstN 0 dX1_readNextOrder_27 rfl ?_
        exact K_zret (b := (rdNext (μ.1 3 0 0) L s).1) (by first | (simp [rdNext, andThen, c4, c13, c20]; done) | (simp [rdNext, andThen, c4, c13, c20]; rfl)) dX1_readNextOrder_28 ⟨rfl, by simp [rdNext, andThen, c4, c13, c20]⟩
      · skip
        refine K_iconstN 1 dX1_readNextOrder_23 rfl ?_
        refine K_goto (tgt := 28) dX1_readNextOrder_24 (by decide) ?_
        exact K_zret (b := (rdNext (μ.1 3 0 0) L s).1) (by first | (simp [rdNext, andThen, c4, c13, c20]; done) | (simp [rdNext, andThen, c4, c13, c20]; rfl)) dX1_readNextOrder_28 ⟨rfl, by simp [rdNext, andThen, c4, c13, c20]⟩

set_option maxHeartbeats 4000000 in
set_option maxRecDepth 100000 in
theorem C_X1_rewind {l : Launch} {G : WG} {μ : Mem} {L : Nat} (hL : μ.1 2 0 0 1 = nI L) (hL6 : L ≤ 60) {s : RS} : Ct l G 0 yX1_rewind cX1_rewind 1 none [.ref (adr G 2 0 0)] (omr μ s) none (omr μ (0, s.2)) := by
  refine Ct_of (by decide +kernel) (Nat.le_of_ble_eq_true rfl) ?_
  refine K_aload_n dX1_rewind_0 rfl ?_
  refine K_iconstN 0 dX1_rewind_1 rfl ?_
  refine p_X1_19 dX1_rewind_2  ?_
  refine K_mem omr_at ?_
  exact K_vret dX1_rewind_5 ⟨rfl, rfl⟩

set_option maxHeartbeats 4000000 in
set_option maxRecDepth 100000 in
theorem C_X1_readRow {l : Launch} {G : WG} {μ : Mem} {L : Nat} (hL : μ.1 2 0 0 1 = nI L) (hL6 : L ≤ 60) {s : RS} : Ct l G 5 yX1_readRow cX1_readRow 3 (some .boolean) [.ref (adr G 2 0 0)] (omr μ s) (some (.int (b2i (rdRow (μ.1 3 0 0) L s).1))) (omr μ (rdRow (μ.1 3 0 0) L s).2) := by
  refine Ct_of (by decide +kernel) (Nat.le_of_ble_eq_true rfl) ?_
  refine K_aload_n dX1_readRow_0 rfl ?_
  refine k_X1_rewind (C_X1_rewind (by omega) (by omega)) (by decide)  ml_X1_22 (Nat.le_of_ble_eq_true rfl) dX1_readRow_1 ?_
  refine K_aload_n dX1_readRow_4 rfl ?_
  refine k_X1_readNextOrder (C_X1_readNextOrder (s := (0, s.2)) hL hL6 (by exact (Nat.zero_le L))) (by decide)  ml_X1_25 (Nat.le_of_ble_eq_true rfl) dX1_readRow_5 ?_
  refine K_istore_n dX1_readRow_8 (by decide) rfl ?_
  refine K_iconstN 0 dX1_readRow_9 rfl ?_
  refine K_istore_n dX1_readRow_10 (by decide) rfl ?_
  refine K_lv [0, 1, 2] rfl ?_
  refine K_whl (S := Bool × RS) (fun f x => [(0, .ref (adr G 2 0 0)), (1, .int (b2i x.1)), (2, .int (nI (60 - f)))]) (fun _ x => omr μ x.2) (fun f x => f ≤ 60 ∧ x.2.1 ≤ L ∧ rdRow (μ.1 3 0 0) L s = rowK (μ.1 3 0 0) L f x) (fun f x hP ih => ?_) 60 (rdNext (μ.1 3 0 0) L (0, s.2)) ⟨by omega, rdNext_le (Nat.zero_le L), rfl⟩
  obtain ⟨hP1, hP2, hP3⟩ := hP
  refine K_iload_n dX1_readRow_11 rfl ?_
  refine K_bipush (v := nI 60) dX1_readRow_12 (by decide) ?_
  refine K_icmpN_ge (by omega) (by omega) (tgt := 43) dX1_readRow_14 (by decide) (fun c14 => ?_) (fun c14 => ?_)
  · skip
    refine K_iload_n dX1_readRow_43 rfl ?_
    rw [hP3]
    exact K_zret (by first | (rw [show f = 0 by omega]; rfl) | (cases f <;> first | rfl | (simp [rowK, ]; done) | (simp [rowK, ]; rfl))) dX1_readRow_44 ⟨rfl, by first | (rw [show f = 0 by omega]; rfl) | (cases f <;> first | rfl | (simp [rowK, ]; done) | (simp [rowK, ]; rfl))⟩
  · skip
    refine K_iload_n dX1_readRow_17 rfl ?_
    refine K_ifb_eq (tgt := 43) dX1_readRow_18 (by decide) (fun c18 => ?_) (fun c18 => ?_)
    · skip
      refine K_iload_n dX1_readRow_43 rfl ?_
      rw [hP3]
      exact K_zret (by first | (rw [show f = 0 by omega]; rfl) | (cases f <;> first | rfl | (simp [rowK, c18]; done) | (simp [rowK, c18]; rfl))) dX1_readRow_44 ⟨rfl, by first | (rw [show f = 0 by omega]; rfl) | (cases f <;> first | rfl | (simp [rowK, c18]; done) | (simp [rowK, c18]; rfl))⟩
    · skip
      refine K_aload_n dX1_readRow_21 rfl ?_
      refine g_X1_19 dX1_readRow_22  ?_
      refine K_top (show _ = nI x.2.1 from rfl) ?_
      refine K_aload_n dX1_readRow_25 rfl ?_
      refine g_X1_15 dX1_readRow_26  ?_
      refine K_top (show _ = nI L from hL) ?_
      refine K_icmpN_ge (by omega) (by omega) (tgt := 43) dX1_readRow_29 (by decide) (fun c29 => ?_) (fun c29 => ?_)
      · skip
        refine K_iload_n dX1_readRow_43 rfl ?_
        rw [hP3]
        exact K_zret (by first | (rw [show f = 0 by omega]; rfl) | (cases f <;> first | rfl | (simp [rowK, c18, c29]; done) | (simp [rowK, c18, c29]; rfl) | (simp [rowK, c18, Nat.not_lt.mpr c29]; done) | (simp [rowK, c18, Nat.not_lt.mpr c29]; rfl))) dX1_readRow_44 ⟨rfl, by first | (rw [show f = 0 by omega]; rfl) | (cases f <;> first | rfl | (simp [rowK, c18, c29]; done) | (simp [rowK, c18, c29]; rfl) | (simp [rowK, c18, Nat.not_lt.mpr c29]; done) | (simp [rowK, c18, Nat.not_lt.mpr c29]; rfl))⟩
      · skip
        refine K_aload_n dX1_readRow_32 rfl ?_
        refine k_X1_readNextOrder (C_X1_readNextOrder (s := x.2) hL hL6 (by exact hP2)) (by decide)  ml_X1_25 (Nat.le_of_ble_eq_true rfl) dX1_readRow_33 ?_
        refine K_istore_n dX1_readRow_36 (by decide) rfl ?_
        refine K_iincN (b := 1) dX1_readRow_37 rfl rfl (by decide) rfl ?_
        refine K_goto (tgt := 11) dX1_readRow_40 (by decide) ?_
        exact K_lv [0, 1, 2] (by rw [show 60 - (f - 1) = 60 - f + 1 by omega]; rfl) (ih (f - 1) (rdNext (μ.1 3 0 0) L x.2) (by omega) ⟨by omega, rdNext_le hP2, by rw [hP3]; obtain ⟨f, rfl⟩ : ∃ g, f = g + 1 := ⟨f - 1, by omega⟩; simp [rowK, c18, c29]⟩)

set_option maxHeartbeats 4000000 in
set_option maxRecDepth 100000 in
theorem C_X1_appendCode {l : Launch} {G : WG} {μ : Mem} {L : Nat} (hL : μ.1 2 0 0 1 = nI L) (hL6 : L ≤ 60) {s : RS} {a : Int32} (hL9 : L < 60) : Ct l G 0 yX1_appendCode cX1_appendCode 2 (some .int) [.ref (adr G 2 0 0), .int (a)] (omr μ s) (some (.int (nI (L + 1)))) (mset (mset (omr μ s) 3 0 0 L a) 2 0 0 1 (nI (L + 1))) := by
  refine Ct_of (by decide +kernel) (Nat.le_of_ble_eq_true rfl) ?_
  refine K_aload_n dX1_appendCode_0 rfl ?_
  refine g_X1_15 dX1_appendCode_1  ?_
  refine K_top (show _ = nI L from hL) ?_
  refine K_bipush (v := nI 60) dX1_appendCode_4 (by decide) ?_
  refine K_icmpN_ge (by omega) (by omega) (tgt := 29) dX1_appendCode_6 (by decide) (fun c6 => ?_) (fun c6 => ?_)
  · skip
    exfalso; omega
  · skip
    refine K_aload_n dX1_appendCode_9 rfl ?_
    refine g_X1_9 dX1_appendCode_10  ?_
    refine K_aload_n dX1_appendCode_13 rfl ?_
    refine g_X1_15 dX1_appendCode_14  ?_
    refine K_top (show _ = nI L from hL) ?_
    refine K_iload_n dX1_appendCode_17 rfl ?_
    refine ast3 dX1_appendCode_18 (by omega) ?_
    refine K_aload_n dX1_appendCode_19 rfl ?_
    refine K_dup dX1_appendCode_20 rfl ?_
    refine g_X1_15 dX1_appendCode_21  ?_
    refine K_top (show _ = nI L from hL) ?_
    refine K_iconstN 1 dX1_appendCode_24 rfl ?_
    refine K_iaddN dX1_appendCode_25 ?_
    refine p_X1_15 dX1_appendCode_26  ?_
    refine K_aload_n dX1_appendCode_29 rfl ?_
    refine g_X1_15 dX1_appendCode_30  ?_
    refine K_top mset_at ?_
    exact K_iret dX1_appendCode_33 ⟨by rfl, rfl⟩
