set_option maxHeartbeats 4000000 in
set_option maxRecDepth 100000 in
theorem C_X3_carryOutOrderFA {l : Launch} {G : WG} {μ : Mem} {n : Nat} (hI : CI μ n) (hk : μ.1 2 0 0 3 = nI 97) (hh : cHas n (μ.1 2 0 0 4) = false) : Ct l G 3 yX3_carryOutOrder cX3_carryOutOrder 2 (some .boolean) [.ref (adr G 0 0 0)] (μ) (some (.int (b2i false))) (μ) := by
  refine Ct_of (by decide +kernel) (Nat.le_of_ble_eq_true rfl) ?_
  refine K_aload_n dX3_carryOutOrder_0 rfl ?_
  refine g_X3_30 dX3_carryOutOrder_1  ?_
  refine g_X3_301 dX3_carryOutOrder_4  ?_
  refine K_istore_n dX3_carryOutOrder_7 (by decide) rfl ?_
  refine K_aload_n dX3_carryOutOrder_8 rfl ?_
  refine g_X3_30 dX3_carryOutOrder_9  ?_
  refine g_X3_303 dX3_carryOutOrder_12  ?_
  refine K_top (show _ = nI 97 from hk) ?_
  refine K_lookup (tgt := 48) dX3_carryOutOrder_15 (by decide) rfl (by decide) ?_
  refine K_aload_n dX3_carryOutOrder_48 rfl ?_
  refine g_X3_10 dX3_carryOutOrder_49  ?_
  refine K_iconstN 0 dX3_carryOutOrder_52 rfl ?_
  refine K_iload_n dX3_carryOutOrder_53 rfl ?_
  refine k_X0_allows (C_X0_allowsF0 (by omega) hI.1 hI.2.1 hh) (by decide) (by omega) ml_X3_306 (Nat.le_of_ble_eq_true rfl) dX3_carryOutOrder_54 ?_
  refine K_ifb_ne (tgt := 62) dX3_carryOutOrder_57 (by decide) (fun c57 => ?_) (fun c57 => ?_)
  · skip
    exact absurd c57 Bool.false_ne_true
  · skip
    refine K_iconstN 0 dX3_carryOutOrder_60 rfl ?_
    exact K_zret (by rfl) dX3_carryOutOrder_61 ⟨rfl, rfl⟩

set_option maxHeartbeats 4000000 in
set_option maxRecDepth 100000 in
theorem C_X3_carryOutOrderFB {l : Launch} {G : WG} {μ : Mem} {n : Nat} (hI : CI μ n) (hk : μ.1 2 0 0 3 = nI 98) (hh : cHas n (μ.1 2 0 0 4) = false) : Ct l G 3 yX3_carryOutOrder cX3_carryOutOrder 2 (some .boolean) [.ref (adr G 0 0 0)] (μ) (some (.int (b2i false))) (μ) := by
  refine Ct_of (by decide +kernel) (Nat.le_of_ble_eq_true rfl) ?_
  refine K_aload_n dX3_carryOutOrder_0 rfl ?_
  refine g_X3_30 dX3_carryOutOrder_1  ?_
  refine g_X3_301 dX3_carryOutOrder_4  ?_
  refine K_istore_n dX3_carryOutOrder_7 (by decide) rfl ?_
  refine K_aload_n dX3_carryOutOrder_8 rfl ?_
  refine g_X3_30 dX3_carryOutOrder_9  ?_
  refine g_X3_303 dX3_carryOutOrder_12  ?_
  refine K_top (show _ = nI 98 from hk) ?_
  refine K_lookup (tgt := 91) dX3_carryOutOrder_15 (by decide) rfl (by decide) ?_
  refine K_aload_n dX3_carryOutOrder_91 rfl ?_
  refine g_X3_10 dX3_carryOutOrder_92  ?_
  refine K_iconstN 1 dX3_carryOutOrder_95 rfl ?_
  refine K_iload_n dX3_carryOutOrder_96 rfl ?_
  refine k_X0_allows (C_X0_allowsF1 (by omega) hI.1 hI.2.1 hh) (by decide) (by omega) ml_X3_306 (Nat.le_of_ble_eq_true rfl) dX3_carryOutOrder_97 ?_
  refine K_ifb_ne (tgt := 105) dX3_carryOutOrder_100 (by decide) (fun c100 => ?_) (fun c100 => ?_)
  · skip
    exact absurd c100 Bool.false_ne_true
  · skip
    refine K_iconstN 0 dX3_carryOutOrder_103 rfl ?_
    exact K_zret (by rfl) dX3_carryOutOrder_104 ⟨rfl, rfl⟩

set_option maxHeartbeats 4000000 in
set_option maxRecDepth 100000 in
theorem C_X3_carryOutOrderFP {l : Launch} {G : WG} {μ : Mem} {n : Nat} (hI : CI μ n) (hk : μ.1 2 0 0 3 = nI 112) (hh : cHas n (μ.1 2 0 0 4) = false) : Ct l G 3 yX3_carryOutOrder cX3_carryOutOrder 2 (some .boolean) [.ref (adr G 0 0 0)] (μ) (some (.int (b2i false))) (μ) := by
  refine Ct_of (by decide +kernel) (Nat.le_of_ble_eq_true rfl) ?_
  refine K_aload_n dX3_carryOutOrder_0 rfl ?_
  refine g_X3_30 dX3_carryOutOrder_1  ?_
  refine g_X3_301 dX3_carryOutOrder_4  ?_
  refine K_istore_n dX3_carryOutOrder_7 (by decide) rfl ?_
  refine K_aload_n dX3_carryOutOrder_8 rfl ?_
  refine g_X3_30 dX3_carryOutOrder_9  ?_
  refine g_X3_303 dX3_carryOutOrder_12  ?_
  refine K_top (show _ = nI 112 from hk) ?_
  refine K_lookup (tgt := 116) dX3_carryOutOrder_15 (by decide) rfl (by decide) ?_
  refine K_aload_n dX3_carryOutOrder_116 rfl ?_
  refine g_X3_10 dX3_carryOutOrder_117  ?_
  refine K_iconstN 2 dX3_carryOutOrder_120 rfl ?_
  refine K_iload_n dX3_carryOutOrder_121 rfl ?_
  refine k_X0_allows (C_X0_allowsF2 (by omega) hI.1 hI.2.1 hh) (by decide) (by omega) ml_X3_306 (Nat.le_of_ble_eq_true rfl) dX3_carryOutOrder_122 ?_
  refine K_ifb_ne (tgt := 130) dX3_carryOutOrder_125 (by decide) (fun c125 => ?_) (fun c125 => ?_)
  · skip
    exact absurd c125 Bool.false_ne_true
  · skip
    refine K_iconstN 0 dX3_carryOutOrder_128 rfl ?_
    exact K_zret (by rfl) dX3_carryOutOrder_129 ⟨rfl, rfl⟩

set_option maxHeartbeats 4000000 in
set_option maxRecDepth 100000 in
theorem C_X3_carryOutOrderA {l : Launch} {G : WG} {μ : Mem} {n : Nat} (hI : CI μ n) (hk : μ.1 2 0 0 3 = nI 97) {p : Nat} (hp : p < n) (hP : μ.1 2 0 0 4 = nI p) {u : Nat} (hu : u < 4) (hU : μ.1 2 0 0 5 = nI u) : Ct l G 5 yX3_carryOutOrder cX3_carryOutOrder 2 (some .boolean) [.ref (adr G 0 0 0)] (μ) (some (.int (b2i (decide (cWhy0 μ 0 p = 0))))) (cond (decide (cWhy0 μ 0 p = 0)) (coA μ n p u (μ.1 2 0 0 6)) μ) := by
  refine Ct_of (by decide +kernel) (Nat.le_of_ble_eq_true rfl) ?_
  have hp6 : p < 6 := Nat.lt_of_lt_of_le hp hI.2.1
  refine K_aload_n dX3_carryOutOrder_0 rfl ?_
  refine g_X3_30 dX3_carryOutOrder_1  ?_
  refine g_X3_301 dX3_carryOutOrder_4  ?_
  refine K_top (show _ = nI p from hP) ?_
  refine K_istore_n dX3_carryOutOrder_7 (by decide) rfl ?_
  refine K_aload_n dX3_carryOutOrder_8 rfl ?_
  refine g_X3_30 dX3_carryOutOrder_9  ?_
  refine g_X3_303 dX3_carryOutOrder_12  ?_
  refine K_top (show _ = nI 97 from hk) ?_
  refine K_lookup (tgt := 48) dX3_carryOutOrder_15 (by decide) rfl (by decide) ?_
  refine K_aload_n dX3_carryOutOrder_48 rfl ?_
  refine g_X3_10 dX3_carryOutOrder_49  ?_
  refine K_iconstN 0 dX3_carryOutOrder_52 rfl ?_
  refine K_iload_n dX3_carryOutOrder_53 rfl ?_
  refine k_X0_allows (C_X0_allows0 (by omega) hp6 hI.1 hI.2.1 hp) (by decide) (by omega) ml_X3_306 (Nat.le_of_ble_eq_true rfl) dX3_carryOutOrder_54 ?_
  refine K_ifb_ne (tgt := 62) dX3_carryOutOrder_57 (by decide) (fun c57 => ?_) (fun c57 => ?_)
  · skip
    refine K_aload_n dX3_carryOutOrder_62 rfl ?_
    refine g_X3_10 dX3_carryOutOrder_63  ?_
    refine g_X3_65 dX3_carryOutOrder_66 (by omega) ?_
    refine K_iload_n dX3_carryOutOrder_69 rfl ?_
    refine ald7 dX3_carryOutOrder_70 (by omega) (by omega) ?_
    refine K_aload_n dX3_carryOutOrder_71 rfl ?_
    refine g_X3_30 dX3_carryOutOrder_72  ?_
    refine g_X3_309 dX3_carryOutOrder_75  ?_
    refine K_top (show _ = nI u from hU) ?_
    refine K_aload_n dX3_carryOutOrder_78 rfl ?_
    refine g_X3_30 dX3_carryOutOrder_79  ?_
    refine g_X3_311 dX3_carryOutOrder_82  ?_
    refine k_X2_changeArea (C_X2_changeArea (by omega) hp6 hu) (by decide) (by omega) (by omega) ml_X3_69 (Nat.le_of_ble_eq_true rfl) dX3_carryOutOrder_85 ?_
    refine K_pop dX3_carryOutOrder_88 rfl ?_
    refine K_iconstN 1 dX3_carryOutOrder_89 rfl ?_
    exact K_zret (b := decide (cWhy0 μ 0 p = 0)) (by rw [c57]; rfl) dX3_carryOutOrder_90 ⟨rfl, by rw [c57]; rfl⟩
  · skip
    refine K_iconstN 0 dX3_carryOutOrder_60 rfl ?_
    exact K_zret (b := decide (cWhy0 μ 0 p = 0)) (by rw [c57]; rfl) dX3_carryOutOrder_61 ⟨rfl, by rw [c57]; rfl⟩

set_option maxHeartbeats 4000000 in
set_option maxRecDepth 100000 in
theorem C_X3_carryOutOrderB {l : Launch} {G : WG} {μ : Mem} {n : Nat} (hI : CI μ n) (hk : μ.1 2 0 0 3 = nI 98) {p : Nat} (hp : p < n) (hP : μ.1 2 0 0 4 = nI p) : Ct l G 5 yX3_carryOutOrder cX3_carryOutOrder 2 (some .boolean) [.ref (adr G 0 0 0)] (μ) (some (.int (b2i (decide (cWhy1 μ 0 p = 0))))) (cond (decide (cWhy1 μ 0 p = 0)) (cStart μ 0 p (μ.1 4 0 0 0) (μ.1 6 0 0 0)) μ) := by
  refine Ct_of (by decide +kernel) (Nat.le_of_ble_eq_true rfl) ?_
  have hp6 : p < 6 := Nat.lt_of_lt_of_le hp hI.2.1
  refine K_aload_n dX3_carryOutOrder_0 rfl ?_
  refine g_X3_30 dX3_carryOutOrder_1  ?_
  refine g_X3_301 dX3_carryOutOrder_4  ?_
  refine K_top (show _ = nI p from hP) ?_
  refine K_istore_n dX3_carryOutOrder_7 (by decide) rfl ?_
  refine K_aload_n dX3_carryOutOrder_8 rfl ?_
  refine g_X3_30 dX3_carryOutOrder_9  ?_
  refine g_X3_303 dX3_carryOutOrder_12  ?_
  refine K_top (show _ = nI 98 from hk) ?_
  refine K_lookup (tgt := 91) dX3_carryOutOrder_15 (by decide) rfl (by decide) ?_
  refine K_aload_n dX3_carryOutOrder_91 rfl ?_
  refine g_X3_10 dX3_carryOutOrder_92  ?_
  refine K_iconstN 1 dX3_carryOutOrder_95 rfl ?_
  refine K_iload_n dX3_carryOutOrder_96 rfl ?_
  refine k_X0_allows (C_X0_allows1 (by omega) hp6 hI.1 hI.2.1 hp) (by decide) (by omega) ml_X3_306 (Nat.le_of_ble_eq_true rfl) dX3_carryOutOrder_97 ?_
  refine K_ifb_ne (tgt := 105) dX3_carryOutOrder_100 (by decide) (fun c100 => ?_) (fun c100 => ?_)
  · skip
    refine K_aload_n dX3_carryOutOrder_105 rfl ?_
    refine g_X3_10 dX3_carryOutOrder_106  ?_
    refine K_iload_n dX3_carryOutOrder_109 rfl ?_
    refine k_X0_beginPhase (C_X0_beginPhase (by omega) (by omega)) (by decide) (by omega) ml_X3_97 (Nat.le_of_ble_eq_true rfl) dX3_carryOutOrder_110 ?_
    refine K_pop dX3_carryOutOrder_113 rfl ?_
    refine K_iconstN 1 dX3_carryOutOrder_114 rfl ?_
    exact K_zret (b := decide (cWhy1 μ 0 p = 0)) (by rw [c100]; rfl) dX3_carryOutOrder_115 ⟨rfl, by rw [c100]; rfl⟩
  · skip
    refine K_iconstN 0 dX3_carryOutOrder_103 rfl ?_
    exact K_zret (b := decide (cWhy1 μ 0 p = 0)) (by rw [c100]; rfl) dX3_carryOutOrder_104 ⟨rfl, by rw [c100]; rfl⟩

set_option maxHeartbeats 4000000 in
set_option maxRecDepth 100000 in
theorem C_X3_carryOutOrderP {l : Launch} {G : WG} {μ : Mem} {n : Nat} (hI : CI μ n) (hk : μ.1 2 0 0 3 = nI 112) {p : Nat} (hp : p < n) (hP : μ.1 2 0 0 4 = nI p) : Ct l G 5 yX3_carryOutOrder cX3_carryOutOrder 2 (some .boolean) [.ref (adr G 0 0 0)] (μ) (some (.int (b2i (decide (cWhy2 μ 0 p = 0))))) (cond (decide (cWhy2 μ 0 p = 0)) (cPay μ 0 p (insN μ 0 p) (μ.1 2 0 0 6)) μ) := by
  refine Ct_of (by decide +kernel) (Nat.le_of_ble_eq_true rfl) ?_
  have hp6 : p < 6 := Nat.lt_of_lt_of_le hp hI.2.1
  refine K_aload_n dX3_carryOutOrder_0 rfl ?_
  refine g_X3_30 dX3_carryOutOrder_1  ?_
  refine g_X3_301 dX3_carryOutOrder_4  ?_
  refine K_top (show _ = nI p from hP) ?_
  refine K_istore_n dX3_carryOutOrder_7 (by decide) rfl ?_
  refine K_aload_n dX3_carryOutOrder_8 rfl ?_
  refine g_X3_30 dX3_carryOutOrder_9  ?_
  refine g_X3_303 dX3_carryOutOrder_12  ?_
  refine K_top (show _ = nI 112 from hk) ?_
  refine K_lookup (tgt := 116) dX3_carryOutOrder_15 (by decide) rfl (by decide) ?_
  refine K_aload_n dX3_carryOutOrder_116 rfl ?_
  refine g_X3_10 dX3_carryOutOrder_117  ?_
  refine K_iconstN 2 dX3_carryOutOrder_120 rfl ?_
  refine K_iload_n dX3_carryOutOrder_121 rfl ?_
  refine k_X0_allows (C_X0_allows2 (by omega) hp6 hI.1 hI.2.1 hp) (by decide) (by omega) ml_X3_306 (Nat.le_of_ble_eq_true rfl) dX3_carryOutOrder_122 ?_
  refine K_ifb_ne (tgt := 130) dX3_carryOutOrder_125 (by decide) (fun c125 => ?_) (fun c125 => ?_)
  · skip
    refine K_aload_n dX3_carryOutOrder_130 rfl ?_
    refine g_X3_10 dX3_carryOutOrder_131  ?_
    refine g_X3_65 dX3_carryOutOrder_134 (by omega) ?_
    refine K_iload_n dX3_carryOutOrder_137 rfl ?_
    refine ald7 dX3_carryOutOrder_138 (by omega) (by omega) ?_
    refine K_aload_n dX3_carryOutOrder_139 rfl ?_
    refine g_X3_30 dX3_carryOutOrder_140  ?_
    refine g_X3_311 dX3_carryOutOrder_143  ?_
    refine k_X2_takeMoney (C_X2_takeMoney (by omega) hp6 (hI.2.2 p hp6).1 (hI.2.2 p hp6).2) (by decide) (by omega) (by omega) ml_X3_102 (Nat.le_of_ble_eq_true rfl) dX3_carryOutOrder_146 ?_
    refine K_pop dX3_carryOutOrder_149 rfl ?_
    refine K_iconstN 1 dX3_carryOutOrder_150 rfl ?_
    exact K_zret (b := decide (cWhy2 μ 0 p = 0)) (by rw [c125]; rfl) dX3_carryOutOrder_151 ⟨rfl, by rw [c125]; rfl⟩
  · skip
    refine K_iconstN 0 dX3_carryOutOrder_128 rfl ?_
    exact K_zret (b := decide (cWhy2 μ 0 p = 0)) (by rw [c125]; rfl) dX3_carryOutOrder_129 ⟨rfl, by rw [c125]; rfl⟩

set_option maxHeartbeats 4000000 in
set_option maxRecDepth 100000 in
theorem C_X3_carryOutOrderD {l : Launch} {G : WG} {μ : Mem} {n : Nat} (hI : CI μ n) (hk : μ.1 2 0 0 3 = nI 100) : Ct l G 5 yX3_carryOutOrder cX3_carryOutOrder 2 (some .boolean) [.ref (adr G 0 0 0)] (μ) (some (.int (b2i (cLeft μ 0 (μ.1 2 0 0 6))))) (cond (cLeft μ 0 (μ.1 2 0 0 6)) (cPass μ 0 n (μ.1 2 0 0 6)) μ) := by
  refine Ct_of (by decide +kernel) (Nat.le_of_ble_eq_true rfl) ?_
  refine K_aload_n dX3_carryOutOrder_0 rfl ?_
  refine g_X3_30 dX3_carryOutOrder_1  ?_
  refine g_X3_301 dX3_carryOutOrder_4  ?_
  refine K_istore_n dX3_carryOutOrder_7 (by decide) rfl ?_
  refine K_aload_n dX3_carryOutOrder_8 rfl ?_
  refine g_X3_30 dX3_carryOutOrder_9  ?_
  refine g_X3_303 dX3_carryOutOrder_12  ?_
  refine K_top (show _ = nI 100 from hk) ?_
  refine K_lookup (tgt := 152) dX3_carryOutOrder_15 (by decide) rfl (by decide) ?_
  refine K_aload_n dX3_carryOutOrder_152 rfl ?_
  refine g_X3_10 dX3_carryOutOrder_153  ?_
  refine K_aload_n dX3_carryOutOrder_156 rfl ?_
  refine g_X3_30 dX3_carryOutOrder_157  ?_
  refine g_X3_311 dX3_carryOutOrder_160  ?_
  refine k_X0_hasDaysLeft (C_X0_hasDaysLeft (by omega)) (by decide) (by omega) ml_X3_111 (Nat.le_of_ble_eq_true rfl) dX3_carryOutOrder_163 ?_
  refine K_ifb_ne (tgt := 171) dX3_carryOutOrder_166 (by decide) (fun c166 => ?_) (fun c166 => ?_)
  · skip
    refine K_aload_n dX3_carryOutOrder_171 rfl ?_
    refine g_X3_10 dX3_carryOutOrder_172  ?_
    refine K_aload_n dX3_carryOutOrder_175 rfl ?_
    refine g_X3_30 dX3_carryOutOrder_176  ?_
    refine g_X3_311 dX3_carryOutOrder_179  ?_
    refine k_X0_letDaysPass (C_X0_letDaysPass (by omega) hI.1 hI.2.1 hI.2.2) (by decide) (by omega) ml_X3_117 (Nat.le_of_ble_eq_true rfl) dX3_carryOutOrder_182 ?_
    refine K_pop dX3_carryOutOrder_185 rfl ?_
    refine K_iconstN 1 dX3_carryOutOrder_186 rfl ?_
    exact K_zret (b := cLeft μ 0 (μ.1 2 0 0 6)) (by rw [c166]; rfl) dX3_carryOutOrder_187 ⟨rfl, by rw [c166]; rfl⟩
  · skip
    refine K_iconstN 0 dX3_carryOutOrder_169 rfl ?_
    exact K_zret (b := cLeft μ 0 (μ.1 2 0 0 6)) (by rw [c166]; rfl) dX3_carryOutOrder_170 ⟨rfl, by rw [c166]; rfl⟩

theorem C_X3_carryOutOrder {l : Launch} {G : WG} {μ : Mem} {n : Nat} (hI : CI μ n) (ho : kdOk (μ.1 2 0 0 3) (μ.1 2 0 0 5)) : Ct l G 5 yX3_carryOutOrder cX3_carryOutOrder 2 (some .boolean) [.ref (adr G 0 0 0)] μ (some (.int (b2i (coM μ n).1))) (coM μ n).2 := by
  have key : ∀ (kd : Nat) (w : Int32) (m : Mem), cHas n (μ.1 2 0 0 4) = true → ∃ p, p < n ∧ μ.1 2 0 0 4 = nI p ∧ (μ.1 2 0 0 4).toNatClampNeg = p := by
    intro kd w m h
    obtain ⟨p, hp, e⟩ := cHas_inv h hI.2.1
    have : p < 6 := Nat.lt_of_lt_of_le hp hI.2.1
    exact ⟨p, hp, e, by rw [e]; exact nI_clamp (by omega)⟩
  rcases ho with ⟨hk, u, hu, hU⟩ | hk | hk | hk
  · have e : coM μ n = cond (cHas n (μ.1 2 0 0 4) && decide (cWhy0 μ 0 (μ.1 2 0 0 4).toNatClampNeg = 0)) (true, coA μ n (μ.1 2 0 0 4).toNatClampNeg (μ.1 2 0 0 5).toNatClampNeg (μ.1 2 0 0 6)) (false, μ) := by unfold coM coP; rw [hk]; rfl
    rw [e]
    cases hh : cHas n (μ.1 2 0 0 4)
    · exact Ct_mono (by decide) (C_X3_carryOutOrderFA hI hk hh)
    · obtain ⟨p, hp, hP, hc⟩ := key 0 0 μ hh
      have := C_X3_carryOutOrderA (l := l) (G := G) hI hk hp hP hu hU
      rw [hc, hU, nI_clamp (by omega), Bool.true_and]
      cases hw : decide (cWhy0 μ 0 p = 0) <;> rw [hw] at this <;> exact this
  · have e : coM μ n = cond (cHas n (μ.1 2 0 0 4) && decide (cWhy1 μ 0 (μ.1 2 0 0 4).toNatClampNeg = 0)) (true, cStart μ 0 (μ.1 2 0 0 4).toNatClampNeg (μ.1 4 0 0 0) (μ.1 6 0 0 0)) (false, μ) := by unfold coM coP; rw [hk]; rfl
    rw [e]
    cases hh : cHas n (μ.1 2 0 0 4)
    · exact Ct_mono (by decide) (C_X3_carryOutOrderFB hI hk hh)
    · obtain ⟨p, hp, hP, hc⟩ := key 0 0 μ hh
      have := C_X3_carryOutOrderB (l := l) (G := G) hI hk hp hP
      rw [hc, Bool.true_and]
      cases hw : decide (cWhy1 μ 0 p = 0) <;> rw [hw] at this <;> exact this
  · have e : coM μ n = cond (cHas n (μ.1 2 0 0 4) && decide (cWhy2 μ 0 (μ.1 2 0 0 4).toNatClampNeg = 0)) (true, cPay μ 0 (μ.1 2 0 0 4).toNatClampNeg (insN μ 0 (μ.1 2 0 0 4).toNatClampNeg) (μ.1 2 0 0 6)) (false, μ) := by unfold coM coP; rw [hk]; rfl
    rw [e]
    cases hh : cHas n (μ.1 2 0 0 4)
    · exact Ct_mono (by decide) (C_X3_carryOutOrderFP hI hk hh)
    · obtain ⟨p, hp, hP, hc⟩ := key 0 0 μ hh
      have := C_X3_carryOutOrderP (l := l) (G := G) hI hk hp hP
      rw [hc, Bool.true_and]
      cases hw : decide (cWhy2 μ 0 p = 0) <;> rw [hw] at this <;> exact this
  · have e : coM μ n = cond (cLeft μ 0 (μ.1 2 0 0 6)) (true, cPass μ 0 n (μ.1 2 0 0 6)) (false, μ) := by unfold coM coP; rw [hk]; rfl
    rw [e]
    have := C_X3_carryOutOrderD (l := l) (G := G) hI hk
    cases hw : cLeft μ 0 (μ.1 2 0 0 6) <;> rw [hw] at this <;> exact this
