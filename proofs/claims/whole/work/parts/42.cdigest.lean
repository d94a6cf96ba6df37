def cPh (μ : Mem) (p : Nat) (h : Int64) : Int64 := hPh (cPhaseQ μ p) (cUseQ μ p) (fun u => cWhy μ 0 p u 4) (cInstQ μ p) (fun w => cWhy μ 0 p 0 w) (cIfQ μ p) (cDays μ 0 p (insN μ 0 p)) (cDueIn μ p (nI 100)) h
def cDig (μ : Mem) (n L : Nat) : Int64 := hDig (cCountQ μ n) (μ.1 6 0 0) n (cPh μ) (cSurIn μ (nI 200) n) (urgK μ n).1 (cShare μ n).toInt64 L (μ.1 3 0 0)

set_option maxHeartbeats 1000000 in
set_option maxRecDepth 100000 in
theorem C_X3_digest {l : Launch} {G : WG} {μ : Mem} {n : Nat} (hI : CI μ n) {L : Nat} (hL : μ.1 2 0 0 1 = nI L) (hL6 : L ≤ 60) (hB : Ct l G 1 yX3_bitsOfShare cX3_bitsOfShare 8 (some .long) [.double (cShare μ n)] μ (some (.long (cShare μ n).toInt64)) μ) : Ct l G 6 yX3_digest cX3_digest 4 (some .long) [.ref (adr G 0 0 0)] (μ) (some (.long (cDig μ n L))) (μ) := by
  refine Ct_of (by decide +kernel) (Nat.le_of_ble_eq_true rfl) ?_
  have hn6 := hI.2.1
  refine K_ldc2 dX3_digest_0 cst_X3_246 ?_
  refine K_lstore_n dX3_digest_3 (by decide) rfl ?_
  refine K_iconstN 0 dX3_digest_4 rfl ?_
  refine K_istore_n dX3_digest_5 (by decide) rfl ?_
  refine K_lv [0, 1, 3] rfl ?_
  refine K_lvE (show ([(0, .ref (adr G 0 0 0)), (1, .long (2591)), (3, .int (nI 0))] : Lv) = [(0, .ref (adr G 0 0 0)), (1, .long (hxK (cCountQ μ n) 2591 0)), (3, .int (nI 0))] by rw [hxK_z]) ?_
  refine K_for (16) (fun k => [(0, .ref (adr G 0 0 0)), (1, .long (hxK (cCountQ μ n) 2591 k)), (3, .int (nI k))]) (fun _ => μ) ?_ ?_
  · skip
    refine K_iload_n dX3_digest_6 rfl ?_
    refine K_bipush (v := nI 16) dX3_digest_7 (by decide) ?_
    refine K_icmpN_ge (by omega) (by omega) (tgt := 31) dX3_digest_9 (by decide) (fun c9 => ?_) (fun c9 => ?_)
    · skip
      refine K_iconstN 0 dX3_digest_31 rfl ?_
      refine K_istore_n dX3_digest_32 (by decide) rfl ?_
      refine K_lv [0, 1, 3] rfl ?_
      refine K_lvE (show ([(0, .ref (adr G 0 0 0)), (1, .long ((hxK (cCountQ μ n) 2591 16))), (3, .int (nI 0))] : Lv) = [(0, .ref (adr G 0 0 0)), (1, .long (hxK (μ.1 6 0 0) (hxK (cCountQ μ n) 2591 16) 0)), (3, .int (nI 0))] by rw [hxK_z]) ?_
      refine K_for (4) (fun k => [(0, .ref (adr G 0 0 0)), (1, .long (hxK (μ.1 6 0 0) (hxK (cCountQ μ n) 2591 16) k)), (3, .int (nI k))]) (fun _ => μ) ?_ ?_
      · skip
        refine K_iload_n dX3_digest_33 rfl ?_
        refine K_iconstN 4 dX3_digest_34 rfl ?_
        refine K_icmpN_ge (by omega) (by omega) (tgt := 61) dX3_digest_35 (by decide) (fun c35 => ?_) (fun c35 => ?_)
        · skip
          refine K_iconstN 0 dX3_digest_61 rfl ?_
          refine K_istore_n dX3_digest_62 (by decide) rfl ?_
          refine K_lv [0, 1, 3] rfl ?_
          refine K_lvE (show ([(0, .ref (adr G 0 0 0)), (1, .long ((hxK (μ.1 6 0 0) (hxK (cCountQ μ n) 2591 16) 4))), (3, .int (nI 0))] : Lv) = [(0, .ref (adr G 0 0 0)), (1, .long (hxO (cPh μ) (hxK (μ.1 6 0 0) (hxK (cCountQ μ n) 2591 16) 4) 0)), (3, .int (nI 0))] by rw [hxO_z]) ?_
          refine K_for (n) (fun k => [(0, .ref (adr G 0 0 0)), (1, .long (hxO (cPh μ) (hxK (μ.1 6 0 0) (hxK (cCountQ μ n) 2591 16) 4) k)), (3, .int (nI k))]) (fun _ => μ) ?_ ?_
          · skip
            refine K_iload_n dX3_digest_63 rfl ?_
            refine K_aload_n dX3_digest_64 rfl ?_
            refine g_X3_10 dX3_digest_65  ?_
            refine g_X3_34 dX3_digest_68 (by omega) ?_
            refine K_top (show _ = nI n from hI.1) ?_
            refine K_icmpN_ge (by omega) (by omega) (tgt := 93) dX3_digest_71 (by decide) (fun c71 => ?_) (fun c71 => ?_)
            · skip
              refine K_ldc2 dX3_digest_93 cst_X3_248 ?_
              refine K_lload_n dX3_digest_96 rfl ?_
              refine K_lmul dX3_digest_97 ?_
              refine K_aload_n dX3_digest_98 rfl ?_
              refine K_sipush (v := nI 200) dX3_digest_99 (by decide) ?_
              refine k_X3_surchargesIn (C_X3_surchargesIn hI (a := nI 200) (by decide)) (by decide)  ml_X3_257 (Nat.le_of_ble_eq_true rfl) dX3_digest_102 ?_
              refine K_i2l dX3_digest_105 ?_
              refine K_ladd dX3_digest_106 ?_
              refine K_lstore_n dX3_digest_107 (by decide) rfl ?_
              refine K_ldc2 dX3_digest_108 cst_X3_248 ?_
              refine K_lload_n dX3_digest_111 rfl ?_
              refine K_lmul dX3_digest_112 ?_
              refine K_aload_n dX3_digest_113 rfl ?_
              refine k_X3_mostUrgent (C_X3_mostUrgent hI) (by decide)  ml_X3_260 (Nat.le_of_ble_eq_true rfl) dX3_digest_114 ?_
              refine K_i2l dX3_digest_117 ?_
              refine K_ladd dX3_digest_118 ?_
              refine K_lstore_n dX3_digest_119 (by decide) rfl ?_
              refine K_ldc2 dX3_digest_120 cst_X3_248 ?_
              refine K_lload_n dX3_digest_123 rfl ?_
              refine K_lmul dX3_digest_124 ?_
              refine K_aload_n dX3_digest_125 rfl ?_
              refine k_X3_settledShare (C_X3_settledShare hI) (by decide)  ml_X3_263 (Nat.le_of_ble_eq_true rfl) dX3_digest_126 ?_
              refine k_X3_bitsOfShare hB (by decide) ml_X3_267 (Nat.le_of_ble_eq_true rfl) dX3_digest_129 ?_
              refine K_ladd dX3_digest_132 ?_
              refine K_lstore_n dX3_digest_133 (by decide) rfl ?_
              refine K_ldc2 dX3_digest_134 cst_X3_248 ?_
              refine K_lload_n dX3_digest_137 rfl ?_
              refine K_lmul dX3_digest_138 ?_
              refine K_aload_n dX3_digest_139 rfl ?_
              refine g_X3_30 dX3_digest_140  ?_
              refine g_X3_120 dX3_digest_143  ?_
              refine K_top (show _ = nI L from hL) ?_
              refine K_i2l dX3_digest_146 ?_
              refine K_ladd dX3_digest_147 ?_
              refine K_lstore_n dX3_digest_148 (by decide) rfl ?_
              refine K_iconstN 0 dX3_digest_149 rfl ?_
              refine K_istore_n dX3_digest_150 (by decide) rfl ?_
              refine K_lv [0, 1, 3] rfl ?_
              refine K_lvE (show ([(0, .ref (adr G 0 0 0)), (1, .long ((hx (hx (hx (hx (hxO (cPh μ) (hxK (μ.1 6 0 0) (hxK (cCountQ μ n) 2591 16) 4) n) (cSurIn μ (nI 200) n).toInt64) (urgK μ n).1.toInt64) (cShare μ n).toInt64) (nI L).toInt64))), (3, .int (nI 0))] : Lv) = [(0, .ref (adr G 0 0 0)), (1, .long (hxK (μ.1 3 0 0) (hx (hx (hx (hx (hxO (cPh μ) (hxK (μ.1 6 0 0) (hxK (cCountQ μ n) 2591 16) 4) n) (cSurIn μ (nI 200) n).toInt64) (urgK μ n).1.toInt64) (cShare μ n).toInt64) (nI L).toInt64) 0)), (3, .int (nI 0))] by rw [hxK_z]) ?_
              refine K_for (L) (fun k => [(0, .ref (adr G 0 0 0)), (1, .long (hxK (μ.1 3 0 0) (hx (hx (hx (hx (hxO (cPh μ) (hxK (μ.1 6 0 0) (hxK (cCountQ μ n) 2591 16) 4) n) (cSurIn μ (nI 200) n).toInt64) (urgK μ n).1.toInt64) (cShare μ n).toInt64) (nI L).toInt64) k)), (3, .int (nI k))]) (fun _ => μ) ?_ ?_
              · skip
                refine K_iload_n dX3_digest_151 rfl ?_
                refine K_aload_n dX3_digest_152 rfl ?_
                refine g_X3_30 dX3_digest_153  ?_
                refine g_X3_120 dX3_digest_156  ?_
                refine K_top (show _ = nI L from hL) ?_
                refine K_icmpN_ge (by omega) (by omega) (tgt := 191) dX3_digest_159 (by decide) (fun c159 => ?_) (fun c159 => ?_)
                · skip
                  refine K_lload_n dX3_digest_191 rfl ?_
                  exact K_lret dX3_digest_192 ⟨rfl, rfl⟩
                · skip
                  exfalso; omega
              · intro k hk_k ih_4
                refine K_iload_n dX3_digest_151 rfl ?_
                refine K_aload_n dX3_digest_152 rfl ?_
                refine g_X3_30 dX3_digest_153  ?_
                refine g_X3_120 dX3_digest_156  ?_
                refine K_top (show _ = nI L from hL) ?_
                refine K_icmpN_ge (by omega) (by omega) (tgt := 191) dX3_digest_159 (by decide) (fun c159 => ?_) (fun c159 => ?_)
                · skip
                  exfalso; omega
                · skip
                  refine K_iload_n dX3_digest_162 rfl ?_
                  refine K_bipush (v := nI 60) dX3_digest_163 (by decide) ?_
                  refine K_icmpN_ge (by omega) (by omega) (tgt := 191) dX3_digest_165 (by decide) (fun c165 => ?_) (fun c165 => ?_)
                  · skip
                    exfalso; omega
                  · skip
                    refine K_ldc2 dX3_digest_168 cst_X3_248 ?_
                    refine K_lload_n dX3_digest_171 rfl ?_
                    refine K_lmul dX3_digest_172 ?_
                    refine K_aload_n dX3_digest_173 rfl ?_
                    refine g_X3_30 dX3_digest_174  ?_
                    refine g_X3_271 dX3_digest_177  ?_
                    refine K_iload_n dX3_digest_180 rfl ?_
                    refine ald3 dX3_digest_181 (by omega) ?_
                    refine K_i2l dX3_digest_182 ?_
                    refine K_ladd dX3_digest_183 ?_
                    refine K_lstore_n dX3_digest_184 (by decide) rfl ?_
                    refine K_iincN (b := 1) dX3_digest_185 rfl rfl (by decide) rfl ?_
                    refine K_goto (tgt := 151) dX3_digest_188 (by decide) ?_
                    exact K_lv [0, 1, 3] rfl ih_4
            · skip
              exfalso; omega
          · intro k hk_k ih_3
            refine K_iload_n dX3_digest_63 rfl ?_
            refine K_aload_n dX3_digest_64 rfl ?_
            refine g_X3_10 dX3_digest_65  ?_
            refine g_X3_34 dX3_digest_68 (by omega) ?_
            refine K_top (show _ = nI n from hI.1) ?_
            refine K_icmpN_ge (by omega) (by omega) (tgt := 93) dX3_digest_71 (by decide) (fun c71 => ?_) (fun c71 => ?_)
            · skip
              exfalso; omega
            · skip
              refine K_iload_n dX3_digest_74 rfl ?_
              refine K_bipush (v := nI 6) dX3_digest_75 (by decide) ?_
              refine K_icmpN_ge (by omega) (by omega) (tgt := 93) dX3_digest_77 (by decide) (fun c77 => ?_) (fun c77 => ?_)
              · skip
                exfalso; omega
              · skip
                refine K_aload_n dX3_digest_80 rfl ?_
                refine K_lload_n dX3_digest_81 rfl ?_
                refine K_iload_n dX3_digest_82 rfl ?_
                refine k_X3_hashOfPhase (C_X3_hashOfPhase hI (by omega)) (by decide)  ml_X3_253 (Nat.le_of_ble_eq_true rfl) dX3_digest_83 ?_
                refine K_lstore_n dX3_digest_86 (by decide) rfl ?_
                refine K_iincN (b := 1) dX3_digest_87 rfl rfl (by decide) rfl ?_
                refine K_goto (tgt := 63) dX3_digest_90 (by decide) ?_
                exact K_lv [0, 1, 3] rfl ih_3
        · skip
          exfalso; omega
      · intro k hk_k ih_2
        refine K_iload_n dX3_digest_33 rfl ?_
        refine K_iconstN 4 dX3_digest_34 rfl ?_
        refine K_icmpN_ge (by omega) (by omega) (tgt := 61) dX3_digest_35 (by decide) (fun c35 => ?_) (fun c35 => ?_)
        · skip
          exfalso; omega
        · skip
          refine K_ldc2 dX3_digest_38 cst_X3_248 ?_
          refine K_lload_n dX3_digest_41 rfl ?_
          refine K_lmul dX3_digest_42 ?_
          refine K_aload_n dX3_digest_43 rfl ?_
          refine g_X3_10 dX3_digest_44  ?_
          refine g_X3_94 dX3_digest_47 (by omega) ?_
          refine K_iload_n dX3_digest_50 rfl ?_
          refine ald6 dX3_digest_51 (by omega) (by omega) ?_
          refine K_i2l dX3_digest_52 ?_
          refine K_ladd dX3_digest_53 ?_
          refine K_lstore_n dX3_digest_54 (by decide) rfl ?_
          refine K_iincN (b := 1) dX3_digest_55 rfl rfl (by decide) rfl ?_
          refine K_goto (tgt := 33) dX3_digest_58 (by decide) ?_
          exact K_lv [0, 1, 3] rfl ih_2
    · skip
      exfalso; omega
  · intro k hk_k ih_1
    refine K_iload_n dX3_digest_6 rfl ?_
    refine K_bipush (v := nI 16) dX3_digest_7 (by decide) ?_
    refine K_icmpN_ge (by omega) (by omega) (tgt := 31) dX3_digest_9 (by decide) (fun c9 => ?_) (fun c9 => ?_)
    · skip
      exfalso; omega
    · skip
      refine K_ldc2 dX3_digest_12 cst_X3_248 ?_
      refine K_lload_n dX3_digest_15 rfl ?_
      refine K_lmul dX3_digest_16 ?_
      refine K_aload_n dX3_digest_17 rfl ?_
      refine K_iload_n dX3_digest_18 rfl ?_
      refine k_X3_count (C_X3_count hI (by omega)) (by decide)  ml_X3_250 (Nat.le_of_ble_eq_true rfl) dX3_digest_19 ?_
      refine K_i2l dX3_digest_22 ?_
      refine K_ladd dX3_digest_23 ?_
      refine K_lstore_n dX3_digest_24 (by decide) rfl ?_
      refine K_iincN (b := 1) dX3_digest_25 rfl rfl (by decide) rfl ?_
      refine K_goto (tgt := 6) dX3_digest_28 (by decide) ?_
      exact K_lv [0, 1, 3] rfl ih_1
