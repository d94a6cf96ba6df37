set_option maxHeartbeats 4000000 in
set_option maxRecDepth 100000 in
theorem C_X4_mix {l : Launch} {G : WG} {μ : Mem} {h v : Int64} : Ct l G 0 yX4_mix cX4_mix 3 none [.ref (adr G 15 0 0), .long v] (mlset μ 0 h) none (mlset μ 0 (hx h v)) := by
  refine Ct_of (by decide +kernel) (Nat.le_of_ble_eq_true rfl) ?_
  refine K_aload_n dX4_mix_0 rfl ?_
  refine K_ldc2 dX4_mix_1 cst_X4_240 ?_
  refine K_aload_n dX4_mix_4 rfl ?_
  refine g_X4_242 dX4_mix_5  ?_
  refine K_lmul dX4_mix_8 ?_
  refine K_lload_n dX4_mix_9 rfl ?_
  refine K_ladd dX4_mix_10 ?_
  refine p_X4_242 dX4_mix_11  ?_
  exact K_vret dX4_mix_14 ⟨rfl, by exact mlset_mlset⟩

set_option maxHeartbeats 4000000 in
set_option maxRecDepth 100000 in
theorem C_X4_mixPhase {l : Launch} {G : WG} {μ : Mem} {z : Zr} (hz : μ.1 16 0 0 = z) {p : Nat} (hp : p < 6) {n : Nat} (hZ : ZI z n) {h : Int64} : Ct l G 8 yX4_mixPhase cX4_mixPhase 4 none [.ref (adr G 15 0 0), .int (nI p)] (mlset μ 0 h) none (mlset (kpK μ 232) 0 (hPh (mPhase z p) (mUse z p) (mWhy4 z p) (mInst z p) (fun w => mWhy z p 0 w) (mThen z p) (mBreaks z p) (mDueNow (dpsK z n 100).1 p) h)) := by
  refine Ct_of (by decide +kernel) (Nat.le_of_ble_eq_true rfl) ?_
  refine K_iconstN 0 dX4_mixPhase_0 rfl ?_
  refine K_istore_n dX4_mixPhase_1 (by decide) rfl ?_
  refine K_lv [0, 1, 2] rfl ?_
  refine K_for (14) (fun k => [(0, .ref (adr G 15 0 0)), (1, .int (nI p)), (2, .int (nI k))]) (fun k => mlset μ 0 (hxK (mPhase z p) h k)) ?_ ?_
  · skip
    refine K_iload_n dX4_mixPhase_2 rfl ?_
    refine K_bipush (v := nI 14) dX4_mixPhase_3 (by decide) ?_
    refine K_icmpN_ge (by omega) (by omega) (tgt := 25) dX4_mixPhase_5 (by decide) (fun c5 => ?_) (fun c5 => ?_)
    · skip
      refine K_iconstN 0 dX4_mixPhase_25 rfl ?_
      refine K_istore_n dX4_mixPhase_26 (by decide) rfl ?_
      refine K_lv [0, 1, 2] rfl ?_
      refine K_for (4) (fun k => [(0, .ref (adr G 15 0 0)), (1, .int (nI p)), (2, .int (nI k))]) (fun k => mlset μ 0 (hxO (hUse (mUse z p) (mWhy4 z p)) (hxK (mPhase z p) h 14) k)) ?_ ?_
      · skip
        refine K_iload_n dX4_mixPhase_27 rfl ?_
        refine K_iconstN 4 dX4_mixPhase_28 rfl ?_
        refine K_icmpN_ge (by omega) (by omega) (tgt := 74) dX4_mixPhase_29 (by decide) (fun c29 => ?_) (fun c29 => ?_)
        · skip
          refine K_iconstN 0 dX4_mixPhase_74 rfl ?_
          refine K_istore_n dX4_mixPhase_75 (by decide) rfl ?_
          refine K_lv [0, 1, 2] rfl ?_
          refine K_for (12) (fun k => [(0, .ref (adr G 15 0 0)), (1, .int (nI p)), (2, .int (nI k))]) (fun k => mlset μ 0 (hxK (fun k => mInst z p (k / 3) (k % 3)) (hxO (hUse (mUse z p) (mWhy4 z p)) (hxK (mPhase z p) h 14) 4) k)) ?_ ?_
          · skip
            refine K_iload_n dX4_mixPhase_76 rfl ?_
            refine K_bipush (v := nI 12) dX4_mixPhase_77 (by decide) ?_
            refine K_icmpN_ge (by omega) (by omega) (tgt := 104) dX4_mixPhase_79 (by decide) (fun c79 => ?_) (fun c79 => ?_)
            · skip
              refine K_iconstN 0 dX4_mixPhase_104 rfl ?_
              refine K_istore_n dX4_mixPhase_105 (by decide) rfl ?_
              refine K_lv [0, 1, 2] rfl ?_
              refine K_for (4) (fun k => [(0, .ref (adr G 15 0 0)), (1, .int (nI p)), (2, .int (nI k))]) (fun k => mlset μ 0 (hxK (fun w => mWhy z p 0 w) (hxK (fun k => mInst z p (k / 3) (k % 3)) (hxO (hUse (mUse z p) (mWhy4 z p)) (hxK (mPhase z p) h 14) 4) 12) k)) ?_ ?_
              · skip
                refine K_iload_n dX4_mixPhase_106 rfl ?_
                refine K_iconstN 4 dX4_mixPhase_107 rfl ?_
                refine K_icmpN_ge (by omega) (by omega) (tgt := 129) dX4_mixPhase_108 (by decide) (fun c108 => ?_) (fun c108 => ?_)
                · skip
                  refine K_iconstN 0 dX4_mixPhase_129 rfl ?_
                  refine K_istore_n dX4_mixPhase_130 (by decide) rfl ?_
                  refine K_lv [0, 1, 2] rfl ?_
                  refine K_for (3) (fun k => [(0, .ref (adr G 15 0 0)), (1, .int (nI p)), (2, .int (nI k))]) (fun k => mlset μ 0 (hxK (mThen z p) (hxK (fun w => mWhy z p 0 w) (hxK (fun k => mInst z p (k / 3) (k % 3)) (hxO (hUse (mUse z p) (mWhy4 z p)) (hxK (mPhase z p) h 14) 4) 12) 4) k)) ?_ ?_
                  · skip
                    refine K_iload_n dX4_mixPhase_131 rfl ?_
                    refine K_iconstN 3 dX4_mixPhase_132 rfl ?_
                    refine K_icmpN_ge (by omega) (by omega) (tgt := 153) dX4_mixPhase_133 (by decide) (fun c133 => ?_) (fun c133 => ?_)
                    · skip
                      refine K_aload_n dX4_mixPhase_153 rfl ?_
                      refine K_aload_n dX4_mixPhase_154 rfl ?_
                      refine K_iload_n dX4_mixPhase_155 rfl ?_
                      refine k_X4_breaksNow (C_X4_breaksNow (by exact hz) hp hZ) (by decide)  ml_X4_218 (Nat.le_of_ble_eq_true rfl) dX4_mixPhase_156 ?_
                      refine K_i2l dX4_mixPhase_159 ?_
                      refine k_X4_mix C_X4_mix (by decide)  ml_X4_246 (Nat.le_of_ble_eq_true rfl) dX4_mixPhase_160 ?_
                      refine K_aload_n dX4_mixPhase_163 rfl ?_
                      refine K_aload_n dX4_mixPhase_164 rfl ?_
                      refine K_iload_n dX4_mixPhase_165 rfl ?_
                      refine K_bipush (v := nI 100) dX4_mixPhase_166 (by decide) ?_
                      refine k_X4_dueThen (C_X4_dueThen (by exact hz) hZ hp (d := 100) (by omega)) (by decide)  ml_X4_233 (Nat.le_of_ble_eq_true rfl) dX4_mixPhase_168 ?_
                      refine K_mem (kpK_ml 232) ?_
                      refine K_i2l dX4_mixPhase_171 ?_
                      refine k_X4_mix C_X4_mix (by decide)  ml_X4_246 (Nat.le_of_ble_eq_true rfl) dX4_mixPhase_172 ?_
                      exact K_vret dX4_mixPhase_175 ⟨rfl, by rw [hPh, ← hx_34]⟩
                    · skip
                      exfalso; omega
                  · intro k hk_k ih_5
                    refine K_iload_n dX4_mixPhase_131 rfl ?_
                    refine K_iconstN 3 dX4_mixPhase_132 rfl ?_
                    refine K_icmpN_ge (by omega) (by omega) (tgt := 153) dX4_mixPhase_133 (by decide) (fun c133 => ?_) (fun c133 => ?_)
                    · skip
                      exfalso; omega
                    · skip
                      refine K_aload_n dX4_mixPhase_136 rfl ?_
                      refine K_aload_n dX4_mixPhase_137 rfl ?_
                      refine K_iload_n dX4_mixPhase_138 rfl ?_
                      refine K_iload_n dX4_mixPhase_139 rfl ?_
                      refine k_X4_begunThen (C_X4_begunThen (by exact hz) hp (by omega)) (by decide)  ml_X4_215 (Nat.le_of_ble_eq_true rfl) dX4_mixPhase_140 ?_
                      refine K_i2l dX4_mixPhase_143 ?_
                      refine k_X4_mix C_X4_mix (by decide)  ml_X4_246 (Nat.le_of_ble_eq_true rfl) dX4_mixPhase_144 ?_
                      refine K_iincN (b := 1) dX4_mixPhase_147 rfl rfl (by decide) rfl ?_
                      refine K_goto (tgt := 131) dX4_mixPhase_150 (by decide) ?_
                      exact K_lv [0, 1, 2] rfl ih_5
                · skip
                  exfalso; omega
              · intro k hk_k ih_4
                refine K_iload_n dX4_mixPhase_106 rfl ?_
                refine K_iconstN 4 dX4_mixPhase_107 rfl ?_
                refine K_icmpN_ge (by omega) (by omega) (tgt := 129) dX4_mixPhase_108 (by decide) (fun c108 => ?_) (fun c108 => ?_)
                · skip
                  exfalso; omega
                · skip
                  refine K_aload_n dX4_mixPhase_111 rfl ?_
                  refine K_aload_n dX4_mixPhase_112 rfl ?_
                  refine K_iload_n dX4_mixPhase_113 rfl ?_
                  refine K_iload_n dX4_mixPhase_114 rfl ?_
                  refine K_iconstN 0 dX4_mixPhase_115 rfl ?_
                  refine k_X4_whyNotNow (C_X4_whyNotNow (by exact hz) hp (u := 0) (by omega) hZ (by omega)) (by decide)  ml_X4_212 (Nat.le_of_ble_eq_true rfl) dX4_mixPhase_116 ?_
                  refine K_i2l dX4_mixPhase_119 ?_
                  refine k_X4_mix C_X4_mix (by decide)  ml_X4_246 (Nat.le_of_ble_eq_true rfl) dX4_mixPhase_120 ?_
                  refine K_iincN (b := 1) dX4_mixPhase_123 rfl rfl (by decide) rfl ?_
                  refine K_goto (tgt := 106) dX4_mixPhase_126 (by decide) ?_
                  exact K_lv [0, 1, 2] rfl ih_4
            · skip
              exfalso; omega
          · intro k hk_k ih_3
            refine K_iload_n dX4_mixPhase_76 rfl ?_
            refine K_bipush (v := nI 12) dX4_mixPhase_77 (by decide) ?_
            refine K_icmpN_ge (by omega) (by omega) (tgt := 104) dX4_mixPhase_79 (by decide) (fun c79 => ?_) (fun c79 => ?_)
            · skip
              exfalso; omega
            · skip
              refine K_aload_n dX4_mixPhase_82 rfl ?_
              refine K_aload_n dX4_mixPhase_83 rfl ?_
              refine K_iload_n dX4_mixPhase_84 rfl ?_
              refine K_iload_n dX4_mixPhase_85 rfl ?_
              refine K_iconstN 3 dX4_mixPhase_86 rfl ?_
              refine K_idiv dX4_mixPhase_87 (by decide) ?_
              refine K_top (pk_div (by omega) (by decide) (by decide)) ?_
              refine K_iload_n dX4_mixPhase_88 rfl ?_
              refine K_iconstN 3 dX4_mixPhase_89 rfl ?_
              refine K_irem dX4_mixPhase_90 (by decide) ?_
              refine K_top (pk_rem (by omega) (by decide) (by decide)) ?_
              refine k_X4_instalmentNow (C_X4_instalmentNow (by exact hz) hp (by omega) hZ (by omega)) (by decide)  ml_X4_200 (Nat.le_of_ble_eq_true rfl) dX4_mixPhase_91 ?_
              refine K_i2l dX4_mixPhase_94 ?_
              refine k_X4_mix C_X4_mix (by decide)  ml_X4_246 (Nat.le_of_ble_eq_true rfl) dX4_mixPhase_95 ?_
              refine K_iincN (b := 1) dX4_mixPhase_98 rfl rfl (by decide) rfl ?_
              refine K_goto (tgt := 76) dX4_mixPhase_101 (by decide) ?_
              exact K_lv [0, 1, 2] rfl ih_3
        · skip
          exfalso; omega
      · intro u hk_u ih_2
        refine K_iload_n dX4_mixPhase_27 rfl ?_
        refine K_iconstN 4 dX4_mixPhase_28 rfl ?_
        refine K_icmpN_ge (by omega) (by omega) (tgt := 74) dX4_mixPhase_29 (by decide) (fun c29 => ?_) (fun c29 => ?_)
        · skip
          exfalso; omega
        · skip
          refine K_iconstN 0 dX4_mixPhase_32 rfl ?_
          refine K_istore_n dX4_mixPhase_33 (by decide) rfl ?_
          refine K_lv [0, 1, 2, 3] rfl ?_
          refine K_for (5) (fun k => [(0, .ref (adr G 15 0 0)), (1, .int (nI p)), (2, .int (nI u)), (3, .int (nI k))]) (fun k => mlset μ 0 (hxK (mUse z p u) (hxO (hUse (mUse z p) (mWhy4 z p)) (hxK (mPhase z p) h 14) u) k)) ?_ ?_
          · skip
            refine K_iload_n dX4_mixPhase_34 rfl ?_
            refine K_iconstN 5 dX4_mixPhase_35 rfl ?_
            refine K_icmpN_ge (by omega) (by omega) (tgt := 57) dX4_mixPhase_36 (by decide) (fun c36 => ?_) (fun c36 => ?_)
            · skip
              refine K_aload_n dX4_mixPhase_57 rfl ?_
              refine K_aload_n dX4_mixPhase_58 rfl ?_
              refine K_iload_n dX4_mixPhase_59 rfl ?_
              refine K_iload_n dX4_mixPhase_60 rfl ?_
              refine k_X4_whyNoLapse (C_X4_whyNoLapse (by exact hz) hp (by omega)) (by decide)  ml_X4_129 (Nat.le_of_ble_eq_true rfl) dX4_mixPhase_61 ?_
              refine K_i2l dX4_mixPhase_64 ?_
              refine k_X4_mix C_X4_mix (by decide)  ml_X4_246 (Nat.le_of_ble_eq_true rfl) dX4_mixPhase_65 ?_
              refine K_iincN (b := 1) dX4_mixPhase_68 rfl rfl (by decide) rfl ?_
              refine K_goto (tgt := 27) dX4_mixPhase_71 (by decide) ?_
              exact K_lv [0, 1, 2] rfl ih_2
            · skip
              exfalso; omega
          · intro j hk_j ih_6
            refine K_iload_n dX4_mixPhase_34 rfl ?_
            refine K_iconstN 5 dX4_mixPhase_35 rfl ?_
            refine K_icmpN_ge (by omega) (by omega) (tgt := 57) dX4_mixPhase_36 (by decide) (fun c36 => ?_) (fun c36 => ?_)
            · skip
              exfalso; omega
            · skip
              refine K_aload_n dX4_mixPhase_39 rfl ?_
              refine K_aload_n dX4_mixPhase_40 rfl ?_
              refine K_iload_n dX4_mixPhase_41 rfl ?_
              refine K_iload_n dX4_mixPhase_42 rfl ?_
              refine K_iload_n dX4_mixPhase_43 rfl ?_
              refine k_X4_useNow (C_X4_useNow (by exact hz) hp (by omega) (by omega)) (by decide)  ml_X4_197 (Nat.le_of_ble_eq_true rfl) dX4_mixPhase_44 ?_
              refine K_i2l dX4_mixPhase_47 ?_
              refine k_X4_mix C_X4_mix (by decide)  ml_X4_246 (Nat.le_of_ble_eq_true rfl) dX4_mixPhase_48 ?_
              refine K_iincN (b := 1) dX4_mixPhase_51 rfl rfl (by decide) rfl ?_
              refine K_goto (tgt := 34) dX4_mixPhase_54 (by decide) ?_
              exact K_lv [0, 1, 2, 3] rfl ih_6
    · skip
      exfalso; omega
  · intro k hk_k ih_1
    refine K_iload_n dX4_mixPhase_2 rfl ?_
    refine K_bipush (v := nI 14) dX4_mixPhase_3 (by decide) ?_
    refine K_icmpN_ge (by omega) (by omega) (tgt := 25) dX4_mixPhase_5 (by decide) (fun c5 => ?_) (fun c5 => ?_)
    · skip
      exfalso; omega
    · skip
      refine K_aload_n dX4_mixPhase_8 rfl ?_
      refine K_aload_n dX4_mixPhase_9 rfl ?_
      refine K_iload_n dX4_mixPhase_10 rfl ?_
      refine K_iload_n dX4_mixPhase_11 rfl ?_
      refine k_X4_phaseNow (C_X4_phaseNow (by exact hz) hp hZ (by omega)) (by decide)  ml_X4_194 (Nat.le_of_ble_eq_true rfl) dX4_mixPhase_12 ?_
      refine K_i2l dX4_mixPhase_15 ?_
      refine k_X4_mix C_X4_mix (by decide)  ml_X4_246 (Nat.le_of_ble_eq_true rfl) dX4_mixPhase_16 ?_
      refine K_iincN (b := 1) dX4_mixPhase_19 rfl rfl (by decide) rfl ?_
      refine K_goto (tgt := 2) dX4_mixPhase_22 (by decide) ?_
      exact K_lv [0, 1, 2] rfl ih_1
