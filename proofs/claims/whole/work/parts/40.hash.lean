set_option maxRecDepth 100000 in
theorem C_X3_phase {l : Launch} {G : WG} {μ : Mem} {n : Nat} (hI : CI μ n) {p : Nat} (hp : p < n) {w : Nat} (hw : w < 14) : Ct l G 3 yX3_phase cX3_phase 4 (some .int) [.ref (adr G 0 0 0), .int (nI p), .int (nI w)] μ (some (.int (cPhaseQ μ p w))) μ := by
  rcases (show w = 0 ∨ w = 1 ∨ w = 2 ∨ w = 3 ∨ w = 4 ∨ w = 5 ∨ w = 6 ∨ w = 7 ∨ w = 8 ∨ w = 9 ∨ w = 10 ∨ w = 11 ∨ w = 12 ∨ w = 13 by omega) with rfl | rfl | rfl | rfl | rfl | rfl | rfl | rfl | rfl | rfl | rfl | rfl | rfl | rfl
  · exact Ct_mono (by decide) (C_X3_phase0 hI hp)
  · exact Ct_mono (by decide) (C_X3_phase1 hI hp)
  · exact Ct_mono (by decide) (C_X3_phase2 hI hp)
  · exact Ct_mono (by decide) (C_X3_phase3 hI hp)
  · exact Ct_mono (by decide) (C_X3_phase4 hI hp)
  · exact Ct_mono (by decide) (C_X3_phase5 hI hp)
  · exact Ct_mono (by decide) (C_X3_phase6 hI hp)
  · exact Ct_mono (by decide) (C_X3_phase7 hI hp)
  · exact Ct_mono (by decide) (C_X3_phase8 hI hp)
  · exact Ct_mono (by decide) (C_X3_phase9 hI hp)
  · exact Ct_mono (by decide) (C_X3_phase10 hI hp)
  · exact Ct_mono (by decide) (C_X3_phase11 hI hp)
  · exact Ct_mono (by decide) (C_X3_phase12 hI hp)
  · exact Ct_mono (by decide) (C_X3_phase13 hI hp)

set_option maxRecDepth 100000 in
theorem C_X3_use {l : Launch} {G : WG} {μ : Mem} {n : Nat} (hI : CI μ n) {p : Nat} (hp : p < n) {u : Nat} (hu : u < 4) {w : Nat} (hw : w < 5) : Ct l G 2 yX3_use cX3_use 5 (some .int) [.ref (adr G 0 0 0), .int (nI p), .int (nI u), .int (nI w)] μ (some (.int (cUseQ μ p u w))) μ := by
  rcases (show w = 0 ∨ w = 1 ∨ w = 2 ∨ w = 3 ∨ w = 4 by omega) with rfl | rfl | rfl | rfl | rfl
  · exact Ct_mono (by decide) (C_X3_use0 hI hp hu)
  · exact Ct_mono (by decide) (C_X3_use1 hI hp hu)
  · exact Ct_mono (by decide) (C_X3_use2 hI hp hu)
  · exact Ct_mono (by decide) (C_X3_use3 hI hp hu)
  · exact Ct_mono (by decide) (C_X3_use4 hI hp hu)

set_option maxRecDepth 100000 in
theorem C_X3_instalment {l : Launch} {G : WG} {μ : Mem} {n : Nat} (hI : CI μ n) {p : Nat} (hp : p < n) {k : Nat} (hk : k < 4) {w : Nat} (hw : w < 3) : Ct l G 2 yX3_instalment cX3_instalment 5 (some .int) [.ref (adr G 0 0 0), .int (nI p), .int (nI k), .int (nI w)] μ (some (.int (cInstQ μ p k w))) μ := by
  rcases (show w = 0 ∨ w = 1 ∨ w = 2 by omega) with rfl | rfl | rfl
  · exact Ct_mono (by decide) (C_X3_instalment0 hI hp hk)
  · exact Ct_mono (by decide) (C_X3_instalment1 hI hp hk)
  · exact Ct_mono (by decide) (C_X3_instalment2 hI hp hk)

set_option maxRecDepth 100000 in
theorem C_X3_whyNot {l : Launch} {G : WG} {μ : Mem} {n : Nat} (hI : CI μ n) {p : Nat} (hp : p < n) {u : Nat} (hu : u < 4) {w : Nat} (hw : w < 5) : Ct l G 3 yX3_whyNot cX3_whyNot 4 (some .int) [.ref (adr G 0 0 0), .int (nI w), .int (nI p), .int (nI u)] μ (some (.int (cWhy μ 0 p u w))) μ := by
  rcases (show w = 0 ∨ w = 1 ∨ w = 2 ∨ w = 3 ∨ w = 4 by omega) with rfl | rfl | rfl | rfl | rfl
  · exact Ct_mono (by decide) (C_X3_whyNot0 hI hp hu)
  · exact Ct_mono (by decide) (C_X3_whyNot1 hI hp hu)
  · exact Ct_mono (by decide) (C_X3_whyNot2 hI hp hu)
  · exact Ct_mono (by decide) (C_X3_whyNot3 hI hp hu)
  · exact Ct_mono (by decide) (C_X3_whyNot4 hI hp hu)

set_option maxRecDepth 100000 in
theorem C_X3_ifBegun {l : Launch} {G : WG} {μ : Mem} {n : Nat} (hI : CI μ n) {p : Nat} (hp : p < n) {w : Nat} (hw : w < 3) : Ct l G 2 yX3_ifBegun cX3_ifBegun 5 (some .int) [.ref (adr G 0 0 0), .int (nI p), .int (nI w)] μ (some (.int (cIfQ μ p w))) μ := by
  rcases (show w = 0 ∨ w = 1 ∨ w = 2 by omega) with rfl | rfl | rfl
  · exact Ct_mono (by decide) (C_X3_ifBegun0 hI hp)
  · exact Ct_mono (by decide) (C_X3_ifBegun1 hI hp)
  · exact Ct_mono (by decide) (C_X3_ifBegun2 hI hp)

set_option maxRecDepth 100000 in
theorem C_X3_count {l : Launch} {G : WG} {μ : Mem} {n : Nat} (hI : CI μ n) {w : Nat} (hw : w < 16) : Ct l G 5 yX3_count cX3_count 2 (some .int) [.ref (adr G 0 0 0), .int (nI w)] μ (some (.int (cCountQ μ n w))) μ := by
  rcases (show w = 0 ∨ w = 1 ∨ w = 2 ∨ w = 3 ∨ w = 4 ∨ w = 5 ∨ w = 6 ∨ w = 7 ∨ w = 8 ∨ w = 9 ∨ w = 10 ∨ w = 11 ∨ w = 12 ∨ w = 13 ∨ w = 14 ∨ w = 15 by omega) with rfl | rfl | rfl | rfl | rfl | rfl | rfl | rfl | rfl | rfl | rfl | rfl | rfl | rfl | rfl | rfl
  · exact Ct_mono (by decide) (C_X3_count0 hI)
  · exact Ct_mono (by decide) (C_X3_count1 hI)
  · exact Ct_mono (by decide) (C_X3_count2 hI)
  · exact Ct_mono (by decide) (C_X3_count3 hI)
  · exact Ct_mono (by decide) (C_X3_count4 hI)
  · exact Ct_mono (by decide) (C_X3_count5 hI)
  · exact Ct_mono (by decide) (C_X3_count6 hI)
  · exact Ct_mono (by decide) (C_X3_count7 hI)
  · exact Ct_mono (by decide) (C_X3_count8 hI)
  · exact Ct_mono (by decide) (C_X3_count9 hI)
  · exact Ct_mono (by decide) (C_X3_count10 hI)
  · exact Ct_mono (by decide) (C_X3_count11 hI)
  · exact Ct_mono (by decide) (C_X3_count12 hI)
  · exact Ct_mono (by decide) (C_X3_count13 hI)
  · exact Ct_mono (by decide) (C_X3_count14 hI)
  · exact Ct_mono (by decide) (C_X3_count15 hI)

theorem K_lvE {l : Launch} {G : WG} {R : Room} {own : String} {cc : ByteArray} {nL : Nat} {ret : Option FieldType} {X : Code → Prop} {Z : Zz} {μ : Mem} {pc : Nat} {lv lv' : Lv} {st : List Value} (e : lv = lv') (kk : K l G R own cc nL ret X Z μ pc lv' st) : K l G R own cc nL ret X Z μ pc lv st := e ▸ kk
theorem hxO_z {g : Nat → Int64 → Int64} {h : Int64} : hxO g h 0 = h := rfl
theorem hxK_z {f : Nat → Int32} {h : Int64} : hxK f h 0 = h := rfl

set_option maxHeartbeats 1000000 in
set_option maxRecDepth 100000 in
theorem C_X3_hashOfPhase {l : Launch} {G : WG} {μ : Mem} {n : Nat} (hI : CI μ n) {p : Nat} (hp : p < n) {h : Int64} : Ct l G 5 yX3_hashOfPhase cX3_hashOfPhase 8 (some .long) [.ref (adr G 0 0 0), .long h, .int (nI p)] (μ) (some (.long (hPh (cPhaseQ μ p) (cUseQ μ p) (fun u => cWhy μ 0 p u 4) (cInstQ μ p) (fun w => cWhy μ 0 p 0 w) (cIfQ μ p) (cDays μ 0 p (insN μ 0 p)) (cDueIn μ p (nI 100)) h))) (μ) := by
  refine Ct_of (by decide +kernel) (Nat.le_of_ble_eq_true rfl) ?_
  refine K_lload_n dX3_hashOfPhase_0 rfl ?_
  refine K_lstore dX3_hashOfPhase_1 (by decide) rfl ?_
  refine K_iconstN 0 dX3_hashOfPhase_3 rfl ?_
  refine K_istore dX3_hashOfPhase_4 (by decide) rfl ?_
  refine K_lv [0, 3, 4, 6] rfl ?_
  refine K_for (14) (fun k => [(0, .ref (adr G 0 0 0)), (3, .int (nI p)), (4, .long (hxK (cPhaseQ μ p) h k)), (6, .int (nI k))]) (fun _ => μ) ?_ ?_
  · skip
    refine K_iload dX3_hashOfPhase_6 rfl ?_
    refine K_bipush (v := nI 14) dX3_hashOfPhase_8 (by decide) ?_
    refine K_icmpN_ge (by omega) (by omega) (tgt := 36) dX3_hashOfPhase_10 (by decide) (fun c10 => ?_) (fun c10 => ?_)
    · skip
      refine K_iconstN 0 dX3_hashOfPhase_36 rfl ?_
      refine K_istore dX3_hashOfPhase_37 (by decide) rfl ?_
      refine K_lv [0, 3, 4, 6] rfl ?_
      refine K_for (4) (fun k => [(0, .ref (adr G 0 0 0)), (3, .int (nI p)), (4, .long (hxO (hUse (cUseQ μ p) (fun u => cWhy μ 0 p u 4)) (hxK (cPhaseQ μ p) h 14) k)), (6, .int (nI k))]) (fun _ => μ) ?_ ?_
      · skip
        refine K_iload dX3_hashOfPhase_39 rfl ?_
        refine K_iconstN 4 dX3_hashOfPhase_41 rfl ?_
        refine K_icmpN_ge (by omega) (by omega) (tgt := 103) dX3_hashOfPhase_42 (by decide) (fun c42 => ?_) (fun c42 => ?_)
        · skip
          refine K_iconstN 0 dX3_hashOfPhase_103 rfl ?_
          refine K_istore dX3_hashOfPhase_104 (by decide) rfl ?_
          refine K_lv [0, 3, 4, 6] rfl ?_
          refine K_lvE (show ([(0, .ref (adr G 0 0 0)), (3, .int (nI p)), (4, .long ((hxO (hUse (cUseQ μ p) (fun u => cWhy μ 0 p u 4)) (hxK (cPhaseQ μ p) h 14) 4))), (6, .int (nI 0))] : Lv) = [(0, .ref (adr G 0 0 0)), (3, .int (nI p)), (4, .long (hxO (fun m h => hxK (cInstQ μ p m) h 3) (hxO (hUse (cUseQ μ p) (fun u => cWhy μ 0 p u 4)) (hxK (cPhaseQ μ p) h 14) 4) 0)), (6, .int (nI 0))] by rw [hxO_z]) ?_
          refine K_for (4) (fun k => [(0, .ref (adr G 0 0 0)), (3, .int (nI p)), (4, .long (hxO (fun m h => hxK (cInstQ μ p m) h 3) (hxO (hUse (cUseQ μ p) (fun u => cWhy μ 0 p u 4)) (hxK (cPhaseQ μ p) h 14) 4) k)), (6, .int (nI k))]) (fun _ => μ) ?_ ?_
          · skip
            refine K_iload dX3_hashOfPhase_106 rfl ?_
            refine K_iconstN 4 dX3_hashOfPhase_108 rfl ?_
            refine K_icmpN_ge (by omega) (by omega) (tgt := 152) dX3_hashOfPhase_109 (by decide) (fun c109 => ?_) (fun c109 => ?_)
            · skip
              refine K_iconstN 0 dX3_hashOfPhase_152 rfl ?_
              refine K_istore dX3_hashOfPhase_153 (by decide) rfl ?_
              refine K_lv [0, 3, 4, 6] rfl ?_
              refine K_lvE (show ([(0, .ref (adr G 0 0 0)), (3, .int (nI p)), (4, .long ((hxO (fun m h => hxK (cInstQ μ p m) h 3) (hxO (hUse (cUseQ μ p) (fun u => cWhy μ 0 p u 4)) (hxK (cPhaseQ μ p) h 14) 4) 4))), (6, .int (nI 0))] : Lv) = [(0, .ref (adr G 0 0 0)), (3, .int (nI p)), (4, .long (hxK (fun w => cWhy μ 0 p 0 w) (hxO (fun m h => hxK (cInstQ μ p m) h 3) (hxO (hUse (cUseQ μ p) (fun u => cWhy μ 0 p u 4)) (hxK (cPhaseQ μ p) h 14) 4) 4) 0)), (6, .int (nI 0))] by rw [hxK_z]) ?_
              refine K_for (4) (fun k => [(0, .ref (adr G 0 0 0)), (3, .int (nI p)), (4, .long (hxK (fun w => cWhy μ 0 p 0 w) (hxO (fun m h => hxK (cInstQ μ p m) h 3) (hxO (hUse (cUseQ μ p) (fun u => cWhy μ 0 p u 4)) (hxK (cPhaseQ μ p) h 14) 4) 4) k)), (6, .int (nI k))]) (fun _ => μ) ?_ ?_
              · skip
                refine K_iload dX3_hashOfPhase_155 rfl ?_
                refine K_iconstN 3 dX3_hashOfPhase_157 rfl ?_
                refine K_icmpN_gt (by omega) (by omega) (tgt := 185) dX3_hashOfPhase_158 (by decide) (fun c158 => ?_) (fun c158 => ?_)
                · skip
                  refine K_iconstN 0 dX3_hashOfPhase_185 rfl ?_
                  refine K_istore dX3_hashOfPhase_186 (by decide) rfl ?_
                  refine K_lv [0, 3, 4, 6] rfl ?_
                  refine K_lvE (show ([(0, .ref (adr G 0 0 0)), (3, .int (nI p)), (4, .long ((hxK (fun w => cWhy μ 0 p 0 w) (hxO (fun m h => hxK (cInstQ μ p m) h 3) (hxO (hUse (cUseQ μ p) (fun u => cWhy μ 0 p u 4)) (hxK (cPhaseQ μ p) h 14) 4) 4) 4))), (6, .int (nI 0))] : Lv) = [(0, .ref (adr G 0 0 0)), (3, .int (nI p)), (4, .long (hxK (cIfQ μ p) (hxK (fun w => cWhy μ 0 p 0 w) (hxO (fun m h => hxK (cInstQ μ p m) h 3) (hxO (hUse (cUseQ μ p) (fun u => cWhy μ 0 p u 4)) (hxK (cPhaseQ μ p) h 14) 4) 4) 4) 0)), (6, .int (nI 0))] by rw [hxK_z]) ?_
                  refine K_for (3) (fun k => [(0, .ref (adr G 0 0 0)), (3, .int (nI p)), (4, .long (hxK (cIfQ μ p) (hxK (fun w => cWhy μ 0 p 0 w) (hxO (fun m h => hxK (cInstQ μ p m) h 3) (hxO (hUse (cUseQ μ p) (fun u => cWhy μ 0 p u 4)) (hxK (cPhaseQ μ p) h 14) 4) 4) 4) k)), (6, .int (nI k))]) (fun _ => μ) ?_ ?_
                  · skip
                    refine K_iload dX3_hashOfPhase_188 rfl ?_
                    refine K_iconstN 3 dX3_hashOfPhase_190 rfl ?_
                    refine K_icmpN_ge (by omega) (by omega) (tgt := 217) dX3_hashOfPhase_191 (by decide) (fun c191 => ?_) (fun c191 => ?_)
                    · skip
                      refine K_ldc2 dX3_hashOfPhase_217 cst_X3_248 ?_
                      refine K_lload dX3_hashOfPhase_220 rfl ?_
                      refine K_lmul dX3_hashOfPhase_222 ?_
                      refine K_aload_n dX3_hashOfPhase_223 rfl ?_
                      refine K_iload_n dX3_hashOfPhase_224 rfl ?_
                      refine k_X3_breaksIn (C_X3_breaksIn hI hp) (by decide)  ml_X3_289 (Nat.le_of_ble_eq_true rfl) dX3_hashOfPhase_225 ?_
                      refine K_i2l dX3_hashOfPhase_228 ?_
                      refine K_ladd dX3_hashOfPhase_229 ?_
                      refine K_lstore dX3_hashOfPhase_230 (by decide) rfl ?_
                      refine K_ldc2 dX3_hashOfPhase_232 cst_X3_248 ?_
                      refine K_lload dX3_hashOfPhase_235 rfl ?_
                      refine K_lmul dX3_hashOfPhase_237 ?_
                      refine K_aload_n dX3_hashOfPhase_238 rfl ?_
                      refine K_iload_n dX3_hashOfPhase_239 rfl ?_
                      refine K_bipush (v := nI 100) dX3_hashOfPhase_240 (by decide) ?_
                      refine k_X3_dueIn (C_X3_dueIn hI hp (a := nI 100) (by decide)) (by decide)  ml_X3_292 (Nat.le_of_ble_eq_true rfl) dX3_hashOfPhase_242 ?_
                      refine K_i2l dX3_hashOfPhase_245 ?_
                      refine K_ladd dX3_hashOfPhase_246 ?_
                      exact K_lret dX3_hashOfPhase_247 ⟨by rfl, rfl⟩
                    · skip
                      exfalso; omega
                  · intro k hk_k ih_5
                    refine K_iload dX3_hashOfPhase_188 rfl ?_
                    refine K_iconstN 3 dX3_hashOfPhase_190 rfl ?_
                    refine K_icmpN_ge (by omega) (by omega) (tgt := 217) dX3_hashOfPhase_191 (by decide) (fun c191 => ?_) (fun c191 => ?_)
                    · skip
                      exfalso; omega
                    · skip
                      refine K_ldc2 dX3_hashOfPhase_194 cst_X3_248 ?_
                      refine K_lload dX3_hashOfPhase_197 rfl ?_
                      refine K_lmul dX3_hashOfPhase_199 ?_
                      refine K_aload_n dX3_hashOfPhase_200 rfl ?_
                      refine K_iload_n dX3_hashOfPhase_201 rfl ?_
                      refine K_iload dX3_hashOfPhase_202 rfl ?_
                      refine k_X3_ifBegun (C_X3_ifBegun hI hp (by omega)) (by decide)  ml_X3_286 (Nat.le_of_ble_eq_true rfl) dX3_hashOfPhase_204 ?_
                      refine K_i2l dX3_hashOfPhase_207 ?_
                      refine K_ladd dX3_hashOfPhase_208 ?_
                      refine K_lstore dX3_hashOfPhase_209 (by decide) rfl ?_
                      refine K_iincN (b := 1) dX3_hashOfPhase_211 rfl rfl (by decide) rfl ?_
                      refine K_goto (tgt := 188) dX3_hashOfPhase_214 (by decide) ?_
                      exact K_lv [0, 3, 4, 6] rfl ih_5
                · skip
                  exfalso; omega
              · intro k hk_k ih_4
                refine K_iload dX3_hashOfPhase_155 rfl ?_
                refine K_iconstN 3 dX3_hashOfPhase_157 rfl ?_
                refine K_icmpN_gt (by omega) (by omega) (tgt := 185) dX3_hashOfPhase_158 (by decide) (fun c158 => ?_) (fun c158 => ?_)
                · skip
                  exfalso; omega
                · skip
                  refine K_ldc2 dX3_hashOfPhase_161 cst_X3_248 ?_
                  refine K_lload dX3_hashOfPhase_164 rfl ?_
                  refine K_lmul dX3_hashOfPhase_166 ?_
                  refine K_aload_n dX3_hashOfPhase_167 rfl ?_
                  refine K_iload dX3_hashOfPhase_168 rfl ?_
                  refine K_iload_n dX3_hashOfPhase_170 rfl ?_
                  refine K_iconstN 0 dX3_hashOfPhase_171 rfl ?_
                  refine k_X3_whyNot (C_X3_whyNot hI hp (u := 0) (by omega) (by omega)) (by decide)  ml_X3_280 (Nat.le_of_ble_eq_true rfl) dX3_hashOfPhase_172 ?_
                  refine K_i2l dX3_hashOfPhase_175 ?_
                  refine K_ladd dX3_hashOfPhase_176 ?_
                  refine K_lstore dX3_hashOfPhase_177 (by decide) rfl ?_
                  refine K_iincN (b := 1) dX3_hashOfPhase_179 rfl rfl (by decide) rfl ?_
                  refine K_goto (tgt := 155) dX3_hashOfPhase_182 (by decide) ?_
                  exact K_lv [0, 3, 4, 6] rfl ih_4
            · skip
              exfalso; omega
          · intro m hk_m ih_3
            refine K_iload dX3_hashOfPhase_106 rfl ?_
            refine K_iconstN 4 dX3_hashOfPhase_108 rfl ?_
            refine K_icmpN_ge (by omega) (by omega) (tgt := 152) dX3_hashOfPhase_109 (by decide) (fun c109 => ?_) (fun c109 => ?_)
            · skip
              exfalso; omega
            · skip
              refine K_iconstN 0 dX3_hashOfPhase_112 rfl ?_
              refine K_istore dX3_hashOfPhase_113 (by decide) rfl ?_
              refine K_lv [0, 3, 4, 6, 7] rfl ?_
              refine K_for (3) (fun k => [(0, .ref (adr G 0 0 0)), (3, .int (nI p)), (4, .long (hxK (cInstQ μ p m) (hxO (fun m h => hxK (cInstQ μ p m) h 3) (hxO (hUse (cUseQ μ p) (fun u => cWhy μ 0 p u 4)) (hxK (cPhaseQ μ p) h 14) 4) m) k)), (6, .int (nI m)), (7, .int (nI k))]) (fun _ => μ) ?_ ?_
              · skip
                refine K_iload dX3_hashOfPhase_115 rfl ?_
                refine K_iconstN 3 dX3_hashOfPhase_117 rfl ?_
                refine K_icmpN_ge (by omega) (by omega) (tgt := 146) dX3_hashOfPhase_118 (by decide) (fun c118 => ?_) (fun c118 => ?_)
                · skip
                  refine K_iincN (b := 1) dX3_hashOfPhase_146 rfl rfl (by decide) rfl ?_
                  refine K_goto (tgt := 106) dX3_hashOfPhase_149 (by decide) ?_
                  exact K_lv [0, 3, 4, 6] rfl ih_3
                · skip
                  exfalso; omega
              · intro j hk_j ih_6
                refine K_iload dX3_hashOfPhase_115 rfl ?_
                refine K_iconstN 3 dX3_hashOfPhase_117 rfl ?_
                refine K_icmpN_ge (by omega) (by omega) (tgt := 146) dX3_hashOfPhase_118 (by decide) (fun c118 => ?_) (fun c118 => ?_)
                · skip
                  exfalso; omega
                · skip
                  refine K_ldc2 dX3_hashOfPhase_121 cst_X3_248 ?_
                  refine K_lload dX3_hashOfPhase_124 rfl ?_
                  refine K_lmul dX3_hashOfPhase_126 ?_
                  refine K_aload_n dX3_hashOfPhase_127 rfl ?_
                  refine K_iload_n dX3_hashOfPhase_128 rfl ?_
                  refine K_iload dX3_hashOfPhase_129 rfl ?_
                  refine K_iload dX3_hashOfPhase_131 rfl ?_
                  refine k_X3_instalment (C_X3_instalment hI hp (by omega) (by omega)) (by decide)  ml_X3_283 (Nat.le_of_ble_eq_true rfl) dX3_hashOfPhase_133 ?_
                  refine K_i2l dX3_hashOfPhase_136 ?_
                  refine K_ladd dX3_hashOfPhase_137 ?_
                  refine K_lstore dX3_hashOfPhase_138 (by decide) rfl ?_
                  refine K_iincN (b := 1) dX3_hashOfPhase_140 rfl rfl (by decide) rfl ?_
                  refine K_goto (tgt := 115) dX3_hashOfPhase_143 (by decide) ?_
                  exact K_lv [0, 3, 4, 6, 7] rfl ih_6
        · skip
          exfalso; omega
      · intro u hk_u ih_2
        refine K_iload dX3_hashOfPhase_39 rfl ?_
        refine K_iconstN 4 dX3_hashOfPhase_41 rfl ?_
        refine K_icmpN_ge (by omega) (by omega) (tgt := 103) dX3_hashOfPhase_42 (by decide) (fun c42 => ?_) (fun c42 => ?_)
        · skip
          exfalso; omega
        · skip
          refine K_iconstN 0 dX3_hashOfPhase_45 rfl ?_
          refine K_istore dX3_hashOfPhase_46 (by decide) rfl ?_
          refine K_lv [0, 3, 4, 6, 7] rfl ?_
          refine K_for (5) (fun k => [(0, .ref (adr G 0 0 0)), (3, .int (nI p)), (4, .long (hxK (cUseQ μ p u) (hxO (hUse (cUseQ μ p) (fun u => cWhy μ 0 p u 4)) (hxK (cPhaseQ μ p) h 14) u) k)), (6, .int (nI u)), (7, .int (nI k))]) (fun _ => μ) ?_ ?_
          · skip
            refine K_iload dX3_hashOfPhase_48 rfl ?_
            refine K_iconstN 5 dX3_hashOfPhase_50 rfl ?_
            refine K_icmpN_ge (by omega) (by omega) (tgt := 79) dX3_hashOfPhase_51 (by decide) (fun c51 => ?_) (fun c51 => ?_)
            · skip
              refine K_ldc2 dX3_hashOfPhase_79 cst_X3_248 ?_
              refine K_lload dX3_hashOfPhase_82 rfl ?_
              refine K_lmul dX3_hashOfPhase_84 ?_
              refine K_aload_n dX3_hashOfPhase_85 rfl ?_
              refine K_iconstN 4 dX3_hashOfPhase_86 rfl ?_
              refine K_iload_n dX3_hashOfPhase_87 rfl ?_
              refine K_iload dX3_hashOfPhase_88 rfl ?_
              refine k_X3_whyNot (C_X3_whyNot hI hp (by omega) (w := 4) (by omega)) (by decide)  ml_X3_280 (Nat.le_of_ble_eq_true rfl) dX3_hashOfPhase_90 ?_
              refine K_i2l dX3_hashOfPhase_93 ?_
              refine K_ladd dX3_hashOfPhase_94 ?_
              refine K_lstore dX3_hashOfPhase_95 (by decide) rfl ?_
              refine K_iincN (b := 1) dX3_hashOfPhase_97 rfl rfl (by decide) rfl ?_
              refine K_goto (tgt := 39) dX3_hashOfPhase_100 (by decide) ?_
              exact K_lv [0, 3, 4, 6] rfl ih_2
            · skip
              exfalso; omega
          · intro j hk_j ih_7
            refine K_iload dX3_hashOfPhase_48 rfl ?_
            refine K_iconstN 5 dX3_hashOfPhase_50 rfl ?_
            refine K_icmpN_ge (by omega) (by omega) (tgt := 79) dX3_hashOfPhase_51 (by decide) (fun c51 => ?_) (fun c51 => ?_)
            · skip
              exfalso; omega
            · skip
              refine K_ldc2 dX3_hashOfPhase_54 cst_X3_248 ?_
              refine K_lload dX3_hashOfPhase_57 rfl ?_
              refine K_lmul dX3_hashOfPhase_59 ?_
              refine K_aload_n dX3_hashOfPhase_60 rfl ?_
              refine K_iload_n dX3_hashOfPhase_61 rfl ?_
              refine K_iload dX3_hashOfPhase_62 rfl ?_
              refine K_iload dX3_hashOfPhase_64 rfl ?_
              refine k_X3_use (C_X3_use hI hp (by omega) (by omega)) (by decide)  ml_X3_277 (Nat.le_of_ble_eq_true rfl) dX3_hashOfPhase_66 ?_
              refine K_i2l dX3_hashOfPhase_69 ?_
              refine K_ladd dX3_hashOfPhase_70 ?_
              refine K_lstore dX3_hashOfPhase_71 (by decide) rfl ?_
              refine K_iincN (b := 1) dX3_hashOfPhase_73 rfl rfl (by decide) rfl ?_
              refine K_goto (tgt := 48) dX3_hashOfPhase_76 (by decide) ?_
              exact K_lv [0, 3, 4, 6, 7] rfl ih_7
    · skip
      exfalso; omega
  · intro k hk_k ih_1
    refine K_iload dX3_hashOfPhase_6 rfl ?_
    refine K_bipush (v := nI 14) dX3_hashOfPhase_8 (by decide) ?_
    refine K_icmpN_ge (by omega) (by omega) (tgt := 36) dX3_hashOfPhase_10 (by decide) (fun c10 => ?_) (fun c10 => ?_)
    · skip
      exfalso; omega
    · skip
      refine K_ldc2 dX3_hashOfPhase_13 cst_X3_248 ?_
      refine K_lload dX3_hashOfPhase_16 rfl ?_
      refine K_lmul dX3_hashOfPhase_18 ?_
      refine K_aload_n dX3_hashOfPhase_19 rfl ?_
      refine K_iload_n dX3_hashOfPhase_20 rfl ?_
      refine K_iload dX3_hashOfPhase_21 rfl ?_
      refine k_X3_phase (C_X3_phase hI hp (by omega)) (by decide)  ml_X3_274 (Nat.le_of_ble_eq_true rfl) dX3_hashOfPhase_23 ?_
      refine K_i2l dX3_hashOfPhase_26 ?_
      refine K_ladd dX3_hashOfPhase_27 ?_
      refine K_lstore dX3_hashOfPhase_28 (by decide) rfl ?_
      refine K_iincN (b := 1) dX3_hashOfPhase_30 rfl rfl (by decide) rfl ?_
      refine K_goto (tgt := 6) dX3_hashOfPhase_33 (by decide) ?_
      exact K_lv [0, 3, 4, 6] rfl ih_1
