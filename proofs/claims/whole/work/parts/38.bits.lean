section KCALLB
variable {l : Launch} {G : WG} {R : Room} {own : String} {cc : ByteArray} {nL : Nat} {ret : Option FieldType} {X : Code → Prop} {Z : Zz} {μ μ' : Mem} {pc : Nat} {lv : Lv} {st : List Value}
variable {d' idx maxL : Nat} {y : MethodName} {bytes : ByteArray} {ret' : Option FieldType} {r : Option Value} {As rest : List Value}
/-- a static method of another class -/
theorem K_callO (hC : Ct l G d' y bytes maxL ret' As μ r μ') (hm : MkS y bytes maxL ret' As.length) (hlink : Cond.methodLink own idx y ∈ UW) (hd : d' + 1 ≤ R.frames ∧ 8 + (maxL + 11) + 34 * d' ≤ R.locals) (hst : st = As.reverse ++ rest) (hW : (rest.map fun v => v.category).sum ≤ 8) (hdg : decode cc pc = .ok (.invokestatic idx, 3)) (kk : K l G R own cc nL ret X Z μ' (pc + 3) lv (r.toList ++ rest)) : K l G R own cc nL ret X Z μ pc lv st := by
  intro p' e s m args below meth c H locs ls C' hR hS hl
  have hts := C'.2.2.2.2.2.2.1
  have hE := C'.2.2.2.2.2.2.2.1
  obtain ⟨m1, m2, m3, m4, m5, m6⟩ := hm
  have cw : CallB R s args own idx y bytes maxL ret' (.code y bytes maxL ret' :: UW) (rmD d') 0 0 As.length ∧ (Cond.static y).before args s = true :=
    ⟨callB_of As.length hts (UW_in fun w h => UW_cons m3 w h) rfl rfl rfl (hts _ m2) (hts _ hlink) ⟨m4, m5, m6⟩ hd, hts _ m1⟩
  exact K_after C' hS hl (va_runS (rest := rest) ⟨C'.1, C'.2.1, C'.2.2.1, C'.2.2.2.2.2.1, hts⟩ hC cw ⟨PcK_blind, fun U hU hW => ⟨rfl, by rw [hU]; exact hR, hE.go hW (by rw [hU]; exact hS)⟩⟩ rfl rfl hl.1 hst (lv_room hW) hdg ⟨Nat.zero_le _, Nat.zero_le _⟩) kk
end KCALLB
theorem in_dbl : Cond.initialized "java/lang/Double" ∈ UW := tb1 13 (by decide +kernel) rfl
theorem ml_X4_256 : Cond.methodLink RX4 256 yJxe99ae_doubleToLongBits_ccdee ∈ UW := tb5 191 (by decide +kernel) rfl
theorem mk_dbits : MkS yJxe99ae_doubleToLongBits_ccdee cJxe99ae_doubleToLongBits_ccdee 2 (some .long) 1 := ⟨tb5 192 (by decide +kernel) rfl, in_dbl, tb5 193 (by decide +kernel) rfl, by decide, by decide, by decide +kernel⟩
theorem ml_nan : Cond.methodLink RJxe99ae 122 yJxe99ae_isNaN_b9ae7 ∈ UW := tb5 194 (by decide +kernel) rfl
theorem mk_nan : MkS yJxe99ae_isNaN_b9ae7 cJxe99ae_isNaN_b9ae7 2 (some .boolean) 1 := ⟨tb5 195 (by decide +kernel) rfl, in_dbl, tb5 196 (by decide +kernel) rfl, by decide, by decide, by decide +kernel⟩
theorem ml_raw : Cond.methodLink RJxe99ae 134 doubleToRawLongBitsName ∈ UW := tb5 197 (by decide +kernel) rfl
theorem st_raw : Cond.static doubleToRawLongBitsName ∈ UW := tb5 198 (by decide +kernel) rfl
theorem nt_raw : Cond.native doubleToRawLongBitsName ∈ UW := tb5 199 (by decide +kernel) rfl
theorem cst_X3_297 : Cond.constantDouble RX3 297 4611686018427387904 ∈ UW := tb3 7 (by decide +kernel) rfl
theorem cst_X3_299 : Cond.constantDouble RX3 299 4841369599423283200 ∈ UW := tb3 8 (by decide +kernel) rfl
set_option maxHeartbeats 4000000 in
set_option maxRecDepth 100000 in
theorem C_isNaN {l : Launch} {G : WG} {μ : Mem} {x : UInt64} (hx : FP.Core.val64 x ≠ .nan) : Ct l G 0 yJxe99ae_isNaN_b9ae7 cJxe99ae_isNaN_b9ae7 2 (some .boolean) [.double x] μ (some (.int (b2i false))) μ := by
  refine Ct_of (by decide +kernel) (Nat.le_of_ble_eq_true rfl) ?_
  refine K_dload_n dJxe99ae_isNaN_b9ae7_0 rfl ?_
  refine K_dload_n dJxe99ae_isNaN_b9ae7_1 rfl ?_
  refine K_dcmp dJxe99ae_isNaN_b9ae7_2 ?_
  refine K_top (show _ = b2i false by rw [show FP.dcmp x x = some .eq from FP.Core.dcmp_self hx]; rfl) ?_
  refine K_ifb_eq (tgt := 10) dJxe99ae_isNaN_b9ae7_3 (by decide) (fun _ => ?_) (fun h => absurd h (by decide))
  refine K_iconstN 0 dJxe99ae_isNaN_b9ae7_10 rfl ?_
  exact K_zret (b := false) rfl dJxe99ae_isNaN_b9ae7_11 ⟨rfl, rfl⟩
set_option maxHeartbeats 4000000 in
set_option maxRecDepth 100000 in
theorem C_dbits {l : Launch} {G : WG} {μ : Mem} {x : UInt64} (hx : FP.Core.val64 x ≠ .nan) : Ct l G 1 yJxe99ae_doubleToLongBits_ccdee cJxe99ae_doubleToLongBits_ccdee 2 (some .long) [.double x] μ (some (.long x.toInt64)) μ := by
  refine Ct_of (by decide +kernel) (Nat.le_of_ble_eq_true rfl) ?_
  refine K_dload_n dJxe99ae_doubleToLongBits_ccdee_0 rfl ?_
  refine K_callO (C_isNaN hx) mk_nan ml_nan (by decide) rfl (Nat.le_of_ble_eq_true rfl) dJxe99ae_doubleToLongBits_ccdee_1 ?_
  refine K_ifb_ne (tgt := 12) dJxe99ae_doubleToLongBits_ccdee_4 (by decide) (fun h => absurd h (by decide)) (fun _ => ?_)
  refine K_dload_n dJxe99ae_doubleToLongBits_ccdee_7 rfl ?_
  refine K_rawBits dJxe99ae_doubleToLongBits_ccdee_8 ml_raw nt_raw st_raw in_dbl (by decide) (by decide +kernel) ?_
  exact K_lret dJxe99ae_doubleToLongBits_ccdee_11 ⟨rfl, rfl⟩
