theorem mi_X1 : Cond.instanceMethod yX1_init ∈ UW ∧ Cond.initialized yX1_init.cls ∈ UW ∧ Cond.code yX1_init cX1_init 1 none ∈ UW ∧ yX1_init.name = "<init>" ∧ yX1_init.cls ≠ "java/lang/invoke/MethodHandle" ∧ yX1_init.cls ≠ "java/lang/invoke/VarHandle" ∧ (parseMethodDescriptor yX1_init.desc).map (fun d => d.parameters.length) = some 0 := ⟨tb_in 129 (by decide +kernel) rfl, tb_in 4 (by decide +kernel) rfl, tb_in 130 (by decide +kernel) rfl, rfl, by decide, by decide, by decide +kernel⟩
theorem mi_X0 : Cond.instanceMethod yX0_init ∈ UW ∧ Cond.initialized yX0_init.cls ∈ UW ∧ Cond.code yX0_init cX0_init 2 none ∈ UW ∧ yX0_init.name = "<init>" ∧ yX0_init.cls ≠ "java/lang/invoke/MethodHandle" ∧ yX0_init.cls ≠ "java/lang/invoke/VarHandle" ∧ (parseMethodDescriptor yX0_init.desc).map (fun d => d.parameters.length) = some 0 := ⟨tb_in 25 (by decide +kernel) rfl, tb_in 2 (by decide +kernel) rfl, tb_in 26 (by decide +kernel) rfl, rfl, by decide, by decide, by decide +kernel⟩
theorem mi_X3 : Cond.instanceMethod yX3_init ∈ UW ∧ Cond.initialized yX3_init.cls ∈ UW ∧ Cond.code yX3_init cX3_init 2 none ∈ UW ∧ yX3_init.name = "<init>" ∧ yX3_init.cls ≠ "java/lang/invoke/MethodHandle" ∧ yX3_init.cls ≠ "java/lang/invoke/VarHandle" ∧ (parseMethodDescriptor yX3_init.desc).map (fun d => d.parameters.length) = some 0 := ⟨tb_in 17 (by decide +kernel) rfl, tb_in 1 (by decide +kernel) rfl, tb_in 18 (by decide +kernel) rfl, rfl, by decide, by decide, by decide +kernel⟩
theorem mi_X4 : Cond.instanceMethod yX4_init ∈ UW ∧ Cond.initialized yX4_init.cls ∈ UW ∧ Cond.code yX4_init cX4_init 1 none ∈ UW ∧ yX4_init.name = "<init>" ∧ yX4_init.cls ≠ "java/lang/invoke/MethodHandle" ∧ yX4_init.cls ≠ "java/lang/invoke/VarHandle" ∧ (parseMethodDescriptor yX4_init.desc).map (fun d => d.parameters.length) = some 0 := ⟨tb_in 747 (by decide +kernel) rfl, tb_in 5 (by decide +kernel) rfl, tb_in 748 (by decide +kernel) rfl, rfl, by decide, by decide, by decide +kernel⟩
theorem cl_X3_27 : Cond.classLink RX3 27 RX1 ∈ UW := tb_in 126 (by decide +kernel) rfl
theorem is_X1 : Cond.instantiable RX1 7 ∈ UW := tb_in 127 (by decide +kernel) rfl
theorem ii_X1 : Cond.initialized RX1 ∈ UW := tb_in 4 (by decide +kernel) rfl
theorem cl_X3_7 : Cond.classLink RX3 7 RX0 ∈ UW := tb_in 22 (by decide +kernel) rfl
theorem is_X0 : Cond.instantiable RX0 5 ∈ UW := tb_in 23 (by decide +kernel) rfl
theorem ii_X0 : Cond.initialized RX0 ∈ UW := tb_in 2 (by decide +kernel) rfl
theorem is_X3 : Cond.instantiable RX3 5 ∈ UW := tb_in 15 (by decide +kernel) rfl
theorem ii_X3 : Cond.initialized RX3 ∈ UW := tb_in 1 (by decide +kernel) rfl
theorem is_X4 : Cond.instantiable RX4 12 ∈ UW := tb_in 745 (by decide +kernel) rfl
theorem ii_X4 : Cond.initialized RX4 ∈ UW := tb_in 5 (by decide +kernel) rfl
def orF (b0 n k : Nat) : List Value := [cond (decide (0 < k)) (.ref (b0 + n)) .null, .int 0, .int 0, .int 0, .int 0, .int 0, .int 0]
def zeroN (G : WG) (N : Nat) : va_E := .inl (G.2.1 0, N, .inl (fun _ => 0))
theorem df_X1 {b0 n : Nat} : ∀ j, j < 7 → defaultValue (tyX1 j) = vp_V (orF b0 n 0) j := (fun j hj => match j, hj with | 0, _ => rfl | 1, _ => rfl | 2, _ => rfl | 3, _ => rfl | 4, _ => rfl | 5, _ => rfl | 6, _ => rfl | k + 7, h => absurd h (by omega))
set_option maxHeartbeats 4000000 in
set_option maxRecDepth 100000 in
theorem C_X1_init {l : Launch} {G : WG} {b0 j n : Nat} {w : Nat → va_E} (hj : j < n) (hw : w j = .inr (1, orF b0 n 0)) : CtB l G b0 1 1 60 yX1_init cX1_init 1 [.ref (b0 + j)] n w (fun n' w' => n' = n + 1 ∧ ∀ q, w' q = if q = j then .inr (1, orF b0 n 1) else if q = n then zeroN G 60 else w q) := by
  refine CtB_of (by decide +kernel) rfl (Nat.le_of_ble_eq_true rfl) ?_
  refine J_aload_n dX1_init_0 rfl ?_
  refine B_objInit dX1_init_1 oi_X1 oi_in oi_code (by decide) (by decide) ?_
  refine J_aload_n dX1_init_4 rfl ?_
  refine J_bipush (v := nI 60) dX1_init_5 (by decide) ?_
  refine B_newI dX1_init_7 ac_int (by decide) (by decide) (by decide) ?_
  refine B_putF (ci := 1) (k := 0) (N := 7) (fun _ _ h => h) dX1_init_9 rfl in_X1 tyX1 tyX1_ok nmX1 fl_X1_9 (by decide) rfl rfl (tyX1_ok 0 (by decide)) rfl rfl (Nat.le_of_ble_eq_true rfl) (by omega) ((upw_ne (by omega)).trans hw) ?_
  refine J_aload_n dX1_init_12 rfl ?_
  refine J_iconst (v := 0) dX1_init_13 (by decide) ?_
  refine B_put (ci := 1) (k := 1) (N := 7) dX1_init_14 rfl in_X1 tyX1 tyX1_ok nmX1 fl_X1_15 (by decide) rfl (tyX1_ok 1 (by decide)) rfl rfl (Nat.le_of_ble_eq_true rfl) (by omega) upw_at ?_
  refine J_aload_n dX1_init_17 rfl ?_
  refine J_iconst (v := 0) dX1_init_18 (by decide) ?_
  refine B_put (ci := 1) (k := 2) (N := 7) dX1_init_19 rfl in_X1 tyX1 tyX1_ok nmX1 fl_X1_19 (by decide) rfl (tyX1_ok 2 (by decide)) rfl rfl (Nat.le_of_ble_eq_true rfl) (by omega) upw_at ?_
  refine B_vret dX1_init_22 (Nat.le_refl _) (Nat.le_refl _) ⟨rfl, fun q => ?_⟩
  by_cases e : q = j
  · subst e
    rw [upw_at, if_pos rfl]
    rfl
  · rw [upw_ne e, upw_ne e, upw_ne e, if_neg e]
    by_cases e2 : q = n
    · subst e2
      rw [upw_at, if_pos rfl]
      rfl
    · rw [upw_ne e2, if_neg e2]
