theorem oi_in : Cond.instanceMethod Lib.objectInit ∈ UW := tb_in 20 (by decide +kernel) rfl
theorem oi_code : Cond.code Lib.objectInit ⟨#[0xb1]⟩ 1 none ∈ UW := tb_in 21 (by decide +kernel) rfl
theorem oi_X2 : Cond.methodLink RX2 3 Lib.objectInit ∈ UW := tb_in 45 (by decide +kernel) rfl
theorem oi_X1 : Cond.methodLink RX1 3 Lib.objectInit ∈ UW := tb_in 131 (by decide +kernel) rfl
theorem oi_X0 : Cond.methodLink RX0 3 Lib.objectInit ∈ UW := tb_in 27 (by decide +kernel) rfl
theorem oi_X3 : Cond.methodLink RX3 1 Lib.objectInit ∈ UW := tb_in 19 (by decide +kernel) rfl
theorem oi_X4 : Cond.methodLink RX4 1 Lib.objectInit ∈ UW := tb_in 749 (by decide +kernel) rfl
theorem ac_int : Cond.arrayClass .int ∈ UW := tb_in 103 (by decide +kernel) rfl
theorem ac_long : Cond.arrayClass .long ∈ UW := tb_in 1161 (by decide +kernel) rfl
theorem B_w {l : Launch} {G : WG} {b0 : Nat} {R : Room} {own : String} {cc : ByteArray} {nL : Nat} {ret : Option FieldType} {X : Method → Code → Prop} {Z : Zz} {nc ns nc' ns' n n' : Nat} {w w' : Nat → va_E} {pc : Nat} {lv : Lv} {st : List Value} (hc : nc = nc') (hs : ns = ns') (hn : n = n') (e : ∀ q, w q = w' q) (kk : JB l G b0 R own cc nL ret X Z nc' ns' n' w' pc lv st) : JB l G b0 R own cc nL ret X Z nc ns n w pc lv st := by
  subst hc hs hn
  have : w = w' := funext e
  subst this
  exact kk
theorem upw_at {w : Nat → va_E} {k : Nat} {x : va_E} : upw w k x k = x := if_pos rfl
theorem upw_ne {w : Nat → va_E} {k q : Nat} {x : va_E} (h : q ≠ k) : upw w k x q = w q := if_neg h
def zero4 (G : WG) : va_E := .inl (G.2.1 0, 4, .inl (fun _ => 0))
def phV (b0 n k i : Nat) : Value := cond (decide (i < k)) (.ref (b0 + (n + i))) .null
def phF (b0 n k : Nat) : List Value := [phV b0 n k 0, phV b0 n k 1, phV b0 n k 2, phV b0 n k 3, phV b0 n k 4, phV b0 n k 5, .int 0, .int 0, .int 0, .int 0, .int 0, .int 0, .int 0]
def phW (G : WG) (b0 j n : Nat) (w : Nat → va_E) (k : Nat) : Nat → va_E := fun q => if q = j then .inr (2, phF b0 n k) else if n ≤ q ∧ q < n + k then zero4 G else w q
def phO (b0 n : Nat) : List Value := (phF b0 n 6).set 6 (.int (-1))
def phE (G : WG) (b0 j n : Nat) (w : Nat → va_E) : Nat → va_E := fun q => if q = j then .inr (2, phO b0 n) else if n ≤ q ∧ q < n + 6 then zero4 G else w q
theorem phW_at {G : WG} {b0 j n k : Nat} {w : Nat → va_E} : phW G b0 j n w k j = .inr (2, phF b0 n k) := if_pos rfl
theorem phW_0 {G : WG} {b0 j n : Nat} {w : Nat → va_E} (h : w j = .inr (2, phF b0 n 0)) (q : Nat) : w q = phW G b0 j n w 0 q := by
  unfold phW
  by_cases e : q = j
  · rw [if_pos e, e, h]
  · rw [if_neg e, if_neg (by omega)]
theorem phW_s {G : WG} {b0 j n k : Nat} {w : Nat → va_E} {fs : List Value} (hj : j < n) (hk : fs = phF b0 n (k + 1)) (q : Nat) : upw (upw (phW G b0 j n w k) (n + k) (zero4 G)) j (.inr (2, fs)) q = phW G b0 j n w (k + 1) q := by
  by_cases e : q = j
  · subst e
    rw [upw_at, phW_at, hk]
  · rw [upw_ne e]
    by_cases e2 : q = n + k
    · subst e2
      rw [upw_at]
      unfold phW
      rw [if_neg e, if_pos (by omega)]
    · rw [upw_ne e2]
      unfold phW
      rw [if_neg e, if_neg e]
      by_cases e3 : n ≤ q ∧ q < n + k
      · rw [if_pos e3, if_pos (by omega)]
      · rw [if_neg e3, if_neg (by omega)]
set_option maxHeartbeats 4000000 in
set_option maxRecDepth 100000 in
theorem C_X2_init {l : Launch} {G : WG} {b0 j n : Nat} {w : Nat → va_E} (hj : j < n) (hw : w j = .inr (2, phF b0 n 0)) : CtB l G b0 1 6 24 yX2_init cX2_init 1 [.ref (b0 + j)] n w (fun n' w' => n' = n + 6 ∧ ∀ q, w' q = phE G b0 j n w q) := by
  refine CtB_of (by decide +kernel) rfl (Nat.le_of_ble_eq_true rfl) ?_
  refine J_aload_n dX2_init_0 rfl ?_
  refine B_objInit dX2_init_1 oi_X2 oi_in oi_code (by decide) (by decide) ?_
  refine B_w rfl rfl rfl (phW_0 (G := G) hw) ?_
  refine J_aload_n dX2_init_4 rfl ?_
  refine J_iconstN 4 dX2_init_5 rfl ?_
  refine B_newI dX2_init_6 ac_int (by decide) (by show 1 ≤ 6; decide) (by show 4 ≤ 24; decide) ?_
  refine B_putF (ci := 2) (k := 0) (N := 13) (fun _ _ h => h) dX2_init_8 rfl in_X2 tyX2 tyX2_ok nmX2 fl_X2_9 (by decide) rfl rfl (tyX2_ok 0 (by decide)) rfl rfl (Nat.le_of_ble_eq_true rfl) (by omega) ((upw_ne (by omega)).trans phW_at) ?_
  refine B_w (nc' := 1) (ns' := 4) (n' := n + 1) rfl rfl rfl (phW_s (k := 0) hj rfl) ?_
  refine J_aload_n dX2_init_11 rfl ?_
  refine J_iconstN 4 dX2_init_12 rfl ?_
  refine B_newI dX2_init_13 ac_int (by decide) (by show 2 ≤ 6; decide) (by show 8 ≤ 24; decide) ?_
  refine B_putF (ci := 2) (k := 1) (N := 13) (fun _ _ h => h) dX2_init_15 rfl in_X2 tyX2 tyX2_ok nmX2 fl_X2_15 (by decide) rfl rfl (tyX2_ok 1 (by decide)) rfl rfl (Nat.le_of_ble_eq_true rfl) (by omega) ((upw_ne (by omega)).trans phW_at) ?_
  refine B_w (nc' := 2) (ns' := 8) (n' := n + 2) rfl rfl rfl (phW_s (k := 1) hj rfl) ?_
  refine J_aload_n dX2_init_18 rfl ?_
  refine J_iconstN 4 dX2_init_19 rfl ?_
  refine B_newI dX2_init_20 ac_int (by decide) (by show 3 ≤ 6; decide) (by show 12 ≤ 24; decide) ?_
  refine B_putF (ci := 2) (k := 2) (N := 13) (fun _ _ h => h) dX2_init_22 rfl in_X2 tyX2 tyX2_ok nmX2 fl_X2_18 (by decide) rfl rfl (tyX2_ok 2 (by decide)) rfl rfl (Nat.le_of_ble_eq_true rfl) (by omega) ((upw_ne (by omega)).trans phW_at) ?_
  refine B_w (nc' := 3) (ns' := 12) (n' := n + 3) rfl rfl rfl (phW_s (k := 2) hj rfl) ?_
  refine J_aload_n dX2_init_25 rfl ?_
  refine J_iconstN 4 dX2_init_26 rfl ?_
  refine B_newI dX2_init_27 ac_int (by decide) (by show 4 ≤ 6; decide) (by show 16 ≤ 24; decide) ?_
  refine B_putF (ci := 2) (k := 3) (N := 13) (fun _ _ h => h) dX2_init_29 rfl in_X2 tyX2 tyX2_ok nmX2 fl_X2_21 (by decide) rfl rfl (tyX2_ok 3 (by decide)) rfl rfl (Nat.le_of_ble_eq_true rfl) (by omega) ((upw_ne (by omega)).trans phW_at) ?_
  refine B_w (nc' := 4) (ns' := 16) (n' := n + 4) rfl rfl rfl (phW_s (k := 3) hj rfl) ?_
  refine J_aload_n dX2_init_32 rfl ?_
  refine J_iconstN 4 dX2_init_33 rfl ?_
  refine B_newI dX2_init_34 ac_int (by decide) (by show 5 ≤ 6; decide) (by show 20 ≤ 24; decide) ?_
  refine B_putF (ci := 2) (k := 4) (N := 13) (fun _ _ h => h) dX2_init_36 rfl in_X2 tyX2 tyX2_ok nmX2 fl_X2_24 (by decide) rfl rfl (tyX2_ok 4 (by decide)) rfl rfl (Nat.le_of_ble_eq_true rfl) (by omega) ((upw_ne (by omega)).trans phW_at) ?_
  refine B_w (nc' := 5) (ns' := 20) (n' := n + 5) rfl rfl rfl (phW_s (k := 4) hj rfl) ?_
  refine J_aload_n dX2_init_39 rfl ?_
  refine J_iconstN 4 dX2_init_40 rfl ?_
  refine B_newI dX2_init_41 ac_int (by decide) (by show 6 ≤ 6; decide) (by show 24 ≤ 24; decide) ?_
  refine B_putF (ci := 2) (k := 5) (N := 13) (fun _ _ h => h) dX2_init_43 rfl in_X2 tyX2 tyX2_ok nmX2 fl_X2_27 (by decide) rfl rfl (tyX2_ok 5 (by decide)) rfl rfl (Nat.le_of_ble_eq_true rfl) (by omega) ((upw_ne (by omega)).trans phW_at) ?_
  refine B_w (nc' := 6) (ns' := 24) (n' := n + 6) rfl rfl rfl (phW_s (k := 5) hj rfl) ?_
  refine J_aload_n dX2_init_46 rfl ?_
  refine J_iconst (v := -1) dX2_init_47 (by decide) ?_
  refine B_put (ci := 2) (k := 6) (N := 13) dX2_init_48 rfl in_X2 tyX2 tyX2_ok nmX2 fl_X2_30 (by decide) rfl (tyX2_ok 6 (by decide)) rfl rfl (Nat.le_of_ble_eq_true rfl) (by omega) phW_at ?_
  refine B_vret dX2_init_51 (Nat.le_refl _) (Nat.le_refl _) ⟨rfl, fun q => ?_⟩
  by_cases e : q = j
  · subst e
    rw [upw_at]
    exact (if_pos rfl).symm
  · rw [upw_ne e]
    unfold phW phE
    rw [if_neg e, if_neg e]
