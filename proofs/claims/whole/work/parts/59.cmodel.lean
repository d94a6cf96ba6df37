theorem upw_up {w : Nat → va_E} {k : Nat} {x y : va_E} (q : Nat) : upw (upw w k x) k y q = upw w k y q := by
  by_cases e : q = k
  · subst e; rw [upw_at, upw_at]
  · rw [upw_ne e, upw_ne e, upw_ne e]
def moV (b0 n k i : Nat) : Value := cond (decide (i < k)) (.ref (b0 + (n + i))) .null
def moF (b0 n k : Nat) : List Value := [moV b0 n k 0, .int 0, moV b0 n k 1, .int 0, moV b0 n k 2, .int 0, moV b0 n k 3, .int 0, .int 0, .int 0, moV b0 n k 4, .long 0]
def moN (i : Nat) : Nat := match i with
  | 0 => 232
  | 1 => 1392
  | 2 => 60
  | 3 => 88
  | _ => 232
def moW (G : WG) (b0 j n : Nat) (w : Nat → va_E) (k : Nat) : Nat → va_E := fun q => if q = j then .inr (4, moF b0 n k) else if n ≤ q ∧ q < n + k then zeroN G (moN (q - n)) else w q
def moZ : Nat → Int32 := upd (upd (upd (upd (upd (upd (upd (fun _ => 0) 0 60) 1 5) 2 700) 3 50) 5 100) 6 60) 7 30
def moE (G : WG) (b0 j n : Nat) (w : Nat → va_E) : Nat → va_E := fun q => if q = n then .inl (G.2.1 0, 232, .inl moZ) else moW G b0 j n w 5 q
theorem moW_at {G : WG} {b0 j n k : Nat} {w : Nat → va_E} : moW G b0 j n w k j = .inr (4, moF b0 n k) := if_pos rfl
theorem moW_0 {G : WG} {b0 j n : Nat} {w : Nat → va_E} (h : w j = .inr (4, moF b0 n 0)) (q : Nat) : w q = moW G b0 j n w 0 q := by
  unfold moW
  by_cases e : q = j
  · rw [if_pos e, e, h]
  · rw [if_neg e, if_neg (by omega)]
theorem moW_s {G : WG} {b0 j n k : Nat} {w : Nat → va_E} {fs : List Value} (hj : j < n) (hk : fs = moF b0 n (k + 1)) (N : Nat) (hN : N = moN k) (q : Nat) : upw (upw (moW G b0 j n w k) (n + k) (zeroN G N)) j (.inr (4, fs)) q = moW G b0 j n w (k + 1) q := by
  subst hN
  by_cases e : q = j
  · subst e
    rw [upw_at, moW_at, hk]
  · rw [upw_ne e]
    by_cases e2 : q = n + k
    · subst e2
      rw [upw_at]
      unfold moW
      rw [if_neg e, if_pos (by omega), show n + k - n = k by omega]
    · rw [upw_ne e2]
      unfold moW
      rw [if_neg e, if_neg e]
      by_cases e3 : n ≤ q ∧ q < n + k
      · rw [if_pos e3, if_pos (by omega)]
      · rw [if_neg e3, if_neg (by omega)]
theorem moW_n {G : WG} {b0 j n : Nat} {w : Nat → va_E} (hj : j < n) : moW G b0 j n w 5 n = zeroN G 232 := by
  unfold moW
  rw [if_neg (by omega), if_pos (by omega), show n - n = 0 by omega]
  rfl
theorem df_X4 {b0 n : Nat} : ∀ j, j < 12 → defaultValue (tyX4 j) = vp_V (moF b0 n 0) j := (fun j hj => match j, hj with | 0, _ => rfl | 1, _ => rfl | 2, _ => rfl | 3, _ => rfl | 4, _ => rfl | 5, _ => rfl | 6, _ => rfl | 7, _ => rfl | 8, _ => rfl | 9, _ => rfl | 10, _ => rfl | 11, _ => rfl | k + 12, h => absurd h (by omega))
set_option maxHeartbeats 4000000 in
set_option maxRecDepth 100000 in
theorem C_X4_init {l : Launch} {G : WG} {b0 j n : Nat} {w : Nat → va_E} (hj : j < n) (hw : w j = .inr (4, moF b0 n 0)) : CtB l G b0 1 5 2004 yX4_init cX4_init 1 [.ref (b0 + j)] n w (fun n' w' => n' = n + 5 ∧ ∀ q, w' q = moE G b0 j n w q) := by
  refine CtB_of (by decide +kernel) rfl (Nat.le_of_ble_eq_true rfl) ?_
  refine J_aload_n dX4_init_0 rfl ?_
  refine B_objInit dX4_init_1 oi_X4 oi_in oi_code (by decide) (by decide) ?_
  refine B_w rfl rfl rfl (moW_0 (G := G) hw) ?_
  refine J_aload_n dX4_init_4 rfl ?_
  refine J_sipush (v := nI 232) dX4_init_5 (by decide) ?_
  refine B_newI dX4_init_8 ac_int (by decide) (by decide) (by decide) ?_
  refine B_putF (ci := 4) (k := 0) (N := 12) (fun _ _ h => h) dX4_init_10 rfl in_X4 tyX4 tyX4_ok nmX4 fl_X4_7 (by decide) rfl rfl (tyX4_ok 0 (by decide)) rfl rfl (Nat.le_of_ble_eq_true rfl) (by omega) ((upw_ne (by omega)).trans moW_at) ?_
  refine B_w (nc' := 1) (ns' := 232) (n' := n + 1) rfl rfl rfl (moW_s (k := 0) hj rfl 232 rfl) ?_
  refine J_aload_n dX4_init_13 rfl ?_
  refine J_sipush (v := nI 1392) dX4_init_14 (by decide) ?_
  refine B_newI dX4_init_17 ac_int (by decide) (by decide) (by decide) ?_
  refine B_putF (ci := 4) (k := 2) (N := 12) (fun _ _ h => h) dX4_init_19 rfl in_X4 tyX4 tyX4_ok nmX4 fl_X4_13 (by decide) rfl rfl (tyX4_ok 2 (by decide)) rfl rfl (Nat.le_of_ble_eq_true rfl) (by omega) ((upw_ne (by omega)).trans moW_at) ?_
  refine B_w (nc' := 2) (ns' := 1624) (n' := n + 2) rfl rfl rfl (moW_s (k := 1) hj rfl 1392 rfl) ?_
  refine J_aload_n dX4_init_22 rfl ?_
  refine J_bipush (v := nI 60) dX4_init_23 (by decide) ?_
  refine B_newI dX4_init_25 ac_int (by decide) (by decide) (by decide) ?_
  refine B_putF (ci := 4) (k := 4) (N := 12) (fun _ _ h => h) dX4_init_27 rfl in_X4 tyX4 tyX4_ok nmX4 fl_X4_16 (by decide) rfl rfl (tyX4_ok 4 (by decide)) rfl rfl (Nat.le_of_ble_eq_true rfl) (by omega) ((upw_ne (by omega)).trans moW_at) ?_
  refine B_w (nc' := 3) (ns' := 1684) (n' := n + 3) rfl rfl rfl (moW_s (k := 2) hj rfl 60 rfl) ?_
  refine J_aload_n dX4_init_30 rfl ?_
  refine J_bipush (v := nI 88) dX4_init_31 (by decide) ?_
  refine B_newI dX4_init_33 ac_int (by decide) (by decide) (by decide) ?_
  refine B_putF (ci := 4) (k := 6) (N := 12) (fun _ _ h => h) dX4_init_35 rfl in_X4 tyX4 tyX4_ok nmX4 fl_X4_19 (by decide) rfl rfl (tyX4_ok 6 (by decide)) rfl rfl (Nat.le_of_ble_eq_true rfl) (by omega) ((upw_ne (by omega)).trans moW_at) ?_
  refine B_w (nc' := 4) (ns' := 1772) (n' := n + 4) rfl rfl rfl (moW_s (k := 3) hj rfl 88 rfl) ?_
  refine J_aload_n dX4_init_38 rfl ?_
  refine J_sipush (v := nI 232) dX4_init_39 (by decide) ?_
  refine B_newI dX4_init_42 ac_int (by decide) (by decide) (by decide) ?_
  refine B_putF (ci := 4) (k := 10) (N := 12) (fun _ _ h => h) dX4_init_44 rfl in_X4 tyX4 tyX4_ok nmX4 fl_X4_22 (by decide) rfl rfl (tyX4_ok 10 (by decide)) rfl rfl (Nat.le_of_ble_eq_true rfl) (by omega) ((upw_ne (by omega)).trans moW_at) ?_
  refine B_w (nc' := 5) (ns' := 2004) (n' := n + 5) rfl rfl rfl (moW_s (k := 4) hj rfl 232 rfl) ?_
  refine J_aload_n dX4_init_47 rfl ?_
  refine B_get (ci := 4) (k := 0) (N := 12) dX4_init_48 rfl in_X4 fl_X4_7 (by decide) (by omega) moW_at rfl ?_
  refine J_iconstN 0 dX4_init_51 rfl ?_
  refine J_bipush (v := 60) dX4_init_52 (by decide) ?_
  refine B_iast (j := n) (f := (fun _ => 0)) dX4_init_54 (by omega) (moW_n hj) (by decide) (by decide) ?_
  refine J_aload_n dX4_init_55 rfl ?_
  refine B_get (ci := 4) (k := 0) (N := 12) dX4_init_56 rfl in_X4 fl_X4_7 (by decide) (by omega) ((upw_ne (by omega)).trans moW_at) rfl ?_
  refine J_iconstN 1 dX4_init_59 rfl ?_
  refine J_iconst (v := 5) dX4_init_60 (by decide) ?_
  refine B_iast (j := n) (f := (upd (fun _ => 0) 0 60)) dX4_init_61 (by omega) upw_at (by decide) (by decide) ?_
  refine B_w rfl rfl rfl (upw_up (w := moW G b0 j n w 5)) ?_
  refine J_aload_n dX4_init_62 rfl ?_
  refine B_get (ci := 4) (k := 0) (N := 12) dX4_init_63 rfl in_X4 fl_X4_7 (by decide) (by omega) ((upw_ne (by omega)).trans moW_at) rfl ?_
  refine J_iconstN 2 dX4_init_66 rfl ?_
  refine J_sipush (v := 700) dX4_init_67 (by decide) ?_
  refine B_iast (j := n) (f := (upd (upd (fun _ => 0) 0 60) 1 5)) dX4_init_70 (by omega) upw_at (by decide) (by decide) ?_
  refine B_w rfl rfl rfl (upw_up (w := moW G b0 j n w 5)) ?_
  refine J_aload_n dX4_init_71 rfl ?_
  refine B_get (ci := 4) (k := 0) (N := 12) dX4_init_72 rfl in_X4 fl_X4_7 (by decide) (by omega) ((upw_ne (by omega)).trans moW_at) rfl ?_
  refine J_iconstN 3 dX4_init_75 rfl ?_
  refine J_bipush (v := 50) dX4_init_76 (by decide) ?_
  refine B_iast (j := n) (f := (upd (upd (upd (fun _ => 0) 0 60) 1 5) 2 700)) dX4_init_78 (by omega) upw_at (by decide) (by decide) ?_
  refine B_w rfl rfl rfl (upw_up (w := moW G b0 j n w 5)) ?_
  refine J_aload_n dX4_init_79 rfl ?_
  refine B_get (ci := 4) (k := 0) (N := 12) dX4_init_80 rfl in_X4 fl_X4_7 (by decide) (by omega) ((upw_ne (by omega)).trans moW_at) rfl ?_
  refine J_iconstN 5 dX4_init_83 rfl ?_
  refine J_bipush (v := 100) dX4_init_84 (by decide) ?_
  refine B_iast (j := n) (f := (upd (upd (upd (upd (fun _ => 0) 0 60) 1 5) 2 700) 3 50)) dX4_init_86 (by omega) upw_at (by decide) (by decide) ?_
  refine B_w rfl rfl rfl (upw_up (w := moW G b0 j n w 5)) ?_
  refine J_aload_n dX4_init_87 rfl ?_
  refine B_get (ci := 4) (k := 0) (N := 12) dX4_init_88 rfl in_X4 fl_X4_7 (by decide) (by omega) ((upw_ne (by omega)).trans moW_at) rfl ?_
  refine J_bipush (v := nI 6) dX4_init_91 (by decide) ?_
  refine J_bipush (v := 60) dX4_init_93 (by decide) ?_
  refine B_iast (j := n) (f := (upd (upd (upd (upd (upd (fun _ => 0) 0 60) 1 5) 2 700) 3 50) 5 100)) dX4_init_95 (by omega) upw_at (by decide) (by decide) ?_
  refine B_w rfl rfl rfl (upw_up (w := moW G b0 j n w 5)) ?_
  refine J_aload_n dX4_init_96 rfl ?_
  refine B_get (ci := 4) (k := 0) (N := 12) dX4_init_97 rfl in_X4 fl_X4_7 (by decide) (by omega) ((upw_ne (by omega)).trans moW_at) rfl ?_
  refine J_bipush (v := nI 7) dX4_init_100 (by decide) ?_
  refine J_bipush (v := 30) dX4_init_102 (by decide) ?_
  refine B_iast (j := n) (f := (upd (upd (upd (upd (upd (upd (fun _ => 0) 0 60) 1 5) 2 700) 3 50) 5 100) 6 60)) dX4_init_104 (by omega) upw_at (by decide) (by decide) ?_
  refine B_w rfl rfl rfl (upw_up (w := moW G b0 j n w 5)) ?_
  refine B_vret dX4_init_105 (Nat.le_refl _) (Nat.le_refl _) ⟨rfl, fun q => ?_⟩
  unfold moE
  by_cases e : q = n
  · subst e
    rw [upw_at, if_pos rfl]
    rfl
  · rw [upw_ne e, if_neg e]
