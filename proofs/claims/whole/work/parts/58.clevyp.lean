def lvB (G : WG) (b0 m : Nat) : Nat → va_E := lvW G b0 m (m + 1) (fun _ => zero4 G) 6
theorem lvW_in {G : WG} {b0 m q : Nat} {w : Nat → va_E} (h1 : m ≤ q) (h2 : q < m + 46) : lvW G b0 m (m + 1) w 6 q = lvB G b0 m q := by
  unfold lvB lvW
  by_cases a1 : q = m
  · rw [if_pos a1, if_pos a1]
  · rw [if_neg a1, if_neg a1]
    by_cases a2 : q = m + 1
    · rw [if_pos a2, if_pos a2]
    · rw [if_neg a2, if_neg a2]
      by_cases a3 : q = m + 1 + 1
      · rw [if_pos a3, if_pos a3]
      · rw [if_neg a3, if_neg a3]
        by_cases a4 : q = m + 1 + 2
        · rw [if_pos a4, if_pos a4]
        · have h9 : m + 1 + 3 ≤ q ∧ q < m + 1 + 3 + 7 * 6 := by omega
          rw [if_neg a4, if_neg a4, if_pos h9, if_pos h9]
theorem lvW_out {G : WG} {b0 m q : Nat} {w : Nat → va_E} (h : ¬ (m ≤ q ∧ q < m + 46)) : lvW G b0 m (m + 1) w 6 q = w q := by
  unfold lvW
  rw [if_neg (by omega), if_neg (by omega), if_neg (by omega), if_neg (by omega), if_neg (by omega)]
def svRefs (b0 n p : Nat) : Nat → Option Nat := fun i => if i < p then some (b0 + (n + 47 + 46 * i)) else none
theorem svRefs_0 {b0 n : Nat} : svRefs b0 n 0 = fun _ => none := funext fun i => if_neg (Nat.not_lt_zero i)
theorem svRefs_s {b0 n p : Nat} : va_up (svRefs b0 n p) p (some (b0 + (n + 47 + 46 * p))) = svRefs b0 n (p + 1) := by
  funext i
  unfold va_up svRefs
  by_cases e : i = p
  · subst e
    rw [if_pos rfl, if_pos (Nat.lt_succ_self i)]
  · rw [if_neg e]
    by_cases h : i < p
    · rw [if_pos h, if_pos (by omega)]
    · rw [if_neg h, if_neg (by omega)]
def lpF (b0 n k : Nat) : List Value := [cond (decide (0 < k)) (.ref (b0 + n)) .null, cond (decide (1 < k)) (.ref (b0 + (n + 46))) .null, .int 0, .int 0, cond (decide (2 < k)) (.ref (b0 + (n + 323))) .null]
def svQ (G : WG) (b0 n p : Nat) : va_E := .inl (G.2.1 2, 6, .inr (.inr (.inr (.inr (svRefs b0 n p)))))
def lpW (G : WG) (b0 j n : Nat) (w : Nat → va_E) (p : Nat) : Nat → va_E := fun q => if q = j then .inr (3, lpF b0 n 2) else if n ≤ q ∧ q < n + 46 then lvB G b0 n q else if q = n + 46 then svQ G b0 n p else if n + 47 ≤ q ∧ q < n + 47 + 46 * p then lvB G b0 (n + 47 + 46 * ((q - (n + 47)) / 46)) q else w q
def lpE (G : WG) (b0 j n : Nat) (w : Nat → va_E) : Nat → va_E := fun q => if q = j then .inr (3, lpF b0 n 3) else if q = n + 323 then .inr (1, orF b0 (n + 324) 1) else if q = n + 324 then zeroN G 60 else lpW G b0 j n w 6 q
theorem lpW_j {G : WG} {b0 j n p : Nat} {w : Nat → va_E} : lpW G b0 j n w p j = .inr (3, lpF b0 n 2) := if_pos rfl
theorem lpW_q {G : WG} {b0 j n p : Nat} {w : Nat → va_E} (hj : j < n) : lpW G b0 j n w p (n + 46) = svQ G b0 n p := by
  unfold lpW
  rw [if_neg (by omega), if_neg (by omega), if_pos rfl]
theorem lpW_0 {G : WG} {b0 j n : Nat} {w w1 : Nat → va_E} {x : va_E} {f1 f2 : List Value} (hj : j < n) (h1 : ∀ q, w1 q = lvW G b0 n (n + 1) (upw w n x) 6 q) (h2 : f2 = lpF b0 n 2) (q : Nat) : upw (upw (upw w1 j (.inr (3, f1))) (n + 46) (svQ G b0 n 0)) j (.inr (3, f2)) q = lpW G b0 j n w 0 q := by
  subst h2
  by_cases e : q = j
  · subst e; rw [upw_at, lpW_j]
  · rw [upw_ne e]
    unfold lpW
    rw [if_neg e]
    by_cases e2 : q = n + 46
    · subst e2; rw [upw_at, if_neg (by omega), if_pos rfl]
    · rw [upw_ne e2, upw_ne e, h1]
      by_cases e3 : n ≤ q ∧ q < n + 46
      · rw [if_pos e3, lvW_in e3.1 e3.2]
      · rw [if_neg e3, if_neg e2, if_neg (by omega), lvW_out e3, upw_ne (by omega)]
theorem lpW_s {G : WG} {b0 j n p : Nat} {w w1 : Nat → va_E} {f : List Value} (hj : j < n) (h1 : ∀ q, w1 q = lvW G b0 (n + 47 + 46 * p) (n + 47 + 46 * p + 1) (upw (lpW G b0 j n w p) (n + 47 + 46 * p) (.inr (0, f))) 6 q) (q : Nat) : upw w1 (n + 46) (svQ G b0 n (p + 1)) q = lpW G b0 j n w (p + 1) q := by
  by_cases e2 : q = n + 46
  · subst e2; rw [upw_at, lpW_q hj]
  · rw [upw_ne e2, h1]
    by_cases e3 : n + 47 + 46 * p ≤ q ∧ q < n + 47 + 46 * p + 46
    · rw [lvW_in e3.1 e3.2]
      unfold lpW
      have hd : (q - (n + 47)) / 46 = p := by omega
      rw [if_neg (by omega), if_neg (by omega), if_neg e2, if_pos (by omega), hd]
    · rw [lvW_out e3, upw_ne (by omega)]
      unfold lpW
      by_cases a1 : q = j
      · rw [if_pos a1, if_pos a1]
      · rw [if_neg a1, if_neg a1]
        by_cases a2 : n ≤ q ∧ q < n + 46
        · rw [if_pos a2, if_pos a2]
        · rw [if_neg a2, if_neg a2, if_neg e2, if_neg e2]
          by_cases a4 : n + 47 ≤ q ∧ q < n + 47 + 46 * p
          · rw [if_pos a4, if_pos (show n + 47 ≤ q ∧ q < n + 47 + 46 * (p + 1) by omega)]
          · rw [if_neg a4, if_neg (by omega)]
theorem df_X0 {b0 n : Nat} : ∀ j, j < 5 → defaultValue (tyX0 j) = vp_V (lvF b0 n 0) j := (fun j hj => match j, hj with | 0, _ => rfl | 1, _ => rfl | 2, _ => rfl | 3, _ => rfl | 4, _ => rfl | k + 5, h => absurd h (by omega))
theorem lp_len : ∀ k : Nat, k ≤ 6 → 47 + 46 * k ≤ 325 ∧ 247 + 241 * k ≤ 1760 := by intro k hk; omega
set_option maxHeartbeats 4000000 in
set_option maxRecDepth 100000 in
theorem L_X3_end {l : Launch} {G : WG} {b0 j n : Nat} {w : Nat → va_E} (hj : j < n) : JB l G b0 (rmB 3 325 1760) yX3_init.cls cX3_init 2 none XB (ZB G b0 325 1760 (fun n' w' => n' = n + 325 ∧ ∀ q, w' q = lpE G b0 j n w q)) 323 1693 (n + 323) (lpW G b0 j n w 6) 51 [(0, .ref (b0 + j)), (1, .int (nI 6))] [] := by
  refine J_aload_n dX3_init_51 rfl ?_
  refine J_iconst (v := 0) dX3_init_52 (by decide) ?_
  refine B_put (ci := 3) (k := 2) (N := 5) dX3_init_53 rfl in_X3 tyX3 tyX3_ok nmX3 fl_X3_20 (by decide) rfl (tyX3_ok 2 (by decide)) rfl rfl (Nat.le_of_ble_eq_true rfl) (by omega) lpW_j ?_
  refine J_aload_n dX3_init_56 rfl ?_
  refine J_iconst (v := 0) dX3_init_57 (by decide) ?_
  refine B_put (ci := 3) (k := 3) (N := 5) dX3_init_58 rfl in_X3 tyX3 tyX3_ok nmX3 fl_X3_24 (by decide) rfl (tyX3_ok 3 (by decide)) rfl rfl (Nat.le_of_ble_eq_true rfl) (by omega) upw_at ?_
  refine J_aload_n dX3_init_61 rfl ?_
  refine B_new (ci := 1) (N := 7) (fs := orF b0 (n + 323 + 1) 0) dX3_init_62 rfl in_X1 tyX1 tyX1_ok cl_X3_27 is_X1 ii_X1 df_X1 (by decide) (by decide) ?_
  refine J_dup dX3_init_65 rfl ?_
  refine B_call (C_X1_init (by omega) upw_at) mi_X1 ml_X3_29 (by decide) (Nat.le_of_ble_eq_true rfl) (by decide) dX3_init_66 ?_
  rintro n1 w1 ⟨rfl, hw1⟩
  refine B_putF (ci := 3) (k := 4) (N := 5) (fun _ _ h => h) dX3_init_69 rfl in_X3 tyX3 tyX3_ok nmX3 fl_X3_30 (by decide) rfl rfl (tyX3_ok 4 (by decide)) rfl rfl (Nat.le_of_ble_eq_true rfl) (by omega) ((hw1 j).trans ((if_neg (by omega)).trans ((if_neg (by omega)).trans ((upw_ne (by omega)).trans upw_at)))) ?_
  refine B_vret dX3_init_72 (Nat.le_refl _) (Nat.le_refl _) ⟨rfl, fun q => ?_⟩
  unfold lpE
  by_cases e : q = j
  · subst e
    rw [upw_at, if_pos rfl]
    rfl
  · rw [upw_ne e, if_neg e, hw1]
    by_cases e1 : q = n + 323
    · rw [if_pos e1, if_pos e1]
    · rw [if_neg e1, if_neg e1]
      by_cases e2 : q = n + 324
      · rw [if_pos e2, if_pos e2]
      · rw [if_neg e2, if_neg e2, upw_ne e1, upw_ne e, upw_ne e]
set_option maxHeartbeats 4000000 in
set_option maxRecDepth 100000 in
theorem L_X3_init {l : Launch} {G : WG} {b0 j n : Nat} {w : Nat → va_E} (hj : j < n) : ∀ k p, p + k = 6 → JB l G b0 (rmB 3 325 1760) yX3_init.cls cX3_init 2 none XB (ZB G b0 325 1760 (fun n' w' => n' = n + 325 ∧ ∀ q, w' q = lpE G b0 j n w q)) (47 + 46 * p) (247 + 241 * p) (n + 47 + 46 * p) (lpW G b0 j n w p) 26 [(0, .ref (b0 + j)), (1, .int (nI p))] [] := by
  intro k
  induction k with
  | zero =>
    intro p hp
    have e : p = 6 := by omega
    subst e
    refine J_iload_n dX3_init_26 rfl ?_
    refine J_bipush (v := nI 6) dX3_init_27 (by decide) ?_
    refine J_icmpN_ge (by omega) (by omega) (tgt := 51) dX3_init_29 (by decide) (fun _ => ?_) (fun c => absurd c (by omega))
    exact L_X3_end hj
  | succ k ih =>
    intro p hp
    refine J_iload_n dX3_init_26 rfl ?_
    refine J_bipush (v := nI 6) dX3_init_27 (by decide) ?_
    refine J_icmpN_ge (by omega) (by omega) (tgt := 51) dX3_init_29 (by decide) (fun c => absurd c (by omega)) (fun _ => ?_)
    refine J_aload_n dX3_init_32 rfl ?_
    refine B_get (ci := 3) (k := 1) (N := 5) dX3_init_33 rfl in_X3 fl_X3_16 (by decide) (by omega) lpW_j rfl ?_
    refine J_iload_n dX3_init_36 rfl ?_
    refine B_new (ci := 0) (N := 5) (fs := lvF b0 (n + 47 + 46 * p + 1) 0) dX3_init_37 rfl in_X0 tyX0 tyX0_ok cl_X3_7 is_X0 ii_X0 df_X0 (by show 47 + 46 * p + 1 ≤ 325; omega) (by show 247 + 241 * p + 5 ≤ 1760; omega) ?_
    refine J_dup dX3_init_40 rfl ?_
    refine B_call (C_X0_init (by omega) upw_at) mi_X0 ml_X3_9 (by decide) (Nat.le_of_ble_eq_true rfl) ⟨by show 47 + 46 * p + 1 + 45 ≤ 325; omega, by show 247 + 241 * p + 5 + 236 ≤ 1760; omega⟩ dX3_init_41 ?_
    rintro n1 w1 ⟨rfl, hw1⟩
    have hq : w1 (n + 46) = svQ G b0 n p := by
      rw [hw1, lvW_out (by omega), upw_ne (by omega), lpW_q hj]
    have ho : w1 (n + 47 + 46 * p) = .inr (0, lvF b0 (n + 47 + 46 * p + 1) 3) := by
      rw [hw1]
      exact if_pos rfl
    refine B_astq (t0 := 2) (ci := 0) dX3_init_44 (by omega) hq rfl (by omega) ho rfl (by decide) (by omega) ?_
    refine B_w (nc' := 47 + 46 * (p + 1)) (ns' := 247 + 241 * (p + 1)) (n' := n + 47 + 46 * (p + 1)) (by omega) (by omega) (by omega) (fun q => (by rw [svRefs_s]; exact lpW_s hj hw1 q : _ = lpW G b0 j n w (p + 1) q)) ?_
    refine J_iincN (b := 1) dX3_init_45 rfl rfl (by decide) rfl ?_
    refine J_goto (tgt := 26) dX3_init_48 (by decide) ?_
    exact ih (p + 1) (by omega)
set_option maxHeartbeats 4000000 in
set_option maxRecDepth 100000 in
theorem C_X3_init {l : Launch} {G : WG} {b0 j n : Nat} {w : Nat → va_E} (hj : j < n) (hw : w j = .inr (3, lpF b0 n 0)) : CtB l G b0 3 325 1760 yX3_init cX3_init 2 [.ref (b0 + j)] n w (fun n' w' => n' = n + 325 ∧ ∀ q, w' q = lpE G b0 j n w q) := by
  refine CtB_of (by decide +kernel) rfl (Nat.le_of_ble_eq_true rfl) ?_
  refine J_aload_n dX3_init_0 rfl ?_
  refine B_objInit dX3_init_1 oi_X3 oi_in oi_code (by decide) (by decide) ?_
  refine J_aload_n dX3_init_4 rfl ?_
  refine B_new (ci := 0) (N := 5) (fs := lvF b0 (n + 1) 0) dX3_init_5 rfl in_X0 tyX0 tyX0_ok cl_X3_7 is_X0 ii_X0 df_X0 (by decide) (by decide) ?_
  refine J_dup dX3_init_8 rfl ?_
  refine B_call (C_X0_init (by omega) upw_at) mi_X0 ml_X3_9 (by decide) (Nat.le_of_ble_eq_true rfl) (by decide) dX3_init_9 ?_
  rintro n1 w1 ⟨rfl, hw1⟩
  refine B_putF (ci := 3) (k := 0) (N := 5) (fun _ _ h => h) dX3_init_12 rfl in_X3 tyX3 tyX3_ok nmX3 fl_X3_10 (by decide) rfl rfl (tyX3_ok 0 (by decide)) rfl rfl (Nat.le_of_ble_eq_true rfl) (by omega) ((hw1 j).trans ((lvW_out (by omega)).trans ((upw_ne (by omega)).trans hw))) ?_
  refine J_aload_n dX3_init_15 rfl ?_
  refine J_bipush (v := nI 6) dX3_init_16 (by decide) ?_
  refine B_newQ (t0 := 2) (C := RX0) dX3_init_18 cl_X3_7 rfl (fun U h => h.2.2.2.2.1.2) (by decide) (by decide) (by decide) ?_
  refine B_putF (ci := 3) (k := 1) (N := 5) (fun _ _ h => h) dX3_init_21 rfl in_X3 tyX3 tyX3_ok nmX3 fl_X3_16 (by decide) rfl rfl (tyX3_ok 1 (by decide)) rfl rfl (Nat.le_of_ble_eq_true rfl) (by omega) ((upw_ne (by omega)).trans upw_at) ?_
  refine B_w (nc' := 47 + 46 * 0) (ns' := 247 + 241 * 0) (n' := n + 47 + 46 * 0) rfl rfl rfl (fun q => (by rw [← svRefs_0 (b0 := b0) (n := n)]; exact lpW_0 hj hw1 rfl q : _ = lpW G b0 j n w 0 q)) ?_
  refine J_iconstN 0 dX3_init_24 rfl ?_
  refine J_istore_n dX3_init_25 (by decide) rfl ?_
  exact L_X3_init hj 6 0 rfl
