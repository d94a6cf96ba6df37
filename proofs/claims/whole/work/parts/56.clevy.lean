theorem mi_X2 : Cond.instanceMethod yX2_init ∈ UW ∧ Cond.initialized yX2_init.cls ∈ UW ∧ Cond.code yX2_init cX2_init 1 none ∈ UW ∧ yX2_init.name = "<init>" ∧ yX2_init.cls ≠ "java/lang/invoke/MethodHandle" ∧ yX2_init.cls ≠ "java/lang/invoke/VarHandle" ∧ (parseMethodDescriptor yX2_init.desc).map (fun d => d.parameters.length) = some 0 := ⟨tb_in 43 (by decide +kernel) rfl, tb_in 3 (by decide +kernel) rfl, tb_in 44 (by decide +kernel) rfl, rfl, by decide, by decide, by decide +kernel⟩
theorem cl_X0_36 : Cond.classLink RX0 36 RX2 ∈ UW := tb_in 39 (by decide +kernel) rfl
theorem cl_X0_23 : Cond.classLink RX0 23 "[I" ∈ UW := tb_in 36 (by decide +kernel) rfl
theorem is_X2 : Cond.instantiable RX2 13 ∈ UW := tb_in 41 (by decide +kernel) rfl
theorem ii_X2 : Cond.initialized RX2 ∈ UW := tb_in 3 (by decide +kernel) rfl
theorem cn_1 : Cond.methodLink RX0 22 ⟨"[I", "clone", "()Ljava/lang/Object;"⟩ ∈ UW := tb_in 30 (by decide +kernel) rfl
theorem cn_2 : Cond.sameMethod "[I" "java/lang/Object" "clone" "()Ljava/lang/Object;" ∈ UW := tb_in 31 (by decide +kernel) rfl
theorem cn_3 : Cond.native ⟨"java/lang/Object", "clone", "()Ljava/lang/Object;"⟩ ∈ UW := tb_in 32 (by decide +kernel) rfl
theorem cn_4 : Cond.instanceMethod ⟨"java/lang/Object", "clone", "()Ljava/lang/Object;"⟩ ∈ UW := tb_in 33 (by decide +kernel) rfl
theorem cn_5 : Cond.selects "[I" ⟨"[I", "clone", "()Ljava/lang/Object;"⟩ ⟨"java/lang/Object", "clone", "()Ljava/lang/Object;"⟩ ∈ UW := tb_in 34 (by decide +kernel) rfl
def lvV (b0 n k i : Nat) : Value := cond (decide (i < k)) (.ref (b0 + (n + i))) .null
def lvF (b0 n k : Nat) : List Value := [.int 0, .int 0, lvV b0 n k 0, lvV b0 n k 1, lvV b0 n k 2]
def lvRefs (b0 n p : Nat) : Nat → Option Nat := fun i => if i < p then some (b0 + (n + 3 + 7 * i)) else none
theorem lvRefs_0 {b0 n : Nat} : lvRefs b0 n 0 = fun _ => none := funext fun i => if_neg (Nat.not_lt_zero i)
theorem lvRefs_s {b0 n p : Nat} : va_up (lvRefs b0 n p) p (some (b0 + (n + 3 + 7 * p))) = lvRefs b0 n (p + 1) := by
  funext i
  unfold va_up lvRefs
  by_cases e : i = p
  · subst e
    rw [if_pos rfl, if_pos (Nat.lt_succ_self i)]
  · rw [if_neg e]
    by_cases h : i < p
    · rw [if_pos h, if_pos (by omega)]
    · rw [if_neg h, if_neg (by omega)]
def ratA (G : WG) : va_E := .inl (G.2.1 0, 4, .inl firR)
def setA (G : WG) : va_E := .inl (G.2.1 0, 4, .inl firS)
def lvQ (G : WG) (b0 n p : Nat) : va_E := .inl (G.2.1 1, 6, .inr (.inr (.inr (.inr (lvRefs b0 n p)))))
def lvW (G : WG) (b0 j n : Nat) (w : Nat → va_E) (p : Nat) : Nat → va_E := fun q => if q = j then .inr (0, lvF b0 n 3) else if q = n then ratA G else if q = n + 1 then setA G else if q = n + 2 then lvQ G b0 n p else if n + 3 ≤ q ∧ q < n + 3 + 7 * p then (if (q - (n + 3)) % 7 = 0 then .inr (2, phO b0 (q + 1)) else zero4 G) else w q
theorem lvW_j {G : WG} {b0 j n p : Nat} {w : Nat → va_E} : lvW G b0 j n w p j = .inr (0, lvF b0 n 3) := if_pos rfl
theorem lvW_q {G : WG} {b0 j n p : Nat} {w : Nat → va_E} (hj : j < n) : lvW G b0 j n w p (n + 2) = lvQ G b0 n p := by
  unfold lvW
  rw [if_neg (by omega), if_neg (by omega), if_neg (by omega), if_pos rfl]
theorem lvW_0 {G : WG} {b0 j n : Nat} {w : Nat → va_E} {f1 f2 f3 : List Value} (hj : j < n) (h3 : f3 = lvF b0 n 3) (q : Nat) : upw (upw (upw (upw (upw (upw w n (ratA G)) j (.inr (0, f1))) (n + 1) (setA G)) j (.inr (0, f2))) (n + 2) (lvQ G b0 n 0)) j (.inr (0, f3)) q = lvW G b0 j n w 0 q := by
  subst h3
  by_cases e : q = j
  · subst e; rw [upw_at, lvW_j]
  · rw [upw_ne e]
    unfold lvW
    rw [if_neg e]
    by_cases e2 : q = n + 2
    · subst e2; rw [upw_at, if_neg (by omega), if_neg (by omega), if_pos rfl]
    · rw [upw_ne e2, upw_ne e]
      by_cases e1 : q = n + 1
      · subst e1; rw [upw_at, if_neg (by omega), if_pos rfl]
      · rw [upw_ne e1, upw_ne e]
        by_cases e0 : q = n
        · subst e0; rw [upw_at, if_pos rfl]
        · rw [upw_ne e0, if_neg e0, if_neg e1, if_neg e2, if_neg (by omega)]
theorem lvW_s {G : WG} {b0 j n p : Nat} {w w1 : Nat → va_E} {f : List Value} (hj : j < n) (h1 : ∀ q, w1 q = phE G b0 (n + 3 + 7 * p) (n + 3 + 7 * p + 1) (upw (lvW G b0 j n w p) (n + 3 + 7 * p) (.inr (2, f))) q) (q : Nat) : upw w1 (n + 2) (lvQ G b0 n (p + 1)) q = lvW G b0 j n w (p + 1) q := by
  by_cases e2 : q = n + 2
  · subst e2; rw [upw_at, lvW_q hj]
  · rw [upw_ne e2, h1]
    unfold phE
    by_cases e3 : q = n + 3 + 7 * p
    · subst e3
      rw [if_pos rfl]
      unfold lvW
      rw [if_neg (by omega), if_neg (by omega), if_neg (by omega), if_neg (by omega), if_pos (by omega), if_pos (by omega)]
    · rw [if_neg e3]
      by_cases e4 : n + 3 + 7 * p + 1 ≤ q ∧ q < n + 3 + 7 * p + 1 + 6
      · rw [if_pos e4]
        unfold lvW
        rw [if_neg (by omega), if_neg (by omega), if_neg (by omega), if_neg (by omega), if_pos (by omega), if_neg (by omega)]
      · rw [if_neg e4, upw_ne e3]
        unfold lvW
        by_cases a1 : q = j
        · rw [if_pos a1, if_pos a1]
        · rw [if_neg a1, if_neg a1]
          by_cases a2 : q = n
          · rw [if_pos a2, if_pos a2]
          · rw [if_neg a2, if_neg a2]
            by_cases a3 : q = n + 1
            · rw [if_pos a3, if_pos a3]
            · rw [if_neg a3, if_neg a3, if_neg e2, if_neg e2]
              by_cases a4 : n + 3 ≤ q ∧ q < n + 3 + 7 * p
              · rw [if_pos a4]
                rw [if_pos (show n + 3 ≤ q ∧ q < n + 3 + 7 * (p + 1) by omega)]
              · rw [if_neg a4, if_neg (by omega)]
theorem df_X2 {b0 n : Nat} : ∀ j, j < 13 → defaultValue (tyX2 j) = vp_V (phF b0 n 0) j := (fun j hj => match j, hj with | 0, _ => rfl | 1, _ => rfl | 2, _ => rfl | 3, _ => rfl | 4, _ => rfl | 5, _ => rfl | 6, _ => rfl | 7, _ => rfl | 8, _ => rfl | 9, _ => rfl | 10, _ => rfl | 11, _ => rfl | 12, _ => rfl | k + 13, h => absurd h (by omega))
set_option maxHeartbeats 4000000 in
set_option maxRecDepth 100000 in
theorem L_X0_init {l : Launch} {G : WG} {b0 j n : Nat} {w : Nat → va_E} (hj : j < n) : ∀ k p, p + k = 6 → JB l G b0 (rmB 2 45 236) yX0_init.cls cX0_init 2 none XB (ZB G b0 45 236 (fun n' w' => n' = n + 45 ∧ ∀ q, w' q = lvW G b0 j n w 6 q)) (3 + 7 * p) (14 + 37 * p) (n + 3 + 7 * p) (lvW G b0 j n w p) 51 [(0, .ref (b0 + j)), (1, .int (nI p))] [] := by
  intro k
  induction k with
  | zero =>
    intro p hp
    have e : p = 6 := by omega
    subst e
    refine J_iload_n dX0_init_51 rfl ?_
    refine J_bipush (v := nI 6) dX0_init_52 (by decide) ?_
    refine J_icmpN_ge (by omega) (by omega) (tgt := 76) dX0_init_54 (by decide) (fun _ => ?_) (fun c => absurd c (by omega))
    exact B_vret dX0_init_76 (Nat.le_refl _) (Nat.le_refl _) ⟨by omega, fun q => rfl⟩
  | succ k ih =>
    intro p hp
    refine J_iload_n dX0_init_51 rfl ?_
    refine J_bipush (v := nI 6) dX0_init_52 (by decide) ?_
    refine J_icmpN_ge (by omega) (by omega) (tgt := 76) dX0_init_54 (by decide) (fun c => absurd c (by omega)) (fun _ => ?_)
    refine J_aload_n dX0_init_57 rfl ?_
    refine B_get (ci := 0) (k := 4) (N := 5) dX0_init_58 rfl in_X0 fl_X0_38 (by decide) (by omega) lvW_j rfl ?_
    refine J_iload_n dX0_init_61 rfl ?_
    refine B_new (ci := 2) (N := 13) (fs := phF b0 (n + 3 + 7 * p + 1) 0) dX0_init_62 rfl in_X2 tyX2 tyX2_ok cl_X0_36 is_X2 ii_X2 df_X2 (by show 3 + 7 * p + 1 ≤ 45; omega) (by show 14 + 37 * p + 13 ≤ 236; omega) ?_
    refine J_dup dX0_init_65 rfl ?_
    refine B_call (C_X2_init (by omega) upw_at) mi_X2 ml_X0_42 (by decide) (Nat.le_of_ble_eq_true rfl) ⟨by show 3 + 7 * p + 1 + 6 ≤ 45; omega, by show 14 + 37 * p + 13 + 24 ≤ 236; omega⟩ dX0_init_66 ?_
    rintro n1 w1 ⟨rfl, hw1⟩
    have hq : w1 (n + 2) = lvQ G b0 n p := by
      rw [hw1]
      unfold phE
      rw [if_neg (by omega), if_neg (by omega), upw_ne (by omega), lvW_q hj]
    have ho : w1 (n + 3 + 7 * p) = .inr (2, phO b0 (n + 3 + 7 * p + 1)) := by
      rw [hw1]
      exact if_pos rfl
    refine B_astq (t0 := 1) (ci := 2) dX0_init_69 (by omega) hq rfl (by omega) ho rfl (by decide) (by omega) ?_
    refine B_w (nc' := 3 + 7 * (p + 1)) (ns' := 14 + 37 * (p + 1)) (n' := n + 3 + 7 * (p + 1)) (by omega) (by omega) (by omega) (fun q => (by rw [lvRefs_s]; exact lvW_s hj hw1 q : _ = lvW G b0 j n w (p + 1) q)) ?_
    refine J_iincN (b := 1) dX0_init_70 rfl rfl (by decide) rfl ?_
    refine J_goto (tgt := 51) dX0_init_73 (by decide) ?_
    exact ih (p + 1) (by omega)
set_option maxHeartbeats 4000000 in
set_option maxRecDepth 100000 in
theorem C_X0_init {l : Launch} {G : WG} {b0 j n : Nat} {w : Nat → va_E} (hj : j < n) (hw : w j = .inr (0, lvF b0 n 0)) : CtB l G b0 2 45 236 yX0_init cX0_init 2 [.ref (b0 + j)] n w (fun n' w' => n' = n + 45 ∧ ∀ q, w' q = lvW G b0 j n w 6 q) := by
  have hw2 : ∀ q, upw w j (.inr (0, lvF b0 n 0)) q = w q := fun q => by
    by_cases e : q = j
    · subst e; rw [upw_at, hw]
    · exact upw_ne e
  refine CtB_of (by decide +kernel) rfl (Nat.le_of_ble_eq_true rfl) ?_
  refine J_aload_n dX0_init_0 rfl ?_
  refine B_objInit dX0_init_1 oi_X0 oi_in oi_code (by decide) (by decide) ?_
  refine J_aload_n dX0_init_4 rfl ?_
  refine J_iconstN 0 dX0_init_5 rfl ?_
  refine B_put (ci := 0) (k := 0) (N := 5) dX0_init_6 rfl in_X0 tyX0 tyX0_ok nmX0 fl_X0_9 (by decide) rfl (tyX0_ok 0 (by decide)) rfl rfl (Nat.le_of_ble_eq_true rfl) hj hw ?_
  refine B_w rfl rfl rfl hw2 ?_
  refine J_aload_n dX0_init_9 rfl ?_
  refine J_iconstN 0 dX0_init_10 rfl ?_
  refine B_put (ci := 0) (k := 1) (N := 5) dX0_init_11 rfl in_X0 tyX0 tyX0_ok nmX0 fl_X0_15 (by decide) rfl (tyX0_ok 1 (by decide)) rfl rfl (Nat.le_of_ble_eq_true rfl) hj hw ?_
  refine B_w rfl rfl rfl hw2 ?_
  refine J_aload_n dX0_init_14 rfl ?_
  refine B_sclone (nm := "FIRST_RATES") dX0_init_15 dX0_init_18 (by simp [nwF]) rfl (fun U h => h.2.2.2.2.2.1) cn_1 cn_2 cn_3 cn_4 cn_5 (by decide) (Nat.le_of_ble_eq_true rfl) (by decide) (by decide) ?_
  refine B_castA dX0_init_21 cl_X0_23 (by omega) upw_at ?_
  refine B_putF (ci := 0) (k := 2) (N := 5) (fun _ _ h => h) dX0_init_24 rfl in_X0 tyX0 tyX0_ok nmX0 fl_X0_27 (by decide) rfl rfl (tyX0_ok 2 (by decide)) rfl rfl (Nat.le_of_ble_eq_true rfl) (by omega) ((upw_ne (by omega)).trans hw) ?_
  refine J_aload_n dX0_init_27 rfl ?_
  refine B_sclone (nm := "FIRST_SETTINGS") dX0_init_28 dX0_init_31 (by simp [nwF]) rfl (fun U h => h.2.2.2.2.2.2) cn_1 cn_2 cn_3 cn_4 cn_5 (by decide) (Nat.le_of_ble_eq_true rfl) (by decide) (by decide) ?_
  refine B_castA dX0_init_34 cl_X0_23 (by omega) upw_at ?_
  refine B_putF (ci := 0) (k := 3) (N := 5) (fun _ _ h => h) dX0_init_37 rfl in_X0 tyX0 tyX0_ok nmX0 fl_X0_33 (by decide) rfl rfl (tyX0_ok 3 (by decide)) rfl rfl (Nat.le_of_ble_eq_true rfl) (by omega) ((upw_ne (by omega)).trans upw_at) ?_
  refine J_aload_n dX0_init_40 rfl ?_
  refine J_bipush (v := nI 6) dX0_init_41 (by decide) ?_
  refine B_newQ (t0 := 1) (C := RX2) dX0_init_43 cl_X0_36 rfl (fun U h => h.2.2.2.2.1.1) (by decide) (by decide) (by decide) ?_
  refine B_putF (ci := 0) (k := 4) (N := 5) (fun _ _ h => h) dX0_init_46 rfl in_X0 tyX0 tyX0_ok nmX0 fl_X0_38 (by decide) rfl rfl (tyX0_ok 4 (by decide)) rfl rfl (Nat.le_of_ble_eq_true rfl) (by omega) ((upw_ne (by omega)).trans upw_at) ?_
  refine B_w (nc' := 3 + 7 * 0) (ns' := 14 + 37 * 0) (n' := n + 3 + 7 * 0) rfl rfl rfl (fun q => (by rw [← lvRefs_0 (b0 := b0) (n := n)]; exact lvW_0 hj rfl q : _ = lvW G b0 j n w 0 q)) ?_
  refine J_iconstN 0 dX0_init_49 rfl ?_
  refine J_istore_n dX0_init_50 (by decide) rfl ?_
  exact L_X0_init hj 6 0 rfl
