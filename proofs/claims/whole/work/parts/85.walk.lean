/-! ===== the law's first rows: the three are made ===== -/
section LNEW
variable {l : Launch} {G : WG} {b0 b L : Nat} {xs : Nat → Int32} {nc ns n : Nat} {w : Nat → va_E} {pc : Nat} {lv : Lv} {st : List Value}
theorem L_P {P P' : Heap → Prop} (h : ∀ H, P H → P' H) (kk : JL l G b0 b L xs nc ns P' pc lv st) : JL l G b0 b L xs nc ns P pc lv st := fun p e s m args below meth c H locs ls C hR hS hl => kk p e s m args below meth c H locs ls C (h H hR) hS hl
theorem L_new {idx ci N : Nat} {C : String} {T : u_T} {fs : List Value} (hdg : decode cL_law pc = .ok (.new idx, 3)) (hcl : vwCl[ci]? = some (C, T, N)) (hin : ∀ w ∈ u_ws C T N, w ∈ UW) (ty : Nat → FieldType) (hty : ∀ k, k < N → parseFieldDescriptor (T k).2.2.1 = some (ty k)) (hk : Cond.classLink RL idx C ∈ UW) (hi : Cond.instantiable C N ∈ UW) (hini : Cond.initialized C ∈ UW) (hfs : ∀ j, j < N → defaultValue (ty j) = vp_V fs j) (hcells : nc + 1 ≤ room_1.cells) (hslots : ns + N ≤ room_1.slots)
    (kk : JL l G b0 b L xs (nc + 1) (ns + N) (HI G b0 (n + 1) (upw w n (.inr (ci, fs)))) (pc + 3) lv (.ref (b0 + n) :: st)) : JL l G b0 b L xs nc ns (HI G b0 n w) pc lv st := by
  intro p e s m args below meth c H locs ls C' hR hS hl
  have hts := C'.2.2.2.2.2.2.1
  have hE := C'.2.2.2.2.2.2.2.1.1
  have hKn := hE.1.1 ci _ hcl
  refine W.newcK C'.1 C'.2.1 C'.2.2.2.2.2.1 (hts _ hk) (hts _ hi) (hts _ hini) rfl hdg hcells hslots hKn.2.1 hR.1 fun H1 kC hkC e1 z1 o1 => ?_
  refine kk p e s m args below meth c H1 locs ls C' (hR.push (by rw [z1, hR.1]) (fun q hq => o1 q (by rw [← hR.1]; exact hq)) ⟨_, hcl, (u_born ty hts hin hKn hkC e1 hty).to hfs⟩) ⟨Nat.le_trans hS.1 (by rw [z1, hR.1]; omega), fun x h1 h2 => (o1 x (by rw [← hR.1]; exact Nat.lt_of_lt_of_le h1 hS.1)).trans (hS.2.1 x h1 h2), hS.2.2⟩ hl
theorem L_newL {N : Nat} (hdg : decode cL_law pc = .ok (.newarray .long, 2)) (hw : Cond.arrayClass .long ∈ UW) (hN : N < 100000) (hcells : nc + 1 ≤ room_1.cells) (hslots : ns + N ≤ room_1.slots)
    (kk : JL l G b0 b L xs (nc + 1) (ns + N) (HI G b0 (n + 1) (upw w n (.inl (G.2.1 3, N, .inr (.inl (fun _ => 0)))))) (pc + 2) lv (.ref (b0 + n) :: st)) : JL l G b0 b L xs nc ns (HI G b0 n w) pc lv (.int (nI N) :: st) := by
  intro p e s m args below meth c H locs ls C' hR hS hl
  have hts := C'.2.2.2.2.2.2.1
  have hE := C'.2.2.2.2.2.2.2.1.1
  refine va_newaK (atype := .long) C'.1 C'.2.1 (hts _ hw) rfl hdg rfl (fun q => (vp_inN (n := N + 1) (Nat.lt_succ_self N) (by omega)) (Or.inl q)) (nI_clamp (by omega)) (by show N * 8 ≤ _; omega) hcells hslots hR.1 fun H1 cA e1 z1 o1 hAr hNm => ?_
  have hc : cA = G.2.1 3 := Option.some.inj (hNm.symm.trans (hE.1.2 3 _ rfl).2)
  subst hc
  exact kk p e s m args below meth c H1 locs ls C' (hR.push (by rw [z1, hR.1]) (fun q hq => o1 q (by rw [← hR.1]; exact hq)) e1) ⟨Nat.le_trans hS.1 (by rw [z1, hR.1]; omega), fun x h1 h2 => (o1 x (by rw [← hR.1]; exact Nat.lt_of_lt_of_le h1 hS.1)).trans (hS.2.1 x h1 h2), hS.2.2⟩ hl
theorem L_init {d' idx maxL mc ms j : Nat} {y : MethodName} {bytes : ByteArray} {Q : Nat → (Nat → va_E) → Prop} (hC : CtB l G b0 d' mc ms y bytes maxL [.ref (b0 + j)] n w Q) (hm : Cond.instanceMethod y ∈ UW ∧ Cond.initialized y.cls ∈ UW ∧ Cond.code y bytes maxL none ∈ UW ∧ y.name = "<init>" ∧ y.cls ≠ "java/lang/invoke/MethodHandle" ∧ y.cls ≠ "java/lang/invoke/VarHandle" ∧ (parseMethodDescriptor y.desc).map (fun d => d.parameters.length) = some 0) (hlink : Cond.methodLink RL idx y ∈ UW) (hd : d' + 1 ≤ room_1.frames ∧ 8 + (maxL + 11) + 34 * d' ≤ room_1.locals) (hW : (st.map fun v => v.category).sum ≤ 8) (hf : nc + mc ≤ room_1.cells ∧ ns + ms ≤ room_1.slots) (hdg : decode cL_law pc = .ok (.invokespecial idx, 3))
    (kk : ∀ n' w', Q n' w' → JL l G b0 b L xs (nc + mc) (ns + ms) (HI G b0 n' w') (pc + 3) lv st) : JL l G b0 b L xs nc ns (HI G b0 n w) pc lv (.ref (b0 + j) :: st) := by
  intro p e s m args below meth c H locs ls C' hR hS hl
  have hts := C'.2.2.2.2.2.2.1
  have hE := C'.2.2.2.2.2.2.2.1.1
  obtain ⟨m1, m2, m3, m4, m5, m6, m7⟩ := hm
  have hr := va_runI (As := []) (rest := st) (g := F0 m pc ls (.ref (b0 + j) :: st)) (cells := nc) (slots := ns) (below := below) (locs := locs) (e := e) (meth := meth) ⟨C'.1, C'.2.1, C'.2.2.1, C'.2.2.2.2.2.1, hts⟩ hC (cwI (R := room_1) 0 hts (UW_in (UW_cons m3)) rfl rfl rfl (hts _ m2) (hts _ hlink) (hts _ m1) m4 ⟨m5, m6, m7⟩ hd) ⟨PcB_blind, fun U hU hW => ⟨rfl, by rw [hU]; exact hR, hE.go hW (by rw [hU]; exact hS)⟩⟩ rfl rfl hl.1 rfl (lv_room hW) hdg hf
  intro T hT X0
  obtain ⟨v, st₀, t, T', Ls, h0, X', hL, e1, e2, ⟨⟨n1, w1, ho, hQ, hHI⟩, hF⟩, stp⟩ := hr T hT X0
  cases ho
  obtain ⟨t2, a1, b1⟩ := kk n1 w1 hQ p e s m args below meth c T'.heap (locs ++ Ls) ls C' (by rw [e1]; exact hHI) (va_S_go hS h0 e1 hF hL) hl T' rfl X'
  exact ⟨t2, stp t2 a1, b1⟩
end LNEW
theorem df_X3 {b0 n : Nat} : ∀ j, j < 5 → defaultValue (tyX3 j) = vp_V (lpF b0 n 0) j := (fun j hj => match j, hj with | 0, _ => rfl | 1, _ => rfl | 2, _ => rfl | 3, _ => rfl | 4, _ => rfl | k + 5, h => absurd h (by omega))
theorem cl_L_8 : Cond.classLink RL 8 RX3 ∈ UW := tb_in 14 (by decide +kernel) rfl
theorem cl_L_89 : Cond.classLink RL 89 RX4 ∈ UW := tb_in 744 (by decide +kernel) rfl
set_option maxHeartbeats 4000000 in
set_option maxRecDepth 100000 in
theorem L_walk {l : Launch} {D : va_G} {dA : Nat → ClassId} {b0 b L : Nat} {xs : Nat → Int32} (hL : L ≤ 2048) (hfl : l.stackTraces = false) : JL l (GA D dA b0) b0 b L xs 0 0 (HI (GA D dA b0) b0 0 (fun _ => zero4 (GA D dA b0))) 0 [(0, .ref b)] [] := by
  have hrc : 600000 ≤ room_1.cells := Nat.le_of_ble_eq_true rfl
  have hrs : 7000000 ≤ room_1.slots := Nat.le_of_ble_eq_true rfl
  refine L_new (ci := 3) (N := 5) (fs := lpF b0 1 0) dL_law_0 rfl in_X3 tyX3 tyX3_ok cl_L_8 is_X3 ii_X3 df_X3 (by omega) (by omega) ?_
  refine J_dup dL_law_3 rfl ?_
  refine L_init (C_X3_init (j := 0) (n := 1) (by decide) upw_at) mi_X3 ml_L_88 ⟨Nat.le_of_ble_eq_true rfl, Nat.le_of_ble_eq_true rfl⟩ (Nat.le_of_ble_eq_true rfl) ⟨by omega, by omega⟩ dL_law_4 ?_
  intro n1 w1 hq1
  obtain ⟨hn1, hw1⟩ := hq1
  have hn1' : n1 = 326 := hn1
  subst hn1'
  refine J_astore_n dL_law_7 (by decide) rfl ?_
  refine L_new (ci := 4) (N := 12) (fs := moF b0 327 0) dL_law_8 rfl in_X4 tyX4 tyX4_ok cl_L_89 is_X4 ii_X4 df_X4 (by omega) (by omega) ?_
  refine J_dup dL_law_11 rfl ?_
  refine L_init (C_X4_init (j := 326) (n := 327) (by decide) upw_at) mi_X4 ml_L_91 ⟨Nat.le_of_ble_eq_true rfl, Nat.le_of_ble_eq_true rfl⟩ (Nat.le_of_ble_eq_true rfl) ⟨by omega, by omega⟩ dL_law_12 ?_
  intro n2 w2 hq2
  obtain ⟨hn2, hw2⟩ := hq2
  have hn2' : n2 = 332 := hn2
  subst hn2'
  refine J_astore_n dL_law_15 (by decide) rfl ?_
  refine J_iconstN 1 dL_law_16 rfl ?_
  refine L_newL (N := 1) dL_law_17 ac_long (by decide) (by omega) (by omega) ?_
  refine J_astore_n dL_law_19 (by decide) rfl ?_
  refine J_iconstN 0 dL_law_20 rfl ?_
  refine J_istore dL_law_21 (by decide) rfl ?_
  refine L_P (P' := Rep (GA D dA b0) muA) (fun H hH => repA hH (w1 := upw (fun _ => zero4 (GA D dA b0)) 0 (.inr (3, lpF b0 1 0))) (w3 := upw w1 326 (.inr (4, moF b0 327 0))) (fun q hq => ?_) (fun q h1 h2 => ?_) upw_at) ?_
  · rw [upw_ne (by omega), hw2]
    unfold moE
    rw [if_neg (by omega)]
    unfold moW
    rw [if_neg (by omega), if_neg (by omega), upw_ne (by omega)]
    exact hw1 q
  · rw [upw_ne (by omega)]
    exact hw2 q
  · refine J_lv (lv' := lvC (GA D dA b0) b 0) [0, 1, 2, 3, 4] rfl ?_
    exact L_loop hL GA_AG (law_all hfl) L 0 _ _ muA (by omega) (Nat.zero_le L) (by omega) (by omega) inv_N
