/-! ===== what the Statement gives of the start ===== -/
theorem tbw {w : Cond} (i : Nat) (h : tables_1[i]? = some w) : w ∈ lw_tbl := List.mem_append_right _ (List.mem_of_getElem? h)
theorem UW_tbl {w : Cond} (h : w ∈ UW) : w ∈ lw_tbl := (List.mem_filter.mp h).1
theorem len_small {args : Array Value} {s : State} {tm : Term} {v : Value} {t : Nat} {cell : Cell} (h : (Term.length tm).eval args s none [] s = some v) (ht : tm.eval args s none [] s = some (.ref t)) (hat : s.arrayAt? t = some cell) : cell.slots.size < 2147483648 := by
  simp only [Term.eval, ht, hat, Option.bind_eq_bind, Option.bind_some] at h
  by_cases hlt : cell.slots.size < 2147483648
  · exact hlt
  · simp [hlt] at h
theorem sf_of {G : WG} {b0 : Nat} {s : State} {args : Array Value} {nm : String} {f : Nat → Int32} (hb : s.heap.size = b0) (hI : s.vm.findClass "[I" = some (G.2.1 0)) (hl : (Cond.laysStatic "LevyPhases" nm "[I").before args s = true) (hini : (Cond.initialized "LevyPhases").before args s = true) (harr : (Cond.arrayOf (.static "LevyPhases" nm "[I") .int).before args s = true) (hlen : (Cond.eq (.length (.static "LevyPhases" nm "[I")) (.int (Int32.ofNat 4))).before args s = true) (hel : ∀ j : Nat, j < 4 → (Cond.eq (.elem (.static "LevyPhases" nm "[I") (.int (Int32.ofNat j))) (.int (f j))).before args s = true) (hex : (Cond.exactly (.static "LevyPhases" nm "[I") "[I").before args s = true) : SFx G b0 nm f s := by
  have hfree : ∀ a : Nat, a < s.heap.size → ¬ AB b0 a := fun a ha q => by
    have q2 : b0 ≤ a := q
    omega
  have hlen' := va_eqt hlen
  obtain ⟨t, ht, cell, hcell, hof, hkn, hle, -, hsl, hA⟩ := va_Tof (N := 4) (f := fun j => .int (f j)) (A := AB b0) (by decide) harr hlen' (fun j hj => va_eqt (hel j hj)) hfree
  obtain ⟨t2, cell2, ht2, hat, hv⟩ := Term.length_spec hlen'
  cases ht.symm.trans ht2
  obtain ⟨hcell2, -, hst, -⟩ := State.arrayAt?_spec hat
  cases hcell.symm.trans hcell2
  have hsz : cell.slots.size < 2147483648 := len_small hlen' ht hat
  have h4 : cell.slots.size = 4 := by
    have e2 := congrArg Int32.toInt (Value.int.inj hv)
    rw [show cell.slots.size.toInt32.toInt = (cell.slots.size : Int) from Int32.toInt_ofNat_small (by omega), show (Int32.ofNat 4).toInt = 4 by decide] at e2
    omega
  obtain ⟨a3, cA, arr, kA, ha, hA3, hcell3, hkA, hstat, hcls, -⟩ := Cond.exactly_spec hex
  cases ht.symm.trans ha
  cases hcell.symm.trans hcell3
  cases hI.symm.trans hA3
  refine ⟨t, cell, va_Zof hl hini ht hfree, hcell, fun k hk => (by rw [hk] at hst; cases hst), hkn, hcls, ?_, hA⟩
  rw [vp_cell_i]
  apply Array.ext_getElem?
  intro j
  rcases Nat.lt_or_ge j 4 with q | q
  · rw [hsl j q, arrV_read _ _ q]
  · rw [Array.getElem?_eq_none (by omega), Array.getElem?_eq_none (by rw [arrV_size]; omega)]
theorem tt_of {A : Nat → Prop} {s : State} {args : Array Value} {nm : String} {f : Nat → Int32} (hA : ∀ a : Nat, a < s.heap.size → ¬ A a) (hl : (Cond.laysStatic "LevyPhases" nm "[I").before args s = true) (hini : (Cond.initialized "LevyPhases").before args s = true) (harr : (Cond.arrayOf (.static "LevyPhases" nm "[I") .int).before args s = true) (hlen : (Cond.eq (.length (.static "LevyPhases" nm "[I")) (.int (Int32.ofNat 4))).before args s = true) (hel : ∀ j : Nat, j < 4 → (Cond.eq (.elem (.static "LevyPhases" nm "[I") (.int (Int32.ofNat j))) (.int (f j))).before args s = true) : ∃ a : Nat, va_Z "LevyPhases" nm "[I" (.ref a) A s s.heap ∧ va_T .int a 4 (fun j => .int (f j)) A s s.heap := by
  obtain ⟨t, ht, hT⟩ := va_Tof (N := 4) (f := fun j => .int (f j)) (A := A) (by decide) harr (va_eqt hlen) (fun j hj => va_eqt (hel j hj)) hA
  exact ⟨t, va_Zof hl hini ht hA, hT⟩
theorem ao_of {C : String} {s : State} {args : Array Value} (h : (Cond.arrayOver (.object C)).before args s = true) : ∃ c : ClassId, ArrOfT s c (.object C) ∧ va_RA s c (.object C) := by
  obtain ⟨comp, c, k, g1, g2, g3, g4, g5⟩ := Cond.arrayOver_spec h
  exact ⟨c, fun n z => ⟨fun k h => (by cases h), k, g3, comp, g4⟩, k, comp, g3, g4, g1, g5⟩
set_option maxHeartbeats 4000000 in
theorem ev_N {s : State} {b : Nat} (hts : ∀ w ∈ lw_tbl, w.before #[Value.ref b] s = true) (hN : ∀ (i : Nat) {w : Cond}, (flatC (Jvm.Cond.and given_1 narrow_1))[i]? = some w → w.before #[Value.ref b] s = true) : EvN s := by
  refine ⟨fun q hq => ?_, fun q hq => ?_, fun q hq => ?_, fun q hq => ?_, fun q hq => ?_⟩
  · simp only [nwM, List.mem_cons, List.not_mem_nil, or_false] at hq
    rcases hq with rfl | rfl | rfl | rfl
    · exact va_Nw.of rfl (hts _ (tbw 411 (by decide +kernel)))
    · exact va_Nw.of rfl (hts _ (tbw 476 (by decide +kernel)))
    · exact va_Nw.of rfl (hts _ (tbw 602 (by decide +kernel)))
    · exact va_Nw.of rfl (hts _ (tbw 603 (by decide +kernel)))
  · simp only [nwD, List.mem_cons, List.not_mem_nil, or_false] at hq
    rcases hq with rfl | rfl | rfl | rfl | rfl | rfl
    · exact va_Nw.of rfl (hts _ (tbw 298 (by decide +kernel)))
    · exact va_Nw.of rfl (hts _ (tbw 299 (by decide +kernel)))
    · exact va_Nw.of rfl (hts _ (tbw 300 (by decide +kernel)))
    · exact va_Nw.of rfl (hts _ (tbw 301 (by decide +kernel)))
    · exact va_Nw.of rfl (hts _ (tbw 302 (by decide +kernel)))
    · exact va_Nw.of rfl (hts _ (tbw 303 (by decide +kernel)))
  · simp only [nwC, List.mem_cons, List.not_mem_nil, or_false] at hq
    rcases hq with rfl | rfl | rfl
    · exact va_Nw.of rfl (hts _ (tbw 297 (by decide +kernel)))
    · exact va_Nw.of rfl (hts _ (tbw 381 (by decide +kernel)))
    · exact va_Nw.of rfl (hts _ (tbw 499 (by decide +kernel)))
  · simp only [nwS, List.mem_cons, List.not_mem_nil, or_false] at hq
    rcases hq with rfl | rfl | rfl | rfl | rfl | rfl | rfl | rfl | rfl | rfl
    · obtain ⟨a, -, -, -, ha, -⟩ := Cond.exactly_spec (t := .string "LevyPhases" 328) (cls := "java/lang/String") (hN 55 (by decide +kernel))
      exact ⟨a, vk_R.of (hts _ (tbw 336 (by decide +kernel))) ha⟩
    · obtain ⟨a, -, -, -, ha, -⟩ := Cond.exactly_spec (t := .string "LevyPhases" 319) (cls := "java/lang/String") (hN 71 (by decide +kernel))
      exact ⟨a, vk_R.of (hts _ (tbw 388 (by decide +kernel))) ha⟩
    · obtain ⟨a, -, -, -, ha, -⟩ := Cond.exactly_spec (t := .string "LevyPhases" 324) (cls := "java/lang/String") (hN 89 (by decide +kernel))
      exact ⟨a, vk_R.of (hts _ (tbw 424 (by decide +kernel))) ha⟩
    · obtain ⟨a, -, -, -, ha, -⟩ := Cond.exactly_spec (t := .string "LevyPhases" 39) (cls := "java/lang/String") (hN 106 (by decide +kernel))
      exact ⟨a, vk_R.of (hts _ (tbw 506 (by decide +kernel))) ha⟩
    · obtain ⟨a, -, -, -, ha, -⟩ := Cond.exactly_spec (t := .string "LevyPhases" 322) (cls := "java/lang/String") (hN 131 (by decide +kernel))
      exact ⟨a, vk_R.of (hts _ (tbw 542 (by decide +kernel))) ha⟩
    · obtain ⟨a, -, -, -, ha, -⟩ := Cond.exactly_spec (t := .string "LevyPhases" 326) (cls := "java/lang/String") (hN 167 (by decide +kernel))
      exact ⟨a, vk_R.of (hts _ (tbw 582 (by decide +kernel))) ha⟩
    · obtain ⟨a, -, -, -, ha, -⟩ := Cond.exactly_spec (t := .string "LevyPhases" 115) (cls := "java/lang/String") (hN 191 (by decide +kernel))
      exact ⟨a, vk_R.of (hts _ (tbw 655 (by decide +kernel))) ha⟩
    · obtain ⟨a, -, -, -, ha, -⟩ := Cond.exactly_spec (t := .string "LevyPhases" 123) (cls := "java/lang/String") (hN 242 (by decide +kernel))
      exact ⟨a, vk_R.of (hts _ (tbw 668 (by decide +kernel))) ha⟩
    · obtain ⟨a, -, -, -, ha, -⟩ := Cond.exactly_spec (t := .string "LevyPhases" 137) (cls := "java/lang/String") (hN 281 (by decide +kernel))
      exact ⟨a, vk_R.of (hts _ (tbw 680 (by decide +kernel))) ha⟩
    · obtain ⟨a, -, -, -, ha, -⟩ := Cond.exactly_spec (t := .string "LevyPhases" 149) (cls := "java/lang/String") (hN 335 (by decide +kernel))
      exact ⟨a, vk_R.of (hts _ (tbw 700 (by decide +kernel))) ha⟩
  · simp only [nwNC, List.mem_cons, List.not_mem_nil, or_false] at hq
    rcases hq with rfl | rfl | rfl
    · exact va_Nc.of (hN 47 (by decide +kernel))
    · exact va_Nc.of (hN 46 (by decide +kernel))
    · exact va_Nc.of (hN 53 (by decide +kernel))
set_option maxHeartbeats 4000000 in
theorem ev_start {s : State} {b L : Nat} {xs : Nat → Int32} (hts : ∀ w ∈ lw_tbl, w.before #[Value.ref b] s = true) (hN : ∀ (i : Nat) {w : Cond}, (flatC (Jvm.Cond.and given_1 narrow_1))[i]? = some w → w.before #[Value.ref b] s = true) (hX : va_X b L xs s s.heap) (hbl : b < s.heap.size) : ∃ (D : va_G) (dA : Nat → ClassId), EvL (GA D dA s.heap.size) s.heap.size b L xs s := by
  have hUW : ∀ w ∈ UW, w.before #[Value.ref b] s = true := fun w hw => hts w (UW_tbl hw)
  obtain ⟨c0, i0, k0⟩ := u_known (C := RX0) (T := TX0) (N := 5) (n := 5) hUW in_X0 (hUW _ is_X0)
  obtain ⟨c1, i1, k1⟩ := u_known (C := RX1) (T := TX1) (N := 7) (n := 7) hUW in_X1 (hUW _ is_X1)
  obtain ⟨c2, i2, k2⟩ := u_known (C := RX2) (T := TX2) (N := 13) (n := 13) hUW in_X2 (hUW _ is_X2)
  obtain ⟨c3, i3, k3⟩ := u_known (C := RX3) (T := TX3) (N := 5) (n := 5) hUW in_X3 (hUW _ is_X3)
  obtain ⟨c4, i4, k4⟩ := u_known (C := RX4) (T := TX4) (N := 12) (n := 12) hUW in_X4 (hUW _ is_X4)
  obtain ⟨cI, kI, compI, f1, f2, f3⟩ := Cond.arrayClass_spec (hUW _ ac_int)
  obtain ⟨cJ, kJ, compJ, g1, g2, g3⟩ := Cond.arrayClass_spec (hUW _ ac_long)
  have hoP : (Cond.arrayOver (.object "LevyPhases$Phase")).before #[Value.ref b] s = true := (hts _ (tbw 40 (by decide +kernel)))
  have hoL : (Cond.arrayOver (.object "LevyPhases$Levy")).before #[Value.ref b] s = true := (hts _ (tbw 125 (by decide +kernel)))
  obtain ⟨cP, p1, p2⟩ := ao_of (C := "LevyPhases$Phase") hoP
  obtain ⟨cL, l1, l2⟩ := ao_of (C := "LevyPhases$Levy") hoL
  have hD : ∃ D : va_G, ∀ (c : Nat) (q : vw_C), vwCl[c]? = some q → u_Kn s q.1 q.2.1 q.2.2 (D.1 c) (D.2 c) := by
    refine ⟨(fun k => match k with | 0 => c0 | 1 => c1 | 2 => c2 | 3 => c3 | _ => c4, fun k => match k with | 0 => i0 | 1 => i1 | 2 => i2 | 3 => i3 | _ => i4), fun c q hq => ?_⟩
    match c, hq with
    | 0, hq => cases hq; exact k0
    | 1, hq => cases hq; exact k1
    | 2, hq => cases hq; exact k2
    | 3, hq => cases hq; exact k3
    | 4, hq => cases hq; exact k4
    | c + 5, hq => simp [vwCl] at hq
  obtain ⟨D, hD⟩ := hD
  have hdA : ∃ dA : Nat → ClassId, dA 0 = cI ∧ dA 1 = cP ∧ dA 2 = cL ∧ dA 3 = cJ := ⟨fun k => match k with | 0 => cI | 1 => cP | 2 => cL | _ => cJ, rfl, rfl, rfl, rfl⟩
  obtain ⟨dA, rfl, rfl, rfl, rfl⟩ := hdA
  have rI : va_RA s (dA 0) .int := f1
  have hI : s.vm.findClass "[I" = some (dA 0) := va_nm_int rI
  have hK : va_K D vwCl (tysG (GA D dA s.heap.size)) s := by
    refine ⟨hD, fun k q hq => ?_⟩
    match k, hq with
    | 0, hq => cases hq; exact ⟨fun n z => ⟨fun k h => (by cases h), kI, f2, compI, f3⟩, f1⟩
    | 1, hq => cases hq; exact ⟨p1, p2⟩
    | 2, hq => cases hq; exact ⟨l1, l2⟩
    | 3, hq => cases hq; exact ⟨fun n z => ⟨fun k h => (by cases h), kJ, g2, compJ, g3⟩, g1⟩
    | k + 4, hq => simp [tysG] at hq
  have hfree : ∀ a : Nat, a < s.heap.size → ¬ AG (GA D dA s.heap.size) a := fun a ha q => by
    have q2 : s.heap.size ≤ a := GA_AG a q
    omega
  obtain ⟨tl, tl1, tl2⟩ := tt_of (nm := "LEAST_SETTINGS") (f := leastT) hfree (hts _ (tbw 584 (by decide +kernel))) (hts _ (tbw 1 (by decide +kernel))) (hN 21 (by decide +kernel)) (hN 22 (by decide +kernel)) (fun j hj => match j, hj with
      | 0, _ => (hN 23 (by decide +kernel))
      | 1, _ => (hN 24 (by decide +kernel))
      | 2, _ => (hN 25 (by decide +kernel))
      | 3, _ => (hN 26 (by decide +kernel))
      | k + 4, h => absurd h (by omega))
  obtain ⟨tm, tm1, tm2⟩ := tt_of (nm := "MOST_SETTINGS") (f := mostT) hfree (hts _ (tbw 586 (by decide +kernel))) (hts _ (tbw 1 (by decide +kernel))) (hN 28 (by decide +kernel)) (hN 29 (by decide +kernel)) (fun j hj => match j, hj with
      | 0, _ => (hN 30 (by decide +kernel))
      | 1, _ => (hN 31 (by decide +kernel))
      | 2, _ => (hN 32 (by decide +kernel))
      | 3, _ => (hN 33 (by decide +kernel))
      | k + 4, h => absurd h (by omega))
  refine ⟨D, dA, ⟨hK, Nat.le_refl _, va_Nw.of rfl (hts _ (tbw 35 (by decide +kernel))), fun q hq => ?_, ⟨va_AO.of hoP, va_AO.of hoL⟩, ?_, ?_⟩, ⟨hK, ev_N hts hN, ⟨tl, tm, tl1, tl2, tm1, tm2⟩, ?_, ?_⟩, rfl, hX, hbl, hts⟩
  · simp only [nwF, List.mem_cons, List.not_mem_nil, or_false] at hq
    rcases hq with rfl | rfl
    · exact va_Nw.of rfl (hts _ (tbw 28 (by decide +kernel)))
    · exact va_Nw.of rfl (hts _ (tbw 37 (by decide +kernel)))
  · exact sf_of (nm := "FIRST_RATES") (f := firR) rfl hI (hts _ (tbw 29 (by decide +kernel))) (hts _ (tbw 1 (by decide +kernel))) (hN 5 (by decide +kernel)) (hN 6 (by decide +kernel)) (fun j hj => match j, hj with
      | 0, _ => (hN 7 (by decide +kernel))
      | 1, _ => (hN 8 (by decide +kernel))
      | 2, _ => (hN 9 (by decide +kernel))
      | 3, _ => (hN 10 (by decide +kernel))
      | k + 4, h => absurd h (by omega)) (hN 375 (by decide +kernel))
  · exact sf_of (nm := "FIRST_SETTINGS") (f := firS) rfl hI (hts _ (tbw 38 (by decide +kernel))) (hts _ (tbw 1 (by decide +kernel))) (hN 12 (by decide +kernel)) (hN 13 (by decide +kernel)) (fun j hj => match j, hj with
      | 0, _ => (hN 14 (by decide +kernel))
      | 1, _ => (hN 15 (by decide +kernel))
      | 2, _ => (hN 16 (by decide +kernel))
      | 3, _ => (hN 17 (by decide +kernel))
      | k + 4, h => absurd h (by omega)) (hN 376 (by decide +kernel))
  · exact vx_Zqof (hts _ (tbw 322 (by decide +kernel))) (hts _ (tbw 6 (by decide +kernel))) (hN 18 (by decide +kernel)) hfree
  · exact vx_Zqof (hts _ (tbw 324 (by decide +kernel))) (hts _ (tbw 6 (by decide +kernel))) (hN 19 (by decide +kernel)) hfree
