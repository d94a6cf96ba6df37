/-! ===== the law's own rows ===== -/
def EvL (G : WG) (b0 b L : Nat) (xs : Nat → Int32) (U : State) : Prop := EvB G b0 U ∧ Ev G U ∧ U.heap.size = b0 ∧ va_X b L xs U U.heap ∧ b < b0 ∧ (∀ w ∈ lw_tbl, w.before #[Value.ref b] U = true)
def XL : Method → Code → Prop := fun _ _ => True
def ZL (b : Nat) : Zz := fun below args s t => args = #[Value.ref b] → lw_Z below #[Value.ref b] s t
abbrev JL (l : Launch) (G : WG) (b0 b L : Nat) (xs : Nat → Int32) (nc ns : Nat) (P : Heap → Prop) (pc : Nat) (lv : Lv) (st : List Value) : Prop := J l room_1 RL cL_law 9 ret (EvL G b0 b L xs) XL (AB b0) (ZL b) nc ns P pc lv st
theorem W_mono {p : Program} {l : Launch} {e : Env} {R : Room} {s : State} {m : MethodId} {args : Array Value} {below : List Frame} {meth : Method} {c : Code} {H : Heap} {locs : List Loc} {cells slots : Nat} {Q Q' : State → Prop} {g : JFrame} (h : ∀ t, Q t → Q' t) (k : W p l e R s m args below meth c H locs cells slots Q g) : W p l e R s m args below meth c H locs cells slots Q' g := fun T hT X => by
  obtain ⟨t, a, b⟩ := k T hT X
  exact ⟨t, a, h t b⟩
theorem W_triv {p : Program} {l : Launch} {e : Env} {R : Room} {s : State} {m : MethodId} {args : Array Value} {below : List Frame} {meth : Method} {c : Code} {H : Heap} {locs : List Loc} {cells slots : Nat} {Q : State → Prop} {g : JFrame} (h : ∀ t, Q t) : W p l e R s m args below meth c H locs cells slots Q g := fun T _ _ => ⟨_, Steps.refl _, h _⟩
theorem rm_f : 12 ≤ room_1.frames := Nat.le_of_ble_eq_true rfl
theorem rm_l : 442 ≤ room_1.locals := Nat.le_of_ble_eq_true rfl
section LROWS
variable {l : Launch} {G : WG} {b0 b L : Nat} {xs : Nat → Int32} {nc ns : Nat} {P : Heap → Prop} {pc : Nat} {lv : Lv} {st : List Value} {μ μ' : Mem}
theorem L_slen (hdg : decode cL_law pc = .ok (.arraylength, 1)) (kk : JL l G b0 b L xs nc ns P (pc + 1) lv (.int (nI L) :: st)) : JL l G b0 b L xs nc ns P pc lv (.ref b :: st) := by
  intro p e s m args below meth c H locs ls C hR hS hl
  have hE := C.2.2.2.2.2.2.2.1
  exact va_slen C.1 C.2.1 hE.2.2.2.1 (by rw [hE.2.2.1]; exact hE.2.2.2.2.1) (Nat.not_le.mpr hE.2.2.2.2.1) hS hdg (kk p e s m args below meth c H locs ls C hR hS hl)
theorem L_sld {i : Nat} (hL : L ≤ 2048) (hi : i < L) (hdg : decode cL_law pc = .ok (.iaload, 1)) (kk : JL l G b0 b L xs nc ns P (pc + 1) lv (.int (xs i) :: st)) : JL l G b0 b L xs nc ns P pc lv (.int (nI i) :: .ref b :: st) := by
  intro p e s m args below meth c H locs ls C hR hS hl
  have hE := C.2.2.2.2.2.2.2.1
  refine va_sld C.1 C.2.1 hE.2.2.2.1 (by rw [hE.2.2.1]; exact hE.2.2.2.2.1) (Nat.not_le.mpr hE.2.2.2.2.1) hS (vp_inN hi (by omega)) hdg ?_
  rw [nI_clamp (by omega)]
  exact kk p e s m args below meth c H locs ls C hR hS hl
theorem L_lald (hdg : decode cL_law pc = .ok (.laload, 1)) (kk : JL l G b0 b L xs nc ns (Rep G μ) (pc + 1) lv (.long (μ.2 1) :: st)) : JL l G b0 b L xs nc ns (Rep G μ) pc lv (.int (nI 0) :: .ref (adr G 21 0 0) :: st) := by
  intro p e s m args below meth c H locs ls C hR hS hl
  have hE := C.2.2.2.2.2.2.2.1
  have h0 : va_at G.1 vwCl (adr G 21 0 0, .inl (G.2.1 3, 1, .inr (.inl (fun j => μ.2 (j + 1))))) H := hR.1 21 0 0 dm_21
  have hin : vp_in (nI 0) 1 := vp_inN (by decide) (by decide)
  refine W.lald (v := .long (μ.2 1)) C.1 C.2.1 h0 ((hE.1.1.2 3 _ rfl).1 1 (fun j => .long (μ.2 (j + 1)))) (fun q => by cases q) (by show ¬ (_ < 0 ∨ (arrV _ _ _).slots.size ≤ _); rw [arrV_size]; exact hin) ?_ rfl rfl hdg (kk p e s m args below meth c H locs ls C hR hS hl)
  show (arrV _ _ _).slots[_]? = _
  rw [nI_clamp (by omega), arrV_read _ _ Nat.zero_lt_one]
theorem va_S_goA {A A1 : Nat → Prop} {H0 H : Heap} {st0 t T' : State} {locs Ls : List Loc} (hA : ∀ q, A1 q → A q) (hS : va_S A H0 H locs) (h0 : st0.heap = H) (e1 : T'.heap = t.heap) (hF : va_F A1 st0 t) (hL : ∀ q ∈ Ls, A1 q.base) : va_S A H0 T'.heap (locs ++ Ls) :=
  va_S_go hS h0 e1 ⟨hF.1, fun q h1 h2 => hF.2 q h1 fun h3 => h2 (hA q h3)⟩ fun q hq => hA _ (hL q hq)
theorem va_S_old {b0 : Nat} {H0 H : Heap} {locs : List Loc} (A : Nat → Prop) (hz : H0.size = b0) (hS : va_S (AB b0) H0 H locs) : va_S A H0 H [] := ⟨hS.1, fun q h1 _ => hS.2.1 q h1 (fun h2 => by have h3 : b0 ≤ q := h2; omega), fun _ h => by cases h⟩
theorem L_callV {t i p ci N d' idx maxL : Nat} {T : u_T} {fs : List Value} {y : MethodName} {bytes : ByteArray} {ret' : Option FieldType} {As rest : List Value} {r : Option Value} (hA : ∀ q, AG G q → AB b0 q) (hn : nc ≤ room_1.cells ∧ ns ≤ room_1.slots) (hC : Ct l G d' y bytes maxL ret' (.ref (adr G t i p) :: As) μ r μ') (hm : MkV y bytes maxL ret' As.length) (hlink : Cond.methodLink RL idx y ∈ UW) (hd : d' ≤ 11 ∧ maxL ≤ 15) (hdm : dm t i p) (hct : ct G μ t i p = .inr (ci, fs)) (hcl : vwCl[ci]? = some (y.cls, T, N)) (hst : st = As.reverse ++ .ref (adr G t i p) :: rest) (hW : (rest.map fun v => v.category).sum ≤ 8) (hdg : decode cL_law pc = .ok (.invokevirtual idx, 3)) (kk : JL l G b0 b L xs nc ns (Rep G μ') (pc + 3) lv (r.toList ++ rest)) : JL l G b0 b L xs nc ns (Rep G μ) pc lv st := by
  intro p' e s m args below meth c H locs ls C' hR hS hl
  have hts := C'.2.2.2.2.2.2.1
  have hE := C'.2.2.2.2.2.2.2.1
  obtain ⟨m1, m2, m3, m4, m5, m6, m7⟩ := hm
  have cw : CallW room_1 s args RL y.cls idx y bytes maxL ret' (.code y bytes maxL ret' :: UW) (rmD d') 0 0 As.length := by
    refine cwV As.length hts (UW_in ?_) rfl rfl rfl ⟨rfl, m5, m6, m7⟩ ⟨Nat.le_trans (show d' + 1 ≤ 12 by omega) rm_f, Nat.le_trans (show 8 + (maxL + 11) + 34 * d' ≤ 442 by omega) rm_l⟩
    intro w hw
    rcases List.mem_append.mp hw with h | h
    · simp only [List.mem_cons, List.not_mem_nil, or_false] at h
      rcases h with rfl | rfl | rfl | rfl
      · exact hlink
      · exact m1
      · exact m2
      · exact m3
    · exact UW_cons m4 w h
  have hr := va_runV (l := l) (e := e) (below := below) (meth := meth) (locs := locs) (cells := nc) (slots := ns) (g := F0 m pc ls st) (rest := rest) ⟨C'.1, C'.2.1, C'.2.2.1, C'.2.2.2.2.2.1, hts⟩ hC cw ⟨PcK_blind, va_recv (q0 := 0) hE.2.1.1 (hR.one hdm hct) hcl rfl, fun U hU hW => ⟨rfl, by rw [hU]; exact hR, hE.2.1.go hW (by rw [hU]; exact va_S_old _ hE.2.2.1 hS)⟩⟩ rfl rfl hl.1 hst (lv_room hW) hdg ⟨by show nc + 0 ≤ room_1.cells; omega, by show ns + 0 ≤ room_1.slots; omega⟩
  intro T hT X0
  obtain ⟨v, st₀, t, T', Ls, h0, X', hL, e1, e2, ⟨⟨r1, μ1, ho, ⟨hr1, hμ1⟩, hRep⟩, hF⟩, stp⟩ := hr T hT X0
  cases ho
  subst hr1 hμ1
  obtain ⟨t2, a1, b1⟩ := kk p' e s m args below meth c T'.heap (locs ++ Ls) ls C' (by rw [e1]; exact hRep) (va_S_goA hA hS h0 e1 hF hL) hl T' rfl X'
  exact ⟨t2, stp t2 a1, b1⟩
theorem L_callW {idx maxL : Nat} {y : MethodName} {bytes : ByteArray} {hh : List (Nat × Nat × Nat × Nat)} {As rest : List Value} {k : Int32} (hA : ∀ q, AG G q → AB b0 q) (hn : nc + 1 ≤ room_1.cells ∧ ns + 6 ≤ room_1.slots) (hC : CtW l G 11 y bytes maxL hh As μ k μ') (hm : Cond.codeWith y bytes maxL (some .int) hh ∈ UW ∧ Cond.static y ∈ UW ∧ Cond.initialized y.cls ∈ UW ∧ y.cls ≠ "java/lang/invoke/MethodHandle" ∧ y.cls ≠ "java/lang/invoke/VarHandle" ∧ (parseMethodDescriptor y.desc).map (fun d => d.parameters.length) = some As.length) (hlink : Cond.methodLink RL idx y ∈ UW) (hd : maxL ≤ 15) (hst : st = As.reverse ++ rest) (hW : (rest.map fun v => v.category).sum ≤ 8) (hdg : decode cL_law pc = .ok (.invokestatic idx, 3)) (kk : JL l G b0 b L xs (nc + 1) (ns + 6) (Rep G μ') (pc + 3) lv (.int k :: rest)) : JL l G b0 b L xs nc ns (Rep G μ) pc lv st := by
  intro p' e s m args below meth c H locs ls C' hR hS hl
  have hts := C'.2.2.2.2.2.2.1
  have hE := C'.2.2.2.2.2.2.2.1
  obtain ⟨m1, m2, m3, m4, m5, m6⟩ := hm
  have cw : vx_CSW room_1 s args RL idx y bytes maxL (some .int) hh (.codeWith y bytes maxL (some .int) hh :: UW) (rmT 11) 1 6 As.length := by
    refine vx_cwSW As.length hts (UW_in ?_) rfl rfl rfl ⟨m4, m5, m6⟩ ⟨Nat.le_trans (show 11 + 1 ≤ 12 by omega) rm_f, Nat.le_trans (show 8 + (maxL + 11) + 374 ≤ 442 by omega) rm_l⟩
    intro w hw
    rcases List.mem_append.mp hw with h | h
    · simp only [List.mem_cons, List.not_mem_nil, or_false] at h
      rcases h with rfl | rfl | rfl
      · exact hlink
      · exact m2
      · exact m3
    · exact UW_cons m1 w h
  have hr := vx_runSW (l := l) (e := e) (below := below) (meth := meth) (locs := locs) (cells := nc) (slots := ns) (g := F0 m pc ls st) (rest := rest) ⟨C'.1, C'.2.1, C'.2.2.1, C'.2.2.2.2.2.1, hts⟩ hC cw ⟨PcK_blind, fun U hU hW => ⟨rfl, by rw [hU]; exact hR, hE.2.1.go hW (by rw [hU]; exact va_S_old _ hE.2.2.1 hS)⟩⟩ rfl rfl hl.1 hst (lv_room hW) hdg ⟨hn.1, hn.2⟩
  intro T hT X0
  obtain ⟨v, st₀, t, T', Ls, h0, X', hL, e1, e2, ⟨⟨r1, μ1, ho, ⟨hr1, hμ1⟩, hRep⟩, hF⟩, stp⟩ := hr T hT X0
  cases ho
  subst hr1 hμ1
  obtain ⟨t2, a1, b1⟩ := kk p' e s m args below meth c T'.heap (locs ++ Ls) ls C' (by rw [e1]; exact hRep) (va_S_goA hA hS h0 e1 hF hL) hl T' rfl X'
  exact ⟨t2, stp t2 a1, b1⟩
theorem L_end (h1 : nc ≤ room_1.cells) (h2 : ns ≤ room_1.slots) (hdg : decode cL_law pc = .ok (.ireturn, 1)) : JL l G b0 b L xs nc ns P pc lv [.int 1] := by
  intro p e s m args below meth c H locs ls C hR hS hl
  have hE := C.2.2.2.2.2.2.2.1
  by_cases ha : args = #[Value.ref b]
  · subst ha
    refine W_mono (Q := lw_Z below #[Value.ref b] s) (fun t h _ => h) ?_
    refine va_forget (fun q hq => by rw [hE.2.2.1]; exact hS.2.2 q hq) ?_
    refine W.widen h1 h2 ?_
    exact lw_ret (d0 := s.drawn) (Drawn.sameBut.refl s.drawn lw_cs) C.1 C.2.1 C.2.2.2.1 C.2.2.2.2.1 hdg
  · exact W_triv fun t h => absurd h ha
theorem L_dcmp {x y : UInt64} {op : CmpOp} (hdg : decode cL_law pc = .ok (.dcmp op, 1)) (kk : JL l G b0 b L xs nc ns P (pc + 1) lv (.int (Op.cmpValue (FP.dcmp x y) op) :: st)) : JL l G b0 b L xs nc ns P pc lv (.double y :: .double x :: st) := by
  intro p e s m args below meth c H locs ls C hR hS hl
  exact lv_dcmp C.1 C.2.1 hdg (kk p e s m args below meth c H locs ls C hR hS hl)
theorem L_more {nc' ns' : Nat} (h1 : nc ≤ nc') (h2 : ns ≤ ns') (kk : JL l G b0 b L xs nc' ns' P pc lv st) : JL l G b0 b L xs nc ns P pc lv st := by
  intro p e s m args below meth c H locs ls C hR hS hl
  exact W.widen h1 h2 (kk p e s m args below meth c H locs ls C hR hS hl)
end LROWS
theorem and31 (x : Int32) : ∃ v : Nat, v < 32 ∧ x &&& 31 = nI v := by
  refine ⟨(x &&& 31).toUInt32.toNat, ?_, ?_⟩
  · show (x.toUInt32 &&& 31).toNat < 32
    rw [UInt32.toNat_and]
    exact Nat.lt_of_le_of_lt Nat.and_le_right (by decide)
  · show x &&& 31 = Int32.ofNat _
    apply Int32.toBitVec_inj.mp
    simp [Int32.ofNat]
    rfl
theorem nI_subI {L : Nat} (hL : L ≤ 2048) : (nI L - nI 4).toInt = (L : Int) - 4 :=
  pk_sub_toInt (by omega) (by decide)
