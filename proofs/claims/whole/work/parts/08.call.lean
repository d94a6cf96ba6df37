def MkV (y : MethodName) (bytes : ByteArray) (maxL : Nat) (ret : Option FieldType) (n : Nat) : Prop := Cond.instanceMethod y ∈ UW ∧ Cond.selects y.cls y y ∈ UW ∧ Cond.initialized y.cls ∈ UW ∧ Cond.code y bytes maxL ret ∈ UW ∧ y.cls ≠ "java/lang/invoke/MethodHandle" ∧ y.cls ≠ "java/lang/invoke/VarHandle" ∧ (parseMethodDescriptor y.desc).map (fun d => d.parameters.length) = some n
def MkS (y : MethodName) (bytes : ByteArray) (maxL : Nat) (ret : Option FieldType) (n : Nat) : Prop := Cond.static y ∈ UW ∧ Cond.initialized y.cls ∈ UW ∧ Cond.code y bytes maxL ret ∈ UW ∧ y.cls ≠ "java/lang/invoke/MethodHandle" ∧ y.cls ≠ "java/lang/invoke/VarHandle" ∧ (parseMethodDescriptor y.desc).map (fun d => d.parameters.length) = some n
theorem UW_in {ws : List Cond} (h : ∀ w ∈ ws, w ∈ UW) : GoodIn UW ws := fun w hw => ⟨h w hw, UW_good (h w hw)⟩
theorem UW_cons {w : Cond} (h : w ∈ UW) : ∀ w' ∈ w :: UW, w' ∈ UW := fun _ h' => (List.mem_cons.mp h').elim (fun e => e ▸ h) id
theorem PcK_blind {G : WG} {av : List Value} {μ : Mem} : FrameBlind (PcK G av μ) := fun _ _ _ _ q => ⟨q.1, q.2.1, q.2.2.same rfl rfl⟩
theorem va_S_go {A : Nat → Prop} {H0 H : Heap} {st0 t T' : State} {locs L : List Loc} (hS : va_S A H0 H locs) (h0 : st0.heap = H) (e1 : T'.heap = t.heap) (hF : va_F A st0 t) (hL : ∀ q ∈ L, A q.base) : va_S A H0 T'.heap (locs ++ L) := by
  obtain ⟨hz, hk⟩ := hF
  rw [h0] at hz hk
  refine ⟨Nat.le_trans hS.1 (by rw [e1]; exact hz), fun q h1 h2 => ?_, fun q hq => ?_⟩
  · rw [e1, hk q (Nat.lt_of_lt_of_le h1 hS.1) h2]
    exact hS.2.1 q h1 h2
  · rcases List.mem_append.mp hq with h | h
    · exact hS.2.2 q h
    · exact hL q h
section KCALL
variable {l : Launch} {G : WG} {R : Room} {own : String} {cc : ByteArray} {nL : Nat} {ret : Option FieldType} {X : Code → Prop} {Z : Zz} {μ μ' : Mem} {pc : Nat} {lv : Lv} {st : List Value}
variable {d' idx maxL : Nat} {y : MethodName} {bytes : ByteArray} {ret' : Option FieldType} {r : Option Value} {As rest : List Value}
/-- what a call that ran leaves to the rest of the walk -/
theorem K_after {p : Program} {e : Env} {s : State} {m : MethodId} {args : Array Value} {below : List Frame} {meth : Method} {c : Code} {H : Heap} {locs : List Loc} {ls : Array Slot} {a : Array Value} (C' : Cx G own cc nL ret X p s m args meth c) (hS : va_S (AG G) s.heap H locs) (hl : lv_has ls nL lv)
    (hr : va_Run p l e R s m args below meth c H locs 0 0 0 0 (F0 m pc ls st) rest (QcK G (Qe r μ') a) (AG G)) (kk : K l G R own cc nL ret X Z μ' (pc + 3) lv (r.toList ++ rest)) : W p l e R s m args below meth c H locs 0 0 (Z below args s) (F0 m pc ls st) := by
  intro T hT X0
  obtain ⟨v, st₀, t, T', L, h0, X', hL, e1, e2, ⟨⟨r1, μ1, ho, ⟨hr1, hμ1⟩, hRep⟩, hF⟩, stp⟩ := hr T hT X0
  cases ho
  subst hr1 hμ1
  obtain ⟨t2, a1, b1⟩ := kk p e s m args below meth c T'.heap (locs ++ L) ls C' (by rw [e1]; exact hRep) (va_S_go hS h0 e1 hF hL) hl T' rfl X'
  exact ⟨t2, stp t2 a1, b1⟩
theorem K_callV {t i p ci N : Nat} {T : u_T} {fs : List Value} (hC : Ct l G d' y bytes maxL ret' (.ref (adr G t i p) :: As) μ r μ') (hm : MkV y bytes maxL ret' As.length) (hlink : Cond.methodLink own idx y ∈ UW) (hd : d' + 1 ≤ R.frames ∧ 8 + (maxL + 11) + 34 * d' ≤ R.locals) (hdm : dm t i p) (hct : ct G μ t i p = .inr (ci, fs)) (hcl : vwCl[ci]? = some (y.cls, T, N)) (hst : st = As.reverse ++ .ref (adr G t i p) :: rest) (hW : (rest.map fun v => v.category).sum ≤ 8) (hdg : decode cc pc = .ok (.invokevirtual idx, 3)) (kk : K l G R own cc nL ret X Z μ' (pc + 3) lv (r.toList ++ rest)) : K l G R own cc nL ret X Z μ pc lv st := by
  intro p' e s m args below meth c H locs ls C' hR hS hl
  have hts := C'.2.2.2.2.2.2.1
  have hE := C'.2.2.2.2.2.2.2.1
  obtain ⟨m1, m2, m3, m4, m5, m6, m7⟩ := hm
  have cw : CallW R s args own y.cls idx y bytes maxL ret' (.code y bytes maxL ret' :: UW) (rmD d') 0 0 As.length := by
    refine cwV As.length hts (UW_in ?_) rfl rfl rfl ⟨rfl, m5, m6, m7⟩ hd
    intro w hw
    rcases List.mem_append.mp hw with h | h
    · simp only [List.mem_cons, List.not_mem_nil, or_false] at h
      rcases h with rfl | rfl | rfl | rfl
      · exact hlink
      · exact m1
      · exact m2
      · exact m3
    · exact UW_cons m4 w h
  exact K_after C' hS hl (va_runV (rest := rest) ⟨C'.1, C'.2.1, C'.2.2.1, C'.2.2.2.2.2.1, hts⟩ hC cw ⟨PcK_blind, va_recv (q0 := 0) hE.1 (hR.one hdm hct) hcl rfl, fun U hU hW => ⟨rfl, by rw [hU]; exact hR, hE.go hW (by rw [hU]; exact hS)⟩⟩ rfl rfl hl.1 hst (lv_room hW) hdg ⟨Nat.zero_le _, Nat.zero_le _⟩) kk
theorem K_callS (hC : Ct l G d' y bytes maxL ret' As μ r μ') (hm : MkS y bytes maxL ret' As.length) (hlink : Cond.methodLink own idx y ∈ UW) (hown : y.cls = own) (hd : d' + 1 ≤ R.frames ∧ 8 + (maxL + 11) + 34 * d' ≤ R.locals) (hst : st = As.reverse ++ rest) (hW : (rest.map fun v => v.category).sum ≤ 8) (hdg : decode cc pc = .ok (.invokestatic idx, 3)) (kk : K l G R own cc nL ret X Z μ' (pc + 3) lv (r.toList ++ rest)) : K l G R own cc nL ret X Z μ pc lv st := by
  intro p' e s m args below meth c H locs ls C' hR hS hl
  have hts := C'.2.2.2.2.2.2.1
  have hE := C'.2.2.2.2.2.2.2.1
  obtain ⟨m1, m2, m3, m4, m5, m6⟩ := hm
  have cw : CallB R s args own idx y bytes maxL ret' (.code y bytes maxL ret' :: UW) (rmD d') 0 0 As.length ∧ (Cond.static y).before args s = true := by
    refine cwS As.length hts (UW_in ?_) rfl rfl rfl ⟨hown, m4, m5, m6⟩ hd
    intro w hw
    rcases List.mem_append.mp hw with h | h
    · simp only [List.mem_cons, List.not_mem_nil, or_false] at h
      rcases h with rfl | rfl | rfl
      · exact hlink
      · exact m1
      · exact hown ▸ m2
    · exact UW_cons m3 w h
  exact K_after C' hS hl (va_runS (rest := rest) ⟨C'.1, C'.2.1, C'.2.2.1, C'.2.2.2.2.2.1, hts⟩ hC cw ⟨PcK_blind, fun U hU hW => ⟨rfl, by rw [hU]; exact hR, hE.go hW (by rw [hU]; exact hS)⟩⟩ rfl rfl hl.1 hst (lv_room hW) hdg ⟨Nat.zero_le _, Nat.zero_le _⟩) kk
/-- a static method of the host, private -/
theorem K_callN {host : String} (hC : Ct l G d' y bytes maxL ret' As μ r μ') (hm : MkS y bytes maxL ret' As.length) (hlink : (own, idx, y, host) ∈ nwM) (hd : d' + 1 ≤ R.frames ∧ 8 + (maxL + 11) + 34 * d' ≤ R.locals) (hst : st = As.reverse ++ rest) (hW : (rest.map fun v => v.category).sum ≤ 8) (hdg : decode cc pc = .ok (.invokestatic idx, 3)) (kk : K l G R own cc nL ret X Z μ' (pc + 3) lv (r.toList ++ rest)) : K l G R own cc nL ret X Z μ pc lv st := by
  intro p' e s m args below meth c H locs ls C' hR hS hl
  have hts := C'.2.2.2.2.2.2.1
  have hE := C'.2.2.2.2.2.2.2.1
  obtain ⟨m1, m2, m3, m4, m5, m6⟩ := hm
  have cw : va_CN R s args own idx y host bytes maxL ret' (.code y bytes maxL ret' :: UW) (rmD d') 0 0 As.length := va_cnB As.length hts (UW_in (UW_cons m3)) rfl rfl rfl (hE.2.1.1 _ hlink) (hts _ m2) ⟨m4, m5, m6⟩ hd
  exact K_after C' hS hl (va_runSN (rest := rest) ⟨C'.1, C'.2.1, C'.2.2.1, C'.2.2.2.2.2.1, hts⟩ hC ⟨cw, hts _ m1, trivial⟩ ⟨PcK_blind, fun U hU hW => ⟨rfl, by rw [hU]; exact hR, hE.go hW (by rw [hU]; exact hS)⟩⟩ rfl rfl hl.1 hst (lv_room hW) hdg ⟨Nat.zero_le _, Nat.zero_le _⟩) kk
end KCALL
section KRET
variable {l : Launch} {G : WG} {R : Room} {own : String} {cc : ByteArray} {nL : Nat} {X : Code → Prop} {Q : Option Value → Mem → Prop} {μ : Mem} {pc : Nat} {lv : Lv}
theorem K_iret {v : Int32} (hdg : decode cc pc = .ok (.ireturn, 1)) (hQ : Q (some (.int v)) μ) : K l G R own cc nL (some .int) X (ZR G Q) μ pc lv [.int v] := by
  intro p e s m args below meth c H locs ls C hR hS hl
  exact W.iret C.1 C.2.1 C.2.2.2.1 (fun t ht hW => ⟨⟨_, μ, rfl, hQ, by rw [ht]; exact hR⟩, hS.F ht⟩) hS.2.2 hdg C.2.2.2.2.1
theorem K_zret {v : Int32} {b : Bool} (hv : v = b2i b) (hdg : decode cc pc = .ok (.ireturn, 1)) (hQ : Q (some (.int (b2i b))) μ) : K l G R own cc nL (some .boolean) X (ZR G Q) μ pc lv [.int v] := by
  intro p e s m args below meth c H locs ls C hR hS hl
  subst hv
  exact W.zret C.1 C.2.1 C.2.2.2.1 (by cases b <;> rfl) (fun t ht hW => ⟨⟨_, μ, rfl, hQ, by rw [ht]; exact hR⟩, hS.F ht⟩) hS.2.2 hdg C.2.2.2.2.1
theorem K_lret {v : Int64} (hdg : decode cc pc = .ok (.lreturn, 1)) (hQ : Q (some (.long v)) μ) : K l G R own cc nL (some .long) X (ZR G Q) μ pc lv [.long v] := by
  intro p e s m args below meth c H locs ls C hR hS hl
  exact W.lret C.1 C.2.1 C.2.2.2.1 (fun t ht hW => ⟨⟨_, μ, rfl, hQ, by rw [ht]; exact hR⟩, hS.F ht⟩) hS.2.2 hdg C.2.2.2.2.1
theorem K_dret {v : UInt64} (hdg : decode cc pc = .ok (.dreturn, 1)) (hQ : Q (some (.double v)) μ) : K l G R own cc nL (some .double) X (ZR G Q) μ pc lv [.double v] := by
  intro p e s m args below meth c H locs ls C hR hS hl
  exact W.dret C.1 C.2.1 C.2.2.2.1 (fun t ht hW => ⟨⟨_, μ, rfl, hQ, by rw [ht]; exact hR⟩, hS.F ht⟩) hS.2.2 hdg C.2.2.2.2.1
theorem K_vret (hdg : decode cc pc = .ok (.return_, 1)) (hQ : Q none μ) : K l G R own cc nL none X (ZR G Q) μ pc lv [] := by
  intro p e s m args below meth c H locs ls C hR hS hl
  exact W.vret C.1 C.2.1 C.2.2.2.1 (fun t ht hW => ⟨⟨_, μ, rfl, hQ, by rw [ht]; exact hR⟩, hS.F ht⟩) hS.2.2 hdg C.2.2.2.2.1
end KRET
