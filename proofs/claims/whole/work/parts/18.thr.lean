section KTHROW
variable {l : Launch} {G : WG} {R : Room} {own : String} {cc : ByteArray} {nL : Nat} {ret : Option FieldType} {X : Code → Prop} {Z : Zz} {μ μ' : Mem} {pc : Nat} {lv : Lv} {st : List Value}
variable {d' idx maxL : Nat} {y : MethodName} {bytes : ByteArray} {ret' : Option FieldType} {As rest : List Value} {E : String}
theorem K_afterT {p : Program} {e : Env} {s : State} {m : MethodId} {args : Array Value} {below : List Frame} {meth : Method} {c : Code} {H : Heap} {locs : List Loc} {ls : Array Slot} {Qq : State → Prop} (hS : va_S (AG G) s.heap H locs)
    (hr : vx_Run p l e R s m args below meth c H locs 0 0 1 6 (F0 m pc ls st) rest (fun _ _ _ => False) (XcT G E μ') (AG G)) (kx : ∀ (H1 : Heap) (locs1 : List Loc) (ce : Cell) (q : Addr), Rep G μ' H1 → va_S (AG G) s.heap H1 locs1 → H1[q]? = some ce → ce.vm = .none → s.vm.findClass E = some ce.cls → vx_W p l e R s m args below meth c H1 locs1 1 6 Qq (F0 m pc ls rest) q) : W p l e R s m args below meth c H locs 0 0 Qq (F0 m pc ls st) := by
  intro T hT X0
  rcases hr T hT X0 with ⟨v, st₀, t, T', L, h0, X', hL, e1, e2, hF, stp⟩ | ⟨q, st₀, t, T', L, E', ce, h0, X', hL, e1, e2, ⟨rfl, hRep, hF⟩, hce, hcv, hcl, stp⟩
  · exact hF.elim
  · obtain ⟨t2, a1, b1⟩ := kx T'.heap (locs ++ L) ce q (by rw [e1]; exact hRep) (va_S_go hS h0 e1 hF hL) (by rw [e1]; exact hce) hcv hcl T' rfl X'
    exact ⟨t2, stp.trans a1, b1⟩
theorem K_runVT {t i p ci N : Nat} {T : u_T} {fs : List Value} {p' : Program} {e : Env} {s : State} {m : MethodId} {args : Array Value} {below : List Frame} {meth : Method} {c : Code} {H : Heap} {locs : List Loc} {ls : Array Slot} (C' : Cx G own cc nL ret X p' s m args meth c) (hR : Rep G μ H) (hS : va_S (AG G) s.heap H locs) (hl : lv_has ls nL lv)
    (hC : CtT l G d' y bytes maxL ret' (.ref (adr G t i p) :: As) μ E μ') (hm : MkV y bytes maxL ret' As.length) (hlink : Cond.methodLink own idx y ∈ UW) (hd : d' + 1 ≤ R.frames ∧ 8 + (maxL + 11) + 34 * d' ≤ R.locals) (hroom : 1 ≤ R.cells ∧ 6 ≤ R.slots) (hdm : dm t i p) (hct : ct G μ t i p = .inr (ci, fs)) (hcl : vwCl[ci]? = some (y.cls, T, N)) (hst : st = As.reverse ++ .ref (adr G t i p) :: rest) (hW : (rest.map fun v => v.category).sum ≤ 8) (hdg : decode cc pc = .ok (.invokevirtual idx, 3)) : vx_Run p' l e R s m args below meth c H locs 0 0 1 6 (F0 m pc ls st) rest (fun _ _ _ => False) (XcT G E μ') (AG G) := by
  have hts := C'.2.2.2.2.2.2.1
  have hE := C'.2.2.2.2.2.2.2.1
  obtain ⟨m1, m2, m3, m4, m5, m6, m7⟩ := hm
  have cw : CallW R s args own y.cls idx y bytes maxL ret' (.code y bytes maxL ret' :: UW) (rmT d') 1 6 As.length := by
    refine cwV As.length hts (UW_in ?_) rfl rfl rfl ⟨rfl, m5, m6, m7⟩ hd
    intro w hw
    rcases List.mem_append.mp hw with h | h
    · simp only [List.mem_cons, List.not_mem_nil, or_false] at h
      rcases h with rfl | rfl | rfl | rfl
      · exact hlink
      · exact m1
      · exact m2
      · exact m3
    · exact UW_cons m4 w h
  exact vx_runV (rest := rest) ⟨C'.1, C'.2.1, C'.2.2.1, C'.2.2.2.2.2.1, hts⟩ hC cw ⟨PcK_blind, va_recv (q0 := 0) hE.1 (hR.one hdm hct) hcl rfl, fun U hU hW => ⟨rfl, by rw [hU]; exact hR, hE.go hW (by rw [hU]; exact hS)⟩⟩ rfl rfl hl.1 hst (lv_room hW) hdg ⟨by omega, by omega⟩
theorem K_runST {p' : Program} {e : Env} {s : State} {m : MethodId} {args : Array Value} {below : List Frame} {meth : Method} {c : Code} {H : Heap} {locs : List Loc} {ls : Array Slot} (C' : Cx G own cc nL ret X p' s m args meth c) (hR : Rep G μ H) (hS : va_S (AG G) s.heap H locs) (hl : lv_has ls nL lv)
    (hC : CtT l G d' y bytes maxL ret' As μ E μ') (hm : MkS y bytes maxL ret' As.length) (hlink : Cond.methodLink own idx y ∈ UW) (hown : y.cls = own) (hd : d' + 1 ≤ R.frames ∧ 8 + (maxL + 11) + 34 * d' ≤ R.locals) (hroom : 1 ≤ R.cells ∧ 6 ≤ R.slots) (hst : st = As.reverse ++ rest) (hW : (rest.map fun v => v.category).sum ≤ 8) (hdg : decode cc pc = .ok (.invokestatic idx, 3)) : vx_Run p' l e R s m args below meth c H locs 0 0 1 6 (F0 m pc ls st) rest (fun _ _ _ => False) (XcT G E μ') (AG G) := by
  have hts := C'.2.2.2.2.2.2.1
  have hE := C'.2.2.2.2.2.2.2.1
  obtain ⟨m1, m2, m3, m4, m5, m6⟩ := hm
  have cw : CallB R s args own idx y bytes maxL ret' (.code y bytes maxL ret' :: UW) (rmT d') 1 6 As.length ∧ (Cond.static y).before args s = true := by
    refine cwS As.length hts (UW_in ?_) rfl rfl rfl ⟨hown, m4, m5, m6⟩ hd
    intro w hw
    rcases List.mem_append.mp hw with h | h
    · simp only [List.mem_cons, List.not_mem_nil, or_false] at h
      rcases h with rfl | rfl | rfl
      · exact hlink
      · exact m1
      · exact hown ▸ m2
    · exact UW_cons m3 w h
  exact vx_runS (rest := rest) ⟨C'.1, C'.2.1, C'.2.2.1, C'.2.2.2.2.2.1, hts⟩ hC cw ⟨PcK_blind, fun U hU hW => ⟨rfl, by rw [hU]; exact hR, hE.go hW (by rw [hU]; exact hS)⟩⟩ rfl rfl hl.1 hst (lv_room hW) hdg ⟨by omega, by omega⟩
/-- the callee throws, and so does this method -/
theorem K_outT {d : Nat} {p : Program} {e : Env} {s : State} {m : MethodId} {args : Array Value} {below : List Frame} {meth : Method} {c : Code} {H : Heap} {locs : List Loc} {ls : Array Slot} (C' : Cx G own cc nL ret noX p s m args meth c) (hS : va_S (AG G) s.heap H locs)
    (hr : vx_Run p l e (rmT d) s m args below meth c H locs 0 0 1 6 (F0 m pc ls st) rest (fun _ _ _ => False) (XcT G E μ') (AG G)) : W p l e (rmT d) s m args below meth c H locs 0 0 (ZT G E μ' below args s) (F0 m pc ls st) :=
  K_afterT hS hr fun H1 locs1 ce q hRep hS1 hce hcv hcl => vx_out (fun x hx => (C'.2.2.2.2.2.2.2.2 x hx).elim) C'.2.2.2.2.1 hce hcv hcl (fun t ht _ => ⟨rfl, by rw [ht]; exact hRep, hS1.F ht⟩) hS1.2.2 (Nat.le_refl 1) (Nat.le_refl 6)
theorem K_callVT {d t i p ci N : Nat} {T : u_T} {fs : List Value} (hC : CtT l G d' y bytes maxL ret' (.ref (adr G t i p) :: As) μ E μ') (hm : MkV y bytes maxL ret' As.length) (hlink : Cond.methodLink own idx y ∈ UW) (hd : d' + 1 ≤ d ∧ maxL ≤ 15) (hdm : dm t i p) (hct : ct G μ t i p = .inr (ci, fs)) (hcl : vwCl[ci]? = some (y.cls, T, N)) (hst : st = As.reverse ++ .ref (adr G t i p) :: rest) (hW : (rest.map fun v => v.category).sum ≤ 8) (hdg : decode cc pc = .ok (.invokevirtual idx, 3)) : K l G (rmT d) own cc nL ret noX (ZT G E μ') μ pc lv st := by
  intro p' e s m args below meth c H locs ls C' hR hS hl
  exact K_outT C' hS (K_runVT C' hR hS hl hC hm hlink ⟨hd.1, by show 8 + (maxL + 11) + 34 * d' ≤ 34 * d; omega⟩ ⟨Nat.le_refl 1, Nat.le_refl 6⟩ hdm hct hcl hst hW hdg)
theorem K_callST {d : Nat} (hC : CtT l G d' y bytes maxL ret' As μ E μ') (hm : MkS y bytes maxL ret' As.length) (hlink : Cond.methodLink own idx y ∈ UW) (hown : y.cls = own) (hd : d' + 1 ≤ d ∧ maxL ≤ 15) (hst : st = As.reverse ++ rest) (hW : (rest.map fun v => v.category).sum ≤ 8) (hdg : decode cc pc = .ok (.invokestatic idx, 3)) : K l G (rmT d) own cc nL ret noX (ZT G E μ') μ pc lv st := by
  intro p' e s m args below meth c H locs ls C' hR hS hl
  exact K_outT C' hS (K_runST C' hR hS hl hC hm hlink hown ⟨hd.1, by show 8 + (maxL + 11) + 34 * d' ≤ 34 * d; omega⟩ ⟨Nat.le_refl 1, Nat.le_refl 6⟩ hst hW hdg)
end KTHROW
