/-! ===== the law's wrappers: a call in a try, its answer laid into out[0] ===== -/
theorem Met_ofWW {l : Launch} {y : MethodName} {ws ws' : List Cond} {rm : Room} {Pc : Array Value → State → Prop} {Qc : Array Value → State → Outcome → State → Prop} {mc ms : Nat} {free : Addr → Prop} {cc : ByteArray} {maxL : Nat} {ret : Option FieldType} {hh : List (Nat × Nat × Nat × Nat)}
    (hy : plainName y.cls = true) (hw : ws = Cond.codeWith y cc maxL ret hh :: ws')
    (body : ∀ p e s m args below meth c s₁, BodyLoose p l y (headSpec ws rm) cc maxL ret e s m args below meth c s₁ → c.maxLocals = maxL → c.exceptionTable.toList = tableOf hh → Pc args s →
      W p l e (headSpec ws rm).room s m args below meth c s.heap [] 0 0 (MQ below Qc args s mc ms free) (entryFrame m args maxL)) : Met l y ws rm Pc Qc mc ms free := by
  refine MetFree.of_bodyS (code := cc) (maxLocals := maxL) (ret := ret) hy ?_ ?_
  · intro args s m h hn
    obtain ⟨m9, meth, c, hn9, h1, h2, h3, h4, -, h5, h6, -⟩ := Cond.codeWith_spec (atoms_spec (ws := ws) h _ (by rw [hw]; exact List.mem_cons_self))
    cases hn.symm.trans hn9
    exact ⟨meth, c, h1, h2, h3, h4, h5, h6⟩
  · intro p e s m args below meth c s₁ B hml hP _
    have hh0 : s₁.heap = s.heap := by rw [B.state]; rfl
    obtain ⟨t, a1, o, b1, b2, b3⟩ := body p e s m args below meth c s₁ B hml (vx_table (x := y) B (atoms_spec (ws := ws) B.pre _ (by rw [hw]; exact List.mem_cons_self))) hP s₁ hh0 (Stand.of_body B)
    exact ⟨t, o, a1, b1, b2, ⟨b3.1, b3.2⟩⟩
def XT (hh : List (Nat × Nat × Nat × Nat)) : Code → Prop := fun c => c.exceptionTable.toList = tableOf hh
def ZW (G : WG) (k : Int32) (μ' : Mem) : Zz := fun below args s => MQ below (QcK G (Qe (some (.int k)) μ')) args s 1 6 (AG G)
def CtW (l : Launch) (G : WG) (d : Nat) (y : MethodName) (cc : ByteArray) (nL : Nat) (hh : List (Nat × Nat × Nat × Nat)) (av : List Value) (μ : Mem) (k : Int32) (μ' : Mem) : Prop :=
  Met l y (.codeWith y cc nL (some .int) hh :: UW) (rmT d) (PcK G av μ) (QcK G (Qe (some (.int k)) μ')) 1 6 (AG G)
theorem CtW_of {l : Launch} {G : WG} {d : Nat} {y : MethodName} {cc : ByteArray} {nL : Nat} {hh : List (Nat × Nat × Nat × Nat)} {av : List Value} {μ : Mem} {k : Int32} {μ' : Mem} (hy : plainName y.cls = true) (hn : (lg_sl av).length ≤ nL)
    (kk : K l G (rmT d) y.cls cc nL (some .int) (XT hh) (ZW G k μ') μ 0 (lv_args 0 av) []) : CtW l G d y cc nL hh av μ k μ' := by
  refine Met_ofWW (cc := cc) (maxL := nL) (ret := some .int) (hh := hh) hy rfl ?_
  intro p e s m args below meth c s₁ B hml htb hv
  obtain ⟨rfl, hR, hE⟩ := hv
  have hts := atoms_spec (ws := (Cond.codeWith y cc nL (some .int) hh :: UW)) B.pre
  rw [lg_entry_eq]
  exact kk p e s m av.toArray below meth c s.heap [] _ ⟨B.exec, B.bytes, hml, B.returns, B.notSynchronized, findClass_of_methodNamed B.named, fun w hw => hts w (List.mem_cons_of_mem _ hw), hE, htb⟩ hR va_S.rf (lv_entry av hn)
section WROWS
variable {l : Launch} {G : WG} {R : Room} {own : String} {cc : ByteArray} {nL : Nat} {ret : Option FieldType} {X : Code → Prop} {Z : Zz} {μ μ' : Mem} {pc : Nat} {lv : Lv} {st : List Value}
theorem K_iretW {v : Int32} (hdg : decode cc pc = .ok (.ireturn, 1)) : K l G R own cc nL (some .int) X (ZW G v μ) μ pc lv [.int v] := by
  intro p e s m args below meth c H locs ls C hR hS hl
  exact W.widen (Nat.zero_le _) (Nat.zero_le _) (W.iret C.1 C.2.1 C.2.2.2.1 (fun t ht hW => ⟨⟨_, μ, rfl, ⟨rfl, rfl⟩, by rw [ht]; exact hR⟩, hS.F ht⟩) hS.2.2 hdg C.2.2.2.2.1)
theorem J_iretW {Ev' : State → Prop} {X' : Method → Code → Prop} {v : Int32} (hdg : decode cc pc = .ok (.ireturn, 1)) : J l R own cc nL (some .int) Ev' X' (AG G) (ZW G v μ) 1 6 (Rep G μ) pc lv [.int v] := by
  intro p e s m args below meth c H locs ls C hR hS hl
  exact W.iret C.1 C.2.1 C.2.2.2.1 (fun t ht hW => ⟨⟨_, μ, rfl, ⟨rfl, rfl⟩, by rw [ht]; exact hR⟩, hS.F ht⟩) hS.2.2 hdg C.2.2.2.2.1
theorem dm_21 : dm 21 0 0 := Or.inr (Or.inr ⟨Or.inr ⟨by decide, by decide⟩, rfl, rfl⟩)
theorem dm_0 : dm 0 0 0 := Or.inr (Or.inr ⟨Or.inl (by decide), rfl, rfl⟩)
theorem dm_15 : dm 15 0 0 := Or.inr (Or.inr ⟨Or.inr ⟨by decide, by decide⟩, rfl, rfl⟩)
theorem K_lastore {x : Int64} (hdg : decode cc pc = .ok (.lastore, 1)) (kk : K l G R own cc nL ret X Z (mlset μ 1 x) (pc + 1) lv st) : K l G R own cc nL ret X Z μ pc lv (.long x :: .int (nI 0) :: .ref (adr G 21 0 0) :: st) := by
  intro p' e s m args below meth c H locs ls C' hR hS hl
  have hK := C'.2.2.2.2.2.2.2.1.1
  have h0 : va_at G.1 vwCl (adr G 21 0 0, .inl (G.2.1 3, 1, .inr (.inl (fun j => μ.2 (j + 1))))) H := hR.1 21 0 0 dm_21
  have hin : vp_in (nI 0) 1 := vp_inN (by decide) (by decide)
  refine W.last C'.1 C'.2.1 h0 ((hK.2 3 _ rfl).1 1 (fun j => .long (μ.2 (j + 1)))) (fun q => by cases q) (by show ¬ (_ < 0 ∨ (arrV _ _ _).slots.size ≤ _); rw [arrV_size]; exact hin) rfl rfl hdg fun H1 e1 z oq => ?_
  refine kk p' e s m args below meth c H1 _ ls C' (hR.lset dm_21 (Or.inr ⟨Nat.le_refl _, Nat.le_refl _⟩) ?_ oq) (hS.put z oq (AG_in dm_21)) hl
  show H1[adr G 21 0 0]? = some (vp_cell (G.2.1 3) (1, .inr (.inl (fun j => (mlset μ 1 x).2 (j + 1)))))
  rw [e1, vp_cell_l, vp_cell_l, arrV_store, nI_clamp (by omega)]
  congr 2
  funext q
  by_cases hq : q = 0
  · subst hq
    simp [updV, mlset]
  · simp [updV, mlset, hq]
theorem K_catchV {d' idx maxL N : Nat} {y : MethodName} {bytes : ByteArray} {ret' : Option FieldType} {As rest : List Value} {E : String} {T : u_T} {hh pre suf : List (Nat × Nat × Nat × Nat)} (x : Nat × Nat × Nat × Nat) (hC : CtT l G d' y bytes maxL ret' (.ref (adr G 0 0 0) :: As) μ E μ') (hm : MkV y bytes maxL ret' As.length) (hlink : Cond.methodLink own idx y ∈ UW) (hd : d' + 1 ≤ R.frames ∧ 8 + (maxL + 11) + 34 * d' ≤ R.locals) (hroom : 1 ≤ R.cells ∧ 6 ≤ R.slots) (hcl : vwCl[3]? = some (y.cls, T, N)) (hst : st = As.reverse ++ .ref (adr G 0 0 0) :: rest) (hW : (rest.map fun v => v.category).sum ≤ 8) (hdg : decode cc pc = .ok (.invokevirtual idx, 3))
    (hh0 : hh = pre ++ x :: suf) (hpre : ∀ z ∈ pre, z.2.2.2 ≠ 0 ∧ ∃ nm, Cond.classLink own z.2.2.2 nm ∈ UW ∧ (E, nm) ∈ nwNC) (hx : covers ⟨x.1, x.2.1, x.2.2.1, x.2.2.2⟩ pc = true) (h0 : x.2.2.2 ≠ 0) (hlk : Cond.classLink own x.2.2.2 E ∈ UW) (hc : (E, E) ∈ nwC)
    (kk : ∀ q, J l R own cc nL ret (Ev G) (fun _ c => XT hh c) (AG G) Z 1 6 (Rep G μ') x.2.2.1 lv [.ref q]) : K l G R own cc nL ret (XT hh) Z μ pc lv st := by
  intro p' e s m args below meth c H locs ls C' hR hS hl
  have hE := C'.2.2.2.2.2.2.2.1
  have hts := C'.2.2.2.2.2.2.1
  have hX := C'.2.2.2.2.2.2.2.2
  refine K_afterT hS (K_runVT C' hR hS hl hC hm hlink hd hroom dm_0 rfl hcl hst hW hdg) fun H1 locs1 ce q hRep hS1 hce hcv hcl1 => ?_
  refine vx_catch C'.2.2.2.2.2.1 (tableOf pre) ⟨x.1, x.2.1, x.2.2.1, x.2.2.2⟩ (tableOf suf) (by rw [hX, hh0]; simp [tableOf]) ?_ hx h0 (hts _ hlk) (va_Nw.use rfl (hE.2.1.2.2.1 _ hc)) hce hcv hcl1 ?_
  · intro z hz
    obtain ⟨z0, hz0, rfl⟩ := List.mem_map.mp hz
    obtain ⟨h1, nm, h2, h3⟩ := hpre z0 hz0
    exact Or.inr ⟨h1, nm, hts _ h2, hE.2.1.2.2.2.2 _ h3⟩
  · exact kk q p' e s m args below meth c H1 locs1 ls C' hRep hS1 hl
end WROWS
