theorem PcB_blind {G : WG} {b0 n : Nat} {w : Nat → va_E} {av : List Value} : FrameBlind (PcB G b0 n w av) := fun _ _ _ _ q => ⟨q.1, q.2.1, q.2.2.same rfl rfl⟩
section BROW3
variable {l : Launch} {G : WG} {b0 : Nat} {R : Room} {own : String} {cc : ByteArray} {nL : Nat} {ret : Option FieldType} {X : Method → Code → Prop} {Z : Zz} {nc ns n : Nat} {w : Nat → va_E} {pc : Nat} {lv : Lv} {st : List Value}
theorem B_call {d' idx maxL mc ms j : Nat} {y : MethodName} {bytes : ByteArray} {Q : Nat → (Nat → va_E) → Prop} (hC : CtB l G b0 d' mc ms y bytes maxL [.ref (b0 + j)] n w Q) (hm : Cond.instanceMethod y ∈ UW ∧ Cond.initialized y.cls ∈ UW ∧ Cond.code y bytes maxL none ∈ UW ∧ y.name = "<init>" ∧ y.cls ≠ "java/lang/invoke/MethodHandle" ∧ y.cls ≠ "java/lang/invoke/VarHandle" ∧ (parseMethodDescriptor y.desc).map (fun d => d.parameters.length) = some 0) (hlink : Cond.methodLink own idx y ∈ UW) (hd : d' + 1 ≤ R.frames ∧ 8 + (maxL + 11) + 34 * d' ≤ R.locals) (hW : (st.map fun v => v.category).sum ≤ 8) (hf : nc + mc ≤ R.cells ∧ ns + ms ≤ R.slots) (hdg : decode cc pc = .ok (.invokespecial idx, 3))
    (kk : ∀ n' w', Q n' w' → JB l G b0 R own cc nL ret X Z (nc + mc) (ns + ms) n' w' (pc + 3) lv st) : JB l G b0 R own cc nL ret X Z nc ns n w pc lv (.ref (b0 + j) :: st) := by
  intro p e s m args below meth c H locs ls C' hR hS hl
  have hts := C'.2.2.2.2.2.2.1
  have hE := C'.2.2.2.2.2.2.2.1
  obtain ⟨m1, m2, m3, m4, m5, m6, m7⟩ := hm
  have hr := va_runI (As := []) (rest := st) (g := F0 m pc ls (.ref (b0 + j) :: st)) (cells := nc) (slots := ns) (below := below) (locs := locs) (e := e) (meth := meth) ⟨C'.1, C'.2.1, C'.2.2.1, C'.2.2.2.2.2.1, hts⟩ hC (cwI (R := R) 0 hts (UW_in (UW_cons m3)) rfl rfl rfl (hts _ m2) (hts _ hlink) (hts _ m1) m4 ⟨m5, m6, m7⟩ hd) ⟨PcB_blind, fun U hU hW => ⟨rfl, by rw [hU]; exact hR, hE.go hW (by rw [hU]; exact hS)⟩⟩ rfl rfl hl.1 rfl (lv_room hW) hdg hf
  intro T hT X0
  obtain ⟨v, st₀, t, T', L, h0, X', hL, e1, e2, ⟨⟨n1, w1, ho, hQ, hHI⟩, hF⟩, stp⟩ := hr T hT X0
  cases ho
  obtain ⟨t2, a1, b1⟩ := kk n1 w1 hQ p e s m args below meth c T'.heap (locs ++ L) ls C' (by rw [e1]; exact hHI) (va_S_go hS h0 e1 hF hL) hl T' rfl X'
  exact ⟨t2, stp t2 a1, b1⟩
theorem B_sclone {idx idx2 : Nat} {nm : String} {f : Nat → Int32} (hdg : decode cc pc = .ok (.getstatic idx, 3)) (hdg2 : decode cc (pc + 3) = .ok (.invokevirtual idx2, 3)) (hF : (idx, nm) ∈ nwF) (hown : own = "LevyPhases$Levy") (hSF : ∀ U, EvB G b0 U → SFx G b0 nm f U)
    (hlink : Cond.methodLink own idx2 ⟨"[I", "clone", "()Ljava/lang/Object;"⟩ ∈ UW) (hsame : Cond.sameMethod "[I" "java/lang/Object" "clone" "()Ljava/lang/Object;" ∈ UW) (hnat : Cond.native ⟨"java/lang/Object", "clone", "()Ljava/lang/Object;"⟩ ∈ UW) (hinst : Cond.instanceMethod ⟨"java/lang/Object", "clone", "()Ljava/lang/Object;"⟩ ∈ UW) (hsel : Cond.selects "[I" ⟨"[I", "clone", "()Ljava/lang/Object;"⟩ ⟨"java/lang/Object", "clone", "()Ljava/lang/Object;"⟩ ∈ UW)
    (hframes : 1 ≤ R.frames) (hlocals : (st.map fun v => v.category).sum + 14 ≤ R.locals) (hcells : nc + 1 ≤ R.cells) (hslots : ns + 4 ≤ R.slots)
    (kk : JB l G b0 R own cc nL ret X Z (nc + 1) (ns + 4) (n + 1) (upw w n (.inl (G.2.1 0, 4, .inl f))) (pc + 3 + 3) lv (.ref (b0 + n) :: st)) : JB l G b0 R own cc nL ret X Z nc ns n w pc lv st := by
  intro p e s m args below meth c H locs ls C' hR hS hl
  have hts := C'.2.2.2.2.2.2.1
  have hE := C'.2.2.2.2.2.2.2.1
  obtain ⟨a, cell, hZ, ha, hobj, hkn, hcls, hsl, hout⟩ := hSF s hE
  have hK := hE.1
  have hnw := hE.2.2.2.1 _ hF
  subst hown
  refine va_getsN C'.1 C'.2.1 hZ hS C'.2.2.2.2.2.1 (va_Nw.use rfl hnw) (fun _ h => h) hdg ?_
  obtain ⟨c0, t0', f1, f2, f3⟩ := Cond.castable_spec (va_Nw.use (A := args) rfl hE.2.2.1)
  have hnm : s.vm.findClass "[I" = some (G.2.1 0) := (hK.2 0 _ rfl).2
  cases hnm.symm.trans f1
  intro T hT X
  have haH : H[a]? = some cell := (hS.2.1 a (Array.getElem?_eq_some_iff.mp ha).1 hout).trans ha
  have hcellT : T.heap[a]? = some cell := by rw [hT]; exact haH
  obtain ⟨-, kA, hkA, comp, hkind⟩ := State.isArrayOf_alike X.warmed.alike ((hK.2 0 _ rfl).1 0 (fun _ => .null))
  obtain ⟨-, kS, hkS, compS, hkindS⟩ := (hK.2 0 _ rfl).1 0 (fun _ => .null)
  have hsz : cell.slots.size = 4 := by rw [hsl, vp_cell_i]; exact arrV_size _ _ _
  obtain ⟨vm', X', stp⟩ := X.cloneArray C'.1 C'.2.2.2.2.2.1 (hts _ hlink) (hts _ hsame) (hts _ hnat) (hts _ hinst) (hts _ hsel) (a := a) (cell := cell) hcellT hobj hkn (by rw [hcls]; exact hnm) f2 (by rw [hcls]; exact f3)
    (fun i v hv => by
      rw [hcls]
      have hk' : T.vm.classes[G.2.1 0]? = some kA := hkA
      rw [hsl, vp_cell_i] at hv
      have hv2 : ∃ x, v = .int x := by
        unfold arrV at hv
        rw [Array.getElem?_ofFn] at hv
        split at hv
        · cases hv; exact ⟨_, rfl⟩
        · cases hv
      obtain ⟨x, rfl⟩ := hv2
      have hf : fits .int (.int x) = true := rfl
      simpa [State.fitsSlot, State.slotType?, hk', hkind] using hf)
    (g := F0 m (pc + 3) ls (.ref a :: st)) rfl (hl.1.trans C'.2.2.1.symm) rfl (by rw [C'.2.1]; exact hdg2) hframes (by show 2 * 0 + _ + 14 ≤ _; omega) hcells (by rw [hsz]; exact hslots) (hloader := by rw [hcls]; exact Vm.clonesLoader_of_array hkS hkindS)
  have hcellE : ({ cls := cell.cls, slots := cell.slots } : Cell) = vp_cell (G.2.1 0) (4, .inl f) := by rw [hcls, hsl]; rfl
  rw [hcellE, hsz] at X'
  generalize hH1 : H.push (vp_cell (G.2.1 0) (4, .inl f)) = H1
  have z1 : H1.size = H.size + 1 := by rw [← hH1, Array.size_push]
  have e1 : H1[H.size]? = some (vp_cell (G.2.1 0) (4, .inl f)) := by rw [← hH1, Array.getElem?_push_size]
  have o1 : ∀ q : Nat, q < H.size → H1[q]? = H[q]? := fun q hq => by rw [← hH1, Array.getElem?_push, if_neg (Nat.ne_of_lt hq)]
  have hz := hR.1
  obtain ⟨t, b1, b2⟩ := kk p e s m args below meth c H1 locs ls C' (hR.push z1 o1 (by show H1[b0 + n]? = some (vp_cell _ _); rw [← hz]; exact e1)) ⟨Nat.le_trans hS.1 (by omega), fun y h1 h2 => (o1 y (Nat.lt_of_lt_of_le h1 hS.1)).trans (hS.2.1 y h1 h2), hS.2.2⟩ hl
    ((T.setVm vm').pushCell (vp_cell (G.2.1 0) (4, .inl f))) (by rw [← hH1, ← hT]; rfl) X'
  refine ⟨t, stp t ?_, b2⟩
  rw [hcellE, hT, hz]
  exact b1
end BROW3
