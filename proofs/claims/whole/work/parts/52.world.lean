/-! ===== the world while it is built: n cells from b0 on ===== -/
def AB (b0 : Nat) : Nat → Prop := fun q => b0 ≤ q
def upw (w : Nat → va_E) (k : Nat) (x : va_E) : Nat → va_E := fun q => if q = k then x else w q
def HI (G : WG) (b0 n : Nat) (w : Nat → va_E) (H : Heap) : Prop := H.size = b0 + n ∧ ∀ j, j < n → va_at G.1 vwCl (b0 + j, w j) H
theorem HI.push {G : WG} {b0 n : Nat} {w : Nat → va_E} {H H1 : Heap} {x : va_E} (h : HI G b0 n w H) (z : H1.size = H.size + 1) (o : ∀ q : Nat, q < H.size → H1[q]? = H[q]?) (hx : va_at G.1 vwCl (b0 + n, x) H1) : HI G b0 (n + 1) (upw w n x) H1 := by
  refine ⟨by rw [z, h.1]; omega, fun j hj => ?_⟩
  by_cases e : j = n
  · subst e
    rw [show upw w j x j = x from if_pos rfl]
    exact hx
  · rw [show upw w n x j = w j from if_neg e]
    exact (h.2 j (by omega)).kept (o _ (by rw [h.1]; show b0 + j < _; omega))
theorem HI.set {G : WG} {b0 n j : Nat} {w : Nat → va_E} {H H1 : Heap} {x : va_E} (h : HI G b0 n w H) (z : H1.size = H.size) (o : ∀ q : Nat, q ≠ b0 + j → H1[q]? = H[q]?) (hx : va_at G.1 vwCl (b0 + j, x) H1) : HI G b0 n (upw w j x) H1 := by
  refine ⟨z.trans h.1, fun i hi => ?_⟩
  by_cases e : i = j
  · subst e
    rw [show upw w i x i = x from if_pos rfl]
    exact hx
  · rw [show upw w j x i = w i from if_neg e]
    exact (h.2 i hi).kept (o _ (by show b0 + i ≠ b0 + j; omega))
theorem HI.one {G : WG} {b0 n j : Nat} {w : Nat → va_E} {H : Heap} {x : va_E} (h : HI G b0 n w H) (hj : j < n) (hw : w j = x) : va_P G.1 vwCl [(b0 + j, x)] H := by
  intro k q hq
  have hz : k < 1 := (List.getElem?_eq_some_iff.mp hq).1
  rw [show k = 0 by omega] at hq
  cases hq
  subst hw
  exact h.2 j hj
/-- a static array of four ints, as the class initialiser left it -/
def SF (G : WG) (b0 : Nat) (nm : String) (f : Nat → Int32) (U : State) : Prop := ∃ a : Nat, va_Z "LevyPhases" nm "[I" (.ref a) (AB b0) U U.heap ∧ U.heap[a]? = some (vp_cell (G.2.1 0) (4, .inl f)) ∧ ¬ AB b0 a
def SFx (G : WG) (b0 : Nat) (nm : String) (f : Nat → Int32) (U : State) : Prop := ∃ (a : Nat) (cell : Cell), va_Z "LevyPhases" nm "[I" (.ref a) (AB b0) U U.heap ∧ U.heap[a]? = some cell ∧ (∀ k, cell.vm ≠ .statics k) ∧ cell.vm ≠ .unknown ∧ cell.cls = G.2.1 0 ∧ cell.slots = (vp_cell (G.2.1 0) (4, .inl f)).slots ∧ ¬ AB b0 a
def firR (j : Nat) : Int32 := match j with
  | 0 => 100
  | 1 => 60
  | 2 => 30
  | _ => 0
def firS (j : Nat) : Int32 := match j with
  | 0 => 60
  | 1 => 5
  | 2 => 700
  | _ => 50
def nwF : List (Nat × String) := [(18, "FIRST_RATES"), (30, "FIRST_SETTINGS")]
def EvB (G : WG) (b0 : Nat) (U : State) : Prop := va_K G.1 vwCl (tysG G) U ∧ b0 ≤ U.heap.size ∧ va_Nw (.castable "[I" "java/lang/Cloneable") U ∧ (∀ q ∈ nwF, va_Nw (.fieldLinkNest "LevyPhases$Levy" q.1 "LevyPhases" q.2 "[I" "LevyPhases") U) ∧ (va_AO "LevyPhases$Phase" U ∧ va_AO "LevyPhases$Levy" U) ∧ SFx G b0 "FIRST_RATES" firR U ∧ SFx G b0 "FIRST_SETTINGS" firS U
theorem SFx.go {G : WG} {b0 : Nat} {nm : String} {f : Nat → Int32} {s U : State} (h : SFx G b0 nm f s) (hal : s.vm.Alike U.vm) (hk : ∀ q : Nat, q < s.heap.size → ¬ AB b0 q → U.heap[q]? = s.heap[q]?) : SFx G b0 nm f U := by
  obtain ⟨a, cell, h1, h2, h3⟩ := h
  exact ⟨a, cell, (h1.moved hal).kept hk, (hk a (Array.getElem?_eq_some_iff.mp h2).1 h3.2.2.2.2).trans h2, h3⟩
theorem EvB.go {G : WG} {b0 : Nat} {s U : State} {locs : List Loc} (h : EvB G b0 s) (hW : s.WarmedH U.vm) (hS : va_S (AB b0) s.heap U.heap locs) : EvB G b0 U := by
  obtain ⟨h1, h2, h3, h4, ⟨h5, h6⟩, h7, h8⟩ := h
  exact ⟨h1.moved hW.alike, Nat.le_trans h2 hS.1, va_Nw.warmC hW h3, fun q hq => va_Nw.warmF hW (h4 q hq), ⟨h5.moved hW.alike, h6.moved hW.alike⟩, h7.go hW.alike hS.2.1, h8.go hW.alike hS.2.1⟩
theorem va_Nw.same' {w : Cond} (hw : w.onTables = true) {u U : State} (h : va_Nw w u) (hv : u.vm = U.vm) : va_Nw w U := va_Nw.same hw hv h
theorem EvB.same {G : WG} {b0 : Nat} {u U : State} (h : EvB G b0 u) (hv : u.vm = U.vm) (hh : U.heap = u.heap) : EvB G b0 U := by
  obtain ⟨h1, h2, h3, h4, ⟨h5, h6⟩, h7, h8⟩ := h
  have hal : u.vm.Alike U.vm := by rw [hv]; exact Vm.Alike.refl _
  have hk : ∀ q : Nat, q < u.heap.size → ¬ AB b0 q → U.heap[q]? = u.heap[q]? := fun q _ _ => by rw [hh]
  exact ⟨h1.moved hal, by rw [hh]; exact h2, va_Nw.same rfl hv h3, fun q hq => va_Nw.same rfl hv (h4 q hq), ⟨h5.moved hal, h6.moved hal⟩, h7.go hal hk, h8.go hal hk⟩
def PcB (G : WG) (b0 n : Nat) (w : Nat → va_E) (av : List Value) : Array Value → State → Prop := fun v U => v = av.toArray ∧ HI G b0 n w U.heap ∧ EvB G b0 U
def QcB (G : WG) (b0 : Nat) (Q : Nat → (Nat → va_E) → Prop) : Array Value → State → Outcome → State → Prop := fun _ st o t => (∃ n' w', o = .returned none ∧ Q n' w' ∧ HI G b0 n' w' t.heap) ∧ va_F (AB b0) st t
def rmB (d mc ms : Nat) : Room := { frames := d, cells := mc, slots := ms, locals := 34 * d }
def CtB (l : Launch) (G : WG) (b0 d mc ms : Nat) (y : MethodName) (cc : ByteArray) (nL : Nat) (av : List Value) (n : Nat) (w : Nat → va_E) (Q : Nat → (Nat → va_E) → Prop) : Prop :=
  Met l y (.code y cc nL none :: UW) (rmB d mc ms) (PcB G b0 n w av) (QcB G b0 Q) mc ms (AB b0)
def XB (meth : Method) (_ : Code) : Prop := meth.name = "<init>"
def ZB (G : WG) (b0 mc ms : Nat) (Q : Nat → (Nat → va_E) → Prop) : Zz := fun below args s => MQ below (QcB G b0 Q) args s mc ms (AB b0)
abbrev JB (l : Launch) (G : WG) (b0 : Nat) (R : Room) (own : String) (cc : ByteArray) (nL : Nat) (ret : Option FieldType) (X : Method → Code → Prop) (Z : Zz) (nc ns n : Nat) (w : Nat → va_E) (pc : Nat) (lv : Lv) (st : List Value) : Prop := J l R own cc nL ret (EvB G b0) X (AB b0) Z nc ns (HI G b0 n w) pc lv st
theorem CtB_of {l : Launch} {G : WG} {b0 d mc ms : Nat} {y : MethodName} {cc : ByteArray} {nL : Nat} {av : List Value} {n : Nat} {w : Nat → va_E} {Q : Nat → (Nat → va_E) → Prop} (hy : plainName y.cls = true) (hi : y.name = "<init>") (hn : (lg_sl av).length ≤ nL)
    (k : JB l G b0 (rmB d mc ms) y.cls cc nL none XB (ZB G b0 mc ms Q) 0 0 n w 0 (lv_args 0 av) []) : CtB l G b0 d mc ms y cc nL av n w Q := by
  refine Met.ofW (cc := cc) (maxL := nL) (ret := none) hy rfl ?_
  intro p e s m args below meth c s₁ B hml hv
  obtain ⟨rfl, hR, hE⟩ := hv
  have hts := atoms_spec (ws := (Cond.code y cc nL none :: UW)) B.pre
  rw [lg_entry_eq]
  exact k p e s m av.toArray below meth c s.heap [] _ ⟨B.exec, B.bytes, hml, B.returns, B.notSynchronized, findClass_of_methodNamed B.named, fun w hw => hts w (List.mem_cons_of_mem _ hw), hE, (name_of_methodNamed B.named B.method).1.trans hi⟩ hR va_S.rf (lv_entry av hn)
section BROWS
variable {l : Launch} {G : WG} {b0 : Nat} {R : Room} {own : String} {cc : ByteArray} {nL : Nat} {ret : Option FieldType} {X : Method → Code → Prop} {Z : Zz} {nc ns n : Nat} {w : Nat → va_E} {pc : Nat} {lv : Lv} {st : List Value}
theorem B_new {idx ci N : Nat} {C : String} {T : u_T} {fs : List Value} (hdg : decode cc pc = .ok (.new idx, 3)) (hcl : vwCl[ci]? = some (C, T, N)) (hin : ∀ w ∈ u_ws C T N, w ∈ UW) (ty : Nat → FieldType) (hty : ∀ k, k < N → parseFieldDescriptor (T k).2.2.1 = some (ty k)) (hk : Cond.classLink own idx C ∈ UW) (hi : Cond.instantiable C N ∈ UW) (hini : Cond.initialized C ∈ UW) (hfs : ∀ j, j < N → defaultValue (ty j) = vp_V fs j) (hcells : nc + 1 ≤ R.cells) (hslots : ns + N ≤ R.slots)
    (kk : JB l G b0 R own cc nL ret X Z (nc + 1) (ns + N) (n + 1) (upw w n (.inr (ci, fs))) (pc + 3) lv (.ref (b0 + n) :: st)) : JB l G b0 R own cc nL ret X Z nc ns n w pc lv st := by
  intro p e s m args below meth c H locs ls C' hR hS hl
  have hts := C'.2.2.2.2.2.2.1
  have hE := C'.2.2.2.2.2.2.2.1
  have hKn := hE.1.1 ci _ hcl
  refine W.newcK C'.1 C'.2.1 C'.2.2.2.2.2.1 (hts _ hk) (hts _ hi) (hts _ hini) rfl hdg hcells hslots hKn.2.1 hR.1 fun H1 kC hkC e1 z1 o1 => ?_
  refine kk p e s m args below meth c H1 locs ls C' (hR.push (by rw [z1, hR.1]) (fun q hq => o1 q (by rw [← hR.1]; exact hq)) ⟨_, hcl, (u_born ty hts hin hKn hkC e1 hty).to hfs⟩) ⟨Nat.le_trans hS.1 (by rw [z1, hR.1]; omega), fun x h1 h2 => (o1 x (by rw [← hR.1]; exact Nat.lt_of_lt_of_le h1 hS.1)).trans (hS.2.1 x h1 h2), hS.2.2⟩ hl
theorem B_newI {N : Nat} (hdg : decode cc pc = .ok (.newarray .int, 2)) (hw : Cond.arrayClass .int ∈ UW) (hN : N < 100000) (hcells : nc + 1 ≤ R.cells) (hslots : ns + N ≤ R.slots)
    (kk : JB l G b0 R own cc nL ret X Z (nc + 1) (ns + N) (n + 1) (upw w n (.inl (G.2.1 0, N, .inl (fun _ => 0)))) (pc + 2) lv (.ref (b0 + n) :: st)) : JB l G b0 R own cc nL ret X Z nc ns n w pc lv (.int (nI N) :: st) := by
  intro p e s m args below meth c H locs ls C' hR hS hl
  have hts := C'.2.2.2.2.2.2.1
  have hE := C'.2.2.2.2.2.2.2.1
  refine va_newaK (atype := .int) C'.1 C'.2.1 (hts _ hw) rfl hdg rfl (fun q => (vp_inN (n := N + 1) (Nat.lt_succ_self N) (by omega)) (Or.inl q)) (nI_clamp (by omega)) (by show N * 4 ≤ _; omega) hcells hslots hR.1 fun H1 cA e1 z1 o1 hAr hNm => ?_
  have hc : cA = G.2.1 0 := Option.some.inj (hNm.symm.trans (hE.1.2 0 _ rfl).2)
  subst hc
  exact kk p e s m args below meth c H1 locs ls C' (hR.push (by rw [z1, hR.1]) (fun q hq => o1 q (by rw [← hR.1]; exact hq)) e1) ⟨Nat.le_trans hS.1 (by rw [z1, hR.1]; omega), fun x h1 h2 => (o1 x (by rw [← hR.1]; exact Nat.lt_of_lt_of_le h1 hS.1)).trans (hS.2.1 x h1 h2), hS.2.2⟩ hl
theorem B_newL {N : Nat} (hdg : decode cc pc = .ok (.newarray .long, 2)) (hw : Cond.arrayClass .long ∈ UW) (hN : N < 100000) (hcells : nc + 1 ≤ R.cells) (hslots : ns + N ≤ R.slots)
    (kk : JB l G b0 R own cc nL ret X Z (nc + 1) (ns + N) (n + 1) (upw w n (.inl (G.2.1 3, N, .inr (.inl (fun _ => 0))))) (pc + 2) lv (.ref (b0 + n) :: st)) : JB l G b0 R own cc nL ret X Z nc ns n w pc lv (.int (nI N) :: st) := by
  intro p e s m args below meth c H locs ls C' hR hS hl
  have hts := C'.2.2.2.2.2.2.1
  have hE := C'.2.2.2.2.2.2.2.1
  refine va_newaK (atype := .long) C'.1 C'.2.1 (hts _ hw) rfl hdg rfl (fun q => (vp_inN (n := N + 1) (Nat.lt_succ_self N) (by omega)) (Or.inl q)) (nI_clamp (by omega)) (by show N * 8 ≤ _; omega) hcells hslots hR.1 fun H1 cA e1 z1 o1 hAr hNm => ?_
  have hc : cA = G.2.1 3 := Option.some.inj (hNm.symm.trans (hE.1.2 3 _ rfl).2)
  subst hc
  exact kk p e s m args below meth c H1 locs ls C' (hR.push (by rw [z1, hR.1]) (fun q hq => o1 q (by rw [← hR.1]; exact hq)) e1) ⟨Nat.le_trans hS.1 (by rw [z1, hR.1]; omega), fun x h1 h2 => (o1 x (by rw [← hR.1]; exact Nat.lt_of_lt_of_le h1 hS.1)).trans (hS.2.1 x h1 h2), hS.2.2⟩ hl
theorem B_newQ {N idx t0 : Nat} {C : String} (hdg : decode cc pc = .ok (.anewarray idx, 3)) (hk : Cond.classLink own idx C ∈ UW) (ht : (tysG G)[t0]? = some (G.2.1 t0, .object C)) (hA : ∀ U, EvB G b0 U → va_AO C U) (hN : N < 100000) (hcells : nc + 1 ≤ R.cells) (hslots : ns + N ≤ R.slots)
    (kk : JB l G b0 R own cc nL ret X Z (nc + 1) (ns + N) (n + 1) (upw w n (.inl (G.2.1 t0, N, .inr (.inr (.inr (.inr (fun _ => none))))))) (pc + 3) lv (.ref (b0 + n) :: st)) : JB l G b0 R own cc nL ret X Z nc ns n w pc lv (.int (nI N) :: st) := by
  intro p e s m args below meth c H locs ls C' hR hS hl
  have hts := C'.2.2.2.2.2.2.1
  have hE := C'.2.2.2.2.2.2.2.1
  have hcl : (nI N).toNatClampNeg = N := nI_clamp (by omega)
  refine W.anew C'.1 C'.2.1 C'.2.2.2.2.2.1 (hts _ hk) (va_AO.use (hA s hE)) rfl hdg rfl (fun q => (vp_inN (n := N + 1) (Nat.lt_succ_self N) (by omega)) (Or.inl q)) (by rw [hcl]; omega) hcells (by rw [hcl]; exact hslots) fun cA kA comp f1 f2 f3 f4 => ?_
  rw [hcl]
  have hc : cA = G.2.1 t0 := by
    obtain ⟨_, _, _, _, _, g5⟩ := (hE.1.2 t0 _ ht).2
    exact Option.some.inj (f1.symm.trans g5)
  subst hc
  generalize hH1 : H.push ({ cls := G.2.1 t0, slots := Array.replicate N .null, vm := .none } : Cell) = H1
  have z1 : H1.size = H.size + 1 := by rw [← hH1, Array.size_push]
  have e1 : H1[H.size]? = some (arrV (G.2.1 t0) N (fun _ => .null)) := by rw [← hH1, Array.getElem?_push_size, ← arrV_new]
  have o1 : ∀ q : Nat, q < H.size → H1[q]? = H[q]? := fun q hq => by rw [← hH1, Array.getElem?_push, if_neg (Nat.ne_of_lt hq)]
  have hz := hR.1
  rw [show (Value.ref H.size) = .ref (b0 + n) by rw [hz]]
  exact kk p e s m args below meth c H1 locs ls C' (hR.push z1 o1 (by show H1[b0 + n]? = some (vp_cell _ _); rw [vp_cell_q, ← hz]; exact e1)) ⟨Nat.le_trans hS.1 (by omega), fun x h1 h2 => (o1 x (Nat.lt_of_lt_of_le h1 hS.1)).trans (hS.2.1 x h1 h2), hS.2.2⟩ hl
theorem HI.put {H H' : Heap} {locs : List Loc} {H0 : Heap} {j k : Nat} (hS : va_S (AB b0) H0 H locs) (z : H'.size = H.size) (o : ∀ q : Nat, q ≠ b0 + j → H'[q]? = H[q]?) : va_S (AB b0) H0 H' (locs ++ [⟨b0 + j, k⟩]) := hS.put z o (show b0 ≤ b0 + j by omega)
end BROWS
