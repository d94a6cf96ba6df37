section BROW2
variable {l : Launch} {G : WG} {b0 : Nat} {R : Room} {own : String} {cc : ByteArray} {nL : Nat} {ret : Option FieldType} {X : Method → Code → Prop} {Z : Zz} {nc ns n : Nat} {w : Nat → va_E} {pc : Nat} {lv : Lv} {st : List Value}
theorem B_put {j ci idx k N : Nat} {C : String} {T : u_T} {fs : List Value} {v : Value} {ty : FieldType} (hdg : decode cc pc = .ok (.putfield idx, 3)) (hcl : vwCl[ci]? = some (C, T, N)) (hin : ∀ w ∈ u_ws C T N, w ∈ UW) (ty0 : Nat → FieldType) (hty : ∀ k, k < N → parseFieldDescriptor (T k).2.2.1 = some (ty0 k)) (hnm : ∀ a, a < N → ∀ b, b < N → a ≠ b → (T a).2.1 ≠ (T b).2.1) (hlink : Cond.fieldLink own idx (T k).1 (T k).2.1 (T k).2.2.1 ∈ UW) (hk : k < N) (hfin : (T k).2.2.2 = false) (hd0 : parseFieldDescriptor (T k).2.2.1 = some ty) (hn : narrow ty v = v) (hfit : fits ty v = true) (hlen : k < fs.length)
    (hj : j < n) (hw : w j = .inr (ci, fs)) (kk : JB l G b0 R own cc nL ret X Z nc ns n (upw w j (.inr (ci, fs.set k v))) (pc + 3) lv st) : JB l G b0 R own cc nL ret X Z nc ns n w pc lv (v :: .ref (b0 + j) :: st) := by
  intro p' e s m args below meth c H locs ls C' hR hS hl
  have hts := C'.2.2.2.2.2.2.1
  have hown := C'.2.2.2.2.2.1
  have hK := C'.2.2.2.2.2.2.2.1.1
  have hap := va_apart (own := own) hts hin ty0 hty hnm hK hcl
  have h0 := hR.2 j hj
  rw [hw] at h0
  obtain ⟨r, h1, cell, q1, q2, q3, q4⟩ := h0
  have hr : r = (C, T, N) := Option.some.inj (h1.symm.trans hcl)
  subst hr
  obtain ⟨hSl, hfc, kC, hkC, hkind⟩ := hK.1 ci _ hcl
  obtain ⟨cf, kf, fi, f, hi, hsl⟩ := hSl k hk
  have hlay := hts _ (hin _ (u_in_lay hk))
  unfold u_lay at hlay
  rw [if_neg (by rw [hfin]; decide)] at hlay
  have hst := (u_facts hfc hkC (u_lays hts hin hk) hi).1
  have h6 := u_store hfc hkC hkind hlay hi hd0 hn hfit
  refine W.putK C'.1 C'.2.1 (f := f) ⟨hown, hts _ hlink, ⟨_, _, _, hi⟩, hst⟩ (by rw [q2]; exact h6) q1 q3 (by rw [hsl]; exact k2_hasslot (q4 k hk)) rfl rfl hdg fun H' e1 e2 e3 => ?_
  rw [hsl] at e1 ⊢
  exact kk p' e s m args below meth c H' _ ls C' (hR.set e2 e3 ⟨_, hcl, t_OB.to (V := updV (vp_V fs) k v) ⟨_, e1, q2, q3, t_set q4 hap hk v⟩ (fun j _ => vp_updV_set hlen v j)⟩) (HI.put hS e2 e3) hl
theorem B_putF {j ci idx k N : Nat} {C : String} {T : u_T} {fs : List Value} {v : Value} {ty : FieldType} (hX : ∀ a b, X a b → a.name = "<init>") (hdg : decode cc pc = .ok (.putfield idx, 3)) (hcl : vwCl[ci]? = some (C, T, N)) (hin : ∀ w ∈ u_ws C T N, w ∈ UW) (ty0 : Nat → FieldType) (hty : ∀ k, k < N → parseFieldDescriptor (T k).2.2.1 = some (ty0 k)) (hnm : ∀ a, a < N → ∀ b, b < N → a ≠ b → (T a).2.1 ≠ (T b).2.1) (hlink : Cond.fieldLink own idx (T k).1 (T k).2.1 (T k).2.2.1 ∈ UW) (hk : k < N) (hfin : (T k).2.2.2 = true) (hdecl : (T k).1 = own) (hd0 : parseFieldDescriptor (T k).2.2.1 = some ty) (hn : narrow ty v = v) (hfit : fits ty v = true) (hlen : k < fs.length)
    (hj : j < n) (hw : w j = .inr (ci, fs)) (kk : JB l G b0 R own cc nL ret X Z nc ns n (upw w j (.inr (ci, fs.set k v))) (pc + 3) lv st) : JB l G b0 R own cc nL ret X Z nc ns n w pc lv (v :: .ref (b0 + j) :: st) := by
  intro p' e s m args below meth c H locs ls C' hR hS hl
  have hts := C'.2.2.2.2.2.2.1
  have hown := C'.2.2.2.2.2.1
  have hK := C'.2.2.2.2.2.2.2.1.1
  have hap := va_apart (own := own) hts hin ty0 hty hnm hK hcl
  have h0 := hR.2 j hj
  rw [hw] at h0
  obtain ⟨r, h1, cell, q1, q2, q3, q4⟩ := h0
  have hr : r = (C, T, N) := Option.some.inj (h1.symm.trans hcl)
  subst hr
  obtain ⟨hSl, hfc, kC, hkC, hkind⟩ := hK.1 ci _ hcl
  obtain ⟨cf, kf, fi, f, hi, hsl⟩ := hSl k hk
  have hlay := hts _ (hin _ (u_in_lay hk))
  unfold u_lay at hlay
  rw [if_pos hfin] at hlay
  have hst := (u_facts hfc hkC (u_lays hts hin hk) hi).1
  have hcf : m.cls = cf := by
    obtain ⟨_, _, c', _, _, _, -, -, hf', -, -, -, hown2, -⟩ := Cond.laysFinal_spec hlay
    have e1 : c' = cf := by have := hi.symm.trans hf'; simp at this; exact this.1.symm
    rw [hdecl] at hown2
    rw [← e1]; exact Option.some.inj (hown.symm.trans hown2)
  have h6 := u_fits hfc hkC hkind (Or.inr hlay) hi hd0 hn hfit
  refine W.putFinK C'.1 C'.2.1 hown (hts _ hlink) hi hst hcf (hX _ _ C'.2.2.2.2.2.2.2.2) (by rw [q2]; exact h6) q1 q3 (by rw [hsl]; exact k2_hasslot (q4 k hk)) rfl rfl hdg fun H' e1 e2 e3 => ?_
  rw [hsl] at e1 ⊢
  exact kk p' e s m args below meth c H' _ ls C' (hR.set e2 e3 ⟨_, hcl, t_OB.to (V := updV (vp_V fs) k v) ⟨_, e1, q2, q3, t_set q4 hap hk v⟩ (fun j _ => vp_updV_set hlen v j)⟩) (HI.put hS e2 e3) hl
theorem B_get {j ci idx k N : Nat} {C : String} {T : u_T} {fs : List Value} {v : Value} (hdg : decode cc pc = .ok (.getfield idx, 3)) (hcl : vwCl[ci]? = some (C, T, N)) (hin : ∀ w ∈ u_ws C T N, w ∈ UW) (hlink : Cond.fieldLink own idx (T k).1 (T k).2.1 (T k).2.2.1 ∈ UW) (hk : k < N) (hj : j < n) (hw : w j = .inr (ci, fs)) (hv : fs[k]? = some v) (kk : JB l G b0 R own cc nL ret X Z nc ns n w (pc + 3) lv (v :: st)) : JB l G b0 R own cc nL ret X Z nc ns n w pc lv (.ref (b0 + j) :: st) := by
  intro p' e s m args below meth c H locs ls C' hR hS hl
  have hts := C'.2.2.2.2.2.2.1
  exact va_get C'.1 C'.2.1 hts hin C'.2.2.2.2.2.1 C'.2.2.2.2.2.2.2.1.1 (hR.one hj hw) 0 rfl hcl k hk (hts _ hlink) (fun _ h9 => h9) hv hdg (kk p' e s m args below meth c H locs ls C' hR hS hl)
theorem B_iast {j N i : Nat} {f : Nat → Int32} {x : Int32} (hdg : decode cc pc = .ok (.iastore, 1)) (hj : j < n) (hw : w j = .inl (G.2.1 0, N, .inl f)) (hN : N < 2 ^ 31) (hi : i < N) (kk : JB l G b0 R own cc nL ret X Z nc ns n (upw w j (.inl (G.2.1 0, N, .inl (upd f i x)))) (pc + 1) lv st) : JB l G b0 R own cc nL ret X Z nc ns n w pc lv (.int x :: .int (nI i) :: .ref (b0 + j) :: st) := by
  intro p' e s m args below meth c H locs ls C' hR hS hl
  have hK := C'.2.2.2.2.2.2.2.1.1
  have h0 := hR.2 j hj
  rw [hw] at h0
  have hin : vp_in (nI i) N := vp_inN hi hN
  refine W.iast C'.1 C'.2.1 h0 ((hK.2 0 _ rfl).1 N (fun j => .int (f j))) (fun q => by cases q) (by show ¬ (_ < 0 ∨ (arrV _ _ _).slots.size ≤ _); rw [arrV_size]; exact hin) rfl rfl hdg fun H1 e1 z oq => ?_
  refine kk p' e s m args below meth c H1 _ ls C' (hR.set z oq ?_) (HI.put hS z oq) hl
  show H1[b0 + j]? = some (vp_cell _ _)
  rw [e1, vp_cell_i, vp_cell_i, arrV_store, nI_clamp (by omega)]
  congr 2
  funext q
  by_cases hq : q = i
  · subst hq
    simp [updV, upd]
  · simp [updV, upd, hq]
theorem B_astq {j t0 qk ci N i : Nat} {r : vw_C} {vs : List Value} {f : Nat → Option Nat} (hdg : decode cc pc = .ok (.aastore, 1)) (hj : j < n) (hw : w j = .inl (G.2.1 t0, N, .inr (.inr (.inr (.inr f))))) (ht : (tysG G)[t0]? = some (G.2.1 t0, .object r.1)) (hq : qk < n) (hv : w qk = .inr (ci, vs)) (hc : vwCl[ci]? = some r) (hN : N < 2 ^ 31) (hi : i < N) (kk : JB l G b0 R own cc nL ret X Z nc ns n (upw w j (.inl (G.2.1 t0, N, .inr (.inr (.inr (.inr (va_up f i (some (b0 + qk)))))))))  (pc + 1) lv st) : JB l G b0 R own cc nL ret X Z nc ns n w pc lv (.ref (b0 + qk) :: .int (nI i) :: .ref (b0 + j) :: st) := by
  intro p' e s m args below meth c H locs ls C' hR hS hl
  have hK := C'.2.2.2.2.2.2.2.1.1
  have h0 := hR.2 j hj
  rw [hw] at h0
  have hg := hR.2 qk hq
  rw [hv] at hg
  obtain ⟨r', hr', cellV, g1, g2, g3, -⟩ := hg
  have hcls := (hK.1 ci r hc).2
  obtain ⟨kA, comp, k1, k2, k3, -⟩ := (hK.2 t0 _ ht).2
  have hcomp : comp = G.1.1 ci := Option.some.inj (k3.symm.trans hcls.1)
  subst hcomp
  obtain ⟨kC, hkC, -⟩ := hcls.2
  have hcl : (nI i).toNatClampNeg = i := nI_clamp (by omega)
  refine W.aast C'.1 C'.2.1 h0 (fun q h => by cases h) (fun h => by cases h) k1 k2 rfl hkC ⟨fun q => (vp_inN hi hN) (Or.inl q), by show _ < (arrV _ _ _).slots.size; rw [arrV_size, hcl]; exact hi⟩ g1 (fun q h => by rw [g3] at h; cases h) (by rw [g2]; exact hkC) (by rw [g2]; exact va_assign hcls) rfl rfl hdg fun H1 e1 z oq => ?_
  rw [hcl] at e1 ⊢
  refine kk p' e s m args below meth c H1 _ ls C' (hR.set z oq ?_) (HI.put hS z oq) hl
  show H1[b0 + j]? = some (vp_cell _ _)
  rw [e1]
  rw [vp_cell_q, vp_cell_q, arrV_store]
  congr 2
  funext q
  by_cases hq : q = i
  · subst hq
    simp [updV, va_up, va_rf]
  · simp [updV, va_up, hq]
theorem B_castA {j idx N : Nat} {a : Nat → Int32} (hdg : decode cc pc = .ok (.checkcast idx, 3)) (hk : Cond.classLink own idx "[I" ∈ UW) (hj : j < n) (hw : w j = .inl (G.2.1 0, N, .inl a)) (kk : JB l G b0 R own cc nL ret X Z nc ns n w (pc + 3) lv (.ref (b0 + j) :: st)) : JB l G b0 R own cc nL ret X Z nc ns n w pc lv (.ref (b0 + j) :: st) := by
  intro p' e s m args below meth c H locs ls C' hR hS hl
  have hts := C'.2.2.2.2.2.2.1
  exact va_castA C'.1 C'.2.1 C'.2.2.2.2.2.1 (hts _ hk) (hR.one hj hw) 0 rfl (C'.2.2.2.2.2.2.2.1.1.2 0 _ rfl).2 hdg (kk p' e s m args below meth c H locs ls C' hR hS hl)
theorem B_objInit {idx j : Nat} (hdg : decode cc pc = .ok (.invokespecial idx, 3)) (hl1 : Cond.methodLink own idx Lib.objectInit ∈ UW) (hl2 : Cond.instanceMethod Lib.objectInit ∈ UW) (hl3 : Cond.code Lib.objectInit ⟨#[0xb1]⟩ 1 none ∈ UW) (hf : 1 ≤ R.frames) (hlo : (st.map fun v => v.category).sum + 12 ≤ R.locals) (kk : JB l G b0 R own cc nL ret X Z nc ns n w (pc + 3) lv st) : JB l G b0 R own cc nL ret X Z nc ns n w pc lv (.ref j :: st) := by
  intro p' e s m args below meth c H locs ls C' hR hS hl
  have hts := C'.2.2.2.2.2.2.1
  exact W.objInit C'.1 C'.2.1 C'.2.2.2.2.2.1 (hts _ hl1) (hts _ hl2) (hts _ hl3) rfl (hl.1.trans C'.2.2.1.symm) rfl hdg hf (by show 2 * 0 + _ + 12 ≤ _; omega) (kk p' e s m args below meth c H locs ls C' hR hS hl)
theorem B_vret {Q : Nat → (Nat → va_E) → Prop} {mc ms : Nat} (hdg : decode cc pc = .ok (.return_, 1)) (h1 : nc ≤ mc) (h2 : ns ≤ ms) (hQ : Q n w) : JB l G b0 R own cc nL none X (ZB G b0 mc ms Q) nc ns n w pc lv [] := by
  intro p e s m args below meth c H locs ls C hR hS hl
  exact W.widen h1 h2 (W.vret C.1 C.2.1 C.2.2.2.1 (fun t ht hW => ⟨⟨_, _, rfl, hQ, by rw [ht]; exact hR⟩, hS.F ht⟩) hS.2.2 hdg C.2.2.2.2.1)
end BROW2
