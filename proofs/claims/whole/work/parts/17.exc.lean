theorem mem_ix {L : List Cond} (ps : List Nat) (h : L = ps.filterMap (fun i => lw_tbl[i]?)) : ∀ w ∈ L, w ∈ lw_tbl := by
  intro w hw
  rw [h] at hw
  obtain ⟨i, -, hi⟩ := List.mem_filterMap.mp hw
  exact List.mem_of_getElem? hi
abbrev exN : List String := ["java/lang/RuntimeException", "java/lang/Exception"]
theorem xg_IAE : ∀ w ∈ (vx_atS RX3 139 "java/lang/IllegalArgumentException" exN).filter goodWord, w ∈ UW := fun w hw => List.mem_filter.mpr ⟨mem_ix [76, 387, 396, 400, 403, 405, 388, 389, 90, 91, 390, 395, 401, 421, 377, 422, 379, 423, 381, 391, 393, 383, 417, 418, 420, 383, 408, 409, 410, 411, 411, 412, 413, 414, 414, 415, 416, 417, 407, 366, 374, 375, 376, 378, 380, 382, 386, 385, 384] (by decide +kernel) w hw, (List.mem_filter.mp hw).2⟩
theorem xb_IAE : (vx_atS RX3 139 "java/lang/IllegalArgumentException" exN).filter (fun w => !goodWord w) = [.declares ⟨"java/lang/RuntimeException", "<init>", "(Ljava/lang/String;)V"⟩, .declares ⟨"java/lang/Exception", "<init>", "(Ljava/lang/String;)V"⟩, .declares ⟨"java/lang/Throwable", "<init>", "(Ljava/lang/String;)V"⟩, .castable "java/lang/IllegalArgumentException" "java/lang/IllegalArgumentException"] := by decide +kernel
theorem xo_IAE : (Cond.classLink RX3 135 "java/lang/IllegalArgumentException" :: Cond.initialized "java/lang/IllegalArgumentException" :: vx_atS RX3 139 "java/lang/IllegalArgumentException" exN).all vx_ot = true := by decide +kernel
theorem xk_IAE : Cond.classLink RX3 135 "java/lang/IllegalArgumentException" ∈ UW := tb_in 295 (by decide +kernel) rfl
theorem xi_IAE : Cond.initialized "java/lang/IllegalArgumentException" ∈ UW := tb_in 11 (by decide +kernel) rfl
theorem xg_IOB : ∀ w ∈ (vx_atS RX3 321 "java/lang/IndexOutOfBoundsException" exN).filter goodWord, w ∈ UW := fun w hw => List.mem_filter.mpr ⟨mem_ix [76, 387, 396, 400, 403, 405, 388, 389, 90, 91, 390, 395, 401, 421, 377, 422, 379, 423, 381, 391, 393, 383, 417, 418, 420, 383, 460, 461, 462, 411, 411, 412, 413, 414, 414, 415, 416, 417, 459, 450, 452, 399, 453, 454, 455, 456, 386, 385, 457] (by decide +kernel) w hw, (List.mem_filter.mp hw).2⟩
theorem xb_IOB : (vx_atS RX3 321 "java/lang/IndexOutOfBoundsException" exN).filter (fun w => !goodWord w) = [.declares ⟨"java/lang/RuntimeException", "<init>", "(Ljava/lang/String;)V"⟩, .declares ⟨"java/lang/Exception", "<init>", "(Ljava/lang/String;)V"⟩, .declares ⟨"java/lang/Throwable", "<init>", "(Ljava/lang/String;)V"⟩, .castable "java/lang/IndexOutOfBoundsException" "java/lang/IndexOutOfBoundsException"] := by decide +kernel
theorem xo_IOB : (Cond.classLink RX3 317 "java/lang/IndexOutOfBoundsException" :: Cond.initialized "java/lang/IndexOutOfBoundsException" :: vx_atS RX3 321 "java/lang/IndexOutOfBoundsException" exN).all vx_ot = true := by decide +kernel
theorem xk_IOB : Cond.classLink RX3 317 "java/lang/IndexOutOfBoundsException" ∈ UW := tb_in 379 (by decide +kernel) rfl
theorem xi_IOB : Cond.initialized "java/lang/IndexOutOfBoundsException" ∈ UW := tb_in 10 (by decide +kernel) rfl
theorem xg_ISE : ∀ w ∈ (vx_atS RX3 41 "java/lang/IllegalStateException" exN).filter goodWord, w ∈ UW := fun w hw => List.mem_filter.mpr ⟨mem_ix [76, 387, 396, 400, 403, 405, 388, 389, 90, 91, 390, 395, 401, 421, 377, 422, 379, 423, 381, 391, 393, 383, 417, 418, 420, 383, 578, 579, 580, 411, 411, 412, 413, 414, 414, 415, 416, 417, 577, 568, 570, 398, 571, 572, 573, 574, 386, 385, 575] (by decide +kernel) w hw, (List.mem_filter.mp hw).2⟩
theorem xb_ISE : (vx_atS RX3 41 "java/lang/IllegalStateException" exN).filter (fun w => !goodWord w) = [.declares ⟨"java/lang/RuntimeException", "<init>", "(Ljava/lang/String;)V"⟩, .declares ⟨"java/lang/Exception", "<init>", "(Ljava/lang/String;)V"⟩, .declares ⟨"java/lang/Throwable", "<init>", "(Ljava/lang/String;)V"⟩, .castable "java/lang/IllegalStateException" "java/lang/IllegalStateException"] := by decide +kernel
theorem xo_ISE : (Cond.classLink RX3 37 "java/lang/IllegalStateException" :: Cond.initialized "java/lang/IllegalStateException" :: vx_atS RX3 41 "java/lang/IllegalStateException" exN).all vx_ot = true := by decide +kernel
theorem xk_ISE : Cond.classLink RX3 37 "java/lang/IllegalStateException" ∈ UW := tb_in 497 (by decide +kernel) rfl
theorem xi_ISE : Cond.initialized "java/lang/IllegalStateException" ∈ UW := tb_in 9 (by decide +kernel) rfl
def XcT (G : WG) (E : String) (μ : Mem) : String → State → State → Prop := fun E' st t => E' = E ∧ Rep G μ t.heap ∧ va_F (AG G) st t
def ZT (G : WG) (E : String) (μ : Mem) : Zz := fun below args s => vx_MQ below (fun _ _ _ _ => False) (XcT G E μ) args s 1 6 (AG G)
def rmT (d : Nat) : Room := { frames := d, cells := 1, slots := 6, locals := 34 * d }
def CtT (l : Launch) (G : WG) (d : Nat) (y : MethodName) (cc : ByteArray) (nL : Nat) (ret : Option FieldType) (av : List Value) (μ : Mem) (E : String) (μ' : Mem) : Prop :=
  vx_Met l y (.code y cc nL ret :: UW) (rmT d) (PcK G av μ) (fun _ _ _ _ => False) (XcT G E μ') 1 6 (AG G)
theorem CtT_of {l : Launch} {G : WG} {d : Nat} {y : MethodName} {cc : ByteArray} {nL : Nat} {ret : Option FieldType} {av : List Value} {μ : Mem} {E : String} {μ' : Mem} (hy : plainName y.cls = true) (hn : (lg_sl av).length ≤ nL)
    (k : K l G (rmT d) y.cls cc nL ret noX (ZT G E μ') μ 0 (lv_args 0 av) []) : CtT l G d y cc nL ret av μ E μ' := by
  refine vx_ofW (cc := cc) (maxL := nL) (ret := ret) hy rfl ?_
  intro p e s m args below meth c s₁ B hml ht hv
  obtain ⟨rfl, hR, hE⟩ := hv
  have hts := atoms_spec (ws := (Cond.code y cc nL ret :: UW)) B.pre
  rw [lg_entry_eq]
  exact k p e s m av.toArray below meth c s.heap [] _ ⟨B.exec, B.bytes, hml, B.returns, B.notSynchronized, findClass_of_methodNamed B.named, fun w hw => hts w (List.mem_cons_of_mem _ hw), hE, ht⟩ hR va_S.rf (lv_entry av hn)
theorem Rep.kept {G : WG} {μ : Mem} {H H1 : Heap} (h : Rep G μ H) (hq : ∀ q : Nat, q < H.size → H1[q]? = H[q]?) : Rep G μ H1 := ⟨fun t i p hd => (h.1 t i p hd).kept (hq _ (h.1 t i p hd).lt), h.2⟩
theorem va_S_more {A : Nat → Prop} {s t : State} {H : Heap} {locs : List Loc} (hS : va_S A s.heap H locs) (hz : H.size ≤ t.heap.size) (hq : ∀ q : Nat, q < H.size → t.heap[q]? = H[q]?) : va_F A s t := ⟨Nat.le_trans hS.1 hz, fun q h1 h2 => (hq q (Nat.lt_of_lt_of_le h1 hS.1)).trans (hS.2.1 q h1 h2)⟩
theorem K_throw_aux {l : Launch} {G : WG} {d : Nat} {cc : ByteArray} {nL : Nat} {ret : Option FieldType} {μ : Mem} {pc : Nat} {lv : Lv} {st : List Value} {ik is ic : Nat} {X text : String} (wide : Bool) (hfl : l.stackTraces = false) (hcls : Bundle.fit X = true) (hk : Cond.classLink RX3 ik X ∈ UW) (hi : Cond.initialized X ∈ UW) (hg : ∀ w ∈ (vx_atS RX3 ic X exN).filter goodWord, w ∈ UW)
    (hb : (vx_atS RX3 ic X exN).filter (fun w => !goodWord w) = [.declares ⟨"java/lang/RuntimeException", "<init>", "(Ljava/lang/String;)V"⟩, .declares ⟨"java/lang/Exception", "<init>", "(Ljava/lang/String;)V"⟩, .declares ⟨"java/lang/Throwable", "<init>", "(Ljava/lang/String;)V"⟩, .castable X X]) (ho : (Cond.classLink RX3 ik X :: Cond.initialized X :: vx_atS RX3 ic X exN).all vx_ot = true) (hc : (X, X) ∈ nwC) (hs : (is, text) ∈ nwS)
    (d0 : decode cc pc = .ok (.new ik, 3)) (d3 : decode cc (pc + 3) = .ok (.dup, 1)) (d4 : cond wide (decode cc (pc + 4) = .ok (.ldc_w is, 3) ∧ decode cc (pc + 7) = .ok (.invokespecial ic, 3) ∧ decode cc (pc + 10) = .ok (.athrow, 1)) (decode cc (pc + 4) = .ok (.ldc is, 2) ∧ decode cc (pc + 6) = .ok (.invokespecial ic, 3) ∧ decode cc (pc + 9) = .ok (.athrow, 1)))
    (hst : (st.map fun v => v.category).sum ≤ 8) (hd : 6 ≤ d) : K l G (rmT d) RX3 cc nL ret noX (ZT G X μ) μ pc lv st := by
  intro p e s m args below meth c H locs ls C' hR hS hl
  have hts := C'.2.2.2.2.2.2.1
  have hE := C'.2.2.2.2.2.2.2.1
  have hX := C'.2.2.2.2.2.2.2.2
  obtain ⟨sa, hsa⟩ := hE.2.1.2.2.2.1 _ hs
  have hat : ∀ w ∈ vx_atS RX3 ic X exN, w.before args s = true := by
    refine vx_hat (B := [.declares ⟨"java/lang/RuntimeException", "<init>", "(Ljava/lang/String;)V"⟩, .declares ⟨"java/lang/Exception", "<init>", "(Ljava/lang/String;)V"⟩, .declares ⟨"java/lang/Throwable", "<init>", "(Ljava/lang/String;)V"⟩, .castable X X]) (fun w hw => hts w (hg w hw)) (fun w hw => by rw [← hb]; exact hw) ?_
    refine vx_c (va_Nw.use rfl (hE.2.1.2.1 _ (by simp [nwD]))) (vx_c (va_Nw.use rfl (hE.2.1.2.1 _ (by simp [nwD]))) (vx_c (va_Nw.use rfl (hE.2.1.2.1 _ (by simp [nwD]))) (vx_c (va_Nw.use rfl (hE.2.1.2.2.1 _ hc)) vx_n)))
  have hgood := List.all_eq_true.mp ho
  have hsum : (st.map fun v => v.category).sum + (13 * (exN.length + 1) + 43) ≤ (rmT d).locals := by
    show (st.map fun v => v.category).sum + (13 * 3 + 43) ≤ 34 * d
    omega
  have hf : exN.length + 3 < (rmT d).frames := by
    show 5 < d
    omega
  cases wide
  · exact vx_throwS C'.1 C'.2.1 hfl C'.2.2.2.2.2.1 hcls (by decide +kernel) (hts _ hk) (hts _ hi) hsa hat hgood hE.2.2.2.1 hE.2.2.2.2 hS (hl.1.trans C'.2.2.1.symm) d0 d3 d4.1 d4.2.1 d4.2.2 (fun x hx => (hX x hx).elim) hf hsum (Nat.le_refl 1) (Nat.le_refl 6) C'.2.2.2.2.1 (fun t _ hz hq => ⟨rfl, hR.kept hq, va_S_more hS hz hq⟩) hS.2.2 (Nat.le_refl 1) (Nat.le_refl 6)
  · exact vx_throwSW C'.1 C'.2.1 hfl C'.2.2.2.2.2.1 hcls (by decide +kernel) (hts _ hk) (hts _ hi) hsa hat hgood hE.2.2.2.1 hE.2.2.2.2 hS (hl.1.trans C'.2.2.1.symm) d0 d3 d4.1 d4.2.1 d4.2.2 (fun x hx => (hX x hx).elim) hf hsum (Nat.le_refl 1) (Nat.le_refl 6) C'.2.2.2.2.1 (fun t _ hz hq => ⟨rfl, hR.kept hq, va_S_more hS hz hq⟩) hS.2.2 (Nat.le_refl 1) (Nat.le_refl 6)
