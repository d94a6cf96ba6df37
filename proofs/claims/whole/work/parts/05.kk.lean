/-! ===== what holds of the tables all along ===== -/
def nwM : List (String × Nat × MethodName × String) := [("LevyPhases$Phase", 91, yX3_percentOf, "LevyPhases"), ("LevyPhases$Levy", 77, yX3_percentOf, "LevyPhases"), ("LevyPhases$Phase", 66, yX3_instalmentsFor, "LevyPhases"), ("LevyPhases$Phase", 70, yX3_partOf, "LevyPhases")]
def nwD : List MethodName := [⟨"java/lang/RuntimeException", "<init>", "()V"⟩, ⟨"java/lang/RuntimeException", "<init>", "(Ljava/lang/String;)V"⟩, ⟨"java/lang/Exception", "<init>", "()V"⟩, ⟨"java/lang/Exception", "<init>", "(Ljava/lang/String;)V"⟩, ⟨"java/lang/Throwable", "<init>", "()V"⟩, ⟨"java/lang/Throwable", "<init>", "(Ljava/lang/String;)V"⟩]
def nwC : List (String × String) := [("java/lang/IllegalArgumentException", "java/lang/IllegalArgumentException"), ("java/lang/IndexOutOfBoundsException", "java/lang/IndexOutOfBoundsException"), ("java/lang/IllegalStateException", "java/lang/IllegalStateException")]
def nwS : List (Nat × String) := [(328, "out of range"), (319, "no such phase"), (324, "no such use"), (39, "there are 6 phases"), (322, "there is a reason against it"), (326, "no such setting"), (115, "the number of the day would be above 9999"), (123, "the buffer has 60 characters"), (137, "the buffer is not a complete row of orders"), (149, "there is no saved state")]
def nwNC : List (String × String) := [("java/lang/IllegalArgumentException", "java/lang/IndexOutOfBoundsException"), ("java/lang/IllegalStateException", "java/lang/IndexOutOfBoundsException"), ("java/lang/IllegalStateException", "java/lang/IllegalArgumentException")]
def leastT (j : Nat) : Int32 := match j with
  | 0 => 1
  | _ => 0
def mostT (j : Nat) : Int32 := match j with
  | 0 => 120
  | 1 => 50
  | 2 => 3000
  | _ => 100
def EvN (U : State) : Prop := (∀ q ∈ nwM, va_Nw (.methodLinkNest q.1 q.2.1 q.2.2.1 q.2.2.2) U) ∧ (∀ x ∈ nwD, va_Nw (.declares x) U) ∧ (∀ q ∈ nwC, va_Nw (.castable q.1 q.2) U) ∧ (∀ q ∈ nwS, ∃ a, vk_R "LevyPhases" q.1 q.2 a U) ∧ ∀ q ∈ nwNC, va_Nc q.1 q.2 U
def EvT (G : WG) (U : State) : Prop := ∃ a b : Nat, va_Z "LevyPhases" "LEAST_SETTINGS" "[I" (.ref a) (AG G) U U.heap ∧ va_T .int a 4 (fun j => .int (leastT j)) (AG G) U U.heap ∧ va_Z "LevyPhases" "MOST_SETTINGS" "[I" (.ref b) (AG G) U U.heap ∧ va_T .int b 4 (fun j => .int (mostT j)) (AG G) U U.heap
def EvX (G : WG) (U : State) : Prop := vx_Zq Bundle.tN "UNASSIGNED_STACK" Bundle.steD (AG G) U U.heap ∧ vx_Zq Bundle.tN "SUPPRESSED_SENTINEL" Bundle.listD (AG G) U U.heap
abbrev tysG (G : WG) : List (ClassId × FieldType) := [(G.2.1 0, .int), (G.2.1 1, .object "LevyPhases$Phase"), (G.2.1 2, .object "LevyPhases$Levy"), (G.2.1 3, .long)]
def Ev (G : WG) (U : State) : Prop := va_K G.1 vwCl (tysG G) U ∧ EvN U ∧ EvT G U ∧ EvX G U
theorem Ev.go {G : WG} {s U : State} {locs : List Loc} (h : Ev G s) (hW : s.WarmedH U.vm) (hS : va_S (AG G) s.heap U.heap locs) : Ev G U := by
  obtain ⟨hK, ⟨h1, h2, h3, h4, h5⟩, ⟨a, b, t1, t2, t3, t4⟩, x1, x2⟩ := h
  have hk : ∀ q : Nat, q < s.heap.size → ¬ AG G q → U.heap[q]? = s.heap[q]? := hS.2.1
  refine ⟨hK.moved hW.alike, ⟨fun q hq => va_Nw.warmM hW (h1 q hq), fun q hq => va_Nw.warmD hW (h2 q hq), fun q hq => va_Nw.warmC hW (h3 q hq), fun q hq => ?_, fun q hq => (h5 q hq).moved hW.alike⟩, ⟨a, b, (t1.moved hW.alike).kept hk, (t2.moved hW.alike).kept hk, (t3.moved hW.alike).kept hk, (t4.moved hW.alike).kept hk⟩, (x1.moved hW.alike).kept hk, (x2.moved hW.alike).kept hk⟩
  obtain ⟨sa, hsa⟩ := h4 q hq
  exact ⟨sa, hsa.warm hW⟩
theorem Ev.same {G : WG} {u U : State} (h : Ev G u) (hv : u.vm = U.vm) (hh : U.heap = u.heap) : Ev G U := by
  obtain ⟨hK, ⟨h1, h2, h3, h4, h5⟩, ⟨a, b, t1, t2, t3, t4⟩, x1, x2⟩ := h
  have hal : u.vm.Alike U.vm := by rw [hv]; exact Vm.Alike.refl _
  refine ⟨hK.moved hal, ⟨fun q hq => va_Nw.same rfl hv (h1 q hq), fun q hq => va_Nw.same rfl hv (h2 q hq), fun q hq => va_Nw.same rfl hv (h3 q hq), fun q hq => ?_, fun q hq => (h5 q hq).moved hal⟩, ?_, ?_⟩
  · obtain ⟨sa, hsa⟩ := h4 q hq
    exact ⟨sa, hsa.same hv.symm⟩
  · rw [EvT, hh]
    exact ⟨a, b, t1.moved hal, t2.moved hal, t3.moved hal, t4.moved hal⟩
  · rw [EvX, hh]
    exact ⟨x1.moved hal, x2.moved hal⟩
/-! ===== the judgement ===== -/
abbrev Lv : Type := List (Nat × Value)
def lkp : Lv → Nat → Option Value
  | [], _ => none
  | q :: r, i => cond (Nat.beq q.1 i) (some q.2) (lkp r i)
def lvdel : Lv → Nat → Lv
  | [], _ => []
  | q :: r, i => cond (Nat.beq q.1 i) (lvdel r i) (q :: lvdel r i)
def lvset : Lv → Nat → Value → Lv
  | [], i, v => [(i, v)]
  | q :: r, i, v => cond (Nat.beq q.1 i) ((i, v) :: lvdel r i) (q :: lvset r i v)
def lvok : Lv → Nat → Bool
  | [], _ => true
  | q :: r, i => !(Nat.beq (q.1 + 1) i && Nat.beq q.2.category 2) && lvok r i
def lvpick : Lv → List Nat → Lv
  | _, [] => []
  | lv, k :: ks => match lkp lv k with
    | some v => (k, v) :: lvpick lv ks
    | none => lvpick lv ks
theorem beq_t {a i : Nat} (e : a = i) : Nat.beq a i = true := by
  subst e
  exact Nat.beq_refl a
theorem beq_f {a i : Nat} (e : a ≠ i) : Nat.beq a i = false := by
  cases hb : Nat.beq a i
  · rfl
  · exact absurd (Nat.eq_of_beq_eq_true hb) e
theorem beq_b (a b : Nat) : Nat.beq a b = (a == b) := by
  by_cases e : a = b
  · rw [beq_t e, e]; simp
  · rw [beq_f e]; simp [e]
theorem lkp_mem : ∀ {lv : Lv} {i : Nat} {v : Value}, lkp lv i = some v → (i, v) ∈ lv
  | [], _, _, h => by cases h
  | q :: r, i, v, h => by
    by_cases e : q.1 = i
    · have h1 : Nat.beq q.1 i = true := beq_t e
      rw [lkp, h1] at h
      obtain ⟨a, b⟩ := q
      cases e
      cases h
      exact List.mem_cons_self
    · have h1 : Nat.beq q.1 i = false := beq_f e
      rw [lkp, h1] at h
      exact List.mem_cons_of_mem _ (lkp_mem h)
theorem lkp_has {ls : Array Slot} {nL : Nat} {lv : Lv} {i : Nat} {v : Value} (h : lv_has ls nL lv) (hk : lkp lv i = some v) : ls[i]? = some (.val v) := h.2.2 (i, v) (lkp_mem hk)
theorem lvdel_mem : ∀ {lv : Lv} {i : Nat} {q : Nat × Value}, q ∈ lvdel lv i → q ∈ lv ∧ q.1 ≠ i
  | [], _, _, h => by cases h
  | a :: r, i, q, h => by
    by_cases e : a.1 = i
    · have h1 : Nat.beq a.1 i = true := beq_t e
      rw [lvdel, h1] at h
      obtain ⟨h2, h3⟩ := lvdel_mem (lv := r) h
      exact ⟨List.mem_cons_of_mem _ h2, h3⟩
    · have h1 : Nat.beq a.1 i = false := beq_f e
      rw [lvdel, h1] at h
      rcases List.mem_cons.mp h with rfl | h
      · exact ⟨List.mem_cons_self, e⟩
      · obtain ⟨h2, h3⟩ := lvdel_mem (lv := r) h
        exact ⟨List.mem_cons_of_mem _ h2, h3⟩
theorem lvset_mem : ∀ {lv : Lv} {i : Nat} {v : Value} {q : Nat × Value}, q ∈ lvset lv i v → q = (i, v) ∨ q ∈ lv ∧ q.1 ≠ i
  | [], i, v, q, h => Or.inl (List.mem_singleton.mp h)
  | a :: r, i, v, q, h => by
    by_cases e : a.1 = i
    · have h1 : Nat.beq a.1 i = true := beq_t e
      rw [lvset, h1] at h
      rcases List.mem_cons.mp h with rfl | h
      · exact Or.inl rfl
      · obtain ⟨h2, h3⟩ := lvdel_mem h
        exact Or.inr ⟨List.mem_cons_of_mem _ h2, h3⟩
    · have h1 : Nat.beq a.1 i = false := beq_f e
      rw [lvset, h1] at h
      rcases List.mem_cons.mp h with rfl | h
      · exact Or.inr ⟨List.mem_cons_self, e⟩
      · rcases lvset_mem (lv := r) h with h | ⟨h2, h3⟩
        · exact Or.inl h
        · exact Or.inr ⟨List.mem_cons_of_mem _ h2, h3⟩
theorem lvok_mem : ∀ {lv : Lv} {i : Nat} {q : Nat × Value}, lvok lv i = true → q ∈ lv → (!(q.1 + 1 == i && q.2.category == 2)) = true
  | a :: r, i, q, h, hq => by
    rw [lvok, Bool.and_eq_true] at h
    rcases List.mem_cons.mp hq with rfl | hq
    · have h1 := h.1
      rw [beq_b, beq_b] at h1
      exact h1
    · exact lvok_mem h.2 hq
theorem lvset_has {ls : Array Slot} {nL : Nat} {lv : Lv} {i : Nat} {v : Value} (hok : lvok lv i = true) (h : lv_has ls nL ((i, v) :: lv.filter (fun q => !(q.1 == i) && !(q.1 + 1 == i && q.2.category == 2)))) : lv_has ls nL (lvset lv i v) := by
  refine ⟨h.1, h.2.1, fun q hq => h.2.2 q ?_⟩
  rcases lvset_mem hq with rfl | ⟨h1, h2⟩
  · exact List.mem_cons_self
  · refine List.mem_cons_of_mem _ (List.mem_filter.mpr ⟨h1, ?_⟩)
    rw [lvok_mem hok h1, Bool.and_true]
    simp [h2]
theorem lvset2_has {ls : Array Slot} {nL : Nat} {lv : Lv} {i : Nat} {v : Value} (hok : lvok lv i = true) (h : lv_has ls nL ((i, v) :: lv.filter (fun q => !(q.1 == i) && (!(q.1 == i + 1) && !(q.1 + 1 == i && q.2.category == 2))))) : lv_has ls nL (lvset (lvdel lv (i + 1)) i v) := by
  refine ⟨h.1, h.2.1, fun q hq => h.2.2 q ?_⟩
  rcases lvset_mem hq with rfl | ⟨h1, h2⟩
  · exact List.mem_cons_self
  · obtain ⟨h3, h4⟩ := lvdel_mem h1
    refine List.mem_cons_of_mem _ (List.mem_filter.mpr ⟨h3, ?_⟩)
    rw [lvok_mem hok h3, Bool.and_true]
    simp [h2, h4]
theorem lvpick_has {ls : Array Slot} {nL : Nat} {lv : Lv} (h : lv_has ls nL lv) : ∀ (ks : List Nat), lv_has ls nL (lvpick lv ks)
  | [] => ⟨h.1, h.2.1, fun q hq => by cases hq⟩
  | k :: ks => by
    have h2 := lvpick_has h ks
    refine ⟨h.1, h.2.1, fun q hq => ?_⟩
    rw [lvpick] at hq
    split at hq
    · rename_i v hv
      rcases List.mem_cons.mp hq with rfl | hq
      · exact lkp_has h hv
      · exact h2.2.2 q hq
    · exact h2.2.2 q hq
def noX (c : Code) : Prop := ∀ x ∈ c.exceptionTable.toList, False
abbrev Cx (G : WG) (own : String) (cc : ByteArray) (nL : Nat) (ret : Option FieldType) (X : Code → Prop) (p : Program) (s : State) (m : MethodId) (args : Array Value) (meth : Method) (c : Code) : Prop :=
  p.tables.exec = Jvm.exec ∧ c.code = cc ∧ c.maxLocals = nL ∧ meth.sig.returnType = ret ∧ meth.locks = false ∧ s.vm.findClass own = some m.cls ∧ (∀ w ∈ UW, w.before args s = true) ∧ Ev G s ∧ X c
abbrev Zz : Type := List Frame → Array Value → State → State → Prop
def K (l : Launch) (G : WG) (R : Room) (own : String) (cc : ByteArray) (nL : Nat) (ret : Option FieldType) (X : Code → Prop) (Z : Zz) (μ : Mem) (pc : Nat) (lv : Lv) (st : List Value) : Prop :=
  ∀ (p : Program) (e : Env) (s : State) (m : MethodId) (args : Array Value) (below : List Frame) (meth : Method) (c : Code) (H : Heap) (locs : List Loc) (ls : Array Slot),
    Cx G own cc nL ret X p s m args meth c → Rep G μ H → va_S (AG G) s.heap H locs → lv_has ls nL lv → W p l e R s m args below meth c H locs 0 0 (Z below args s) (F0 m pc ls st)
def QcK (G : WG) (Q : Option Value → Mem → Prop) : Array Value → State → Outcome → State → Prop := fun _ st o t => (∃ r μ', o = .returned r ∧ Q r μ' ∧ Rep G μ' t.heap) ∧ va_F (AG G) st t
def PcK (G : WG) (av : List Value) (μ : Mem) : Array Value → State → Prop := fun v U => v = av.toArray ∧ Rep G μ U.heap ∧ Ev G U
def Qe (r : Option Value) (μ' : Mem) : Option Value → Mem → Prop := fun r0 m0 => r0 = r ∧ m0 = μ'
def rmD (d : Nat) : Room := { frames := d, cells := 0, slots := 0, locals := 34 * d }
def ZR (G : WG) (Q : Option Value → Mem → Prop) : Zz := fun below args s => MQ below (QcK G Q) args s 0 0 (AG G)
def Ct (l : Launch) (G : WG) (d : Nat) (y : MethodName) (cc : ByteArray) (nL : Nat) (ret : Option FieldType) (av : List Value) (μ : Mem) (r : Option Value) (μ' : Mem) : Prop :=
  Met l y (.code y cc nL ret :: UW) (rmD d) (PcK G av μ) (QcK G (Qe r μ')) 0 0 (AG G)
theorem Ct_of {l : Launch} {G : WG} {d : Nat} {y : MethodName} {cc : ByteArray} {nL : Nat} {ret : Option FieldType} {av : List Value} {μ : Mem} {r : Option Value} {μ' : Mem} (hy : plainName y.cls = true) (hn : (lg_sl av).length ≤ nL)
    (k : K l G (rmD d) y.cls cc nL ret noX (ZR G (Qe r μ')) μ 0 (lv_args 0 av) []) : Ct l G d y cc nL ret av μ r μ' := by
  refine Met.ofW (cc := cc) (maxL := nL) (ret := ret) hy rfl ?_
  intro p e s m args below meth c s₁ B hml hv
  obtain ⟨rfl, hR, hE⟩ := hv
  have hts := atoms_spec (ws := (Cond.code y cc nL ret :: UW)) B.pre
  have ht : noX c := by
    obtain ⟨meth9, c9, h1, h2, -, -, -, -, h7, -⟩ := Cond.code_spec B.named (hts _ List.mem_cons_self)
    cases Option.some.inj (h1.symm.trans B.method)
    cases Option.some.inj (h2.symm.trans (Stand.of_body B).code)
    intro x hx
    rw [Array.isEmpty_iff.mp h7] at hx
    cases hx
  rw [lg_entry_eq]
  exact k p e s m av.toArray below meth c s.heap [] _ ⟨B.exec, B.bytes, hml, B.returns, B.notSynchronized, findClass_of_methodNamed B.named, fun w hw => hts w (List.mem_cons_of_mem _ hw), hE, ht⟩ hR va_S.rf (lv_entry av hn)
section KR
variable {l : Launch} {G : WG} {R : Room} {own : String} {cc : ByteArray} {nL : Nat} {ret : Option FieldType} {X : Code → Prop} {Z : Zz} {μ : Mem} {pc : Nat} {lv : Lv} {st : List Value}
theorem K_lv {lv' : Lv} (ks : List Nat) (h : lvpick lv ks = lv') (kk : K l G R own cc nL ret X Z μ pc lv' st) : K l G R own cc nL ret X Z μ pc lv st := by
  intro p e s m args below meth c H locs ls C hR hS hl
  subst h
  exact kk p e s m args below meth c H locs ls C hR hS (lvpick_has hl ks)
theorem K_top {x y : Int32} (h : x = y) (kk : K l G R own cc nL ret X Z μ pc lv (.int y :: st)) : K l G R own cc nL ret X Z μ pc lv (.int x :: st) := h ▸ kk
theorem K_mem {μ' : Mem} (h : μ = μ') (kk : K l G R own cc nL ret X Z μ' pc lv st) : K l G R own cc nL ret X Z μ pc lv st := h ▸ kk
/-- a loop that counts k from 0 to N, its locals and the memory told for each k -/
theorem K_for (N : Nat) (lvf : Nat → Lv) (μf : Nat → Mem) (exit : K l G R own cc nL ret X Z (μf N) pc (lvf N) []) (body : ∀ k, k < N → K l G R own cc nL ret X Z (μf (k + 1)) pc (lvf (k + 1)) [] → K l G R own cc nL ret X Z (μf k) pc (lvf k) []) : K l G R own cc nL ret X Z (μf 0) pc (lvf 0) [] := by
  have h : ∀ n k, k + n = N → K l G R own cc nL ret X Z (μf k) pc (lvf k) [] := by
    intro n
    induction n with
    | zero => intro k hk; rw [show k = N by omega]; exact exit
    | succ n ih => intro k hk; exact body k (by omega) (ih (k + 1) (by omega))
  exact h N 0 (by omega)
end KR
