def J (l : Launch) (R : Room) (own : String) (cc : ByteArray) (nL : Nat) (ret : Option FieldType) (Ev : State → Prop) (X : Method → Code → Prop) (A : Nat → Prop) (Z : Zz) (nc ns : Nat) (P : Heap → Prop) (pc : Nat) (lv : Lv) (st : List Value) : Prop :=
  ∀ (p : Program) (e : Env) (s : State) (m : MethodId) (args : Array Value) (below : List Frame) (meth : Method) (c : Code) (H : Heap) (locs : List Loc) (ls : Array Slot),
    (p.tables.exec = Jvm.exec ∧ c.code = cc ∧ c.maxLocals = nL ∧ meth.sig.returnType = ret ∧ meth.locks = false ∧ s.vm.findClass own = some m.cls ∧ (∀ w ∈ UW, w.before args s = true) ∧ Ev s ∧ X meth c) → P H → va_S A s.heap H locs → lv_has ls nL lv → W p l e R s m args below meth c H locs nc ns (Z below args s) (F0 m pc ls st)
section JROWS
variable {l : Launch} {R : Room} {own : String} {cc : ByteArray} {nL : Nat} {ret : Option FieldType} {Ev : State → Prop} {X : Method → Code → Prop} {A : Nat → Prop} {Z : Zz} {nc ns : Nat} {P : Heap → Prop} {pc : Nat} {lv : Lv} {st : List Value}
theorem J_iconst {n : Int} {v : Int32} (hdg : decode cc pc = .ok (.iconst n, 1)) (hv : Int32.ofInt n = v) (kk : J l R own cc nL ret Ev X A Z nc ns P (pc + 1) lv (.int v :: st)) : J l R own cc nL ret Ev X A Z nc ns P pc lv (st) := by
  intro p e s m args below meth c H locs ls C hR hS hl
  exact lv_iconst C.1 C.2.1 hdg hv (kk p e s m args below meth c H locs ls C hR hS hl)
theorem J_bipush {n : Int} {v : Int32} (hdg : decode cc pc = .ok (.bipush n, 2)) (hv : (Int8.ofInt n).toInt32 = v) (kk : J l R own cc nL ret Ev X A Z nc ns P (pc + 2) lv (.int v :: st)) : J l R own cc nL ret Ev X A Z nc ns P pc lv (st) := by
  intro p e s m args below meth c H locs ls C hR hS hl
  exact lv_bipush C.1 C.2.1 hdg hv (kk p e s m args below meth c H locs ls C hR hS hl)
theorem J_sipush {n : Int} {v : Int32} (hdg : decode cc pc = .ok (.sipush n, 3)) (hv : (Int16.ofInt n).toInt32 = v) (kk : J l R own cc nL ret Ev X A Z nc ns P (pc + 3) lv (.int v :: st)) : J l R own cc nL ret Ev X A Z nc ns P pc lv (st) := by
  intro p e s m args below meth c H locs ls C hR hS hl
  exact lv_sipush C.1 C.2.1 hdg hv (kk p e s m args below meth c H locs ls C hR hS hl)
theorem J_lconst {n : Fin 2} {v : Int64} (hdg : decode cc pc = .ok (.lconst n, 1)) (hv : Int64.ofNat (n : Nat) = v) (kk : J l R own cc nL ret Ev X A Z nc ns P (pc + 1) lv (.long v :: st)) : J l R own cc nL ret Ev X A Z nc ns P pc lv (st) := by
  intro p e s m args below meth c H locs ls C hR hS hl
  exact lv_lconst C.1 C.2.1 hdg hv (kk p e s m args below meth c H locs ls C hR hS hl)
theorem J_iload_n {k : Fin 4} {x : Int32} (hdg : decode cc pc = .ok (.iload_n k, 1)) (hk : lkp lv (k : Nat) = some (.int x)) (kk : J l R own cc nL ret Ev X A Z nc ns P (pc + 1) lv (.int x :: st)) : J l R own cc nL ret Ev X A Z nc ns P pc lv (st) := by
  intro p e s m args below meth c H locs ls C hR hS hl
  exact lv_iload_n C.1 C.2.1 hdg rfl (lkp_has hl hk) (kk p e s m args below meth c H locs ls C hR hS hl)
theorem J_iload {k : Nat} {x : Int32} (hdg : decode cc pc = .ok (.iload k, 2)) (hk : lkp lv k = some (.int x)) (kk : J l R own cc nL ret Ev X A Z nc ns P (pc + 2) lv (.int x :: st)) : J l R own cc nL ret Ev X A Z nc ns P pc lv (st) := by
  intro p e s m args below meth c H locs ls C hR hS hl
  exact lv_iload C.1 C.2.1 hdg (lkp_has hl hk) (kk p e s m args below meth c H locs ls C hR hS hl)
theorem J_istore_n {k : Fin 4} {x : Int32} (hdg : decode cc pc = .ok (.istore_n k, 1)) (hn : (k : Nat) < nL) (hok : lvok lv k = true) (kk : J l R own cc nL ret Ev X A Z nc ns P (pc + 1) (lvset lv k (.int x)) st) : J l R own cc nL ret Ev X A Z nc ns P pc lv (.int x :: st) := by
  intro p e s m args below meth c H locs ls C hR hS hl
  exact lv_istore_n C.1 C.2.1 hdg rfl hl hn rfl (fun ls' hl' => kk p e s m args below meth c H locs ls' C hR hS (lvset_has hok hl'))
theorem J_istore {k : Nat} {x : Int32} (hdg : decode cc pc = .ok (.istore k, 2)) (hn : (k : Nat) < nL) (hok : lvok lv k = true) (kk : J l R own cc nL ret Ev X A Z nc ns P (pc + 2) (lvset lv k (.int x)) st) : J l R own cc nL ret Ev X A Z nc ns P pc lv (.int x :: st) := by
  intro p e s m args below meth c H locs ls C hR hS hl
  exact lv_istore C.1 C.2.1 hdg hl hn rfl (fun ls' hl' => kk p e s m args below meth c H locs ls' C hR hS (lvset_has hok hl'))
theorem J_lload_n {k : Fin 4} {x : Int64} (hdg : decode cc pc = .ok (.lload_n k, 1)) (hk : lkp lv (k : Nat) = some (.long x)) (kk : J l R own cc nL ret Ev X A Z nc ns P (pc + 1) lv (.long x :: st)) : J l R own cc nL ret Ev X A Z nc ns P pc lv (st) := by
  intro p e s m args below meth c H locs ls C hR hS hl
  exact lv_lload_n C.1 C.2.1 hdg rfl (lkp_has hl hk) (kk p e s m args below meth c H locs ls C hR hS hl)
theorem J_lload {k : Nat} {x : Int64} (hdg : decode cc pc = .ok (.lload k, 2)) (hk : lkp lv k = some (.long x)) (kk : J l R own cc nL ret Ev X A Z nc ns P (pc + 2) lv (.long x :: st)) : J l R own cc nL ret Ev X A Z nc ns P pc lv (st) := by
  intro p e s m args below meth c H locs ls C hR hS hl
  exact lv_lload C.1 C.2.1 hdg (lkp_has hl hk) (kk p e s m args below meth c H locs ls C hR hS hl)
theorem J_lstore_n {k : Fin 4} {x : Int64} (hdg : decode cc pc = .ok (.lstore_n k, 1)) (hn : (k : Nat) + 1 < nL) (hok : lvok lv k = true) (kk : J l R own cc nL ret Ev X A Z nc ns P (pc + 1) (lvset (lvdel lv ((k : Nat) + 1)) k (.long x)) st) : J l R own cc nL ret Ev X A Z nc ns P pc lv (.long x :: st) := by
  intro p e s m args below meth c H locs ls C hR hS hl
  exact lv_lstore_n C.1 C.2.1 hdg rfl hl hn rfl (fun ls' hl' => kk p e s m args below meth c H locs ls' C hR hS (lvset2_has hok hl'))
theorem J_lstore {k : Nat} {x : Int64} (hdg : decode cc pc = .ok (.lstore k, 2)) (hn : (k : Nat) + 1 < nL) (hok : lvok lv k = true) (kk : J l R own cc nL ret Ev X A Z nc ns P (pc + 2) (lvset (lvdel lv ((k : Nat) + 1)) k (.long x)) st) : J l R own cc nL ret Ev X A Z nc ns P pc lv (.long x :: st) := by
  intro p e s m args below meth c H locs ls C hR hS hl
  exact lv_lstore C.1 C.2.1 hdg hl hn rfl (fun ls' hl' => kk p e s m args below meth c H locs ls' C hR hS (lvset2_has hok hl'))
theorem J_aload_n {k : Fin 4} {x : Nat} (hdg : decode cc pc = .ok (.aload_n k, 1)) (hk : lkp lv (k : Nat) = some (.ref x)) (kk : J l R own cc nL ret Ev X A Z nc ns P (pc + 1) lv (.ref x :: st)) : J l R own cc nL ret Ev X A Z nc ns P pc lv (st) := by
  intro p e s m args below meth c H locs ls C hR hS hl
  exact lv_aload_n C.1 C.2.1 hdg rfl (lkp_has hl hk) (kk p e s m args below meth c H locs ls C hR hS hl)
theorem J_aload {k : Nat} {x : Nat} (hdg : decode cc pc = .ok (.aload k, 2)) (hk : lkp lv k = some (.ref x)) (kk : J l R own cc nL ret Ev X A Z nc ns P (pc + 2) lv (.ref x :: st)) : J l R own cc nL ret Ev X A Z nc ns P pc lv (st) := by
  intro p e s m args below meth c H locs ls C hR hS hl
  exact lv_aload C.1 C.2.1 hdg (lkp_has hl hk) (kk p e s m args below meth c H locs ls C hR hS hl)
theorem J_astore_n {k : Fin 4} {x : Nat} (hdg : decode cc pc = .ok (.astore_n k, 1)) (hn : (k : Nat) < nL) (hok : lvok lv k = true) (kk : J l R own cc nL ret Ev X A Z nc ns P (pc + 1) (lvset lv k (.ref x)) st) : J l R own cc nL ret Ev X A Z nc ns P pc lv (.ref x :: st) := by
  intro p e s m args below meth c H locs ls C hR hS hl
  exact lv_astore_n C.1 C.2.1 hdg rfl hl hn rfl (fun ls' hl' => kk p e s m args below meth c H locs ls' C hR hS (lvset_has hok hl'))
theorem J_astore {k : Nat} {x : Nat} (hdg : decode cc pc = .ok (.astore k, 2)) (hn : (k : Nat) < nL) (hok : lvok lv k = true) (kk : J l R own cc nL ret Ev X A Z nc ns P (pc + 2) (lvset lv k (.ref x)) st) : J l R own cc nL ret Ev X A Z nc ns P pc lv (.ref x :: st) := by
  intro p e s m args below meth c H locs ls C hR hS hl
  exact lv_astore C.1 C.2.1 hdg hl hn rfl (fun ls' hl' => kk p e s m args below meth c H locs ls' C hR hS (lvset_has hok hl'))
theorem J_dload_n {k : Fin 4} {x : UInt64} (hdg : decode cc pc = .ok (.dload_n k, 1)) (hk : lkp lv (k : Nat) = some (.double x)) (kk : J l R own cc nL ret Ev X A Z nc ns P (pc + 1) lv (.double x :: st)) : J l R own cc nL ret Ev X A Z nc ns P pc lv (st) := by
  intro p e s m args below meth c H locs ls C hR hS hl
  exact lv_dload_n C.1 C.2.1 hdg rfl (lkp_has hl hk) (kk p e s m args below meth c H locs ls C hR hS hl)
theorem J_dload {k : Nat} {x : UInt64} (hdg : decode cc pc = .ok (.dload k, 2)) (hk : lkp lv k = some (.double x)) (kk : J l R own cc nL ret Ev X A Z nc ns P (pc + 2) lv (.double x :: st)) : J l R own cc nL ret Ev X A Z nc ns P pc lv (st) := by
  intro p e s m args below meth c H locs ls C hR hS hl
  exact lv_dload C.1 C.2.1 hdg (lkp_has hl hk) (kk p e s m args below meth c H locs ls C hR hS hl)
theorem J_dstore_n {k : Fin 4} {x : UInt64} (hdg : decode cc pc = .ok (.dstore_n k, 1)) (hn : (k : Nat) + 1 < nL) (hok : lvok lv k = true) (kk : J l R own cc nL ret Ev X A Z nc ns P (pc + 1) (lvset (lvdel lv ((k : Nat) + 1)) k (.double x)) st) : J l R own cc nL ret Ev X A Z nc ns P pc lv (.double x :: st) := by
  intro p e s m args below meth c H locs ls C hR hS hl
  exact lv_dstore_n C.1 C.2.1 hdg rfl hl hn rfl (fun ls' hl' => kk p e s m args below meth c H locs ls' C hR hS (lvset2_has hok hl'))
theorem J_dstore {k : Nat} {x : UInt64} (hdg : decode cc pc = .ok (.dstore k, 2)) (hn : (k : Nat) + 1 < nL) (hok : lvok lv k = true) (kk : J l R own cc nL ret Ev X A Z nc ns P (pc + 2) (lvset (lvdel lv ((k : Nat) + 1)) k (.double x)) st) : J l R own cc nL ret Ev X A Z nc ns P pc lv (.double x :: st) := by
  intro p e s m args below meth c H locs ls C hR hS hl
  exact lv_dstore C.1 C.2.1 hdg hl hn rfl (fun ls' hl' => kk p e s m args below meth c H locs ls' C hR hS (lvset2_has hok hl'))
theorem J_iadd {x y : Int32} (hdg : decode cc pc = .ok (.iadd, 1)) (kk : J l R own cc nL ret Ev X A Z nc ns P (pc + 1) lv (.int (x + y) :: st)) : J l R own cc nL ret Ev X A Z nc ns P pc lv (.int y :: .int x :: st) := by
  intro p e s m args below meth c H locs ls C hR hS hl
  exact lv_iadd C.1 C.2.1 hdg (kk p e s m args below meth c H locs ls C hR hS hl)
theorem J_isub {x y : Int32} (hdg : decode cc pc = .ok (.isub, 1)) (kk : J l R own cc nL ret Ev X A Z nc ns P (pc + 1) lv (.int (x - y) :: st)) : J l R own cc nL ret Ev X A Z nc ns P pc lv (.int y :: .int x :: st) := by
  intro p e s m args below meth c H locs ls C hR hS hl
  exact lv_isub C.1 C.2.1 hdg (kk p e s m args below meth c H locs ls C hR hS hl)
theorem J_imul {x y : Int32} (hdg : decode cc pc = .ok (.imul, 1)) (kk : J l R own cc nL ret Ev X A Z nc ns P (pc + 1) lv (.int (x * y) :: st)) : J l R own cc nL ret Ev X A Z nc ns P pc lv (.int y :: .int x :: st) := by
  intro p e s m args below meth c H locs ls C hR hS hl
  exact lv_imul C.1 C.2.1 hdg (kk p e s m args below meth c H locs ls C hR hS hl)
theorem J_iand {x y : Int32} (hdg : decode cc pc = .ok (.iand, 1)) (kk : J l R own cc nL ret Ev X A Z nc ns P (pc + 1) lv (.int (x &&& y) :: st)) : J l R own cc nL ret Ev X A Z nc ns P pc lv (.int y :: .int x :: st) := by
  intro p e s m args below meth c H locs ls C hR hS hl
  exact lv_iand C.1 C.2.1 hdg (kk p e s m args below meth c H locs ls C hR hS hl)
theorem J_ladd {x y : Int64} (hdg : decode cc pc = .ok (.ladd, 1)) (kk : J l R own cc nL ret Ev X A Z nc ns P (pc + 1) lv (.long (x + y) :: st)) : J l R own cc nL ret Ev X A Z nc ns P pc lv (.long y :: .long x :: st) := by
  intro p e s m args below meth c H locs ls C hR hS hl
  exact lv_ladd C.1 C.2.1 hdg (kk p e s m args below meth c H locs ls C hR hS hl)
theorem J_lsub {x y : Int64} (hdg : decode cc pc = .ok (.lsub, 1)) (kk : J l R own cc nL ret Ev X A Z nc ns P (pc + 1) lv (.long (x - y) :: st)) : J l R own cc nL ret Ev X A Z nc ns P pc lv (.long y :: .long x :: st) := by
  intro p e s m args below meth c H locs ls C hR hS hl
  exact lv_lsub C.1 C.2.1 hdg (kk p e s m args below meth c H locs ls C hR hS hl)
theorem J_lmul {x y : Int64} (hdg : decode cc pc = .ok (.lmul, 1)) (kk : J l R own cc nL ret Ev X A Z nc ns P (pc + 1) lv (.long (x * y) :: st)) : J l R own cc nL ret Ev X A Z nc ns P pc lv (.long y :: .long x :: st) := by
  intro p e s m args below meth c H locs ls C hR hS hl
  exact lv_lmul C.1 C.2.1 hdg (kk p e s m args below meth c H locs ls C hR hS hl)
theorem J_lor {x y : Int64} (hdg : decode cc pc = .ok (.lor, 1)) (kk : J l R own cc nL ret Ev X A Z nc ns P (pc + 1) lv (.long (x ||| y) :: st)) : J l R own cc nL ret Ev X A Z nc ns P pc lv (.long y :: .long x :: st) := by
  intro p e s m args below meth c H locs ls C hR hS hl
  exact lv_lor C.1 C.2.1 hdg (kk p e s m args below meth c H locs ls C hR hS hl)
theorem J_idiv {x y : Int32} (hdg : decode cc pc = .ok (.idiv, 1)) (hne : ¬ y = 0) (kk : J l R own cc nL ret Ev X A Z nc ns P (pc + 1) lv (.int (x / y) :: st)) : J l R own cc nL ret Ev X A Z nc ns P pc lv (.int y :: .int x :: st) := by
  intro p e s m args below meth c H locs ls C hR hS hl
  exact lv_idiv C.1 C.2.1 hdg hne (kk p e s m args below meth c H locs ls C hR hS hl)
theorem J_irem {x y : Int32} (hdg : decode cc pc = .ok (.irem, 1)) (hne : ¬ y = 0) (kk : J l R own cc nL ret Ev X A Z nc ns P (pc + 1) lv (.int (x - x / y * y) :: st)) : J l R own cc nL ret Ev X A Z nc ns P pc lv (.int y :: .int x :: st) := by
  intro p e s m args below meth c H locs ls C hR hS hl
  exact lv_irem C.1 C.2.1 hdg hne (kk p e s m args below meth c H locs ls C hR hS hl)
theorem J_ldiv {x y : Int64} (hdg : decode cc pc = .ok (.ldiv, 1)) (hne : ¬ y = 0) (kk : J l R own cc nL ret Ev X A Z nc ns P (pc + 1) lv (.long (x / y) :: st)) : J l R own cc nL ret Ev X A Z nc ns P pc lv (.long y :: .long x :: st) := by
  intro p e s m args below meth c H locs ls C hR hS hl
  exact lv_ldiv C.1 C.2.1 hdg hne (kk p e s m args below meth c H locs ls C hR hS hl)
theorem J_ineg {x : Int32} (hdg : decode cc pc = .ok (.ineg, 1)) (kk : J l R own cc nL ret Ev X A Z nc ns P (pc + 1) lv (.int (-x) :: st)) : J l R own cc nL ret Ev X A Z nc ns P pc lv (.int x :: st) := by
  intro p e s m args below meth c H locs ls C hR hS hl
  exact lv_ineg C.1 C.2.1 hdg (kk p e s m args below meth c H locs ls C hR hS hl)
theorem J_i2l {x : Int32} (hdg : decode cc pc = .ok (.i2l, 1)) (kk : J l R own cc nL ret Ev X A Z nc ns P (pc + 1) lv (.long x.toInt64 :: st)) : J l R own cc nL ret Ev X A Z nc ns P pc lv (.int x :: st) := by
  intro p e s m args below meth c H locs ls C hR hS hl
  exact lv_i2l C.1 C.2.1 hdg rfl (kk p e s m args below meth c H locs ls C hR hS hl)
theorem J_l2i {x : Int64} (hdg : decode cc pc = .ok (.l2i, 1)) (kk : J l R own cc nL ret Ev X A Z nc ns P (pc + 1) lv (.int x.toInt32 :: st)) : J l R own cc nL ret Ev X A Z nc ns P pc lv (.long x :: st) := by
  intro p e s m args below meth c H locs ls C hR hS hl
  exact lv_l2i C.1 C.2.1 hdg rfl (kk p e s m args below meth c H locs ls C hR hS hl)
theorem J_lshl {x : Int64} {y : Int32} (hdg : decode cc pc = .ok (.lshl, 1)) (kk : J l R own cc nL ret Ev X A Z nc ns P (pc + 1) lv (.long (x <<< (y.toInt64 &&& 63)) :: st)) : J l R own cc nL ret Ev X A Z nc ns P pc lv (.int y :: .long x :: st) := by
  intro p e s m args below meth c H locs ls C hR hS hl
  exact lv_lshl C.1 C.2.1 hdg rfl (kk p e s m args below meth c H locs ls C hR hS hl)
theorem J_lcmp {x y : Int64} (hdg : decode cc pc = .ok (.lcmp, 1)) (kk : J l R own cc nL ret Ev X A Z nc ns P (pc + 1) lv (.int (lg_cmp x y) :: st)) : J l R own cc nL ret Ev X A Z nc ns P pc lv (.long y :: .long x :: st) := by
  intro p e s m args below meth c H locs ls C hR hS hl
  exact W.lcmp C.1 C.2.1 hdg (kk p e s m args below meth c H locs ls C hR hS hl)
theorem J_dup {a : Value} (hdg : decode cc pc = .ok (.dup, 1)) (h1 : a.category = 1) (kk : J l R own cc nL ret Ev X A Z nc ns P (pc + 1) lv (a :: a :: st)) : J l R own cc nL ret Ev X A Z nc ns P pc lv (a :: st) := by
  intro p e s m args below meth c H locs ls C hR hS hl
  exact lv_dup C.1 C.2.1 hdg h1 (kk p e s m args below meth c H locs ls C hR hS hl)
theorem J_pop {a : Value} (hdg : decode cc pc = .ok (.pop, 1)) (h1 : a.category = 1) (kk : J l R own cc nL ret Ev X A Z nc ns P (pc + 1) lv (st)) : J l R own cc nL ret Ev X A Z nc ns P pc lv (a :: st) := by
  intro p e s m args below meth c H locs ls C hR hS hl
  exact lv_pop C.1 C.2.1 hdg h1 (kk p e s m args below meth c H locs ls C hR hS hl)
theorem J_dup2_11 {a b : Value} (hdg : decode cc pc = .ok (.dup2, 1)) (h1 : a.category = 1) (h2 : b.category = 1) (kk : J l R own cc nL ret Ev X A Z nc ns P (pc + 1) lv (a :: b :: a :: b :: st)) : J l R own cc nL ret Ev X A Z nc ns P pc lv (a :: b :: st) := by
  intro p e s m args below meth c H locs ls C hR hS hl
  exact lv_dup2_11 C.1 C.2.1 hdg h1 h2 (kk p e s m args below meth c H locs ls C hR hS hl)
theorem J_dup2_2 {a : Value} (hdg : decode cc pc = .ok (.dup2, 1)) (h1 : a.category = 2) (kk : J l R own cc nL ret Ev X A Z nc ns P (pc + 1) lv (a :: a :: st)) : J l R own cc nL ret Ev X A Z nc ns P pc lv (a :: st) := by
  intro p e s m args below meth c H locs ls C hR hS hl
  exact lv_dup2_2 C.1 C.2.1 hdg h1 (kk p e s m args below meth c H locs ls C hR hS hl)
theorem J_ldc {k : Nat} {v : Int32} (hdg : decode cc pc = .ok (.ldc k, 2)) (hw : Cond.constant own k v ∈ UW) (kk : J l R own cc nL ret Ev X A Z nc ns P (pc + 2) lv (.int v :: st)) : J l R own cc nL ret Ev X A Z nc ns P pc lv (st) := by
  intro p e s m args below meth c H locs ls C hR hS hl
  exact lv_ldc C.1 C.2.1 C.2.2.2.2.2.1 (C.2.2.2.2.2.2.1 _ hw) hdg (kk p e s m args below meth c H locs ls C hR hS hl)
theorem J_ldcw {k : Nat} {v : Int32} (hdg : decode cc pc = .ok (.ldc_w k, 3)) (hw : Cond.constant own k v ∈ UW) (kk : J l R own cc nL ret Ev X A Z nc ns P (pc + 3) lv (.int v :: st)) : J l R own cc nL ret Ev X A Z nc ns P pc lv (st) := by
  intro p e s m args below meth c H locs ls C hR hS hl
  exact lv_ldcw C.1 C.2.1 C.2.2.2.2.2.1 (C.2.2.2.2.2.2.1 _ hw) hdg (kk p e s m args below meth c H locs ls C hR hS hl)
theorem J_ldc2 {k : Nat} {v : Int64} (hdg : decode cc pc = .ok (.ldc2_w k, 3)) (hw : Cond.constantLong own k v ∈ UW) (kk : J l R own cc nL ret Ev X A Z nc ns P (pc + 3) lv (.long v :: st)) : J l R own cc nL ret Ev X A Z nc ns P pc lv (st) := by
  intro p e s m args below meth c H locs ls C hR hS hl
  exact lv_ldc2 C.1 C.2.1 C.2.2.2.2.2.1 (C.2.2.2.2.2.2.1 _ hw) hdg (kk p e s m args below meth c H locs ls C hR hS hl)
theorem J_iinc {i : Nat} {n : Int} {x v : Int32} (hdg : decode cc pc = .ok (.iinc i n, 3)) (hk : lkp lv i = some (.int x)) (hv : x + Int32.ofInt n = v) (hn : i < nL) (hok : lvok lv i = true) (kk : J l R own cc nL ret Ev X A Z nc ns P (pc + 3) (lvset lv i (.int v)) st) : J l R own cc nL ret Ev X A Z nc ns P pc lv st := by
  intro p e s m args below meth c H locs ls C hR hS hl
  obtain ⟨j, hj⟩ := List.getElem?_of_mem (lkp_mem hk)
  exact lv_iinc C.1 C.2.1 hdg hl hj hv hn rfl (fun ls' hl' => kk p e s m args below meth c H locs ls' C hR hS (lvset_has hok hl'))
theorem J_iincN {i a b : Nat} {n : Int} (hdg : decode cc pc = .ok (.iinc i n, 3)) (hk : lkp lv i = some (.int (nI a))) (hb : n = (b : Int)) (hn : i < nL) (hok : lvok lv i = true) (kk : J l R own cc nL ret Ev X A Z nc ns P (pc + 3) (lvset lv i (.int (nI (a + b)))) st) : J l R own cc nL ret Ev X A Z nc ns P pc lv st := J_iinc hdg hk (by rw [hb, ← nI_add]; rfl) hn hok kk
theorem J_goto {off : Int} {tgt : Nat} (hdg : decode cc pc = .ok (.goto off, 3)) (ht : (pc : Int) + off = (tgt : Int)) (kk : J l R own cc nL ret Ev X A Z nc ns P tgt lv st) : J l R own cc nL ret Ev X A Z nc ns P pc lv st := by
  intro p e s m args below meth c H locs ls C hR hS hl
  exact lv_goto C.1 C.2.1 hdg ht (kk p e s m args below meth c H locs ls C hR hS hl)
theorem J_if_eq {x : Int32} {off : Int} {tgt : Nat} (hdg : decode cc pc = .ok (.ifCond .eq off, 3)) (ht : (pc : Int) + off = (tgt : Int)) (kt : x = 0 → J l R own cc nL ret Ev X A Z nc ns P tgt lv st) (kf : ¬ x = 0 → J l R own cc nL ret Ev X A Z nc ns P (pc + 3) lv st) : J l R own cc nL ret Ev X A Z nc ns P pc lv (.int x :: st) := by
  intro p e s m args below meth c H locs ls C hR hS hl
  exact lv_if_eq C.1 C.2.1 hdg ht (fun h => kt h p e s m args below meth c H locs ls C hR hS hl) (fun h => kf h p e s m args below meth c H locs ls C hR hS hl)
theorem J_icmp_eq {x y : Int32} {off : Int} {tgt : Nat} (hdg : decode cc pc = .ok (.if_icmp .eq off, 3)) (ht : (pc : Int) + off = (tgt : Int)) (kt : x = y → J l R own cc nL ret Ev X A Z nc ns P tgt lv st) (kf : ¬ x = y → J l R own cc nL ret Ev X A Z nc ns P (pc + 3) lv st) : J l R own cc nL ret Ev X A Z nc ns P pc lv (.int y :: .int x :: st) := by
  intro p e s m args below meth c H locs ls C hR hS hl
  exact lv_icmp_eq C.1 C.2.1 hdg ht (fun h => kt h p e s m args below meth c H locs ls C hR hS hl) (fun h => kf h p e s m args below meth c H locs ls C hR hS hl)
theorem J_if_ne {x : Int32} {off : Int} {tgt : Nat} (hdg : decode cc pc = .ok (.ifCond .ne off, 3)) (ht : (pc : Int) + off = (tgt : Int)) (kt : ¬ x = 0 → J l R own cc nL ret Ev X A Z nc ns P tgt lv st) (kf : x = 0 → J l R own cc nL ret Ev X A Z nc ns P (pc + 3) lv st) : J l R own cc nL ret Ev X A Z nc ns P pc lv (.int x :: st) := by
  intro p e s m args below meth c H locs ls C hR hS hl
  exact lv_if_ne C.1 C.2.1 hdg ht (fun h => kt h p e s m args below meth c H locs ls C hR hS hl) (fun h => kf h p e s m args below meth c H locs ls C hR hS hl)
theorem J_icmp_ne {x y : Int32} {off : Int} {tgt : Nat} (hdg : decode cc pc = .ok (.if_icmp .ne off, 3)) (ht : (pc : Int) + off = (tgt : Int)) (kt : ¬ x = y → J l R own cc nL ret Ev X A Z nc ns P tgt lv st) (kf : x = y → J l R own cc nL ret Ev X A Z nc ns P (pc + 3) lv st) : J l R own cc nL ret Ev X A Z nc ns P pc lv (.int y :: .int x :: st) := by
  intro p e s m args below meth c H locs ls C hR hS hl
  exact lv_icmp_ne C.1 C.2.1 hdg ht (fun h => kt h p e s m args below meth c H locs ls C hR hS hl) (fun h => kf h p e s m args below meth c H locs ls C hR hS hl)
theorem J_if_lt {x : Int32} {off : Int} {tgt : Nat} (hdg : decode cc pc = .ok (.ifCond .lt off, 3)) (ht : (pc : Int) + off = (tgt : Int)) (kt : x < 0 → J l R own cc nL ret Ev X A Z nc ns P tgt lv st) (kf : ¬ x < 0 → J l R own cc nL ret Ev X A Z nc ns P (pc + 3) lv st) : J l R own cc nL ret Ev X A Z nc ns P pc lv (.int x :: st) := by
  intro p e s m args below meth c H locs ls C hR hS hl
  exact lv_if_lt C.1 C.2.1 hdg ht (fun h => kt h p e s m args below meth c H locs ls C hR hS hl) (fun h => kf h p e s m args below meth c H locs ls C hR hS hl)
theorem J_icmp_lt {x y : Int32} {off : Int} {tgt : Nat} (hdg : decode cc pc = .ok (.if_icmp .lt off, 3)) (ht : (pc : Int) + off = (tgt : Int)) (kt : x < y → J l R own cc nL ret Ev X A Z nc ns P tgt lv st) (kf : ¬ x < y → J l R own cc nL ret Ev X A Z nc ns P (pc + 3) lv st) : J l R own cc nL ret Ev X A Z nc ns P pc lv (.int y :: .int x :: st) := by
  intro p e s m args below meth c H locs ls C hR hS hl
  exact lv_icmp_lt C.1 C.2.1 hdg ht (fun h => kt h p e s m args below meth c H locs ls C hR hS hl) (fun h => kf h p e s m args below meth c H locs ls C hR hS hl)
theorem J_if_ge {x : Int32} {off : Int} {tgt : Nat} (hdg : decode cc pc = .ok (.ifCond .ge off, 3)) (ht : (pc : Int) + off = (tgt : Int)) (kt : 0 ≤ x → J l R own cc nL ret Ev X A Z nc ns P tgt lv st) (kf : ¬ 0 ≤ x → J l R own cc nL ret Ev X A Z nc ns P (pc + 3) lv st) : J l R own cc nL ret Ev X A Z nc ns P pc lv (.int x :: st) := by
  intro p e s m args below meth c H locs ls C hR hS hl
  exact lv_if_ge C.1 C.2.1 hdg ht (fun h => kt h p e s m args below meth c H locs ls C hR hS hl) (fun h => kf h p e s m args below meth c H locs ls C hR hS hl)
theorem J_icmp_ge {x y : Int32} {off : Int} {tgt : Nat} (hdg : decode cc pc = .ok (.if_icmp .ge off, 3)) (ht : (pc : Int) + off = (tgt : Int)) (kt : y ≤ x → J l R own cc nL ret Ev X A Z nc ns P tgt lv st) (kf : ¬ y ≤ x → J l R own cc nL ret Ev X A Z nc ns P (pc + 3) lv st) : J l R own cc nL ret Ev X A Z nc ns P pc lv (.int y :: .int x :: st) := by
  intro p e s m args below meth c H locs ls C hR hS hl
  exact lv_icmp_ge C.1 C.2.1 hdg ht (fun h => kt h p e s m args below meth c H locs ls C hR hS hl) (fun h => kf h p e s m args below meth c H locs ls C hR hS hl)
theorem J_if_gt {x : Int32} {off : Int} {tgt : Nat} (hdg : decode cc pc = .ok (.ifCond .gt off, 3)) (ht : (pc : Int) + off = (tgt : Int)) (kt : 0 < x → J l R own cc nL ret Ev X A Z nc ns P tgt lv st) (kf : ¬ 0 < x → J l R own cc nL ret Ev X A Z nc ns P (pc + 3) lv st) : J l R own cc nL ret Ev X A Z nc ns P pc lv (.int x :: st) := by
  intro p e s m args below meth c H locs ls C hR hS hl
  exact lv_if_gt C.1 C.2.1 hdg ht (fun h => kt h p e s m args below meth c H locs ls C hR hS hl) (fun h => kf h p e s m args below meth c H locs ls C hR hS hl)
theorem J_icmp_gt {x y : Int32} {off : Int} {tgt : Nat} (hdg : decode cc pc = .ok (.if_icmp .gt off, 3)) (ht : (pc : Int) + off = (tgt : Int)) (kt : y < x → J l R own cc nL ret Ev X A Z nc ns P tgt lv st) (kf : ¬ y < x → J l R own cc nL ret Ev X A Z nc ns P (pc + 3) lv st) : J l R own cc nL ret Ev X A Z nc ns P pc lv (.int y :: .int x :: st) := by
  intro p e s m args below meth c H locs ls C hR hS hl
  exact lv_icmp_gt C.1 C.2.1 hdg ht (fun h => kt h p e s m args below meth c H locs ls C hR hS hl) (fun h => kf h p e s m args below meth c H locs ls C hR hS hl)
theorem J_if_le {x : Int32} {off : Int} {tgt : Nat} (hdg : decode cc pc = .ok (.ifCond .le off, 3)) (ht : (pc : Int) + off = (tgt : Int)) (kt : x ≤ 0 → J l R own cc nL ret Ev X A Z nc ns P tgt lv st) (kf : ¬ x ≤ 0 → J l R own cc nL ret Ev X A Z nc ns P (pc + 3) lv st) : J l R own cc nL ret Ev X A Z nc ns P pc lv (.int x :: st) := by
  intro p e s m args below meth c H locs ls C hR hS hl
  exact lv_if_le C.1 C.2.1 hdg ht (fun h => kt h p e s m args below meth c H locs ls C hR hS hl) (fun h => kf h p e s m args below meth c H locs ls C hR hS hl)
theorem J_icmp_le {x y : Int32} {off : Int} {tgt : Nat} (hdg : decode cc pc = .ok (.if_icmp .le off, 3)) (ht : (pc : Int) + off = (tgt : Int)) (kt : x ≤ y → J l R own cc nL ret Ev X A Z nc ns P tgt lv st) (kf : ¬ x ≤ y → J l R own cc nL ret Ev X A Z nc ns P (pc + 3) lv st) : J l R own cc nL ret Ev X A Z nc ns P pc lv (.int y :: .int x :: st) := by
  intro p e s m args below meth c H locs ls C hR hS hl
  exact lv_icmp_le C.1 C.2.1 hdg ht (fun h => kt h p e s m args below meth c H locs ls C hR hS hl) (fun h => kf h p e s m args below meth c H locs ls C hR hS hl)
theorem J_iconstN {n : Int} (k : Nat) (hdg : decode cc pc = .ok (.iconst n, 1)) (hk : n = (k : Int)) (kk : J l R own cc nL ret Ev X A Z nc ns P (pc + 1) lv (.int (nI k) :: st)) : J l R own cc nL ret Ev X A Z nc ns P pc lv st := J_iconst hdg (by rw [hk]; rfl) kk
theorem J_ifb_eq {b : Bool} {off : Int} {tgt : Nat} (hdg : decode cc pc = .ok (.ifCond .eq off, 3)) (ht : (pc : Int) + off = (tgt : Int)) (kt : b = false → J l R own cc nL ret Ev X A Z nc ns P tgt lv st) (kf : b = true → J l R own cc nL ret Ev X A Z nc ns P (pc + 3) lv st) : J l R own cc nL ret Ev X A Z nc ns P pc lv (.int (b2i b) :: st) := J_if_eq hdg ht (fun h => kt (b2i_z.mp h)) (fun h => kf (b2i_nz.mp h))
theorem J_ifb_ne {b : Bool} {off : Int} {tgt : Nat} (hdg : decode cc pc = .ok (.ifCond .ne off, 3)) (ht : (pc : Int) + off = (tgt : Int)) (kt : b = true → J l R own cc nL ret Ev X A Z nc ns P tgt lv st) (kf : b = false → J l R own cc nL ret Ev X A Z nc ns P (pc + 3) lv st) : J l R own cc nL ret Ev X A Z nc ns P pc lv (.int (b2i b) :: st) := J_if_ne hdg ht (fun h => kt (b2i_nz.mp h)) (fun h => kf (b2i_z.mp h))
theorem J_ifN_eq {a : Nat} (ha : a < 2 ^ 31) {off : Int} {tgt : Nat} (hdg : decode cc pc = .ok (.ifCond .eq off, 3)) (ht : (pc : Int) + off = (tgt : Int)) (kt : a = 0 → J l R own cc nL ret Ev X A Z nc ns P tgt lv st) (kf : ¬ a = 0 → J l R own cc nL ret Ev X A Z nc ns P (pc + 3) lv st) : J l R own cc nL ret Ev X A Z nc ns P pc lv (.int (nI a) :: st) := J_if_eq hdg ht (fun h => kt (nI_inj ha (by omega) (h.trans nI_0.symm))) (fun h => kf (fun q => h (by rw [q]; exact nI_0)))
theorem J_ifN_ne {a : Nat} (ha : a < 2 ^ 31) {off : Int} {tgt : Nat} (hdg : decode cc pc = .ok (.ifCond .ne off, 3)) (ht : (pc : Int) + off = (tgt : Int)) (kt : ¬ a = 0 → J l R own cc nL ret Ev X A Z nc ns P tgt lv st) (kf : a = 0 → J l R own cc nL ret Ev X A Z nc ns P (pc + 3) lv st) : J l R own cc nL ret Ev X A Z nc ns P pc lv (.int (nI a) :: st) := J_if_ne hdg ht (fun h => kt (fun q => h (by rw [q]; exact nI_0))) (fun h => kf (nI_inj ha (by omega) (h.trans nI_0.symm)))
theorem J_ifN_gt {a : Nat} (ha : a < 2 ^ 31) {off : Int} {tgt : Nat} (hdg : decode cc pc = .ok (.ifCond .gt off, 3)) (ht : (pc : Int) + off = (tgt : Int)) (kt : 0 < a → J l R own cc nL ret Ev X A Z nc ns P tgt lv st) (kf : a = 0 → J l R own cc nL ret Ev X A Z nc ns P (pc + 3) lv st) : J l R own cc nL ret Ev X A Z nc ns P pc lv (.int (nI a) :: st) := J_if_gt hdg ht (fun h => kt ((nI_ltI (by omega) ha).mp (by rw [nI_0]; exact h))) (fun h => kf (by
  rcases Nat.eq_zero_or_pos a with q | q
  · exact q
  · exact absurd (by rw [← nI_0]; exact (nI_ltI (by omega) ha).mpr q) h))
theorem J_ifN_le {a : Nat} (ha : a < 2 ^ 31) {off : Int} {tgt : Nat} (hdg : decode cc pc = .ok (.ifCond .le off, 3)) (ht : (pc : Int) + off = (tgt : Int)) (kt : a = 0 → J l R own cc nL ret Ev X A Z nc ns P tgt lv st) (kf : 0 < a → J l R own cc nL ret Ev X A Z nc ns P (pc + 3) lv st) : J l R own cc nL ret Ev X A Z nc ns P pc lv (.int (nI a) :: st) := J_if_le hdg ht (fun h => kt (by
  have := (nI_leI (a := a) (b := 0) ha (by omega)).mp (by rw [nI_0]; exact h)
  omega)) (fun h => kf (by
  rcases Nat.eq_zero_or_pos a with q | q
  · exact absurd (by rw [q, nI_0]; decide) h
  · exact q))
theorem J_ifN_lt {a : Nat} (ha : a < 2 ^ 31) {off : Int} {tgt : Nat} (hdg : decode cc pc = .ok (.ifCond .lt off, 3)) (ht : (pc : Int) + off = (tgt : Int)) (kf : J l R own cc nL ret Ev X A Z nc ns P (pc + 3) lv st) : J l R own cc nL ret Ev X A Z nc ns P pc lv (.int (nI a) :: st) := J_if_lt hdg ht (fun h => absurd h (nI_pos ha)) (fun _ => kf)
theorem J_ifN_ge {a : Nat} (ha : a < 2 ^ 31) {off : Int} {tgt : Nat} (hdg : decode cc pc = .ok (.ifCond .ge off, 3)) (ht : (pc : Int) + off = (tgt : Int)) (kt : J l R own cc nL ret Ev X A Z nc ns P tgt lv st) : J l R own cc nL ret Ev X A Z nc ns P pc lv (.int (nI a) :: st) := J_if_ge hdg ht (fun _ => kt) (fun h => absurd (nI_pos' ha) h)
theorem J_icmpN_eq {a b : Nat} (ha : a < 2 ^ 31) (hb : b < 2 ^ 31) {off : Int} {tgt : Nat} (hdg : decode cc pc = .ok (.if_icmp .eq off, 3)) (ht : (pc : Int) + off = (tgt : Int)) (kt : a = b → J l R own cc nL ret Ev X A Z nc ns P tgt lv st) (kf : ¬ a = b → J l R own cc nL ret Ev X A Z nc ns P (pc + 3) lv st) : J l R own cc nL ret Ev X A Z nc ns P pc lv (.int (nI b) :: .int (nI a) :: st) := J_icmp_eq hdg ht (fun h => kt ((nI_eq ha hb).mp h)) (fun h => kf (fun q => h ((nI_eq ha hb).mpr q)))
theorem J_icmpN_ne {a b : Nat} (ha : a < 2 ^ 31) (hb : b < 2 ^ 31) {off : Int} {tgt : Nat} (hdg : decode cc pc = .ok (.if_icmp .ne off, 3)) (ht : (pc : Int) + off = (tgt : Int)) (kt : ¬ a = b → J l R own cc nL ret Ev X A Z nc ns P tgt lv st) (kf : a = b → J l R own cc nL ret Ev X A Z nc ns P (pc + 3) lv st) : J l R own cc nL ret Ev X A Z nc ns P pc lv (.int (nI b) :: .int (nI a) :: st) := J_icmp_ne hdg ht (fun h => kt (fun q => h ((nI_eq ha hb).mpr q))) (fun h => kf ((nI_eq ha hb).mp h))
theorem J_icmpN_lt {a b : Nat} (ha : a < 2 ^ 31) (hb : b < 2 ^ 31) {off : Int} {tgt : Nat} (hdg : decode cc pc = .ok (.if_icmp .lt off, 3)) (ht : (pc : Int) + off = (tgt : Int)) (kt : a < b → J l R own cc nL ret Ev X A Z nc ns P tgt lv st) (kf : b ≤ a → J l R own cc nL ret Ev X A Z nc ns P (pc + 3) lv st) : J l R own cc nL ret Ev X A Z nc ns P pc lv (.int (nI b) :: .int (nI a) :: st) := J_icmp_lt hdg ht (fun h => kt ((nI_ltI ha hb).mp h)) (fun h => kf (Nat.not_lt.mp fun q => h ((nI_ltI ha hb).mpr q)))
theorem J_icmpN_ge {a b : Nat} (ha : a < 2 ^ 31) (hb : b < 2 ^ 31) {off : Int} {tgt : Nat} (hdg : decode cc pc = .ok (.if_icmp .ge off, 3)) (ht : (pc : Int) + off = (tgt : Int)) (kt : b ≤ a → J l R own cc nL ret Ev X A Z nc ns P tgt lv st) (kf : a < b → J l R own cc nL ret Ev X A Z nc ns P (pc + 3) lv st) : J l R own cc nL ret Ev X A Z nc ns P pc lv (.int (nI b) :: .int (nI a) :: st) := J_icmp_ge hdg ht (fun h => kt ((nI_leI hb ha).mp h)) (fun h => kf (Nat.not_le.mp fun q => h ((nI_leI hb ha).mpr q)))
theorem J_icmpN_gt {a b : Nat} (ha : a < 2 ^ 31) (hb : b < 2 ^ 31) {off : Int} {tgt : Nat} (hdg : decode cc pc = .ok (.if_icmp .gt off, 3)) (ht : (pc : Int) + off = (tgt : Int)) (kt : b < a → J l R own cc nL ret Ev X A Z nc ns P tgt lv st) (kf : a ≤ b → J l R own cc nL ret Ev X A Z nc ns P (pc + 3) lv st) : J l R own cc nL ret Ev X A Z nc ns P pc lv (.int (nI b) :: .int (nI a) :: st) := J_icmp_gt hdg ht (fun h => kt ((nI_ltI hb ha).mp h)) (fun h => kf (Nat.not_lt.mp fun q => h ((nI_ltI hb ha).mpr q)))
theorem J_icmpN_le {a b : Nat} (ha : a < 2 ^ 31) (hb : b < 2 ^ 31) {off : Int} {tgt : Nat} (hdg : decode cc pc = .ok (.if_icmp .le off, 3)) (ht : (pc : Int) + off = (tgt : Int)) (kt : a ≤ b → J l R own cc nL ret Ev X A Z nc ns P tgt lv st) (kf : b < a → J l R own cc nL ret Ev X A Z nc ns P (pc + 3) lv st) : J l R own cc nL ret Ev X A Z nc ns P pc lv (.int (nI b) :: .int (nI a) :: st) := J_icmp_le hdg ht (fun h => kt ((nI_leI ha hb).mp h)) (fun h => kf (Nat.not_le.mp fun q => h ((nI_leI ha hb).mpr q)))
theorem J_iaddN {a b : Nat} (hdg : decode cc pc = .ok (.iadd, 1)) (kk : J l R own cc nL ret Ev X A Z nc ns P (pc + 1) lv (.int (nI (a + b)) :: st)) : J l R own cc nL ret Ev X A Z nc ns P pc lv (.int (nI b) :: .int (nI a) :: st) := J_iadd hdg (by rw [nI_add]; exact kk)
theorem J_imulN {a b : Nat} (hdg : decode cc pc = .ok (.imul, 1)) (kk : J l R own cc nL ret Ev X A Z nc ns P (pc + 1) lv (.int (nI (a * b)) :: st)) : J l R own cc nL ret Ev X A Z nc ns P pc lv (.int (nI b) :: .int (nI a) :: st) := J_imul hdg (by rw [nI_mul]; exact kk)
theorem J_isubN {a b : Nat} (h : b ≤ a) (hdg : decode cc pc = .ok (.isub, 1)) (kk : J l R own cc nL ret Ev X A Z nc ns P (pc + 1) lv (.int (nI (a - b)) :: st)) : J l R own cc nL ret Ev X A Z nc ns P pc lv (.int (nI b) :: .int (nI a) :: st) := J_isub hdg (by rw [pk_sub h]; exact kk)
theorem J_tableIn {dflt lo hi : Int} {offs : Array Int} {len : Nat} {x : Int32} {off : Int} {tgt : Nat} (hdg : decode cc pc = .ok (.tableswitch dflt lo hi offs, len)) (h1 : ¬ x.toInt < lo) (h2 : ¬ hi < x.toInt) (ho : offs[(x.toInt - lo).toNat]? = some off) (ht : (pc : Int) + off = (tgt : Int)) (kk : J l R own cc nL ret Ev X A Z nc ns P tgt lv st) : J l R own cc nL ret Ev X A Z nc ns P pc lv (.int x :: st) := by
  intro p e s m args below meth c H locs ls C hR hS hl
  exact lv_tableIn C.1 C.2.1 hdg h1 h2 ho ht (kk p e s m args below meth c H locs ls C hR hS hl)
theorem J_tableOut {dflt lo hi : Int} {offs : Array Int} {len : Nat} {x : Int32} {tgt : Nat} (hdg : decode cc pc = .ok (.tableswitch dflt lo hi offs, len)) (h : x.toInt < lo ∨ hi < x.toInt) (ht : (pc : Int) + dflt = (tgt : Int)) (kk : J l R own cc nL ret Ev X A Z nc ns P tgt lv st) : J l R own cc nL ret Ev X A Z nc ns P pc lv (.int x :: st) := by
  intro p e s m args below meth c H locs ls C hR hS hl
  exact lv_tableOut C.1 C.2.1 hdg h ht (kk p e s m args below meth c H locs ls C hR hS hl)
theorem J_lookup {dflt : Int} {ps : Array (Int × Int)} {len : Nat} {x : Int32} {off : Int} {tgt : Nat} (hdg : decode cc pc = .ok (.lookupswitch dflt ps, len)) (hp : (ps.toList.zip (ps.toList.drop 1)).all (fun (a, next) => a.1 < next.1) = true) (ho : Op.lookupswitch.offset ps.toList dflt x.toInt = off) (ht : (pc : Int) + off = (tgt : Int)) (kk : J l R own cc nL ret Ev X A Z nc ns P tgt lv st) : J l R own cc nL ret Ev X A Z nc ns P pc lv (.int x :: st) := by
  intro p e s m args below meth c H locs ls C hR hS hl
  exact lv_lookup C.1 C.2.1 hdg hp ho ht (kk p e s m args below meth c H locs ls C hR hS hl)
theorem J_lv {lv' : Lv} (ks : List Nat) (h : lvpick lv ks = lv') (kk : J l R own cc nL ret Ev X A Z nc ns P pc lv' st) : J l R own cc nL ret Ev X A Z nc ns P pc lv st := by
  intro p e s m args below meth c H locs ls C hR hS hl
  subst h
  exact kk p e s m args below meth c H locs ls C hR hS (lvpick_has hl ks)
theorem J_top {x y : Int32} (h : x = y) (kk : J l R own cc nL ret Ev X A Z nc ns P pc lv (.int y :: st)) : J l R own cc nL ret Ev X A Z nc ns P pc lv (.int x :: st) := h ▸ kk
theorem J_sts {st' : List Value} (e : st = st') (kk : J l R own cc nL ret Ev X A Z nc ns P pc lv st') : J l R own cc nL ret Ev X A Z nc ns P pc lv st := e ▸ kk
theorem J_lvE {lv' : Lv}  (e : lv = lv') (kk : J l R own cc nL ret Ev X A Z nc ns P pc lv' st) : J l R own cc nL ret Ev X A Z nc ns P pc lv st := e ▸ kk
end JROWS
