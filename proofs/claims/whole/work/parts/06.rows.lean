section KROWS
variable {l : Launch} {G : WG} {R : Room} {own : String} {cc : ByteArray} {nL : Nat} {ret : Option FieldType} {X : Code → Prop} {Z : Zz} {μ : Mem} {pc : Nat} {lv : Lv} {st : List Value}
theorem K_iconst {n : Int} {v : Int32} (hdg : decode cc pc = .ok (.iconst n, 1)) (hv : Int32.ofInt n = v) (kk : K l G R own cc nL ret X Z μ (pc + 1) lv (.int v :: st)) : K l G R own cc nL ret X Z μ pc lv (st) := by
  intro p e s m args below meth c H locs ls C hR hS hl
  exact lv_iconst C.1 C.2.1 hdg hv (kk p e s m args below meth c H locs ls C hR hS hl)
theorem K_bipush {n : Int} {v : Int32} (hdg : decode cc pc = .ok (.bipush n, 2)) (hv : (Int8.ofInt n).toInt32 = v) (kk : K l G R own cc nL ret X Z μ (pc + 2) lv (.int v :: st)) : K l G R own cc nL ret X Z μ pc lv (st) := by
  intro p e s m args below meth c H locs ls C hR hS hl
  exact lv_bipush C.1 C.2.1 hdg hv (kk p e s m args below meth c H locs ls C hR hS hl)
theorem K_sipush {n : Int} {v : Int32} (hdg : decode cc pc = .ok (.sipush n, 3)) (hv : (Int16.ofInt n).toInt32 = v) (kk : K l G R own cc nL ret X Z μ (pc + 3) lv (.int v :: st)) : K l G R own cc nL ret X Z μ pc lv (st) := by
  intro p e s m args below meth c H locs ls C hR hS hl
  exact lv_sipush C.1 C.2.1 hdg hv (kk p e s m args below meth c H locs ls C hR hS hl)
theorem K_lconst {n : Fin 2} {v : Int64} (hdg : decode cc pc = .ok (.lconst n, 1)) (hv : Int64.ofNat (n : Nat) = v) (kk : K l G R own cc nL ret X Z μ (pc + 1) lv (.long v :: st)) : K l G R own cc nL ret X Z μ pc lv (st) := by
  intro p e s m args below meth c H locs ls C hR hS hl
  exact lv_lconst C.1 C.2.1 hdg hv (kk p e s m args below meth c H locs ls C hR hS hl)
theorem K_iload_n {k : Fin 4} {x : Int32} (hdg : decode cc pc = .ok (.iload_n k, 1)) (hk : lkp lv (k : Nat) = some (.int x)) (kk : K l G R own cc nL ret X Z μ (pc + 1) lv (.int x :: st)) : K l G R own cc nL ret X Z μ pc lv (st) := by
  intro p e s m args below meth c H locs ls C hR hS hl
  exact lv_iload_n C.1 C.2.1 hdg rfl (lkp_has hl hk) (kk p e s m args below meth c H locs ls C hR hS hl)
theorem K_iload {k : Nat} {x : Int32} (hdg : decode cc pc = .ok (.iload k, 2)) (hk : lkp lv k = some (.int x)) (kk : K l G R own cc nL ret X Z μ (pc + 2) lv (.int x :: st)) : K l G R own cc nL ret X Z μ pc lv (st) := by
  intro p e s m args below meth c H locs ls C hR hS hl
  exact lv_iload C.1 C.2.1 hdg (lkp_has hl hk) (kk p e s m args below meth c H locs ls C hR hS hl)
theorem K_istore_n {k : Fin 4} {x : Int32} (hdg : decode cc pc = .ok (.istore_n k, 1)) (hn : (k : Nat) < nL) (hok : lvok lv k = true) (kk : K l G R own cc nL ret X Z μ (pc + 1) (lvset lv k (.int x)) st) : K l G R own cc nL ret X Z μ pc lv (.int x :: st) := by
  intro p e s m args below meth c H locs ls C hR hS hl
  exact lv_istore_n C.1 C.2.1 hdg rfl hl hn rfl (fun ls' hl' => kk p e s m args below meth c H locs ls' C hR hS (lvset_has hok hl'))
theorem K_istore {k : Nat} {x : Int32} (hdg : decode cc pc = .ok (.istore k, 2)) (hn : (k : Nat) < nL) (hok : lvok lv k = true) (kk : K l G R own cc nL ret X Z μ (pc + 2) (lvset lv k (.int x)) st) : K l G R own cc nL ret X Z μ pc lv (.int x :: st) := by
  intro p e s m args below meth c H locs ls C hR hS hl
  exact lv_istore C.1 C.2.1 hdg hl hn rfl (fun ls' hl' => kk p e s m args below meth c H locs ls' C hR hS (lvset_has hok hl'))
theorem K_lload_n {k : Fin 4} {x : Int64} (hdg : decode cc pc = .ok (.lload_n k, 1)) (hk : lkp lv (k : Nat) = some (.long x)) (kk : K l G R own cc nL ret X Z μ (pc + 1) lv (.long x :: st)) : K l G R own cc nL ret X Z μ pc lv (st) := by
  intro p e s m args below meth c H locs ls C hR hS hl
  exact lv_lload_n C.1 C.2.1 hdg rfl (lkp_has hl hk) (kk p e s m args below meth c H locs ls C hR hS hl)
theorem K_lload {k : Nat} {x : Int64} (hdg : decode cc pc = .ok (.lload k, 2)) (hk : lkp lv k = some (.long x)) (kk : K l G R own cc nL ret X Z μ (pc + 2) lv (.long x :: st)) : K l G R own cc nL ret X Z μ pc lv (st) := by
  intro p e s m args below meth c H locs ls C hR hS hl
  exact lv_lload C.1 C.2.1 hdg (lkp_has hl hk) (kk p e s m args below meth c H locs ls C hR hS hl)
theorem K_lstore_n {k : Fin 4} {x : Int64} (hdg : decode cc pc = .ok (.lstore_n k, 1)) (hn : (k : Nat) + 1 < nL) (hok : lvok lv k = true) (kk : K l G R own cc nL ret X Z μ (pc + 1) (lvset (lvdel lv ((k : Nat) + 1)) k (.long x)) st) : K l G R own cc nL ret X Z μ pc lv (.long x :: st) := by
  intro p e s m args below meth c H locs ls C hR hS hl
  exact lv_lstore_n C.1 C.2.1 hdg rfl hl hn rfl (fun ls' hl' => kk p e s m args below meth c H locs ls' C hR hS (lvset2_has hok hl'))
theorem K_lstore {k : Nat} {x : Int64} (hdg : decode cc pc = .ok (.lstore k, 2)) (hn : (k : Nat) + 1 < nL) (hok : lvok lv k = true) (kk : K l G R own cc nL ret X Z μ (pc + 2) (lvset (lvdel lv ((k : Nat) + 1)) k (.long x)) st) : K l G R own cc nL ret X Z μ pc lv (.long x :: st) := by
  intro p e s m args below meth c H locs ls C hR hS hl
  exact lv_lstore C.1 C.2.1 hdg hl hn rfl (fun ls' hl' => kk p e s m args below meth c H locs ls' C hR hS (lvset2_has hok hl'))
theorem K_aload_n {k : Fin 4} {x : Nat} (hdg : decode cc pc = .ok (.aload_n k, 1)) (hk : lkp lv (k : Nat) = some (.ref x)) (kk : K l G R own cc nL ret X Z μ (pc + 1) lv (.ref x :: st)) : K l G R own cc nL ret X Z μ pc lv (st) := by
  intro p e s m args below meth c H locs ls C hR hS hl
  exact lv_aload_n C.1 C.2.1 hdg rfl (lkp_has hl hk) (kk p e s m args below meth c H locs ls C hR hS hl)
theorem K_aload {k : Nat} {x : Nat} (hdg : decode cc pc = .ok (.aload k, 2)) (hk : lkp lv k = some (.ref x)) (kk : K l G R own cc nL ret X Z μ (pc + 2) lv (.ref x :: st)) : K l G R own cc nL ret X Z μ pc lv (st) := by
  intro p e s m args below meth c H locs ls C hR hS hl
  exact lv_aload C.1 C.2.1 hdg (lkp_has hl hk) (kk p e s m args below meth c H locs ls C hR hS hl)
theorem K_astore_n {k : Fin 4} {x : Nat} (hdg : decode cc pc = .ok (.astore_n k, 1)) (hn : (k : Nat) < nL) (hok : lvok lv k = true) (kk : K l G R own cc nL ret X Z μ (pc + 1) (lvset lv k (.ref x)) st) : K l G R own cc nL ret X Z μ pc lv (.ref x :: st) := by
  intro p e s m args below meth c H locs ls C hR hS hl
  exact lv_astore_n C.1 C.2.1 hdg rfl hl hn rfl (fun ls' hl' => kk p e s m args below meth c H locs ls' C hR hS (lvset_has hok hl'))
theorem K_astore {k : Nat} {x : Nat} (hdg : decode cc pc = .ok (.astore k, 2)) (hn : (k : Nat) < nL) (hok : lvok lv k = true) (kk : K l G R own cc nL ret X Z μ (pc + 2) (lvset lv k (.ref x)) st) : K l G R own cc nL ret X Z μ pc lv (.ref x :: st) := by
  intro p e s m args below meth c H locs ls C hR hS hl
  exact lv_astore C.1 C.2.1 hdg hl hn rfl (fun ls' hl' => kk p e s m args below meth c H locs ls' C hR hS (lvset_has hok hl'))
theorem K_dload_n {k : Fin 4} {x : UInt64} (hdg : decode cc pc = .ok (.dload_n k, 1)) (hk : lkp lv (k : Nat) = some (.double x)) (kk : K l G R own cc nL ret X Z μ (pc + 1) lv (.double x :: st)) : K l G R own cc nL ret X Z μ pc lv (st) := by
  intro p e s m args below meth c H locs ls C hR hS hl
  exact lv_dload_n C.1 C.2.1 hdg rfl (lkp_has hl hk) (kk p e s m args below meth c H locs ls C hR hS hl)
theorem K_dload {k : Nat} {x : UInt64} (hdg : decode cc pc = .ok (.dload k, 2)) (hk : lkp lv k = some (.double x)) (kk : K l G R own cc nL ret X Z μ (pc + 2) lv (.double x :: st)) : K l G R own cc nL ret X Z μ pc lv (st) := by
  intro p e s m args below meth c H locs ls C hR hS hl
  exact lv_dload C.1 C.2.1 hdg (lkp_has hl hk) (kk p e s m args below meth c H locs ls C hR hS hl)
theorem K_dstore_n {k : Fin 4} {x : UInt64} (hdg : decode cc pc = .ok (.dstore_n k, 1)) (hn : (k : Nat) + 1 < nL) (hok : lvok lv k = true) (kk : K l G R own cc nL ret X Z μ (pc + 1) (lvset (lvdel lv ((k : Nat) + 1)) k (.double x)) st) : K l G R own cc nL ret X Z μ pc lv (.double x :: st) := by
  intro p e s m args below meth c H locs ls C hR hS hl
  exact lv_dstore_n C.1 C.2.1 hdg rfl hl hn rfl (fun ls' hl' => kk p e s m args below meth c H locs ls' C hR hS (lvset2_has hok hl'))
theorem K_dstore {k : Nat} {x : UInt64} (hdg : decode cc pc = .ok (.dstore k, 2)) (hn : (k : Nat) + 1 < nL) (hok : lvok lv k = true) (kk : K l G R own cc nL ret X Z μ (pc + 2) (lvset (lvdel lv ((k : Nat) + 1)) k (.double x)) st) : K l G R own cc nL ret X Z μ pc lv (.double x :: st) := by
  intro p e s m args below meth c H locs ls C hR hS hl
  exact lv_dstore C.1 C.2.1 hdg hl hn rfl (fun ls' hl' => kk p e s m args below meth c H locs ls' C hR hS (lvset2_has hok hl'))
theorem K_iadd {x y : Int32} (hdg : decode cc pc = .ok (.iadd, 1)) (kk : K l G R own cc nL ret X Z μ (pc + 1) lv (.int (x + y) :: st)) : K l G R own cc nL ret X Z μ pc lv (.int y :: .int x :: st) := by
  intro p e s m args below meth c H locs ls C hR hS hl
  exact lv_iadd C.1 C.2.1 hdg (kk p e s m args below meth c H locs ls C hR hS hl)
theorem K_isub {x y : Int32} (hdg : decode cc pc = .ok (.isub, 1)) (kk : K l G R own cc nL ret X Z μ (pc + 1) lv (.int (x - y) :: st)) : K l G R own cc nL ret X Z μ pc lv (.int y :: .int x :: st) := by
  intro p e s m args below meth c H locs ls C hR hS hl
  exact lv_isub C.1 C.2.1 hdg (kk p e s m args below meth c H locs ls C hR hS hl)
theorem K_imul {x y : Int32} (hdg : decode cc pc = .ok (.imul, 1)) (kk : K l G R own cc nL ret X Z μ (pc + 1) lv (.int (x * y) :: st)) : K l G R own cc nL ret X Z μ pc lv (.int y :: .int x :: st) := by
  intro p e s m args below meth c H locs ls C hR hS hl
  exact lv_imul C.1 C.2.1 hdg (kk p e s m args below meth c H locs ls C hR hS hl)
theorem K_iand {x y : Int32} (hdg : decode cc pc = .ok (.iand, 1)) (kk : K l G R own cc nL ret X Z μ (pc + 1) lv (.int (x &&& y) :: st)) : K l G R own cc nL ret X Z μ pc lv (.int y :: .int x :: st) := by
  intro p e s m args below meth c H locs ls C hR hS hl
  exact lv_iand C.1 C.2.1 hdg (kk p e s m args below meth c H locs ls C hR hS hl)
theorem K_ladd {x y : Int64} (hdg : decode cc pc = .ok (.ladd, 1)) (kk : K l G R own cc nL ret X Z μ (pc + 1) lv (.long (x + y) :: st)) : K l G R own cc nL ret X Z μ pc lv (.long y :: .long x :: st) := by
  intro p e s m args below meth c H locs ls C hR hS hl
  exact lv_ladd C.1 C.2.1 hdg (kk p e s m args below meth c H locs ls C hR hS hl)
theorem K_lsub {x y : Int64} (hdg : decode cc pc = .ok (.lsub, 1)) (kk : K l G R own cc nL ret X Z μ (pc + 1) lv (.long (x - y) :: st)) : K l G R own cc nL ret X Z μ pc lv (.long y :: .long x :: st) := by
  intro p e s m args below meth c H locs ls C hR hS hl
  exact lv_lsub C.1 C.2.1 hdg (kk p e s m args below meth c H locs ls C hR hS hl)
theorem K_lmul {x y : Int64} (hdg : decode cc pc = .ok (.lmul, 1)) (kk : K l G R own cc nL ret X Z μ (pc + 1) lv (.long (x * y) :: st)) : K l G R own cc nL ret X Z μ pc lv (.long y :: .long x :: st) := by
  intro p e s m args below meth c H locs ls C hR hS hl
  exact lv_lmul C.1 C.2.1 hdg (kk p e s m args below meth c H locs ls C hR hS hl)
theorem K_lor {x y : Int64} (hdg : decode cc pc = .ok (.lor, 1)) (kk : K l G R own cc nL ret X Z μ (pc + 1) lv (.long (x ||| y) :: st)) : K l G R own cc nL ret X Z μ pc lv (.long y :: .long x :: st) := by
  intro p e s m args below meth c H locs ls C hR hS hl
  exact lv_lor C.1 C.2.1 hdg (kk p e s m args below meth c H locs ls C hR hS hl)
theorem K_idiv {x y : Int32} (hdg : decode cc pc = .ok (.idiv, 1)) (hne : ¬ y = 0) (kk : K l G R own cc nL ret X Z μ (pc + 1) lv (.int (x / y) :: st)) : K l G R own cc nL ret X Z μ pc lv (.int y :: .int x :: st) := by
  intro p e s m args below meth c H locs ls C hR hS hl
  exact lv_idiv C.1 C.2.1 hdg hne (kk p e s m args below meth c H locs ls C hR hS hl)
theorem K_irem {x y : Int32} (hdg : decode cc pc = .ok (.irem, 1)) (hne : ¬ y = 0) (kk : K l G R own cc nL ret X Z μ (pc + 1) lv (.int (x - x / y * y) :: st)) : K l G R own cc nL ret X Z μ pc lv (.int y :: .int x :: st) := by
  intro p e s m args below meth c H locs ls C hR hS hl
  exact lv_irem C.1 C.2.1 hdg hne (kk p e s m args below meth c H locs ls C hR hS hl)
theorem K_ldiv {x y : Int64} (hdg : decode cc pc = .ok (.ldiv, 1)) (hne : ¬ y = 0) (kk : K l G R own cc nL ret X Z μ (pc + 1) lv (.long (x / y) :: st)) : K l G R own cc nL ret X Z μ pc lv (.long y :: .long x :: st) := by
  intro p e s m args below meth c H locs ls C hR hS hl
  exact lv_ldiv C.1 C.2.1 hdg hne (kk p e s m args below meth c H locs ls C hR hS hl)
theorem K_ineg {x : Int32} (hdg : decode cc pc = .ok (.ineg, 1)) (kk : K l G R own cc nL ret X Z μ (pc + 1) lv (.int (-x) :: st)) : K l G R own cc nL ret X Z μ pc lv (.int x :: st) := by
  intro p e s m args below meth c H locs ls C hR hS hl
  exact lv_ineg C.1 C.2.1 hdg (kk p e s m args below meth c H locs ls C hR hS hl)
theorem K_i2l {x : Int32} (hdg : decode cc pc = .ok (.i2l, 1)) (kk : K l G R own cc nL ret X Z μ (pc + 1) lv (.long x.toInt64 :: st)) : K l G R own cc nL ret X Z μ pc lv (.int x :: st) := by
  intro p e s m args below meth c H locs ls C hR hS hl
  exact lv_i2l C.1 C.2.1 hdg rfl (kk p e s m args below meth c H locs ls C hR hS hl)
theorem K_l2i {x : Int64} (hdg : decode cc pc = .ok (.l2i, 1)) (kk : K l G R own cc nL ret X Z μ (pc + 1) lv (.int x.toInt32 :: st)) : K l G R own cc nL ret X Z μ pc lv (.long x :: st) := by
  intro p e s m args below meth c H locs ls C hR hS hl
  exact lv_l2i C.1 C.2.1 hdg rfl (kk p e s m args below meth c H locs ls C hR hS hl)
theorem K_lshl {x : Int64} {y : Int32} (hdg : decode cc pc = .ok (.lshl, 1)) (kk : K l G R own cc nL ret X Z μ (pc + 1) lv (.long (x <<< (y.toInt64 &&& 63)) :: st)) : K l G R own cc nL ret X Z μ pc lv (.int y :: .long x :: st) := by
  intro p e s m args below meth c H locs ls C hR hS hl
  exact lv_lshl C.1 C.2.1 hdg rfl (kk p e s m args below meth c H locs ls C hR hS hl)
theorem K_lcmp {x y : Int64} (hdg : decode cc pc = .ok (.lcmp, 1)) (kk : K l G R own cc nL ret X Z μ (pc + 1) lv (.int (lg_cmp x y) :: st)) : K l G R own cc nL ret X Z μ pc lv (.long y :: .long x :: st) := by
  intro p e s m args below meth c H locs ls C hR hS hl
  exact W.lcmp C.1 C.2.1 hdg (kk p e s m args below meth c H locs ls C hR hS hl)
theorem K_dup {a : Value} (hdg : decode cc pc = .ok (.dup, 1)) (h1 : a.category = 1) (kk : K l G R own cc nL ret X Z μ (pc + 1) lv (a :: a :: st)) : K l G R own cc nL ret X Z μ pc lv (a :: st) := by
  intro p e s m args below meth c H locs ls C hR hS hl
  exact lv_dup C.1 C.2.1 hdg h1 (kk p e s m args below meth c H locs ls C hR hS hl)
theorem K_pop {a : Value} (hdg : decode cc pc = .ok (.pop, 1)) (h1 : a.category = 1) (kk : K l G R own cc nL ret X Z μ (pc + 1) lv (st)) : K l G R own cc nL ret X Z μ pc lv (a :: st) := by
  intro p e s m args below meth c H locs ls C hR hS hl
  exact lv_pop C.1 C.2.1 hdg h1 (kk p e s m args below meth c H locs ls C hR hS hl)
theorem K_dup2_11 {a b : Value} (hdg : decode cc pc = .ok (.dup2, 1)) (h1 : a.category = 1) (h2 : b.category = 1) (kk : K l G R own cc nL ret X Z μ (pc + 1) lv (a :: b :: a :: b :: st)) : K l G R own cc nL ret X Z μ pc lv (a :: b :: st) := by
  intro p e s m args below meth c H locs ls C hR hS hl
  exact lv_dup2_11 C.1 C.2.1 hdg h1 h2 (kk p e s m args below meth c H locs ls C hR hS hl)
theorem K_dup2_2 {a : Value} (hdg : decode cc pc = .ok (.dup2, 1)) (h1 : a.category = 2) (kk : K l G R own cc nL ret X Z μ (pc + 1) lv (a :: a :: st)) : K l G R own cc nL ret X Z μ pc lv (a :: st) := by
  intro p e s m args below meth c H locs ls C hR hS hl
  exact lv_dup2_2 C.1 C.2.1 hdg h1 (kk p e s m args below meth c H locs ls C hR hS hl)
theorem K_ldc {k : Nat} {v : Int32} (hdg : decode cc pc = .ok (.ldc k, 2)) (hw : Cond.constant own k v ∈ UW) (kk : K l G R own cc nL ret X Z μ (pc + 2) lv (.int v :: st)) : K l G R own cc nL ret X Z μ pc lv (st) := by
  intro p e s m args below meth c H locs ls C hR hS hl
  exact lv_ldc C.1 C.2.1 C.2.2.2.2.2.1 (C.2.2.2.2.2.2.1 _ hw) hdg (kk p e s m args below meth c H locs ls C hR hS hl)
theorem K_ldcw {k : Nat} {v : Int32} (hdg : decode cc pc = .ok (.ldc_w k, 3)) (hw : Cond.constant own k v ∈ UW) (kk : K l G R own cc nL ret X Z μ (pc + 3) lv (.int v :: st)) : K l G R own cc nL ret X Z μ pc lv (st) := by
  intro p e s m args below meth c H locs ls C hR hS hl
  exact lv_ldcw C.1 C.2.1 C.2.2.2.2.2.1 (C.2.2.2.2.2.2.1 _ hw) hdg (kk p e s m args below meth c H locs ls C hR hS hl)
theorem K_ldc2 {k : Nat} {v : Int64} (hdg : decode cc pc = .ok (.ldc2_w k, 3)) (hw : Cond.constantLong own k v ∈ UW) (kk : K l G R own cc nL ret X Z μ (pc + 3) lv (.long v :: st)) : K l G R own cc nL ret X Z μ pc lv (st) := by
  intro p e s m args below meth c H locs ls C hR hS hl
  exact lv_ldc2 C.1 C.2.1 C.2.2.2.2.2.1 (C.2.2.2.2.2.2.1 _ hw) hdg (kk p e s m args below meth c H locs ls C hR hS hl)
theorem K_iinc {i : Nat} {n : Int} {x v : Int32} (hdg : decode cc pc = .ok (.iinc i n, 3)) (hk : lkp lv i = some (.int x)) (hv : x + Int32.ofInt n = v) (hn : i < nL) (hok : lvok lv i = true) (kk : K l G R own cc nL ret X Z μ (pc + 3) (lvset lv i (.int v)) st) : K l G R own cc nL ret X Z μ pc lv st := by
  intro p e s m args below meth c H locs ls C hR hS hl
  obtain ⟨j, hj⟩ := List.getElem?_of_mem (lkp_mem hk)
  exact lv_iinc C.1 C.2.1 hdg hl hj hv hn rfl (fun ls' hl' => kk p e s m args below meth c H locs ls' C hR hS (lvset_has hok hl'))
theorem K_iincN {i a b : Nat} {n : Int} (hdg : decode cc pc = .ok (.iinc i n, 3)) (hk : lkp lv i = some (.int (nI a))) (hb : n = (b : Int)) (hn : i < nL) (hok : lvok lv i = true) (kk : K l G R own cc nL ret X Z μ (pc + 3) (lvset lv i (.int (nI (a + b)))) st) : K l G R own cc nL ret X Z μ pc lv st := K_iinc hdg hk (by rw [hb, ← nI_add]; rfl) hn hok kk
theorem K_goto {off : Int} {tgt : Nat} (hdg : decode cc pc = .ok (.goto off, 3)) (ht : (pc : Int) + off = (tgt : Int)) (kk : K l G R own cc nL ret X Z μ tgt lv st) : K l G R own cc nL ret X Z μ pc lv st := by
  intro p e s m args below meth c H locs ls C hR hS hl
  exact lv_goto C.1 C.2.1 hdg ht (kk p e s m args below meth c H locs ls C hR hS hl)
theorem K_if_eq {x : Int32} {off : Int} {tgt : Nat} (hdg : decode cc pc = .ok (.ifCond .eq off, 3)) (ht : (pc : Int) + off = (tgt : Int)) (kt : x = 0 → K l G R own cc nL ret X Z μ tgt lv st) (kf : ¬ x = 0 → K l G R own cc nL ret X Z μ (pc + 3) lv st) : K l G R own cc nL ret X Z μ pc lv (.int x :: st) := by
  intro p e s m args below meth c H locs ls C hR hS hl
  exact lv_if_eq C.1 C.2.1 hdg ht (fun h => kt h p e s m args below meth c H locs ls C hR hS hl) (fun h => kf h p e s m args below meth c H locs ls C hR hS hl)
theorem K_icmp_eq {x y : Int32} {off : Int} {tgt : Nat} (hdg : decode cc pc = .ok (.if_icmp .eq off, 3)) (ht : (pc : Int) + off = (tgt : Int)) (kt : x = y → K l G R own cc nL ret X Z μ tgt lv st) (kf : ¬ x = y → K l G R own cc nL ret X Z μ (pc + 3) lv st) : K l G R own cc nL ret X Z μ pc lv (.int y :: .int x :: st) := by
  intro p e s m args below meth c H locs ls C hR hS hl
  exact lv_icmp_eq C.1 C.2.1 hdg ht (fun h => kt h p e s m args below meth c H locs ls C hR hS hl) (fun h => kf h p e s m args below meth c H locs ls C hR hS hl)
theorem K_if_ne {x : Int32} {off : Int} {tgt : Nat} (hdg : decode cc pc = .ok (.ifCond .ne off, 3)) (ht : (pc : Int) + off = (tgt : Int)) (kt : ¬ x = 0 → K l G R own cc nL ret X Z μ tgt lv st) (kf : x = 0 → K l G R own cc nL ret X Z μ (pc + 3) lv st) : K l G R own cc nL ret X Z μ pc lv (.int x :: st) := by
  intro p e s m args below meth c H locs ls C hR hS hl
  exact lv_if_ne C.1 C.2.1 hdg ht (fun h => kt h p e s m args below meth c H locs ls C hR hS hl) (fun h => kf h p e s m args below meth c H locs ls C hR hS hl)
theorem K_icmp_ne {x y : Int32} {off : Int} {tgt : Nat} (hdg : decode cc pc = .ok (.if_icmp .ne off, 3)) (ht : (pc : Int) + off = (tgt : Int)) (kt : ¬ x = y → K l G R own cc nL ret X Z μ tgt lv st) (kf : x = y → K l G R own cc nL ret X Z μ (pc + 3) lv st) : K l G R own cc nL ret X Z μ pc lv (.int y :: .int x :: st) := by
  intro p e s m args below meth c H locs ls C hR hS hl
  exact lv_icmp_ne C.1 C.2.1 hdg ht (fun h => kt h p e s m args below meth c H locs ls C hR hS hl) (fun h => kf h p e s m args below meth c H locs ls C hR hS hl)
theorem K_if_lt {x : Int32} {off : Int} {tgt : Nat} (hdg : decode cc pc = .ok (.ifCond .lt off, 3)) (ht : (pc : Int) + off = (tgt : Int)) (kt : x < 0 → K l G R own cc nL ret X Z μ tgt lv st) (kf : ¬ x < 0 → K l G R own cc nL ret X Z μ (pc + 3) lv st) : K l G R own cc nL ret X Z μ pc lv (.int x :: st) := by
  intro p e s m args below meth c H locs ls C hR hS hl
  exact lv_if_lt C.1 C.2.1 hdg ht (fun h => kt h p e s m args below meth c H locs ls C hR hS hl) (fun h => kf h p e s m args below meth c H locs ls C hR hS hl)
theorem K_icmp_lt {x y : Int32} {off : Int} {tgt : Nat} (hdg : decode cc pc = .ok (.if_icmp .lt off, 3)) (ht : (pc : Int) + off = (tgt : Int)) (kt : x < y → K l G R own cc nL ret X Z μ tgt lv st) (kf : ¬ x < y → K l G R own cc nL ret X Z μ (pc + 3) lv st) : K l G R own cc nL ret X Z μ pc lv (.int y :: .int x :: st) := by
  intro p e s m args below meth c H locs ls C hR hS hl
  exact lv_icmp_lt C.1 C.2.1 hdg ht (fun h => kt h p e s m args below meth c H locs ls C hR hS hl) (fun h => kf h p e s m args below meth c H locs ls C hR hS hl)
theorem K_if_ge {x : Int32} {off : Int} {tgt : Nat} (hdg : decode cc pc = .ok (.ifCond .ge off, 3)) (ht : (pc : Int) + off = (tgt : Int)) (kt : 0 ≤ x → K l G R own cc nL ret X Z μ tgt lv st) (kf : ¬ 0 ≤ x → K l G R own cc nL ret X Z μ (pc + 3) lv st) : K l G R own cc nL ret X Z μ pc lv (.int x :: st) := by
  intro p e s m args below meth c H locs ls C hR hS hl
  exact lv_if_ge C.1 C.2.1 hdg ht (fun h => kt h p e s m args below meth c H locs ls C hR hS hl) (fun h => kf h p e s m args below meth c H locs ls C hR hS hl)
theorem K_icmp_ge {x y : Int32} {off : Int} {tgt : Nat} (hdg : decode cc pc = .ok (.if_icmp .ge off, 3)) (ht : (pc : Int) + off = (tgt : Int)) (kt : y ≤ x → K l G R own cc nL ret X Z μ tgt lv st) (kf : ¬ y ≤ x → K l G R own cc nL ret X Z μ (pc + 3) lv st) : K l G R own cc nL ret X Z μ pc lv (.int y :: .int x :: st) := by
  intro p e s m args below meth c H locs ls C hR hS hl
  exact lv_icmp_ge C.1 C.2.1 hdg ht (fun h => kt h p e s m args below meth c H locs ls C hR hS hl) (fun h => kf h p e s m args below meth c H locs ls C hR hS hl)
theorem K_if_gt {x : Int32} {off : Int} {tgt : Nat} (hdg : decode cc pc = .ok (.ifCond .gt off, 3)) (ht : (pc : Int) + off = (tgt : Int)) (kt : 0 < x → K l G R own cc nL ret X Z μ tgt lv st) (kf : ¬ 0 < x → K l G R own cc nL ret X Z μ (pc + 3) lv st) : K l G R own cc nL ret X Z μ pc lv (.int x :: st) := by
  intro p e s m args below meth c H locs ls C hR hS hl
  exact lv_if_gt C.1 C.2.1 hdg ht (fun h => kt h p e s m args below meth c H locs ls C hR hS hl) (fun h => kf h p e s m args below meth c H locs ls C hR hS hl)
theorem K_icmp_gt {x y : Int32} {off : Int} {tgt : Nat} (hdg : decode cc pc = .ok (.if_icmp .gt off, 3)) (ht : (pc : Int) + off = (tgt : Int)) (kt : y < x → K l G R own cc nL ret X Z μ tgt lv st) (kf : ¬ y < x → K l G R own cc nL ret X Z μ (pc + 3) lv st) : K l G R own cc nL ret X Z μ pc lv (.int y :: .int x :: st) := by
  intro p e s m args below meth c H locs ls C hR hS hl
  exact lv_icmp_gt C.1 C.2.1 hdg ht (fun h => kt h p e s m args below meth c H locs ls C hR hS hl) (fun h => kf h p e s m args below meth c H locs ls C hR hS hl)
theorem K_if_le {x : Int32} {off : Int} {tgt : Nat} (hdg : decode cc pc = .ok (.ifCond .le off, 3)) (ht : (pc : Int) + off = (tgt : Int)) (kt : x ≤ 0 → K l G R own cc nL ret X Z μ tgt lv st) (kf : ¬ x ≤ 0 → K l G R own cc nL ret X Z μ (pc + 3) lv st) : K l G R own cc nL ret X Z μ pc lv (.int x :: st) := by
  intro p e s m args below meth c H locs ls C hR hS hl
  exact lv_if_le C.1 C.2.1 hdg ht (fun h => kt h p e s m args below meth c H locs ls C hR hS hl) (fun h => kf h p e s m args below meth c H locs ls C hR hS hl)
theorem K_icmp_le {x y : Int32} {off : Int} {tgt : Nat} (hdg : decode cc pc = .ok (.if_icmp .le off, 3)) (ht : (pc : Int) + off = (tgt : Int)) (kt : x ≤ y → K l G R own cc nL ret X Z μ tgt lv st) (kf : ¬ x ≤ y → K l G R own cc nL ret X Z μ (pc + 3) lv st) : K l G R own cc nL ret X Z μ pc lv (.int y :: .int x :: st) := by
  intro p e s m args below meth c H locs ls C hR hS hl
  exact lv_icmp_le C.1 C.2.1 hdg ht (fun h => kt h p e s m args below meth c H locs ls C hR hS hl) (fun h => kf h p e s m args below meth c H locs ls C hR hS hl)
end KROWS
