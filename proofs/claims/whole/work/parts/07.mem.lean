def b2i (b : Bool) : Int32 := cond b 1 0
def mini (x y : Int32) : Int32 := if y < x then y else x
def maxi (x y : Int32) : Int32 := if x < y then y else x
theorem b2i_1 : b2i true = 1 := rfl
theorem b2i_0 : b2i false = 0 := rfl
theorem b2i_z {b : Bool} : b2i b = 0 ↔ b = false := by cases b <;> decide
theorem b2i_nz {b : Bool} : ¬ b2i b = 0 ↔ b = true := by cases b <;> decide
theorem nI_ofInt (n : Nat) : Int32.ofInt (n : Int) = nI n := rfl
theorem nI_inj {a b : Nat} (ha : a < 2 ^ 31) (hb : b < 2 ^ 31) (h : nI a = nI b) : a = b := (nI_eq ha hb).mp h
theorem nI_mul (a b : Nat) : nI a * nI b = nI (a * b) := pk_mul a b
theorem vp_inN {j n : Nat} (h : j < n) (hn : n < 2 ^ 31) : vp_in (nI j) n := vp_in_nI h hn
section KMEM
variable {l : Launch} {G : WG} {R : Room} {own : String} {cc : ByteArray} {nL : Nat} {ret : Option FieldType} {X : Code → Prop} {Z : Zz} {μ : Mem} {pc : Nat} {lv : Lv} {st : List Value}
theorem K_iconstN {n : Int} (k : Nat) (hdg : decode cc pc = .ok (.iconst n, 1)) (hk : n = (k : Int)) (kk : K l G R own cc nL ret X Z μ (pc + 1) lv (.int (nI k) :: st)) : K l G R own cc nL ret X Z μ pc lv st := K_iconst hdg (by rw [hk]; rfl) kk
theorem K_ifb_eq {b : Bool} {off : Int} {tgt : Nat} (hdg : decode cc pc = .ok (.ifCond .eq off, 3)) (ht : (pc : Int) + off = (tgt : Int)) (kt : b = false → K l G R own cc nL ret X Z μ tgt lv st) (kf : b = true → K l G R own cc nL ret X Z μ (pc + 3) lv st) : K l G R own cc nL ret X Z μ pc lv (.int (b2i b) :: st) := K_if_eq hdg ht (fun h => kt (b2i_z.mp h)) (fun h => kf (b2i_nz.mp h))
theorem K_ifb_ne {b : Bool} {off : Int} {tgt : Nat} (hdg : decode cc pc = .ok (.ifCond .ne off, 3)) (ht : (pc : Int) + off = (tgt : Int)) (kt : b = true → K l G R own cc nL ret X Z μ tgt lv st) (kf : b = false → K l G R own cc nL ret X Z μ (pc + 3) lv st) : K l G R own cc nL ret X Z μ pc lv (.int (b2i b) :: st) := K_if_ne hdg ht (fun h => kt (b2i_nz.mp h)) (fun h => kf (b2i_z.mp h))
theorem K_ifN_eq {a : Nat} (ha : a < 2 ^ 31) {off : Int} {tgt : Nat} (hdg : decode cc pc = .ok (.ifCond .eq off, 3)) (ht : (pc : Int) + off = (tgt : Int)) (kt : a = 0 → K l G R own cc nL ret X Z μ tgt lv st) (kf : ¬ a = 0 → K l G R own cc nL ret X Z μ (pc + 3) lv st) : K l G R own cc nL ret X Z μ pc lv (.int (nI a) :: st) := K_if_eq hdg ht (fun h => kt (nI_inj ha (by omega) (h.trans nI_0.symm))) (fun h => kf (fun q => h (by rw [q]; exact nI_0)))
theorem K_ifN_ne {a : Nat} (ha : a < 2 ^ 31) {off : Int} {tgt : Nat} (hdg : decode cc pc = .ok (.ifCond .ne off, 3)) (ht : (pc : Int) + off = (tgt : Int)) (kt : ¬ a = 0 → K l G R own cc nL ret X Z μ tgt lv st) (kf : a = 0 → K l G R own cc nL ret X Z μ (pc + 3) lv st) : K l G R own cc nL ret X Z μ pc lv (.int (nI a) :: st) := K_if_ne hdg ht (fun h => kt (fun q => h (by rw [q]; exact nI_0))) (fun h => kf (nI_inj ha (by omega) (h.trans nI_0.symm)))
theorem K_ifN_gt {a : Nat} (ha : a < 2 ^ 31) {off : Int} {tgt : Nat} (hdg : decode cc pc = .ok (.ifCond .gt off, 3)) (ht : (pc : Int) + off = (tgt : Int)) (kt : 0 < a → K l G R own cc nL ret X Z μ tgt lv st) (kf : a = 0 → K l G R own cc nL ret X Z μ (pc + 3) lv st) : K l G R own cc nL ret X Z μ pc lv (.int (nI a) :: st) := K_if_gt hdg ht (fun h => kt ((nI_ltI (by omega) ha).mp (by rw [nI_0]; exact h))) (fun h => kf (by
  rcases Nat.eq_zero_or_pos a with q | q
  · exact q
  · exact absurd (by rw [← nI_0]; exact (nI_ltI (by omega) ha).mpr q) h))
theorem K_ifN_le {a : Nat} (ha : a < 2 ^ 31) {off : Int} {tgt : Nat} (hdg : decode cc pc = .ok (.ifCond .le off, 3)) (ht : (pc : Int) + off = (tgt : Int)) (kt : a = 0 → K l G R own cc nL ret X Z μ tgt lv st) (kf : 0 < a → K l G R own cc nL ret X Z μ (pc + 3) lv st) : K l G R own cc nL ret X Z μ pc lv (.int (nI a) :: st) := K_if_le hdg ht (fun h => kt (by
  have := (nI_leI (a := a) (b := 0) ha (by omega)).mp (by rw [nI_0]; exact h)
  omega)) (fun h => kf (by
  rcases Nat.eq_zero_or_pos a with q | q
  · exact absurd (by rw [q, nI_0]; decide) h
  · exact q))
theorem K_ifN_lt {a : Nat} (ha : a < 2 ^ 31) {off : Int} {tgt : Nat} (hdg : decode cc pc = .ok (.ifCond .lt off, 3)) (ht : (pc : Int) + off = (tgt : Int)) (kf : K l G R own cc nL ret X Z μ (pc + 3) lv st) : K l G R own cc nL ret X Z μ pc lv (.int (nI a) :: st) := K_if_lt hdg ht (fun h => absurd h (nI_pos ha)) (fun _ => kf)
theorem K_ifN_ge {a : Nat} (ha : a < 2 ^ 31) {off : Int} {tgt : Nat} (hdg : decode cc pc = .ok (.ifCond .ge off, 3)) (ht : (pc : Int) + off = (tgt : Int)) (kt : K l G R own cc nL ret X Z μ tgt lv st) : K l G R own cc nL ret X Z μ pc lv (.int (nI a) :: st) := K_if_ge hdg ht (fun _ => kt) (fun h => absurd (nI_pos' ha) h)
theorem K_icmpN_eq {a b : Nat} (ha : a < 2 ^ 31) (hb : b < 2 ^ 31) {off : Int} {tgt : Nat} (hdg : decode cc pc = .ok (.if_icmp .eq off, 3)) (ht : (pc : Int) + off = (tgt : Int)) (kt : a = b → K l G R own cc nL ret X Z μ tgt lv st) (kf : ¬ a = b → K l G R own cc nL ret X Z μ (pc + 3) lv st) : K l G R own cc nL ret X Z μ pc lv (.int (nI b) :: .int (nI a) :: st) := K_icmp_eq hdg ht (fun h => kt ((nI_eq ha hb).mp h)) (fun h => kf (fun q => h ((nI_eq ha hb).mpr q)))
theorem K_icmpN_ne {a b : Nat} (ha : a < 2 ^ 31) (hb : b < 2 ^ 31) {off : Int} {tgt : Nat} (hdg : decode cc pc = .ok (.if_icmp .ne off, 3)) (ht : (pc : Int) + off = (tgt : Int)) (kt : ¬ a = b → K l G R own cc nL ret X Z μ tgt lv st) (kf : a = b → K l G R own cc nL ret X Z μ (pc + 3) lv st) : K l G R own cc nL ret X Z μ pc lv (.int (nI b) :: .int (nI a) :: st) := K_icmp_ne hdg ht (fun h => kt (fun q => h ((nI_eq ha hb).mpr q))) (fun h => kf ((nI_eq ha hb).mp h))
theorem K_icmpN_lt {a b : Nat} (ha : a < 2 ^ 31) (hb : b < 2 ^ 31) {off : Int} {tgt : Nat} (hdg : decode cc pc = .ok (.if_icmp .lt off, 3)) (ht : (pc : Int) + off = (tgt : Int)) (kt : a < b → K l G R own cc nL ret X Z μ tgt lv st) (kf : b ≤ a → K l G R own cc nL ret X Z μ (pc + 3) lv st) : K l G R own cc nL ret X Z μ pc lv (.int (nI b) :: .int (nI a) :: st) := K_icmp_lt hdg ht (fun h => kt ((nI_ltI ha hb).mp h)) (fun h => kf (Nat.not_lt.mp fun q => h ((nI_ltI ha hb).mpr q)))
theorem K_icmpN_ge {a b : Nat} (ha : a < 2 ^ 31) (hb : b < 2 ^ 31) {off : Int} {tgt : Nat} (hdg : decode cc pc = .ok (.if_icmp .ge off, 3)) (ht : (pc : Int) + off = (tgt : Int)) (kt : b ≤ a → K l G R own cc nL ret X Z μ tgt lv st) (kf : a < b → K l G R own cc nL ret X Z μ (pc + 3) lv st) : K l G R own cc nL ret X Z μ pc lv (.int (nI b) :: .int (nI a) :: st) := K_icmp_ge hdg ht (fun h => kt ((nI_leI hb ha).mp h)) (fun h => kf (Nat.not_le.mp fun q => h ((nI_leI hb ha).mpr q)))
theorem K_icmpN_gt {a b : Nat} (ha : a < 2 ^ 31) (hb : b < 2 ^ 31) {off : Int} {tgt : Nat} (hdg : decode cc pc = .ok (.if_icmp .gt off, 3)) (ht : (pc : Int) + off = (tgt : Int)) (kt : b < a → K l G R own cc nL ret X Z μ tgt lv st) (kf : a ≤ b → K l G R own cc nL ret X Z μ (pc + 3) lv st) : K l G R own cc nL ret X Z μ pc lv (.int (nI b) :: .int (nI a) :: st) := K_icmp_gt hdg ht (fun h => kt ((nI_ltI hb ha).mp h)) (fun h => kf (Nat.not_lt.mp fun q => h ((nI_ltI hb ha).mpr q)))
theorem K_icmpN_le {a b : Nat} (ha : a < 2 ^ 31) (hb : b < 2 ^ 31) {off : Int} {tgt : Nat} (hdg : decode cc pc = .ok (.if_icmp .le off, 3)) (ht : (pc : Int) + off = (tgt : Int)) (kt : a ≤ b → K l G R own cc nL ret X Z μ tgt lv st) (kf : b < a → K l G R own cc nL ret X Z μ (pc + 3) lv st) : K l G R own cc nL ret X Z μ pc lv (.int (nI b) :: .int (nI a) :: st) := K_icmp_le hdg ht (fun h => kt ((nI_leI ha hb).mp h)) (fun h => kf (Nat.not_le.mp fun q => h ((nI_leI ha hb).mpr q)))
theorem K_iaddN {a b : Nat} (hdg : decode cc pc = .ok (.iadd, 1)) (kk : K l G R own cc nL ret X Z μ (pc + 1) lv (.int (nI (a + b)) :: st)) : K l G R own cc nL ret X Z μ pc lv (.int (nI b) :: .int (nI a) :: st) := K_iadd hdg (by rw [nI_add]; exact kk)
theorem K_imulN {a b : Nat} (hdg : decode cc pc = .ok (.imul, 1)) (kk : K l G R own cc nL ret X Z μ (pc + 1) lv (.int (nI (a * b)) :: st)) : K l G R own cc nL ret X Z μ pc lv (.int (nI b) :: .int (nI a) :: st) := K_imul hdg (by rw [nI_mul]; exact kk)
theorem K_isubN {a b : Nat} (h : b ≤ a) (hdg : decode cc pc = .ok (.isub, 1)) (kk : K l G R own cc nL ret X Z μ (pc + 1) lv (.int (nI (a - b)) :: st)) : K l G R own cc nL ret X Z μ pc lv (.int (nI b) :: .int (nI a) :: st) := K_isub hdg (by rw [pk_sub h]; exact kk)
theorem K_tableIn {dflt lo hi : Int} {offs : Array Int} {len : Nat} {x : Int32} {off : Int} {tgt : Nat} (hdg : decode cc pc = .ok (.tableswitch dflt lo hi offs, len)) (h1 : ¬ x.toInt < lo) (h2 : ¬ hi < x.toInt) (ho : offs[(x.toInt - lo).toNat]? = some off) (ht : (pc : Int) + off = (tgt : Int)) (kk : K l G R own cc nL ret X Z μ tgt lv st) : K l G R own cc nL ret X Z μ pc lv (.int x :: st) := by
  intro p e s m args below meth c H locs ls C hR hS hl
  exact lv_tableIn C.1 C.2.1 hdg h1 h2 ho ht (kk p e s m args below meth c H locs ls C hR hS hl)
theorem K_tableOut {dflt lo hi : Int} {offs : Array Int} {len : Nat} {x : Int32} {tgt : Nat} (hdg : decode cc pc = .ok (.tableswitch dflt lo hi offs, len)) (h : x.toInt < lo ∨ hi < x.toInt) (ht : (pc : Int) + dflt = (tgt : Int)) (kk : K l G R own cc nL ret X Z μ tgt lv st) : K l G R own cc nL ret X Z μ pc lv (.int x :: st) := by
  intro p e s m args below meth c H locs ls C hR hS hl
  exact lv_tableOut C.1 C.2.1 hdg h ht (kk p e s m args below meth c H locs ls C hR hS hl)
theorem K_lookup {dflt : Int} {ps : Array (Int × Int)} {len : Nat} {x : Int32} {off : Int} {tgt : Nat} (hdg : decode cc pc = .ok (.lookupswitch dflt ps, len)) (hp : (ps.toList.zip (ps.toList.drop 1)).all (fun (a, next) => a.1 < next.1) = true) (ho : Op.lookupswitch.offset ps.toList dflt x.toInt = off) (ht : (pc : Int) + off = (tgt : Int)) (kk : K l G R own cc nL ret X Z μ tgt lv st) : K l G R own cc nL ret X Z μ pc lv (.int x :: st) := by
  intro p e s m args below meth c H locs ls C hR hS hl
  exact lv_lookup C.1 C.2.1 hdg hp ho ht (kk p e s m args below meth c H locs ls C hR hS hl)
theorem Rep.one {H : Heap} (h : Rep G μ H) {t i p : Nat} (hd : dm t i p) {x : va_E} (hct : ct G μ t i p = x) : va_P G.1 vwCl [(adr G t i p, x)] H := by
  intro k q hk
  match k, hk with
  | 0, hk => cases hk; rw [← hct]; exact h.1 t i p hd
  | k + 1, hk => simp at hk
theorem K_get {t i p ci idx k N : Nat} {C : String} {T : u_T} {fs : List Value} {v : Value} (hdg : decode cc pc = .ok (.getfield idx, 3)) (hcl : vwCl[ci]? = some (C, T, N)) (hin : ∀ w ∈ u_ws C T N, w ∈ UW) (hlink : Cond.fieldLink own idx (T k).1 (T k).2.1 (T k).2.2.1 ∈ UW) (hk : k < N) (hd : dm t i p) (hct : ct G μ t i p = .inr (ci, fs)) (hv : fs[k]? = some v) (kk : K l G R own cc nL ret X Z μ (pc + 3) lv (v :: st)) : K l G R own cc nL ret X Z μ pc lv (.ref (adr G t i p) :: st) := by
  intro p' e s m args below meth c H locs ls C' hR hS hl
  have hts := C'.2.2.2.2.2.2.1
  exact va_get C'.1 C'.2.1 hts hin C'.2.2.2.2.2.1 C'.2.2.2.2.2.2.2.1.1 (hR.one hd hct) 0 rfl hcl k hk (hts _ hlink) (fun _ h9 => h9) hv hdg (kk p' e s m args below meth c H locs ls C' hR hS hl)
theorem AG_in {t i p : Nat} (hd : dm t i p) : AG G (adr G t i p) := ⟨t, i, p, hd, rfl⟩
theorem K_putI {t i p ci idx k N : Nat} {C : String} {T : u_T} {fs : List Value} {x : Int32} {ty : FieldType} (hdg : decode cc pc = .ok (.putfield idx, 3)) (hcl : vwCl[ci]? = some (C, T, N)) (hin : ∀ w ∈ u_ws C T N, w ∈ UW) (ty0 : Nat → FieldType) (hty : ∀ k, k < N → parseFieldDescriptor (T k).2.2.1 = some (ty0 k)) (hnm : ∀ a, a < N → ∀ b, b < N → a ≠ b → (T a).2.1 ≠ (T b).2.1) (hlink : Cond.fieldLink own idx (T k).1 (T k).2.1 (T k).2.2.1 ∈ UW) (hk : k < N) (hfin : (T k).2.2.2 = false) (hd0 : parseFieldDescriptor (T k).2.2.1 = some ty) (hn : narrow ty (.int x) = .int x) (hfit : fits ty (.int x) = true) (hlen : k < fs.length)
    (hd : dm t i p) (hct : ct G μ t i p = .inr (ci, fs)) (hct' : ct G (mset μ t i p k x) t i p = .inr (ci, fs.set k (.int x))) (hz : t = 8 → k = 12 → x = 0 ∨ x = 1) (kk : K l G R own cc nL ret X Z (mset μ t i p k x) (pc + 3) lv st) : K l G R own cc nL ret X Z μ pc lv (.int x :: .ref (adr G t i p) :: st) := by
  intro p' e s m args below meth c H locs ls C' hR hS hl
  have hts := C'.2.2.2.2.2.2.1
  have hown := C'.2.2.2.2.2.1
  have hK := C'.2.2.2.2.2.2.2.1.1
  have hap := va_apart (own := own) hts hin ty0 hty hnm hK hcl
  have h0 := hR.1 t i p hd
  rw [hct] at h0
  obtain ⟨r, h1, cell, q1, q2, q3, q4⟩ := h0
  have hr : r = (C, T, N) := Option.some.inj (h1.symm.trans hcl)
  subst hr
  obtain ⟨hSl, hfc, kC, hkC, hkind⟩ := hK.1 ci _ hcl
  obtain ⟨cf, kf, fi, f, hi, hsl⟩ := hSl k hk
  have hlay := hts _ (hin _ (u_in_lay hk))
  unfold u_lay at hlay
  rw [if_neg (by rw [hfin]; decide)] at hlay
  have hst := (u_facts hfc hkC (u_lays hts hin hk) hi).1
  have h6 := u_store hfc hkC hkind hlay hi hd0 hn hfit
  refine W.putK C'.1 C'.2.1 (f := f) ⟨hown, hts _ hlink, ⟨_, _, _, hi⟩, hst⟩ (by rw [q2]; exact h6) q1 q3 (by rw [hsl]; exact k2_hasslot (q4 k hk)) rfl rfl hdg fun H' e1 e2 e3 => ?_
  rw [hsl] at e1 ⊢
  refine kk p' e s m args below meth c H' _ ls C' (hR.set hd ?_ e3 hz) (hS.put e2 e3 (AG_in hd)) hl
  rw [hct']
  exact ⟨_, hcl, t_OB.to (V := updV (vp_V fs) k (.int x)) ⟨_, e1, q2, q3, t_set q4 hap hk (.int x)⟩ (fun j _ => vp_updV_set hlen (.int x) j)⟩
theorem K_putL {t i p ci idx k N n : Nat} {C : String} {T : u_T} {fs : List Value} {x : Int64} {ty : FieldType} (hdg : decode cc pc = .ok (.putfield idx, 3)) (hcl : vwCl[ci]? = some (C, T, N)) (hin : ∀ w ∈ u_ws C T N, w ∈ UW) (ty0 : Nat → FieldType) (hty : ∀ k, k < N → parseFieldDescriptor (T k).2.2.1 = some (ty0 k)) (hnm : ∀ a, a < N → ∀ b, b < N → a ≠ b → (T a).2.1 ≠ (T b).2.1) (hlink : Cond.fieldLink own idx (T k).1 (T k).2.1 (T k).2.2.1 ∈ UW) (hk : k < N) (hfin : (T k).2.2.2 = false) (hd0 : parseFieldDescriptor (T k).2.2.1 = some ty) (hn : narrow ty (.long x) = .long x) (hfit : fits ty (.long x) = true) (hlen : k < fs.length)
    (hd : dm t i p) (hct : ct G μ t i p = .inr (ci, fs)) (hct' : ct G (mlset μ n x) t i p = .inr (ci, fs.set k (.long x))) (hz : t = 15 ∧ n = 0 ∨ 21 ≤ t ∧ 1 ≤ n) (kk : K l G R own cc nL ret X Z (mlset μ n x) (pc + 3) lv st) : K l G R own cc nL ret X Z μ pc lv (.long x :: .ref (adr G t i p) :: st) := by
  intro p' e s m args below meth c H locs ls C' hR hS hl
  have hts := C'.2.2.2.2.2.2.1
  have hown := C'.2.2.2.2.2.1
  have hK := C'.2.2.2.2.2.2.2.1.1
  have hap := va_apart (own := own) hts hin ty0 hty hnm hK hcl
  have h0 := hR.1 t i p hd
  rw [hct] at h0
  obtain ⟨r, h1, cell, q1, q2, q3, q4⟩ := h0
  have hr : r = (C, T, N) := Option.some.inj (h1.symm.trans hcl)
  subst hr
  obtain ⟨hSl, hfc, kC, hkC, hkind⟩ := hK.1 ci _ hcl
  obtain ⟨cf, kf, fi, f, hi, hsl⟩ := hSl k hk
  have hlay := hts _ (hin _ (u_in_lay hk))
  unfold u_lay at hlay
  rw [if_neg (by rw [hfin]; decide)] at hlay
  have hst := (u_facts hfc hkC (u_lays hts hin hk) hi).1
  have h6 := u_store hfc hkC hkind hlay hi hd0 hn hfit
  refine W.putK C'.1 C'.2.1 (f := f) ⟨hown, hts _ hlink, ⟨_, _, _, hi⟩, hst⟩ (by rw [q2]; exact h6) q1 q3 (by rw [hsl]; exact k2_hasslot (q4 k hk)) rfl rfl hdg fun H' e1 e2 e3 => ?_
  rw [hsl] at e1 ⊢
  refine kk p' e s m args below meth c H' _ ls C' (hR.lset hd hz ?_ e3) (hS.put e2 e3 (AG_in hd)) hl
  rw [hct']
  exact ⟨_, hcl, t_OB.to (V := updV (vp_V fs) k (.long x)) ⟨_, e1, q2, q3, t_set q4 hap hk (.long x)⟩ (fun j _ => vp_updV_set hlen (.long x) j)⟩
theorem K_iald {t i p n j : Nat} {f : Nat → Int32} (hdg : decode cc pc = .ok (.iaload, 1)) (hd : dm t i p) (hct : ct G μ t i p = .inl (G.2.1 0, n, .inl f)) (hn : n < 2 ^ 31) (hj : j < n) (kk : K l G R own cc nL ret X Z μ (pc + 1) lv (.int (f j) :: st)) : K l G R own cc nL ret X Z μ pc lv (.int (nI j) :: .ref (adr G t i p) :: st) := by
  intro p' e s m args below meth c H locs ls C' hR hS hl
  refine va_iald C'.1 C'.2.1 C'.2.2.2.2.2.2.2.1.1 (hR.one hd hct) 0 0 rfl rfl (vp_inN hj hn) hdg ?_
  rw [nI_clamp (by omega)]
  exact kk p' e s m args below meth c H locs ls C' hR hS hl
theorem K_iast {t i p n j : Nat} {f : Nat → Int32} {x : Int32} (hdg : decode cc pc = .ok (.iastore, 1)) (hd : dm t i p) (hct : ct G μ t i p = .inl (G.2.1 0, n, .inl f)) (hct' : ct G (mset μ t i p j x) t i p = .inl (G.2.1 0, n, .inl (upd f j x))) (hn : n < 2 ^ 31) (hj : j < n) (ht8 : ¬ t = 8) (kk : K l G R own cc nL ret X Z (mset μ t i p j x) (pc + 1) lv st) : K l G R own cc nL ret X Z μ pc lv (.int x :: .int (nI j) :: .ref (adr G t i p) :: st) := by
  intro p' e s m args below meth c H locs ls C' hR hS hl
  have hK := C'.2.2.2.2.2.2.2.1.1
  have h0 := hR.1 t i p hd
  rw [hct] at h0
  have hin : vp_in (nI j) n := vp_inN hj hn
  refine W.iast C'.1 C'.2.1 h0 ((hK.2 0 _ rfl).1 n (fun j => .int (f j))) (fun q => by cases q) (by show ¬ (_ < 0 ∨ (arrV _ _ _).slots.size ≤ _); rw [arrV_size]; exact hin) rfl rfl hdg fun H1 e1 z oq => ?_
  refine kk p' e s m args below meth c H1 _ ls C' (hR.set hd ?_ oq (fun q => absurd q ht8)) (hS.put z oq (AG_in hd)) hl
  rw [hct']
  show H1[adr G t i p]? = some (vp_cell _ _)
  rw [e1, vp_cell_i, vp_cell_i, arrV_store, nI_clamp (by omega)]
  congr 2
  funext q
  by_cases hq : q = j
  · subst hq
    simp [updV, upd]
  · simp [updV, upd, hq]
theorem K_aald {t i p n t0 j a : Nat} {C : String} {cA : ClassId} {f : Nat → Option Nat} (hdg : decode cc pc = .ok (.aaload, 1)) (hd : dm t i p) (hct : ct G μ t i p = .inl (cA, n, .inr (.inr (.inr (.inr f))))) (ht : (tysG G)[t0]? = some (cA, .object C)) (hn : n < 2 ^ 31) (hj : j < n) (hf : f j = some a) (kk : K l G R own cc nL ret X Z μ (pc + 1) lv (.ref a :: st)) : K l G R own cc nL ret X Z μ pc lv (.int (nI j) :: .ref (adr G t i p) :: st) := by
  intro p' e s m args below meth c H locs ls C' hR hS hl
  refine va_aldq C'.1 C'.2.1 C'.2.2.2.2.2.2.2.1.1 (hR.one hd hct) 0 t0 rfl ht (vp_inN hj hn) hdg ?_
  rw [nI_clamp (by omega), hf]
  exact kk p' e s m args below meth c H locs ls C' hR hS hl
theorem K_min {idx : Nat} {x y : Int32} (hdg : decode cc pc = .ok (.invokestatic idx, 3)) (hl1 : Cond.methodLink own idx Lib.Math.min.name ∈ UW) (hl2 : Cond.static Lib.Math.min.name ∈ UW) (hl3 : Cond.initialized "java/lang/Math" ∈ UW) (hl4 : Cond.code Lib.Math.min.name Lib.Math.min.code 2 (some .int) ∈ UW) (hf : 1 ≤ R.frames) (hlo : (st.map fun v => v.category).sum + 13 ≤ R.locals) (kk : K l G R own cc nL ret X Z μ (pc + 3) lv (.int (mini x y) :: st)) : K l G R own cc nL ret X Z μ pc lv (.int y :: .int x :: st) := by
  intro p e s m args below meth c H locs ls C hR hS hl
  have hts := C.2.2.2.2.2.2.1
  exact va_mmin C.1 C.2.1 (C.2.2.1.trans hl.1.symm) C.2.2.2.2.2.1 (hts _ hl1) (hts _ hl2) (hts _ hl3) (hts _ hl4) hf hlo (Nat.zero_le _) (Nat.zero_le _) hdg (kk p e s m args below meth c H locs ls C hR hS hl)
theorem K_max {idx : Nat} {x y : Int32} (hdg : decode cc pc = .ok (.invokestatic idx, 3)) (hl1 : Cond.methodLink own idx Lib.Math.max.name ∈ UW) (hl2 : Cond.static Lib.Math.max.name ∈ UW) (hl3 : Cond.initialized "java/lang/Math" ∈ UW) (hl4 : Cond.code Lib.Math.max.name Lib.Math.max.code 2 (some .int) ∈ UW) (hf : 1 ≤ R.frames) (hlo : (st.map fun v => v.category).sum + 13 ≤ R.locals) (kk : K l G R own cc nL ret X Z μ (pc + 3) lv (.int (maxi x y) :: st)) : K l G R own cc nL ret X Z μ pc lv (.int y :: .int x :: st) := by
  intro p e s m args below meth c H locs ls C hR hS hl
  have hts := C.2.2.2.2.2.2.1
  exact va_mmax C.1 C.2.1 (C.2.2.1.trans hl.1.symm) C.2.2.2.2.2.1 (hts _ hl1) (hts _ hl2) (hts _ hl3) (hts _ hl4) hf hlo (Nat.zero_le _) (Nat.zero_le _) hdg (kk p e s m args below meth c H locs ls C hR hS hl)
end KMEM
