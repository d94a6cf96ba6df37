/-! ===== area, exempt area, rate, setting, lapse, a phase is added ===== -/
def upN (f : Nat → Nat) (k v : Nat) : Nat → Nat := fun j => if j = k then v else f j
theorem upN_at {f : Nat → Nat} {k v : Nat} : upN f k v k = v := if_pos rfl
theorem upN_ne {f : Nat → Nat} {k v j : Nat} (h : j ≠ k) : upN f k v j = f j := if_neg h
theorem upN_sum {f : Nat → Nat} {u v : Nat} : ∀ n, u < n → sN (upN f u v) n + f u = sN f n + v
  | 0, h => absurd h (Nat.not_lt_zero u)
  | n + 1, h => by
    show sN (upN f u v) n + upN f u v n + f u = sN f n + f n + v
    by_cases q : u = n
    · subst q
      rw [upN_at, sN_ext (g := f) u fun k hk => upN_ne (by omega)]
      omega
    · have h1 := upN_sum (f := f) (u := u) (v := v) n (by omega)
      rw [upN_ne (fun y => q y.symm)]
      omega
def areX (u v : Nat) (x : APh) : APh := (APh.mk x.beg (upN x.A u v) (upN x.E u (min (x.E u) v)) x.R x.La x.N x.B x.g x.I x.O x.P x.Ld x.Su x.br x.lo x.so)
def exeX (u v : Nat) (x : APh) : APh := (APh.mk x.beg x.A (upN x.E u v) x.R x.La x.N x.B x.g x.I x.O x.P x.Ld x.Su x.br x.lo x.so)
def lapX (u : Nat) (x : APh) : APh := (APh.mk x.beg x.A x.E x.R (upN x.La u (x.E u * x.R u)) x.N x.B x.g x.I x.O x.P x.Ld x.Su x.br (x.lo + (x.E u * x.R u - x.La u)) x.so)
theorem areX_OP {day n p u v : Nat} {rt : Nat → Nat} {x : APh} (h : OP day n p rt x) (hb : x.beg = false) (hp : p < n) (hv : v ≤ 999) : OP day n p rt (areX u v x) := OP.mk
  (f_hA := fun w hw => by
    show upN x.A u v w ≤ 999
    unfold upN
    split
    · exact hv
    · exact h.hA w hw)
  (f_hE := fun w hw => by
    show upN x.E u (min (x.E u) v) w ≤ upN x.A u v w
    unfold upN
    split
    · exact Nat.min_le_right _ _
    · exact h.hE w hw)
  (f_hR := h.hR)
  (f_hL := fun w hw => by
    show x.La w ≤ _
    rw [(h.un hb).2.1 w hw]
    exact Nat.zero_le _)
  (f_blank := fun q => absurd hp (by omega))
  (f_un := h.un)
  (f_rt := h.rt)
  (f_bg := fun q => absurd (hb.symm.trans q) (by decide))
  (f_sh := h.sh)
  (f_du := h.du)
  (f_un2 := h.un2)
  (f_su := h.su)
theorem exeX_OP {day n p u v : Nat} {rt : Nat → Nat} {x : APh} (h : OP day n p rt x) (hb : x.beg = false) (hv : v ≤ x.A u) : OP day n p rt (exeX u v x) := OP.mk
  (f_hA := h.hA)
  (f_hE := fun w hw => by
    show upN x.E u v w ≤ x.A w
    unfold upN
    split
    · rename_i q; rw [q]; exact hv
    · exact h.hE w hw)
  (f_hR := h.hR)
  (f_hL := fun w hw => by
    show x.La w ≤ _
    rw [(h.un hb).2.1 w hw]
    exact Nat.zero_le _)
  (f_blank := h.blank)
  (f_un := h.un)
  (f_rt := h.rt)
  (f_bg := fun q => absurd (hb.symm.trans q) (by decide))
  (f_sh := h.sh)
  (f_du := h.du)
  (f_un2 := h.un2)
  (f_su := h.su)
theorem lapX_sums {x : APh} {u : Nat} (hu : u < 4) : rlf (lapX u x) + (x.E u * x.R u - x.La u) = rlf x := by
  have h1 := upN_sum (f := fun w => x.E w * x.R w - x.La w) (u := u) (v := 0) 4 hu
  have h2 : rlf (lapX u x) = sN (upN (fun w => x.E w * x.R w - x.La w) u 0) 4 := sN_ext 4 fun w _ => by
    show x.E w * x.R w - upN x.La u (x.E u * x.R u) w = _
    unfold upN
    by_cases q : w = u
    · subst q
      rw [if_pos rfl, if_pos rfl, Nat.sub_self]
    · rw [if_neg q, if_neg q]
  have h3 : rlf x = sN (fun w => x.E w * x.R w - x.La w) 4 := rfl
  rw [h2, h3]
  omega
theorem lapX_lps {day n p : Nat} {rt : Nat → Nat} {x : APh} (h : OP day n p rt x) {u : Nat} (hu : u < 4) : lps (lapX u x) = lps x + (x.E u * x.R u - x.La u) := by
  have h1 := upN_sum (f := x.La) (u := u) (v := x.E u * x.R u) 4 hu
  have h2 := h.hL u hu
  show sN (upN x.La u (x.E u * x.R u)) 4 = sN x.La 4 + _
  omega
theorem lapX_OP {day n p u : Nat} {rt : Nat → Nat} {x : APh} (h : OP day n p rt x) (hb : x.beg = true) (hu : u < 4) : OP day n p rt (lapX u x) := OP.mk
  (f_hA := h.hA)
  (f_hE := h.hE)
  (f_hR := h.hR)
  (f_hL := fun w hw => by
    show upN x.La u (x.E u * x.R u) w ≤ x.E w * x.R w
    unfold upN
    split
    · rename_i q; rw [q]; exact Nat.le_refl _
    · exact h.hL w hw)
  (f_blank := h.blank)
  (f_un := fun q => absurd (hb.symm.trans q) (by decide))
  (f_rt := h.rt)
  (f_bg := fun _ => by
    obtain ⟨h1, h2, h3, h4, h5, h6, h7⟩ := h.bg hb
    refine ⟨h1, h2, h3, h4, h5, h6, ?_⟩
    have h8 := lapX_sums (x := x) hu
    show chg x + x.Su = rlf (lapX u x) + x.P + x.Ld + (x.lo + (x.E u * x.R u - x.La u) + x.so + sN x.O x.N)
    unfold owd at h7
    omega)
  (f_sh := h.sh)
  (f_du := h.du)
  (f_un2 := h.un2)
  (f_su := h.su)
/-! the class's side -/
theorem area_C {μ : Mem} {i p u v : Nat} {x : APh} (c : CP μ i p x) (hu : u < 4) (he : x.E u < 2 ^ 30) (hv : v < 2 ^ 30) {w : Int32} (hw : w = μ.1 10 i p u) : CP (mset (mset μ 9 i p u (nI v)) 10 i p u (mini w (nI v))) i p (areX u v x) := by
  subst hw
  exact (CP.mk (f_A := fun j hj => by
      rw [mset_t (by decide)]
      by_cases q : j = u
      · subst q
        rw [mset_at]
        exact congrArg nI upN_at.symm
      · rw [mset_k q, c.A j hj]
        exact congrArg nI (upN_ne q).symm) (f_E := fun j hj => by
      by_cases q : j = u
      · subst q
        rw [mset_at, c.E j hj, mini_nI (by omega) (by omega)]
        exact congrArg nI upN_at.symm
      · rw [mset_k q, mset_t (by decide), c.E j hj]
        exact congrArg nI (upN_ne q).symm) (f_R := fun j hj => by rw [mset_t (by decide), mset_t (by decide)]; exact c.R j hj) (f_La := fun j hj => by rw [mset_t (by decide), mset_t (by decide)]; exact c.La j hj) (f_b := by rw [mset_t (by decide), mset_t (by decide)]; exact c.b) (f_g := fun hb => by rw [mset_t (by decide), mset_t (by decide)]; exact c.g hb) (f_N := by rw [mset_t (by decide), mset_t (by decide)]; exact c.N) (f_P := by rw [mset_t (by decide), mset_t (by decide)]; exact c.P) (f_Ld := by rw [mset_t (by decide), mset_t (by decide)]; exact c.Ld) (f_Su := by rw [mset_t (by decide), mset_t (by decide)]; exact c.Su) (f_br := by rw [mset_t (by decide), mset_t (by decide)]; exact c.br) (f_I := fun j hj => by rw [mset_t (by decide), mset_t (by decide)]; exact c.I j hj) (f_O := fun j hj => by rw [mset_t (by decide), mset_t (by decide)]; exact c.O j hj))
theorem exempt_C {μ : Mem} {i p u v : Nat} {x : APh} (c : CP μ i p x) : CP (mset μ 10 i p u (nI v)) i p (exeX u v x) := CP.mk
  (f_A := fun j hj => by rw [mset_t (by decide)]; exact c.A j hj)
  (f_E := fun j hj => by
    by_cases q : j = u
    · subst q
      rw [mset_at]
      exact congrArg nI upN_at.symm
    · rw [mset_k q, c.E j hj]
      exact congrArg nI (upN_ne q).symm)
  (f_R := fun j hj => by rw [mset_t (by decide)]; exact c.R j hj)
  (f_La := fun j hj => by rw [mset_t (by decide)]; exact c.La j hj)
  (f_b := by rw [mset_t (by decide)]; exact c.b)
  (f_g := fun hb => by rw [mset_t (by decide)]; exact c.g hb)
  (f_N := by rw [mset_t (by decide)]; exact c.N)
  (f_P := by rw [mset_t (by decide)]; exact c.P)
  (f_Ld := by rw [mset_t (by decide)]; exact c.Ld)
  (f_Su := by rw [mset_t (by decide)]; exact c.Su)
  (f_br := by rw [mset_t (by decide)]; exact c.br)
  (f_I := fun j hj => by rw [mset_t (by decide)]; exact c.I j hj)
  (f_O := fun j hj => by rw [mset_t (by decide)]; exact c.O j hj)
theorem lapse_C {μ : Mem} {i p u day n : Nat} {rt : Nat → Nat} {x : APh} (c : CP μ i p x) (o : OP day n p rt x) (hu : u < 4) {v w : Int32} (hv : v = μ.1 12 i p u) (hw : w = nI (x.E u * x.R u - x.La u)) : CP (mset μ 12 i p u (v + w)) i p (lapX u x) := by
  subst hv hw
  exact (CP.mk (f_A := fun j hj => by rw [mset_t (by decide)]; exact c.A j hj) (f_E := fun j hj => by rw [mset_t (by decide)]; exact c.E j hj) (f_R := fun j hj => by rw [mset_t (by decide)]; exact c.R j hj) (f_La := fun j hj => by
      by_cases q : j = u
      · subst q
        rw [mset_at, c.La j hj, nI_add]
        show _ = nI (upN x.La j (x.E j * x.R j) j)
        rw [upN_at]
        have := o.hL j hj
        congr 1
        omega
      · rw [mset_k q, c.La j hj]
        exact congrArg nI (upN_ne q).symm) (f_b := by rw [mset_t (by decide)]; exact c.b) (f_g := fun hb => by rw [mset_t (by decide)]; exact c.g hb) (f_N := by rw [mset_t (by decide)]; exact c.N) (f_P := by rw [mset_t (by decide)]; exact c.P) (f_Ld := by rw [mset_t (by decide)]; exact c.Ld) (f_Su := by rw [mset_t (by decide)]; exact c.Su) (f_br := by rw [mset_t (by decide)]; exact c.br) (f_I := fun j hj => by rw [mset_t (by decide)]; exact c.I j hj) (f_O := fun j hj => by rw [mset_t (by decide)]; exact c.O j hj))
/-! the reference's side -/
/-- words of one phase are written, but not those that the rest of MP speaks of -/
theorem area_M {z : Zr} {p u v : Nat} {x : APh} (c : MP z p x) (hb : x.beg = false) (hN : x.N = 0) (hu : u < 4) (he : x.E u < 2 ^ 30) (hv : v < 2 ^ 30) : MP (zArea z p u (nI v)) p (areX u v x) ∧ (∀ q w, q ≠ p → w < 37 → mo (zArea z p u (nI v)) q w = mo z q w) ∧ (∀ j, j < 10 → zArea z p u (nI v) j = z j) := by
  have F : ∀ q w, w < 37 → ¬ (q = p ∧ (w = 1 + u ∨ w = 5 + u)) → mo (zArea z p u (nI v)) q w = mo z q w := fun q w hw hne => by
    unfold zArea
    rw [mo_ne (by omega) hw (by omega), mo_ne (by omega) hw (by omega)]
  refine ⟨?_, fun q w hq hw => F q w hw (by omega), fun j hj => (z_lo hj).trans (z_lo hj)⟩
  exact (MP.mk (f_A := fun j hj => by
      by_cases q : j = u
      · subst q
        unfold zArea
        rw [mo_ne (by omega) (by omega) (by omega), zput_at]
        exact congrArg nI upN_at.symm
      · rw [F p (1 + j) (by omega) (by omega), c.A j hj]
        exact congrArg nI (upN_ne q).symm) (f_E := fun j hj => by
      by_cases q : j = u
      · subst q
        unfold zArea
        rw [zput_at, mo_ne (by omega) (by omega) (by omega), c.E j hj]
        show mPart (nI (x.E j)) (nI v) = _
        rw [mPart_nI (by omega) (by omega), Nat.min_comm]
        exact congrArg nI upN_at.symm
      · rw [F p (5 + j) (by omega) (by omega), c.E j hj]
        exact congrArg nI (upN_ne q).symm) (f_R := fun q => absurd (hb.symm.trans q) (by decide)) (f_re := fun q => absurd (hb.symm.trans q) (by decide)) (f_b := (F p 0 (by omega) (by omega)).trans c.b) (f_N := (F p 17 (by omega) (by omega)).trans c.N) (f_I := fun k hk => absurd (show k < x.N from hk) (by omega)) (f_O := fun k hk => absurd (show k < x.N from hk) (by omega)) (f_D := fun k hk => absurd (show k < x.N from hk) (by omega)) (f_lo := (F p 30 (by omega) (by omega)).trans c.lo) (f_la := (F p 31 (by omega) (by omega)).trans c.la) (f_Su := (F p 32 (by omega) (by omega)).trans c.Su) (f_so := (F p 33 (by omega) (by omega)).trans c.so) (f_P := (F p 34 (by omega) (by omega)).trans c.P) (f_Ld := (F p 35 (by omega) (by omega)).trans c.Ld) (f_br := (F p 36 (by omega) (by omega)).trans c.br))
theorem exempt_M {z : Zr} {p u v : Nat} {x : APh} (c : MP z p x) (hb : x.beg = false) (hN : x.N = 0) (hu : u < 4) : MP (zput z p (5 + u) (nI v)) p (exeX u v x) ∧ (∀ q w, q ≠ p → w < 37 → mo (zput z p (5 + u) (nI v)) q w = mo z q w) ∧ (∀ j, j < 10 → zput z p (5 + u) (nI v) j = z j) := by
  have F : ∀ q w, w < 37 → ¬ (q = p ∧ w = 5 + u) → mo (zput z p (5 + u) (nI v)) q w = mo z q w := fun q w hw hne => mo_ne (by omega) hw (by omega)
  refine ⟨?_, fun q w hq hw => F q w hw (by omega), fun j hj => z_lo hj⟩
  exact (MP.mk (f_A := fun j hj => (F p (1 + j) (by omega) (by omega)).trans (c.A j hj)) (f_E := fun j hj => by
      by_cases q : j = u
      · subst q
        rw [zput_at]
        exact congrArg nI upN_at.symm
      · rw [F p (5 + j) (by omega) (by omega), c.E j hj]
        exact congrArg nI (upN_ne q).symm) (f_R := fun q => absurd (hb.symm.trans q) (by decide)) (f_re := fun q => absurd (hb.symm.trans q) (by decide)) (f_b := (F p 0 (by omega) (by omega)).trans c.b) (f_N := (F p 17 (by omega) (by omega)).trans c.N) (f_I := fun k hk => absurd (show k < x.N from hk) (by omega)) (f_O := fun k hk => absurd (show k < x.N from hk) (by omega)) (f_D := fun k hk => absurd (show k < x.N from hk) (by omega)) (f_lo := (F p 30 (by omega) (by omega)).trans c.lo) (f_la := (F p 31 (by omega) (by omega)).trans c.la) (f_Su := (F p 32 (by omega) (by omega)).trans c.Su) (f_so := (F p 33 (by omega) (by omega)).trans c.so) (f_P := (F p 34 (by omega) (by omega)).trans c.P) (f_Ld := (F p 35 (by omega) (by omega)).trans c.Ld) (f_br := (F p 36 (by omega) (by omega)).trans c.br))
theorem lapse_M {z : Zr} {p u day n : Nat} {rt : Nat → Nat} {x : APh} (c : MP z p x) (o : OP day n p rt x) (hb : x.beg = true) (hu : u < 4) {r : Int32} (hr : r = nI (x.E u * x.R u - x.La u)) : MP (zadd (zadd (zput z p (13 + u) (nI 0)) p 31 r) p 30 r) p (lapX u x) ∧ (∀ q w, q ≠ p → w < 37 → mo (zadd (zadd (zput z p (13 + u) (nI 0)) p 31 r) p 30 r) q w = mo z q w) ∧ (∀ j, j < 10 → zadd (zadd (zput z p (13 + u) (nI 0)) p 31 r) p 30 r j = z j) := by
  have hN := o.N4
  have F : ∀ q w, w < 37 → ¬ (q = p ∧ (w = 13 + u ∨ w = 30 ∨ w = 31)) → mo (zadd (zadd (zput z p (13 + u) (nI 0)) p 31 r) p 30 r) q w = mo z q w := fun q w hw hne => by
    unfold zadd
    rw [mo_ne (by omega) hw (by omega), mo_ne (by omega) hw (by omega), mo_ne (by omega) hw (by omega)]
  refine ⟨?_, fun q w hq hw => F q w hw (by omega), fun j hj => (z_lo hj).trans ((z_lo hj).trans (z_lo hj))⟩
  exact (MP.mk (f_A := fun j hj => (F p (1 + j) (by omega) (by omega)).trans (c.A j hj)) (f_E := fun j hj => (F p (5 + j) (by omega) (by omega)).trans (c.E j hj)) (f_R := fun q j hj => (F p (9 + j) (by omega) (by omega)).trans (c.R q j hj)) (f_re := fun q j hj => by
      show _ = nI (x.E j * x.R j - upN x.La u (x.E u * x.R u) j)
      by_cases q2 : j = u
      · subst q2
        unfold zadd
        rw [mo_ne (by omega) (by omega) (by omega), mo_ne (by omega) (by omega) (by omega), zput_at, upN_at, Nat.sub_self]
      · rw [F p (13 + j) (by omega) (by omega), upN_ne q2]
        exact c.re hb j hj) (f_b := (F p 0 (by omega) (by omega)).trans c.b) (f_N := (F p 17 (by omega) (by omega)).trans c.N) (f_I := fun k hk => by
      have hk' : k < x.N := hk
      exact (F p (18 + k) (by omega) (by omega)).trans (c.I k hk)) (f_O := fun k hk => by
      have hk' : k < x.N := hk
      exact (F p (22 + k) (by omega) (by omega)).trans (c.O k hk)) (f_D := fun k hk => by
      have hk' : k < x.N := hk
      exact (F p (26 + k) (by omega) (by omega)).trans (c.D k hk)) (f_lo := by
      unfold zadd
      rw [zput_at, mo_ne (by decide) (by decide) (by omega), mo_ne (by omega) (by decide) (by omega), c.lo, hr, nI_add]
      rfl) (f_la := by
      unfold zadd
      rw [mo_ne (by decide) (by decide) (by omega), zput_at, mo_ne (by omega) (by decide) (by omega), c.la, hr, nI_add, lapX_lps o hu]) (f_Su := (F p 32 (by omega) (by omega)).trans c.Su) (f_so := (F p 33 (by omega) (by omega)).trans c.so) (f_P := (F p 34 (by omega) (by omega)).trans c.P) (f_Ld := (F p 35 (by omega) (by omega)).trans c.Ld) (f_br := (F p 36 (by omega) (by omega)).trans c.br))
/-! a rate of the levy -/
def ratX (n u v : Nat) (p : Nat) (x : APh) : APh := if p < n ∧ x.beg = false then (APh.mk x.beg x.A x.E (upN x.R u v) x.La x.N x.B x.g x.I x.O x.P x.Ld x.Su x.br x.lo x.so) else x
def aRate (a : ALw) (u v : Nat) : ALw := (ALw.mk a.day a.n (upN a.rt u v) a.st (fun p => ratX a.n u v p (a.ph p)))
theorem ratX_t {n u v p : Nat} {x : APh} (h : p < n ∧ x.beg = false) : ratX n u v p x = (APh.mk x.beg x.A x.E (upN x.R u v) x.La x.N x.B x.g x.I x.O x.P x.Ld x.Su x.br x.lo x.so) := if_pos h
theorem ratX_f {n u v p : Nat} {x : APh} (h : ¬ (p < n ∧ x.beg = false)) : ratX n u v p x = x := if_neg h
theorem ratX_beg {n u v p : Nat} {x : APh} : (ratX n u v p x).beg = x.beg := by unfold ratX; split <;> rfl
theorem ratX_N {n u v p : Nat} {x : APh} : (ratX n u v p x).N = x.N := by unfold ratX; split <;> rfl
theorem aRate_OK {a : ALw} (h : OK a) {u v : Nat} (hv : v ≤ 999) : OK (aRate a u v) := OK.mk
  (f_day := h.day)
  (f_n := h.n)
  (f_rt := fun w hw => by
    show upN a.rt u v w ≤ 999
    unfold upN
    split
    · exact hv
    · exact h.rt w hw)
  (f_s0 := h.s0)
  (f_s1 := h.s1)
  (f_s2 := h.s2)
  (f_s3 := h.s3)
  (f_ph := fun p hp => by
    have o := h.ph p hp
    show OP a.day a.n p (upN a.rt u v) (ratX a.n u v p (a.ph p))
    by_cases q : p < a.n ∧ (a.ph p).beg = false
    · rw [ratX_t q]
      exact (OP.mk (f_hA := o.hA) (f_hE := o.hE) (f_hR := fun w hw => by
          show upN (a.ph p).R u v w ≤ 999
          unfold upN
          split
          · exact hv
          · exact o.hR w hw) (f_hL := fun w hw => by
          show (a.ph p).La w ≤ _
          rw [(o.un q.2).2.1 w hw]
          exact Nat.zero_le _) (f_blank := o.blank) (f_un := o.un) (f_rt := fun _ _ w hw => by
          show upN (a.ph p).R u v w = upN a.rt u v w
          unfold upN
          split
          · rfl
          · exact o.rt q.2 q.1 w hw) (f_bg := fun y => absurd (q.2.symm.trans y) (by decide)) (f_sh := o.sh) (f_du := o.du) (f_un2 := o.un2) (f_su := o.su))
    · rw [ratX_f q]
      exact (OP.mk (f_hA := o.hA) (f_hE := o.hE) (f_hR := o.hR) (f_hL := o.hL) (f_blank := o.blank) (f_un := o.un) (f_rt := fun y1 y2 => absurd ⟨y2, y1⟩ q) (f_bg := o.bg) (f_sh := o.sh) (f_du := o.du) (f_un2 := o.un2) (f_su := o.su)))
theorem rateK_ab {μ : Mem} {a : ALw} (hC : CR μ 0 a) (hK : OK a) {u v : Nat} (hu : u < 4) : ∀ k, k ≤ a.n → (∀ p, p < 6 → CP (rateK μ 0 u (nI v) k) 0 p (if p < k then ratX a.n u v p (a.ph p) else a.ph p))
  | 0, _ => fun p hp => by
    rw [if_neg (Nat.not_lt_zero p)]
    exact (hC.ph p hp).congr fun t k ht _ => mset_t (by omega)
  | k + 1, hk => fun p hp => by
    have h1 := rateK_ab hC hK (v := v) hu k (by omega)
    have hn6 := hK.n
    have c := h1 k (by omega)
    rw [if_neg (Nat.lt_irrefl k)] at c
    have o := hK.ph k (by omega)
    have hst : rateK μ 0 u (nI v) (k + 1) = cond (cBegun (rateK μ 0 u (nI v) k) 0 k) (rateK μ 0 u (nI v) k) (mset (rateK μ 0 u (nI v) k) 11 0 k u (nI v)) := rfl
    rw [cw_begun c o] at hst
    rw [hst]
    have hif : p ≠ k → (if p < k + 1 then ratX a.n u v p (a.ph p) else a.ph p) = (if p < k then ratX a.n u v p (a.ph p) else a.ph p) := fun q => by
      by_cases q2 : p < k
      · rw [if_pos q2, if_pos (by omega)]
      · rw [if_neg q2, if_neg (by omega)]
    cases e : (a.ph k).beg with
    | true =>
      show CP (rateK μ 0 u (nI v) k) 0 p _
      by_cases q : p = k
      · subst q
        rw [if_pos (Nat.lt_succ_self p), ratX_f (fun y => absurd (e.symm.trans y.2) (by decide))]
        exact c
      · rw [hif q]
        exact h1 p hp
    | false =>
      show CP (mset (rateK μ 0 u (nI v) k) 11 0 k u (nI v)) 0 p _
      by_cases q : p = k
      · subst q
        rw [if_pos (Nat.lt_succ_self p), ratX_t ⟨by omega, e⟩]
        exact (CP.mk (f_A := fun j hj => by rw [mset_t (by decide)]; exact c.A j hj) (f_E := fun j hj => by rw [mset_t (by decide)]; exact c.E j hj) (f_R := fun j hj => by
            by_cases q : j = u
            · subst q
              rw [mset_at]
              exact congrArg nI upN_at.symm
            · rw [mset_k q, c.R j hj]
              exact congrArg nI (upN_ne q).symm) (f_La := fun j hj => by rw [mset_t (by decide)]; exact c.La j hj) (f_b := by rw [mset_t (by decide)]; exact c.b) (f_g := fun hb => by rw [mset_t (by decide)]; exact c.g hb) (f_N := by rw [mset_t (by decide)]; exact c.N) (f_P := by rw [mset_t (by decide)]; exact c.P) (f_Ld := by rw [mset_t (by decide)]; exact c.Ld) (f_Su := by rw [mset_t (by decide)]; exact c.Su) (f_br := by rw [mset_t (by decide)]; exact c.br) (f_I := fun j hj => by rw [mset_t (by decide)]; exact c.I j hj) (f_O := fun j hj => by rw [mset_t (by decide)]; exact c.O j hj))
      · rw [hif q]
        exact (h1 p hp).congr fun t j _ _ => mset_p q
theorem rateK_5 {μ : Mem} {i u : Nat} {r : Int32} : ∀ k, (rateK μ i u r k).1 5 = (mset μ 5 i 0 u r).1 5
  | 0 => rfl
  | k + 1 => by
    unfold rateK
    cases cBegun (rateK μ i u r k) i k
    · exact (mset_tag (by decide)).trans (rateK_5 k)
    · exact rateK_5 k
theorem rate_C {μ : Mem} {a : ALw} (hC : CR μ 0 a) (hK : OK a) {u v : Nat} (hu : u < 4) : CR (rateK μ 0 u (nI v) a.n) 0 (aRate a u v) := CR.mk
  (f_day := by rw [rateK_tag (by decide) (by decide)]; exact hC.day)
  (f_n := by rw [rateK_tag (by decide) (by decide)]; exact hC.n)
  (f_rt := fun w hw => by
    rw [rateK_5]
    by_cases q : w = u
    · subst q
      rw [mset_at]
      exact congrArg nI upN_at.symm
    · rw [mset_k q, hC.rt w hw]
      exact congrArg nI (upN_ne q).symm)
  (f_st := fun w hw => by rw [rateK_tag (by decide) (by decide)]; exact hC.st w hw)
  (f_ph := fun p hp => by
    have h1 := rateK_ab hC hK hu (v := v) a.n (Nat.le_refl _) p hp
    have h2 : (if p < a.n then ratX a.n u v p (a.ph p) else a.ph p) = ratX a.n u v p (a.ph p) := by
      by_cases q : p < a.n
      · exact if_pos q
      · rw [if_neg q, ratX_f (fun y => q y.1)]
    rw [h2] at h1
    exact h1)
theorem rate_M {z : Zr} {a : ALw} (hM : MR z a) (hK : OK a) {u v : Nat} (hu : u < 4) : MR (upd z (5 + u) (nI v)) (aRate a u v) := MR.mk
  (f_day := (pk_un (by omega)).trans hM.day)
  (f_zi := by
    refine ⟨(pk_un (by omega)).trans hM.zi.1, hM.zi.2.1, fun p hp => ?_⟩
    have h1 : upd z (5 + u) (nI v) (10 + 37 * p + 17) = z (10 + 37 * p + 17) := pk_un (by omega)
    have h2 := hM.zi.2.2 p hp
    unfold mo zp at h2 ⊢
    rw [h1]
    exact h2)
  (f_rt := fun w hw => by
    by_cases q : w = u
    · subst q
      rw [pk_us]
      exact congrArg nI upN_at.symm
    · rw [pk_un (by omega), hM.rt w hw]
      exact congrArg nI (upN_ne q).symm)
  (f_st := fun w hw => (pk_un (by omega)).trans (hM.st w hw))
  (f_ph := fun p hp => by
    have hp' : p < a.n := hp
    have m := hM.ph p hp'
    have m2 : MP (upd z (5 + u) (nI v)) p (a.ph p) := m.congr (fun w hw => pk_un (by omega)) (hK.ph p (by have := hK.n; omega)).N4
    show MP (upd z (5 + u) (nI v)) p (ratX a.n u v p (a.ph p))
    by_cases q : p < a.n ∧ (a.ph p).beg = false
    · rw [ratX_t q]
      exact (MP.mk (f_A := m2.A) (f_E := m2.E) (f_R := fun y => absurd (q.2.symm.trans y) (by decide)) (f_re := fun y => absurd (q.2.symm.trans y) (by decide)) (f_b := m2.b) (f_N := m2.N) (f_I := m2.I) (f_O := m2.O) (f_D := m2.D) (f_lo := m2.lo) (f_la := m2.la) (f_Su := m2.Su) (f_so := m2.so) (f_P := m2.P) (f_Ld := m2.Ld) (f_br := m2.br))
    · rw [ratX_f q]
      exact m2)
/-! a setting -/
def aSet (a : ALw) (u v : Nat) : ALw := (ALw.mk a.day a.n a.rt (upN a.st u v) a.ph)
theorem aSet_OK {a : ALw} (h : OK a) {u v : Nat} (hv : leastT u ≤ nI v ∧ nI v ≤ mostT u) (hv2 : v < 2 ^ 31) (hu : u < 4) : OK (aSet a u v) := by
  have h1 : ∀ w, w < 4 → w ≠ u → (aSet a u v).st w = a.st w := fun w _ q => upN_ne q
  have h2 : (aSet a u v).st u = v := upN_at
  have b0 : u = 0 → 1 ≤ v ∧ v ≤ 120 := fun q => by
    subst q
    exact ⟨(nI_leI (a := 1) (by decide) hv2).mp hv.1, (nI_leI (b := 120) hv2 (by decide)).mp hv.2⟩
  have b1 : u = 1 → v ≤ 50 := fun q => by
    subst q
    exact (nI_leI (b := 50) hv2 (by decide)).mp hv.2
  have b2 : u = 2 → v ≤ 3000 := fun q => by
    subst q
    exact (nI_leI (b := 3000) hv2 (by decide)).mp hv.2
  have b3 : u = 3 → v ≤ 100 := fun q => by
    subst q
    exact (nI_leI (b := 100) hv2 (by decide)).mp hv.2
  exact (OK.mk (f_day := h.day) (f_n := h.n) (f_rt := h.rt) (f_s0 := by
      by_cases q : u = 0
      · have := b0 q; subst q; rw [h2]; exact this
      · rw [h1 0 (by decide) (fun y => q y.symm)]; exact h.s0) (f_s1 := by
      by_cases q : u = 1
      · have := b1 q; subst q; rw [h2]; exact this
      · rw [h1 1 (by decide) (fun y => q y.symm)]; exact h.s1) (f_s2 := by
      by_cases q : u = 2
      · have := b2 q; subst q; rw [h2]; exact this
      · rw [h1 2 (by decide) (fun y => q y.symm)]; exact h.s2) (f_s3 := by
      by_cases q : u = 3
      · have := b3 q; subst q; rw [h2]; exact this
      · rw [h1 3 (by decide) (fun y => q y.symm)]; exact h.s3) (f_ph := h.ph))
theorem set_C {μ : Mem} {a : ALw} (hC : CR μ 0 a) {u v : Nat} : CR (mset μ 6 0 0 u (nI v)) 0 (aSet a u v) := CR.mk
  (f_day := (mset_t (by decide)).trans hC.day)
  (f_n := (mset_t (by decide)).trans hC.n)
  (f_rt := fun w hw => (mset_t (by decide)).trans (hC.rt w hw))
  (f_st := fun w hw => by
    by_cases q : w = u
    · subst q
      rw [mset_at]
      exact congrArg nI upN_at.symm
    · rw [mset_k q, hC.st w hw]
      exact congrArg nI (upN_ne q).symm)
  (f_ph := fun p hp => (hC.ph p hp).congr fun t k ht _ => mset_t (by omega))
theorem set_M {z : Zr} {a : ALw} (hM : MR z a) (hK : OK a) {u v : Nat} (hu : u < 4) : MR (upd z u (nI v)) (aSet a u v) := MR.mk
  (f_day := (pk_un (by omega)).trans hM.day)
  (f_zi := by
    refine ⟨(pk_un (by omega)).trans hM.zi.1, hM.zi.2.1, fun p hp => ?_⟩
    have h1 : upd z u (nI v) (10 + 37 * p + 17) = z (10 + 37 * p + 17) := pk_un (by omega)
    have h2 := hM.zi.2.2 p hp
    unfold mo zp at h2 ⊢
    rw [h1]
    exact h2)
  (f_rt := fun w hw => (pk_un (by omega)).trans (hM.rt w hw))
  (f_st := fun w hw => by
    by_cases q : w = u
    · subst q
      rw [pk_us]
      exact congrArg nI upN_at.symm
    · rw [pk_un q, hM.st w hw]
      exact congrArg nI (upN_ne q).symm)
  (f_ph := fun p hp => by
    have hp' : p < a.n := hp
    exact (hM.ph p hp').congr (fun w hw => pk_un (by omega)) (hK.ph p (by have := hK.n; omega)).N4)
/-! a phase is added -/
def addX (rt : Nat → Nat) (x : APh) : APh := (APh.mk x.beg x.A x.E (rt) x.La x.N x.B x.g x.I x.O x.P x.Ld x.Su x.br x.lo x.so)
def aAdd (a : ALw) : ALw := (ALw.mk a.day (a.n + 1) a.rt a.st (fun p => if p = a.n then addX a.rt (a.ph p) else a.ph p))
theorem aAdd_OK {a : ALw} (h : OK a) (hn : a.n < 6) : OK (aAdd a) := OK.mk
  (f_day := h.day)
  (f_n := hn)
  (f_rt := h.rt)
  (f_s0 := h.s0)
  (f_s1 := h.s1)
  (f_s2 := h.s2)
  (f_s3 := h.s3)
  (f_ph := fun p hp => by
    have o := h.ph p hp
    show OP a.day (a.n + 1) p a.rt (if p = a.n then addX a.rt (a.ph p) else a.ph p)
    by_cases q : p = a.n
    · rw [if_pos q]
      obtain ⟨b1, b2⟩ := o.blank (by omega)
      exact (OP.mk (f_hA := o.hA) (f_hE := o.hE) (f_hR := h.rt) (f_hL := fun w hw => by
          show (a.ph p).La w ≤ _
          rw [(o.un b1).2.1 w hw]
          exact Nat.zero_le _) (f_blank := fun y => absurd y (by omega)) (f_un := o.un) (f_rt := fun _ _ _ _ => rfl) (f_bg := fun y => absurd (b1.symm.trans y) (by decide)) (f_sh := o.sh) (f_du := o.du) (f_un2 := o.un2) (f_su := o.su))
    · rw [if_neg q]
      exact (OP.mk (f_hA := o.hA) (f_hE := o.hE) (f_hR := o.hR) (f_hL := o.hL) (f_blank := fun y => o.blank (by omega)) (f_un := o.un) (f_rt := fun y1 y2 => o.rt y1 (by omega)) (f_bg := o.bg) (f_sh := o.sh) (f_du := o.du) (f_un2 := o.un2) (f_su := o.su)))
theorem appK_ab {μ : Mem} {i n : Nat} : ∀ k, (∀ j, (appK μ i n k).1 11 i n j = if j < k then μ.1 5 i 0 j else μ.1 11 i n j) ∧ (∀ t i' p' j, ¬ (t = 11 ∧ i' = i ∧ p' = n) → (appK μ i n k).1 t i' p' j = μ.1 t i' p' j)
  | 0 => ⟨fun j => (if_neg (Nat.not_lt_zero j)).symm, fun _ _ _ _ _ => rfl⟩
  | k + 1 => by
    obtain ⟨h1, h2⟩ := appK_ab (μ := μ) (i := i) (n := n) k
    have hst : appK μ i n (k + 1) = mset (appK μ i n k) 11 i n k ((appK μ i n k).1 5 i 0 k) := rfl
    rw [h2 5 i 0 k (by omega)] at hst
    rw [hst]
    refine ⟨fun j => ?_, fun t i' p' j hne => (if_neg fun q => hne ⟨q.1, q.2.1, q.2.2.1⟩).trans (h2 t i' p' j hne)⟩
    by_cases q : j = k
    · subst q
      rw [mset_at, if_pos (Nat.lt_succ_self j)]
    · rw [mset_k q, h1]
      by_cases q2 : j < k
      · rw [if_pos q2, if_pos (by omega)]
      · rw [if_neg q2, if_neg (by omega)]
theorem add_C {μ : Mem} {a : ALw} (hC : CR μ 0 a) : CR (cAppend μ 0 a.n) 0 (aAdd a) := by
  have T : ∀ t p j, ¬ (t = 11 ∧ p = a.n) → ¬ (t = 4 ∧ p = 0 ∧ j = 1) → (cAppend μ 0 a.n).1 t 0 p j = μ.1 t 0 p j := fun t p j h1 h2 => by
    unfold cAppend
    exact (if_neg fun q => h2 ⟨q.1, q.2.2.1, q.2.2.2⟩).trans ((appK_ab 4).2 t 0 p j fun q => h1 ⟨q.1, q.2.2⟩)
  exact (CR.mk (f_day := (T 4 0 0 (by omega) (by omega)).trans hC.day) (f_n := mset_at) (f_rt := fun u hu => (T 5 0 u (by omega) (by omega)).trans (hC.rt u hu)) (f_st := fun u hu => (T 6 0 u (by omega) (by omega)).trans (hC.st u hu)) (f_ph := fun p hp => by
      have c := hC.ph p hp
      show CP (cAppend μ 0 a.n) 0 p (if p = a.n then addX a.rt (a.ph p) else a.ph p)
      by_cases q : p = a.n
      · rw [if_pos q]
        exact (CP.mk (f_A := fun j hj => (T 9 p j (by omega) (by omega)).trans (c.A j hj)) (f_E := fun j hj => (T 10 p j (by omega) (by omega)).trans (c.E j hj)) (f_R := fun j hj => by
            unfold cAppend
            rw [mset_t (by decide), q, (appK_ab 4).1, if_pos hj]
            exact hC.rt j hj) (f_La := fun j hj => (T 12 p j (by omega) (by omega)).trans (c.La j hj)) (f_b := (T 8 p 6 (by omega) (by omega)).trans c.b) (f_g := fun hb => (T 8 p 7 (by omega) (by omega)).trans (c.g hb)) (f_N := (T 8 p 8 (by omega) (by omega)).trans c.N) (f_P := (T 8 p 9 (by omega) (by omega)).trans c.P) (f_Ld := (T 8 p 10 (by omega) (by omega)).trans c.Ld) (f_Su := (T 8 p 11 (by omega) (by omega)).trans c.Su) (f_br := (T 8 p 12 (by omega) (by omega)).trans c.br) (f_I := fun j hj => (T 13 p j (by omega) (by omega)).trans (c.I j hj)) (f_O := fun j hj => (T 14 p j (by omega) (by omega)).trans (c.O j hj)))
      · rw [if_neg q]
        exact c.congr fun t j ht _ => T t p j (by omega) (by omega)))
theorem apK_ab {z : Zr} {n : Nat} : ∀ k, k ≤ 37 → (∀ w, w < 37 → mo (apK z n k) n w = if w < k then nI 0 else mo z n w) ∧ (∀ j, ¬ (10 + 37 * n ≤ j ∧ j < 10 + 37 * n + 37) → apK z n k j = if j = 9 then nI (n + 1) else z j)
  | 0, _ => by
    refine ⟨fun w hw => ?_, fun j _ => ?_⟩
    · rw [if_neg (Nat.not_lt_zero w)]
      exact pk_un (by omega)
    · show upd z 9 (nI (n + 1)) j = _
      rfl
  | k + 1, hk => by
    obtain ⟨h1, h2⟩ := apK_ab (z := z) (n := n) k (by omega)
    have hst : apK z n (k + 1) = zput (apK z n k) n k (nI 0) := rfl
    rw [hst]
    refine ⟨fun w hw => ?_, fun j hne => (zput_ne (by omega)).trans (h2 j hne)⟩
    by_cases q : w = k
    · subst q
      rw [zput_at, if_pos (Nat.lt_succ_self w)]
    · rw [mo_ne (by omega) hw (by omega), h1 w hw]
      by_cases q2 : w < k
      · rw [if_pos q2, if_pos (by omega)]
      · rw [if_neg q2, if_neg (by omega)]
theorem add_M {z : Zr} {a : ALw} (hM : MR z a) (hK : OK a) (hn : a.n < 6) : MR (zApp z a.n) (aAdd a) := by
  obtain ⟨h1, h2⟩ := apK_ab (z := z) (n := a.n) 37 (Nat.le_refl _)
  have F : ∀ j, ¬ (10 + 37 * a.n ≤ j ∧ j < 10 + 37 * a.n + 37) → zApp z a.n j = if j = 9 then nI (a.n + 1) else z j := fun j hne => (zput_ne (by omega)).trans (h2 j hne)
  have Z : ∀ w, w < 37 → mo (zApp z a.n) a.n w = if w = 0 then -1 else nI 0 := fun w hw => by
    unfold zApp
    by_cases q : w = 0
    · subst q
      rw [zput_at, if_pos rfl]
    · rw [mo_ne (by decide) hw (by omega), h1 w hw, if_pos hw, if_neg q]
  have hlt : ∀ p w, p < a.n → w < 37 → mo (zApp z a.n) p w = mo z p w := fun p w hp hw => (F _ (by omega)).trans (if_neg (by omega))
  exact (MR.mk (f_day := (F 4 (by omega)).trans (((if_neg (by decide)).trans hM.day))) (f_zi := by
      refine ⟨(F 9 (by omega)).trans (if_pos rfl), hn, fun p hp => ?_⟩
      by_cases q : p = a.n
      · subst q
        have h3 := Z 17 (by decide)
        have h4 : zp (zApp z a.n) a.n = 0 := by
          unfold zp
          have h5 : zApp z a.n (10 + 37 * a.n + 17) = nI 0 := h3
          rw [h5]
          rfl
        rw [h4]
        exact ⟨h3, by decide⟩
      · have h3 : zApp z a.n (10 + 37 * p + 17) = z (10 + 37 * p + 17) := (F _ (by omega)).trans (if_neg (by omega))
        have h4 := hM.zi.2.2 p hp
        unfold mo zp at h4 ⊢
        rw [h3]
        exact h4) (f_rt := fun u hu => (F (5 + u) (by omega)).trans ((if_neg (by omega)).trans (hM.rt u hu))) (f_st := fun u hu => (F u (by omega)).trans ((if_neg (by omega)).trans (hM.st u hu))) (f_ph := fun p hp => by
      have hp' : p < a.n + 1 := hp
      show MP (zApp z a.n) p (if p = a.n then addX a.rt (a.ph p) else a.ph p)
      by_cases q : p = a.n
      · subst q
        rw [if_pos rfl]
        have o := hK.ph a.n hn
        obtain ⟨b1, b2⟩ := o.blank (Nat.le_refl _)
        obtain ⟨u1, u2, u3, u4, u5, u6, u7, u8⟩ := o.un b1
        have z0 : ∀ w, w < 37 → w ≠ 0 → mo (zApp z a.n) a.n w = nI 0 := fun w hw h0 => (Z w hw).trans (if_neg h0)
        exact (MP.mk (f_A := fun u hu => (z0 (1 + u) (by omega) (by omega)).trans (congrArg nI (b2 u hu).symm)) (f_E := fun u hu => (z0 (5 + u) (by omega) (by omega)).trans (congrArg nI (by have h9 := o.hE u hu; rw [b2 u hu] at h9; show 0 = (a.ph a.n).E u; omega))) (f_R := fun y => absurd (b1.symm.trans y) (by decide)) (f_re := fun y => absurd (b1.symm.trans y) (by decide)) (f_b := by
            rw [Z 0 (by decide), if_pos rfl]
            show -1 = cond (a.ph a.n).beg _ _
            rw [b1]; rfl) (f_N := (z0 17 (by decide) (by decide)).trans (congrArg nI u1.symm)) (f_I := fun k hk => absurd (show k < (a.ph a.n).N from hk) (by omega)) (f_O := fun k hk => absurd (show k < (a.ph a.n).N from hk) (by omega)) (f_D := fun k hk => absurd (show k < (a.ph a.n).N from hk) (by omega)) (f_lo := (z0 30 (by decide) (by decide)).trans (congrArg nI u7.symm)) (f_la := (z0 31 (by decide) (by decide)).trans (congrArg nI (sN_zero (f := (a.ph a.n).La) 4 u2).symm)) (f_Su := (z0 32 (by decide) (by decide)).trans (congrArg nI u5.symm)) (f_so := (z0 33 (by decide) (by decide)).trans (congrArg nI u8.symm)) (f_P := (z0 34 (by decide) (by decide)).trans (congrArg nI u3.symm)) (f_Ld := (z0 35 (by decide) (by decide)).trans (congrArg nI u4.symm)) (f_br := by
            rw [z0 36 (by decide) (by decide)]
            show _ = nI (cond (a.ph a.n).br 1 0)
            rw [u6]; rfl))
      · rw [if_neg q]
        exact (hM.ph p (by omega)).congr (fun w hw => hlt p w (by omega) hw) (hK.ph p (by omega)).N4))
