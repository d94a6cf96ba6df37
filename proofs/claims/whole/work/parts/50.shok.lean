def okD (d : FP.Core.Datum) : Prop := ∃ c j : Nat, d = .fin false c (-52 - (j : Int)) ∧ 4503599627370496 ≤ c ∧ c < 9007199254740992 ∧ j ≤ 1022
theorem rr_ok {A B : Nat} (h0 : 0 < A) (h1 : A ≤ B) (h2 : B < 4294967296) : okD (FP.Core.roundRatio FP.Core.b64 false A B 0) := by
  have hB : 0 < B := by omega
  by_cases e : A = B
  · subst e
    refine ⟨4503599627370496, 0, FP.Core.roundRatio_exact FP.Core.good_b64 hB (fits_n (by decide) (by decide) (by omega) (by omega)) ?_, by omega, by omega, by omega⟩
    show A * 2 ^ 52 = 4503599627370496 * A * 2 ^ 0
    omega
  · have b0 : FP.Core.Below A B 0 := show A * 2 ^ 0 < B * 2 ^ 0 by omega
    have b1 : ¬ FP.Core.Below A B (-32) := fun q => by
      have q1 : A * 4294967296 < B * 1 := q
      omega
    have k1 := FP.Core.quantum_below (f := FP.Core.b64) h0 hB 0
    have p53 : (FP.Core.b64.p : Int) = 53 := by decide
    have q1 := FP.Core.lt_of_below b1 k1
    rw [p53] at q1
    have k2 := (FP.Core.quantum_not_below (f := FP.Core.b64) h0 hB 0).resolve_left (fun q => by rw [q, qmin_64] at q1; omega)
    have q2 := FP.Core.lt_of_below k2 b0
    rw [p53] at q2
    have k3 := FP.Core.nearest_units_le (f := FP.Core.b64) h0 hB 0
    have k4 : 4503599627370496 ≤ FP.Core.nearest (FP.Core.unitsNum A 0 (FP.Core.quantum FP.Core.b64 A B 0)) (FP.Core.unitsDen B 0 (FP.Core.quantum FP.Core.b64 A B 0)) := by
      refine FP.Core.nearest_ge (FP.Core.unitsDen_pos hB _ _) (Nat.le_of_not_lt fun q => k2 ?_)
      rw [p53]
      exact (FP.Core.units_below A B 0 _ 52).mp q
    have e1 : FP.Core.roundRatio FP.Core.b64 false A B 0 = FP.Core.settle FP.Core.b64 false (FP.Core.nearest (FP.Core.unitsNum A 0 (FP.Core.quantum FP.Core.b64 A B 0)) (FP.Core.unitsDen B 0 (FP.Core.quantum FP.Core.b64 A B 0))) (FP.Core.quantum FP.Core.b64 A B 0) := if_neg (by omega)
    rw [e1]
    generalize FP.Core.nearest (FP.Core.unitsNum A 0 (FP.Core.quantum FP.Core.b64 A B 0)) (FP.Core.unitsDen B 0 (FP.Core.quantum FP.Core.b64 A B 0)) = N at k3 k4
    generalize FP.Core.quantum FP.Core.b64 A B 0 = Q at q1 q2
    have pp : (2 : Nat) ^ FP.Core.b64.p = 9007199254740992 := by decide
    have qm : FP.Core.b64.qmax = 971 := by decide
    have bd : ∀ c q, q ≤ 971 → FP.Core.bound FP.Core.b64 false c q = .fin false c q := fun c q h => if_pos (by rw [qm]; exact h)
    unfold FP.Core.settle
    rw [pp, tails_52]
    by_cases hN : N < 9007199254740992
    · rw [if_pos hN, bd _ _ (by omega)]
      exact ⟨N, (-52 - Q).toNat, by congr 1; omega, k4, hN, by omega⟩
    · rw [if_neg hN, bd _ _ (by omega)]
      exact ⟨4503599627370496, (-52 - (Q + 1)).toNat, by congr 1; omega, by omega, by omega, by omega⟩
theorem whole_n {x : UInt64} {A : Nat} (h0 : 0 < A) (h : FP.Core.DInt (A : Int) x) : ∃ (c : Nat) (q : Int), FP.Core.val64 x = .fin false c q ∧ 0 < c ∧ c * 2 ^ q.toNat = A * 2 ^ (-q).toNat := by
  unfold FP.Core.DInt at h
  match e : FP.Core.val64 x with
  | .nan => rw [e] at h; exact h.elim
  | .inf s => rw [e] at h; exact h.elim
  | .fin s c q =>
    rw [e] at h
    have h1 : FP.Core.signed s (c * 2 ^ q.toNat) = (A : Int) * ((2 ^ (-q).toNat : Nat) : Int) := h
    have hp : 0 < A * 2 ^ (-q).toNat := Nat.mul_pos h0 (Nat.two_pow_pos _)
    rw [← Int.natCast_mul] at h1
    cases s with
    | true =>
      exfalso
      have h2 : -((c * 2 ^ q.toNat : Nat) : Int) = ((A * 2 ^ (-q).toNat : Nat) : Int) := h1
      omega
    | false =>
      have h2 : ((c * 2 ^ q.toNat : Nat) : Int) = ((A * 2 ^ (-q).toNat : Nat) : Int) := h1
      have h3 : c * 2 ^ q.toNat = A * 2 ^ (-q).toNat := Int.ofNat.inj h2
      refine ⟨c, q, rfl, Nat.pos_of_ne_zero fun z => ?_, h3⟩
      rw [z, Nat.zero_mul] at h3
      omega
theorem ddiv_ok {x y : UInt64} {A B : Nat} (hx : FP.Core.DInt (A : Int) x) (hy : FP.Core.DInt (B : Int) y) (h0 : 0 < A) (h1 : A ≤ B) (h2 : B < 4294967296) : okD (FP.Core.val64 (FP.Core.ddiv x y)) := by
  obtain ⟨c, q, e1, c1, f1⟩ := whole_n h0 hx
  obtain ⟨d, r, e2, d1, f2⟩ := whole_n (by omega) hy
  rw [FP.Core.val64_ddiv, e1, e2]
  have e3 : FP.Core.quotient FP.Core.b64 (.fin false c q) (.fin false d r) = FP.Core.roundRatio FP.Core.b64 false c d (q - r) := if_neg (by omega)
  rw [e3]
  have hB : 0 < B := by omega
  have e4 : FP.Core.roundRatio FP.Core.b64 false c d (q - r) = FP.Core.roundRatio FP.Core.b64 false A B 0 := by
    refine FP.Core.roundRatio_congr d1 hB ?_
    rw [show q - r - 0 = q - r by omega, show 0 - (q - r) = r - q by omega]
    have g : c * B * 2 ^ (q.toNat + (-r).toNat) = A * d * 2 ^ ((-q).toNat + r.toNat) := by
      rw [Nat.pow_add, Nat.pow_add]
      calc c * B * (2 ^ q.toNat * 2 ^ (-r).toNat) = (c * 2 ^ q.toNat) * (B * 2 ^ (-r).toNat) := by ac_rfl
        _ = (A * 2 ^ (-q).toNat) * (d * 2 ^ r.toNat) := by rw [f1, f2]
        _ = A * d * (2 ^ (-q).toNat * 2 ^ r.toNat) := by ac_rfl
    have m1 : q.toNat + (-r).toNat = (q - r).toNat + (q.toNat + (-r).toNat - (q - r).toNat) := by omega
    have m2 : (-q).toNat + r.toNat = (r - q).toNat + (q.toNat + (-r).toNat - (q - r).toNat) := by omega
    rw [m1, m2, Nat.pow_add, Nat.pow_add, ← Nat.mul_assoc, ← Nat.mul_assoc] at g
    exact Nat.eq_of_mul_eq_mul_right (Nat.two_pow_pos _) g
  rw [e4]
  exact rr_ok h0 h1 h2
theorem i2d_n {a : Int32} {A : Nat} (h : a.toInt = (A : Int)) : FP.Core.DInt (A : Int) (FP.i2d a) := h ▸ FP.Core.i2d_int a
theorem v_zero {x : UInt64} {q : Int} (h : FP.Core.val64 x = .fin false 0 q) : x = 0 := by
  have e := FP.Core.of64_val64 (a := x) (by rw [h]; exact fun q => by cases q)
  rw [h] at e
  rw [← e]
  have e2 : FP.Core.encode FP.Core.b64 (.fin false 0 q) = 0 := by
    show (if 0 < FP.Core.b64.tails then FP.Core.assemble FP.Core.b64 false 0 0 else FP.Core.assemble FP.Core.b64 false ((q - FP.Core.b64.qmin).toNat + 1) (0 - FP.Core.b64.tails)) = _
    rw [tails_52, if_pos (by omega), asm_nat, Nat.zero_mul]
  unfold FP.Core.of64
  rw [e2]
  rfl
theorem shV_ok {a b : Int32} {A B : Nat} (ha : a.toInt = (A : Int)) (hb : b.toInt = (B : Int)) (h : A ≤ B) : okSh (shV a b) := by
  unfold shV
  have b2 := b.toInt_lt
  cases e : decide (b = 0)
  · have hb0 : b ≠ 0 := of_decide_eq_false e
    have hB : 0 < B := by
      refine Nat.pos_of_ne_zero fun z => hb0 (Int32.toInt_inj.mp ?_)
      rw [hb, z]; rfl
    rw [cond_false]
    by_cases hA : 0 < A
    · exact Or.inr (ddiv_ok (i2d_n ha) (i2d_n hb) hA h (by omega))
    · have ea : a = 0 := Int32.toInt_inj.mp (by rw [ha, show A = 0 by omega]; rfl)
      subst ea
      obtain ⟨d, r, e2, d1, f2⟩ := whole_n hB (i2d_n hb)
      refine Or.inl (v_zero (q := FP.Core.b64.qmin) ?_)
      have e3 : FP.Core.val64 (FP.ddiv (FP.i2d 0) (FP.i2d b)) = FP.Core.quotient FP.Core.b64 (FP.Core.val64 (FP.i2d 0)) (FP.Core.val64 (FP.i2d b)) := FP.Core.val64_ddiv _ _
      have e4 : FP.Core.val64 (FP.i2d 0) = .fin false 0 (-1074) := by decide +kernel
      rw [e3, e4, e2]
      have e5 : FP.Core.quotient FP.Core.b64 (.fin false 0 (-1074)) (.fin false d r) = FP.Core.roundRatio FP.Core.b64 false 0 d (-1074 - r) := if_neg (by omega)
      rw [e5]
      exact if_pos rfl
  · exact Or.inr ⟨4503599627370496, 0, v_one, by omega, by omega, by omega⟩
