/-! ===== reading the text: order by order, and character by character ===== -/
def gT (t : Nat → Int32) (L a : Nat) (S : PS) : Nat × PS := rgK t (L - a) a S
theorem gT_end {t : Nat → Int32} {L : Nat} {S : PS} : gT t L L S = (L, S) := by
  unfold gT
  rw [Nat.sub_self]
  rfl
theorem gT_step {t : Nat → Int32} {L a : Nat} {S : PS} (h : a < L) : gT t L a S = cond (tkNext (t a) S).1 (gT t L (a + 1) (tkNext (t a) S).2) (a, (tkNext (t a) S).2) := by
  unfold gT
  rw [show L - a = (L - (a + 1)) + 1 by omega]
  rfl
theorem gT_go {t : Nat → Int32} {L a : Nat} {S S' : PS} (h : a < L) (e : tkNext (t a) S = (true, S')) : gT t L a S = gT t L (a + 1) S' := by
  rw [gT_step h, e]
  rfl
theorem gT_no {t : Nat → Int32} {L a : Nat} {S : PS} (h : a ≤ L) (h1 : isEnd S = false) (h2 : a < L → (tkNext (t a) S).1 = false) : (gT t L a S).1 = a ∧ ¬ ((gT t L a S).1 = L ∧ isEnd (gT t L a S).2 = true) := by
  rcases Nat.lt_or_ge a L with q | q
  · rw [gT_step q, h2 q]
    refine ⟨rfl, fun r => ?_⟩
    have r1 : a = L := r.1
    omega
  · have e : a = L := by omega
    subst e
    rw [gT_end]
    refine ⟨rfl, fun r => ?_⟩
    have r2 : isEnd S = true := r.2
    rw [h1] at r2
    exact absurd r2 (by decide)
section TKROWS
variable {c nu : Int32} {rd : Nat} {ps : Nat → Int32}
theorem tk_0 : tkNext c (rd, nu, 0, ps) = tkBegin c (rd, nu, 0, ps) := by
  unfold tkNext
  rw [show isEnd (rd, nu, 0, ps) = false from rfl, Bool.and_false]
  rfl
theorem tk_1 : tkNext c (rd, nu, 1, ps) = tkPhase c (rd, nu, 1, ps) := by
  unfold tkNext
  rw [show isEnd (rd, nu, 1, ps) = false from rfl, Bool.and_false]
  rfl
theorem tk_2 : tkNext c (rd, nu, 2, ps) = tkUse c (rd, nu, 2, ps) := by
  unfold tkNext
  rw [show isEnd (rd, nu, 2, ps) = false from rfl, Bool.and_false]
  rfl
theorem tk_3 : tkNext c (rd, nu, 3, ps) = tkMid c (rd, nu, 3, ps) := by
  unfold tkNext
  rw [show isEnd (rd, nu, 3, ps) = false from rfl, Bool.and_false]
  rfl
theorem tk_4n : tkNext c (rd, -1, 4, ps) = tkDigit (c - nI 48) (rd, -1, 4, ps) := by
  unfold tkNext
  rw [show isEnd (rd, -1, 4, ps) = false by simp [isEnd], Bool.and_false]
  rfl
theorem tk_4 (h : ¬ c = nI 59) : tkNext c (rd, nu, 4, ps) = tkDigit (c - nI 48) (rd, nu, 4, ps) := by
  unfold tkNext
  rw [decide_eq_false h]
  rfl
theorem tk_5 (h : ¬ c = nI 59) : tkNext c (rd, nu, 5, ps) = (false, (rd, nu, 5, ps)) := by
  unfold tkNext
  rw [decide_eq_false h]
  rfl
theorem tk_59 {S : PS} (h : isEnd S = true) : tkNext (nI 59) S = (true, (S.1 + 1, S.2.1, 0, S.2.2.2)) := by
  unfold tkNext
  rw [h, decide_eq_true rfl]
  rfl
theorem tk_ba : tkNext (nI 97) (rd, nu, 0, ps) = (true, (rd, -1, 1, upd ps (4 * rd) (nI 97))) := by
  have e1 : (decide (nI 97 = nI 97) || (decide (nI 97 = nI 98) || (decide (nI 97 = nI 112) || decide (nI 97 = nI 100)))) = true := by decide
  have e2 : (cond (decide (nI 97 = nI 100)) 4 1 : Nat) = 1 := by decide
  rw [tk_0]
  unfold tkBegin
  rw [e1, e2]
theorem tk_bb : tkNext (nI 98) (rd, nu, 0, ps) = (true, (rd, -1, 1, upd ps (4 * rd) (nI 98))) := by
  have e1 : (decide (nI 98 = nI 97) || (decide (nI 98 = nI 98) || (decide (nI 98 = nI 112) || decide (nI 98 = nI 100)))) = true := by decide
  have e2 : (cond (decide (nI 98 = nI 100)) 4 1 : Nat) = 1 := by decide
  rw [tk_0]
  unfold tkBegin
  rw [e1, e2]
theorem tk_bp : tkNext (nI 112) (rd, nu, 0, ps) = (true, (rd, -1, 1, upd ps (4 * rd) (nI 112))) := by
  have e1 : (decide (nI 112 = nI 97) || (decide (nI 112 = nI 98) || (decide (nI 112 = nI 112) || decide (nI 112 = nI 100)))) = true := by decide
  have e2 : (cond (decide (nI 112 = nI 100)) 4 1 : Nat) = 1 := by decide
  rw [tk_0]
  unfold tkBegin
  rw [e1, e2]
theorem tk_bd : tkNext (nI 100) (rd, nu, 0, ps) = (true, (rd, -1, 4, upd ps (4 * rd) (nI 100))) := by
  have e1 : (decide (nI 100 = nI 97) || (decide (nI 100 = nI 98) || (decide (nI 100 = nI 112) || decide (nI 100 = nI 100)))) = true := by decide
  have e2 : (cond (decide (nI 100 = nI 100)) 4 1 : Nat) = 4 := by decide
  rw [tk_0]
  unfold tkBegin
  rw [e1, e2]
theorem tk_bn (h1 : ¬ c = nI 97) (h2 : ¬ c = nI 98) (h3 : ¬ c = nI 112) (h4 : ¬ c = nI 100) : (tkNext c (rd, nu, 0, ps)).1 = false := by
  rw [tk_0]
  unfold tkBegin
  rw [decide_eq_false h1, decide_eq_false h2, decide_eq_false h3, decide_eq_false h4]
  rfl
end TKROWS
/-! digits -/
theorem rOk_d {v : Int32} {lo hi : Nat} (hl : lo ≤ 9) (hh : hi ≤ 9) : rOk v (nI (48 + lo)) (nI (48 + hi)) = true ↔ ∃ d, lo ≤ d ∧ d ≤ hi ∧ v = nI (48 + d) := by
  constructor
  · intro h
    obtain ⟨a, rfl, h1, h2⟩ := rOk_ex (by omega) (by omega) h
    exact ⟨a - 48, by omega, by omega, by congr 1; omega⟩
  · rintro ⟨d, h1, h2, rfl⟩
    rw [rOk_nI (by omega) (by omega) (by omega), decide_eq_true (by omega), decide_eq_true (by omega)]
    rfl
theorem rOk_m {v : Int32} {lo hi : Nat} (hl : lo ≤ 9) (hh : hi ≤ 99999) (h : rOk (v - nI 48) (nI lo) (nI hi) = true) : ∃ d, lo ≤ d ∧ d ≤ hi ∧ v = nI (48 + d) := by
  obtain ⟨d, e, h1, h2⟩ := rOk_ex (by omega) (by omega) h
  refine ⟨d, h1, h2, ?_⟩
  have h3 := Int32.sub_add_cancel v (nI 48)
  rw [e, nI_add] at h3
  rw [← h3, Nat.add_comm]
theorem sub48 {d : Nat} : nI (48 + d) - nI 48 = nI d := by
  rw [pk_sub (by omega), show 48 + d - 48 = d by omega]
theorem isDig_iff {c : Nat → Int32} {L a lo hi : Nat} (hl : lo ≤ 9) (hh : hi ≤ 9) : isDig c L a lo hi = true ↔ a < L ∧ ∃ d, lo ≤ d ∧ d ≤ hi ∧ c a = nI (48 + d) := by
  rw [← rOk_d hl hh]
  unfold isDig rOk
  simp [Int32.not_lt]
theorem dg_t {c : Nat → Int32} {L a lo hi : Nat} (hl : lo ≤ 9) (hh : hi ≤ 9) (h : isDig c L a lo hi = true) : ∃ d, lo ≤ d ∧ d ≤ hi ∧ a < L ∧ c a = nI (48 + d) ∧ dgV c L a lo hi = nI d ∧ dgA c L a lo hi = a + 1 := by
  obtain ⟨h1, d, h2, h3, h4⟩ := (isDig_iff hl hh).mp h
  refine ⟨d, h2, h3, h1, h4, ?_, ?_⟩
  · unfold dgV
    rw [h, h4]
    exact sub48
  · unfold dgA
    rw [h]
    rfl
theorem dg_f {c : Nat → Int32} {L a lo hi : Nat} (h : isDig c L a lo hi = false) : dgV c L a lo hi = -1 ∧ dgA c L a lo hi = a := by
  unfold dgV dgA
  rw [h]
  exact ⟨rfl, rfl⟩
theorem i59 {d : Nat} (h : d ≤ 9) : ¬ nI (48 + d) = nI 59 := fun e => by
  have := (nI_eq (by omega) (by decide)).mp e
  omega
/-! numbers -/
def letP (ps : Nat → Int32) (rd lo M : Nat) : Prop := (cond (decide (ps (4 * rd) = nI 97)) 0 1 : Nat) = lo ∧ (cond (decide (ps (4 * rd) = nI 97)) 999 (cond (decide (ps (4 * rd) = nI 112)) 99999 99) : Nat) = M
theorem dgI_eq {dg nu : Int32} {rd lo M : Nat} {ps : Nat → Int32} (h : letP ps rd lo M) : dgI dg (rd, nu, 4, ps) = (rOk dg (nI 0) (nI 9) && (!(decide (nu = 0)) && rOk (cond (decide (nu = -1)) dg (nI 10 * nu + dg)) (nI lo) (nI M))) := by
  obtain ⟨rfl, rfl⟩ := h
  rfl
theorem tkD_t {dg nu w : Int32} {rd : Nat} {ps : Nat → Int32} (h : dgI dg (rd, nu, 4, ps) = true) (hw : cond (decide (nu = -1)) dg (nI 10 * nu + dg) = w) : tkDigit dg (rd, nu, 4, ps) = (true, (rd, w, 4, upd ps (4 * rd + 3) w)) := by
  unfold tkDigit
  rw [h]
  show (true, (rd, dgW dg (rd, nu, 4, ps), 4, upd ps (4 * rd + 3) (dgW dg (rd, nu, 4, ps)))) = _
  rw [show dgW dg (rd, nu, 4, ps) = w from hw]
theorem nI_0' {w : Nat} (hw : w < 2 ^ 31) : (nI w = 0) ↔ w = 0 := by
  rw [← nI_0, nI_eq hw (by decide)]
theorem dgI_f {v : Int32} {rd lo M w : Nat} {ps : Nat → Int32} (hP : letP ps rd lo M) (hw : w ≤ 99999) (hM : M ≤ 99999) (hl : lo ≤ 1) (h : dgI (v - nI 48) (rd, nI w, 4, ps) = true) : ∃ d, d ≤ 9 ∧ v = nI (48 + d) ∧ 0 < w ∧ 10 * w + d ≤ M := by
  rw [dgI_eq hP, Bool.and_eq_true, Bool.and_eq_true] at h
  obtain ⟨h1, h2, h3⟩ := h
  obtain ⟨d, -, h4, rfl⟩ := rOk_m (lo := 0) (hi := 9) (by omega) (by omega) h1
  rw [Bool.not_eq_true', decide_eq_false_iff_not, nI_0' (by omega)] at h2
  rw [sub48, decide_eq_false (nI_m1 (by omega)), cond_false, nI_mul, nI_add, rOk_nI (by omega) (by omega) (by omega), Bool.and_eq_true, decide_eq_true_eq, decide_eq_true_eq] at h3
  exact ⟨d, h4, rfl, by omega, h3.2⟩
theorem dgI_t {rd lo M w d : Nat} {ps : Nat → Int32} (hP : letP ps rd lo M) (hw : w ≤ 99999) (hM : M ≤ 99999) (hl : lo ≤ 1) (h0 : 0 < w) (hd : d ≤ 9) (h9 : 10 * w + d ≤ M) : dgI (nI d) (rd, nI w, 4, ps) = true := by
  rw [dgI_eq hP, decide_eq_false (fun q => by rw [nI_0' (by omega)] at q; omega), decide_eq_false (nI_m1 (by omega)), cond_false, nI_mul, nI_add, rOk_nI (by omega) (by omega) (by omega), rOk_nI (by omega) (by omega) (by omega), decide_eq_true (by omega), decide_eq_true (by omega), decide_eq_true (by omega), decide_eq_true (by omega)]
  rfl
theorem letP_upd {ps : Nat → Int32} {rd lo M : Nat} {k : Nat} {v : Int32} (h : letP ps rd lo M) (hk : 4 * rd ≠ k) : letP (upd ps k v) rd lo M := by
  unfold letP
  rw [upd_ne hk]
  exact h
theorem num_G {c : Nat → Int32} {L rd lo M m : Nat} (hM : M + 1 = 10 ^ m) (hM5 : M ≤ 99999) (hl : lo ≤ 1) : ∀ (f a w : Nat) (ps : Nat → Int32), a ≤ L → letP ps rd lo M → ps (4 * rd + 3) = nI w → lo ≤ w → w ≤ M → (w = 0 → f = 0) → (0 < w → 10 ^ m ≤ 10 * (w * 10 ^ f) ∧ (w + 1) * 10 ^ f ≤ 10 ^ m) →
    ∃ (w' : Nat) (ps' : Nat → Int32), (numK c L f a (nI w)).2 = nI w' ∧ gT c L a (rd, nI w, 4, ps) = gT c L (numK c L f a (nI w)).1 (rd, nI w', 4, ps') ∧ a ≤ (numK c L f a (nI w)).1 ∧ (numK c L f a (nI w)).1 ≤ L ∧ ps' (4 * rd + 3) = nI w' ∧ (∀ j, j ≠ 4 * rd + 3 → ps' j = ps j) ∧ lo ≤ w' ∧ w' ≤ M ∧ ((numK c L f a (nI w)).1 < L → ¬ c (numK c L f a (nI w)).1 = nI 59 → (tkNext (c (numK c L f a (nI w)).1) (rd, nI w', 4, ps')).1 = false) := by
  intro f
  induction f with
  | zero =>
    intro a w ps ha hP hp h1 h2 h3 h4
    refine ⟨w, ps, rfl, rfl, Nat.le_refl _, ha, hp, fun _ _ => rfl, h1, h2, fun q1 q2 => ?_⟩
    show (tkNext (c a) (rd, nI w, 4, ps)).1 = false
    have q2' : ¬ c a = nI 59 := q2
    rw [tk_4 q2']
    show dgI (c a - nI 48) (rd, nI w, 4, ps) = false
    cases e : dgI (c a - nI 48) (rd, nI w, 4, ps) with
    | false => rfl
    | true =>
      obtain ⟨d, e1, -, e3, e4⟩ := dgI_f hP (by omega) hM5 hl e
      have := (h4 e3).1
      rw [Nat.pow_zero, Nat.mul_one] at this
      omega
  | succ f ih =>
    intro a w ps ha hP hp h1 h2 h3 h4
    have hw : 0 < w := Nat.pos_of_ne_zero fun q => absurd (h3 q) (by omega)
    cases e : isDig c L a 0 9 with
    | false =>
      have en : numK c L (f + 1) a (nI w) = (a, nI w) := by
        unfold numK
        rw [e]
        rfl
      rw [en]
      refine ⟨w, ps, rfl, rfl, Nat.le_refl _, ha, hp, fun _ _ => rfl, h1, h2, fun q1 q2 => ?_⟩
      show (tkNext (c a) (rd, nI w, 4, ps)).1 = false
      rw [tk_4 q2]
      show dgI (c a - nI 48) (rd, nI w, 4, ps) = false
      cases e9 : dgI (c a - nI 48) (rd, nI w, 4, ps) with
      | false => rfl
      | true =>
        obtain ⟨d, e1, e2, -, -⟩ := dgI_f hP (by omega) hM5 hl e9
        have := (isDig_iff (c := c) (L := L) (a := a) (lo := 0) (hi := 9) (by omega) (by omega)).mpr ⟨q1, d, Nat.zero_le _, e1, e2⟩
        rw [e] at this
        exact absurd this (by decide)
    | true =>
      obtain ⟨d, -, hd, haL, hc, -, -⟩ := dg_t (by omega) (by omega) e
      obtain ⟨g1, g2⟩ := h4 hw
      have hp10 : 10 ^ (f + 1) = 10 * 10 ^ f := by rw [Nat.pow_succ, Nat.mul_comm]
      have hpos : 0 < 10 ^ f := Nat.pow_pos (by decide)
      have g3 : (w + 1) * 10 ≤ (w + 1) * 10 ^ (f + 1) := Nat.mul_le_mul_left _ (by omega)
      have g4 : 10 * w + d ≤ M := by omega
      have en : numK c L (f + 1) a (nI w) = numK c L f (a + 1) (nI (10 * w + d)) := by
        show cond (isDig c L a 0 9) (numK c L f (a + 1) (nI 10 * nI w + (c a - nI 48))) (a, nI w) = _
        rw [e, hc, sub48, nI_mul, nI_add]
        rfl
      have et : tkNext (c a) (rd, nI w, 4, ps) = (true, (rd, nI (10 * w + d), 4, upd ps (4 * rd + 3) (nI (10 * w + d)))) := by
        rw [hc, tk_4 (i59 hd), sub48]
        exact tkD_t (dgI_t hP (by omega) hM5 hl hw hd g4) (by rw [decide_eq_false (nI_m1 (by omega)), cond_false, nI_mul, nI_add])
      rw [en, gT_go haL et]
      have k1 : w * 10 ^ (f + 1) = w * 10 * 10 ^ f := by rw [hp10, Nat.mul_assoc]
      have k2 : w * 10 * 10 ^ f ≤ (10 * w + d) * 10 ^ f := Nat.mul_le_mul_right _ (by omega)
      have k3 : (10 * w + d + 1) * 10 ^ f ≤ (w + 1) * 10 * 10 ^ f := Nat.mul_le_mul_right _ (by omega)
      have k4 : (w + 1) * 10 ^ (f + 1) = (w + 1) * 10 * 10 ^ f := by rw [hp10, Nat.mul_assoc]
      obtain ⟨w', ps', r1, r2, r3, r4, r5, r6, r7, r8, r9⟩ := ih (a + 1) (10 * w + d) (upd ps (4 * rd + 3) (nI (10 * w + d))) haL (letP_upd hP (by omega)) upd_at (by omega) g4 (fun q => by omega) (fun _ => ⟨by omega, by omega⟩)
      exact ⟨w', ps', r1, r2, by omega, r4, r5, fun j hj => (r6 j hj).trans (upd_ne hj), r7, r8, r9⟩
theorem rdNum_G {c : Nat → Int32} {L rd lo M m : Nat} {ps : Nat → Int32} (hM : M + 1 = 10 ^ m) (hm : 1 ≤ m) (hM5 : M ≤ 99999) (hl : lo ≤ 1) {s : RS} (ha : s.1 ≤ L) (hP : letP ps rd lo M) :
    ((rdNum c L s lo m).1 = true ∧ ∃ (w : Nat) (ps' : Nat → Int32), lo ≤ w ∧ w ≤ M ∧ (rdNum c L s lo m).2.2 = (s.2.1, s.2.2.1, s.2.2.2.1, nI w) ∧ gT c L s.1 (rd, -1, 4, ps) = gT c L (rdNum c L s lo m).2.1 (rd, nI w, 4, ps') ∧ s.1 < (rdNum c L s lo m).2.1 ∧ (rdNum c L s lo m).2.1 ≤ L ∧ ps' (4 * rd + 3) = nI w ∧ (∀ j, j ≠ 4 * rd + 3 → ps' j = ps j) ∧ ((rdNum c L s lo m).2.1 < L → ¬ c (rdNum c L s lo m).2.1 = nI 59 → (tkNext (c (rdNum c L s lo m).2.1) (rd, nI w, 4, ps')).1 = false))
    ∨ ((rdNum c L s lo m).1 = false ∧ (rdNum c L s lo m).2.1 = s.1 ∧ (s.1 < L → (tkNext (c s.1) (rd, -1, 4, ps)).1 = false)) := by
  have h10 : 10 ^ m = 10 * 10 ^ (m - 1) := by
    rw [show m = (m - 1) + 1 by omega, Nat.pow_succ, Nat.mul_comm]
    rfl
  have hpos : 0 < 10 ^ (m - 1) := Nat.pow_pos (by decide)
  cases e : isDig c L s.1 lo 9 with
  | false =>
    refine Or.inr ?_
    obtain ⟨e1, e2⟩ := dg_f e
    have en : rdNum c L s lo m = (false, (s.1, s.2.1, s.2.2.1, s.2.2.2.1, -1)) := by
      unfold rdNum
      rw [e1, e2, decide_eq_true rfl]
      rfl
    rw [en]
    refine ⟨rfl, rfl, fun q1 => ?_⟩
    rw [tk_4n]
    show dgI (c s.1 - nI 48) (rd, -1, 4, ps) = false
    cases e9 : dgI (c s.1 - nI 48) (rd, -1, 4, ps) with
    | false => rfl
    | true =>
      rw [dgI_eq hP, Bool.and_eq_true, Bool.and_eq_true, decide_eq_true (rfl : (-1 : Int32) = -1), cond_true] at e9
      obtain ⟨d, -, hd, h3⟩ := rOk_m (lo := 0) (hi := 9) (by omega) (by omega) e9.1
      obtain ⟨d', hd', hd2, h4⟩ := rOk_m (lo := lo) (hi := M) (by omega) hM5 e9.2.2
      rw [h3] at h4
      have := (isDig_iff (c := c) (L := L) (a := s.1) (lo := lo) (hi := 9) (by omega) (by omega)).mpr ⟨q1, d, by
        have := (nI_eq (by omega) (by omega)).mp h4
        omega, hd, h3⟩
      rw [e] at this
      exact absurd this (by decide)
  | true =>
    refine Or.inl ?_
    obtain ⟨d, hd0, hd, haL, hc, hv, hA⟩ := dg_t (by omega) (by omega) e
    have en : rdNum c L s lo m = (true, ((numK c L (cond (decide (nI d = 0)) 0 (m - 1)) (s.1 + 1) (nI d)).1, s.2.1, s.2.2.1, s.2.2.2.1, (numK c L (cond (decide (nI d = 0)) 0 (m - 1)) (s.1 + 1) (nI d)).2)) := by
      unfold rdNum
      rw [hv, hA, decide_eq_false (nI_m1 (by omega))]
      rfl
    have et : tkNext (c s.1) (rd, -1, 4, ps) = (true, (rd, nI d, 4, upd ps (4 * rd + 3) (nI d))) := by
      rw [hc, tk_4n, sub48]
      refine tkD_t ?_ (by rw [decide_eq_true rfl]; rfl)
      rw [dgI_eq hP, decide_eq_false (show ¬ (-1 : Int32) = 0 by decide), decide_eq_true (rfl : (-1 : Int32) = -1), cond_true, rOk_nI (by omega) (by omega) (by omega), rOk_nI (by omega) (by omega) (by omega), decide_eq_true (by omega), decide_eq_true (by omega), decide_eq_true (by omega), decide_eq_true (by omega)]
      rfl
    rw [en, gT_go haL et]
    have hf : ∀ f, f = (cond (decide (nI d = 0)) 0 (m - 1) : Nat) → (d = 0 → f = 0) ∧ (0 < d → f = m - 1) := by
      intro f hf
      subst hf
      refine ⟨fun q => ?_, fun q => ?_⟩
      · rw [decide_eq_true ((nI_0' (by omega)).mpr q)]; rfl
      · rw [decide_eq_false (fun r => by rw [nI_0' (by omega)] at r; omega)]; rfl
    obtain ⟨f1, f2⟩ := hf _ rfl
    revert f1 f2
    generalize (cond (decide (nI d = 0)) 0 (m - 1) : Nat) = f
    intro f1 f2
    obtain ⟨w', ps', r1, r2, r3, r4, r5, r6, r7, r8, r9⟩ := num_G (c := c) (L := L) (rd := rd) hM hM5 hl f (s.1 + 1) d (upd ps (4 * rd + 3) (nI d)) haL (letP_upd hP (by omega)) upd_at hd0 (by omega) f1 (fun q => by
      rw [f2 q, h10]
      refine ⟨Nat.mul_le_mul_left _ ?_, Nat.mul_le_mul_right _ (by omega)⟩
      exact Nat.le_mul_of_pos_left _ q)
    refine ⟨rfl, w', ps', r7, r8, ?_, r2, r3, r4, r5, fun j hj => (r6 j hj).trans (upd_ne hj), r9⟩
    show (s.2.1, s.2.2.1, s.2.2.2.1, (numK c L f (s.1 + 1) (nI d)).2) = _
    rw [r1]
