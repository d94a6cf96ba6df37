/-! the reference's words -/
section MWORDS
variable {z : Zr} {p day n : Nat} {rt : Nat → Nat} {x : APh}
theorem mw_begun (hM : MP z p x) (hO : OP day n p rt x) : mBegun z p = x.beg := by
  unfold mBegun
  rw [hM.b]
  cases e : x.beg with
  | false => rfl
  | true =>
    have h := (hO.bg e).2.1
    rw [decide_eq_false (show ¬ (cond true (nI x.B) (-1) = -1) from nI_m1 (by omega))]
    rfl
theorem mw_zp (hM : MP z p x) (hO : OP day n p rt x) : zp z p = x.N := by
  have h1 : z (10 + 37 * p + 17) = nI x.N := hM.N
  unfold zp
  rw [h1, nI_clamp]
  have := hO.N4
  omega
theorem mw_rate (hM : MP z p x) (hO : OP day n p rt x) (hp : p < n) (hr : ∀ u, u < 4 → z (5 + u) = nI (rt u)) {u : Nat} (hu : u < 4) : mRate z p u = nI (x.R u) := by
  unfold mRate
  rw [mw_begun hM hO]
  cases e : x.beg with
  | false => exact (hr u hu).trans (by rw [hO.rt e hp u hu])
  | true => exact hM.R e u hu
theorem mw_chU (hM : MP z p x) (hO : OP day n p rt x) (hp : p < n) (hr : ∀ u, u < 4 → z (5 + u) = nI (rt u)) {u : Nat} (hu : u < 4) : mChU z p u = nI (x.A u * x.R u) := by
  unfold mChU
  rw [mw_rate hM hO hp hr hu, hM.A u hu, nI_mul]
theorem mw_reU (hM : MP z p x) (hO : OP day n p rt x) (hp : p < n) (hr : ∀ u, u < 4 → z (5 + u) = nI (rt u)) {u : Nat} (hu : u < 4) : mReU z p u = nI (x.E u * x.R u - x.La u) := by
  unfold mReU
  rw [mw_begun hM hO]
  cases e : x.beg with
  | false =>
    show mo z p (5 + u) * z (5 + u) = _
    rw [hM.E u hu, hr u hu, nI_mul, hO.rt e hp u hu, (hO.un e).2.1 u hu, Nat.sub_zero]
  | true => exact hM.re e u hu
theorem mw_chg (hM : MP z p x) (hO : OP day n p rt x) (hp : p < n) (hr : ∀ u, u < 4 → z (5 + u) = nI (rt u)) : mCharge z p = nI (chg x) := sumI_nI 4 fun u hu => mw_chU hM hO hp hr hu
theorem mw_rlf (hM : MP z p x) (hO : OP day n p rt x) (hp : p < n) (hr : ∀ u, u < 4 → z (5 + u) = nI (rt u)) : mRelief z p = nI (rlf x) := sumI_nI 4 fun u hu => mw_reU hM hO hp hr hu
theorem mw_sum (hM : MP z p x) (hO : OP day n p rt x) (hp : p < n) (hr : ∀ u, u < 4 → z (5 + u) = nI (rt u)) : mCharge z p - mRelief z p = nI (chg x - rlf x) := by
  rw [mw_chg hM hO hp hr, mw_rlf hM hO hp hr, pk_sub hO.rlf_le]
theorem mw_area (hM : MP z p x) (hO : OP day n p rt x) : mArea z p = nI (sN x.A 4) := sumI_nI 4 fun u hu => hM.A u hu
theorem mw_owed (hM : MP z p x) (hO : OP day n p rt x) : mOwed z p = nI (owd x) := by
  unfold mOwed
  rw [mw_begun hM hO]
  cases e : x.beg with
  | false => rw [owd_z hO e]; rfl
  | true =>
    show mOwe z p (zp z p) = _
    unfold mOwe
    rw [mw_zp hM hO, hM.lo, hM.so, nI_add, accK_nI (g := x.O) x.N fun k hk => hM.O k hk]
    rfl
theorem mw_dueNow (hM : MP z p x) (hO : OP day n p rt x) {D : Nat} (hD : D < 2 ^ 30) (h4 : z 4 = nI D) : mDueNow z p = nI (dueA D x) := by
  unfold mDueNow
  rw [mw_begun hM hO]
  cases e : x.beg with
  | false =>
    obtain ⟨h1, -, -, -, -, h5, h6, -⟩ := hO.un e
    unfold dueA
    rw [h5, h1, h6]
    rfl
  | true =>
    show cond (decide (mo z p 36 = nI 1)) (mOwed z p) (mDue z p (zp z p)) = _
    unfold dueA
    rw [hM.br]
    cases hb : x.br with
    | true => exact mw_owed hM hO
    | false =>
      show mDue z p (zp z p) = nI (x.lo + sN _ x.N)
      unfold mDue
      rw [mw_zp hM hO, hM.lo]
      refine accK_nI x.N fun k hk => ?_
      have h9 := hO.fdu_le e (Nat.le_of_lt hk)
      rw [h4, hM.D k hk, hM.O k hk]
      by_cases q : x.B + (k + 1) * x.g ≤ D
      · rw [if_pos q, decide_eq_false (fun y => absurd ((nI_ltI (by omega) (by omega)).mp y) (by omega))]; rfl
      · rw [if_neg q, decide_eq_true ((nI_ltI (by omega) (by omega)).mpr (by omega))]; rfl
theorem mw_room (hM : MP z p x) (hO : OP day n p rt x) (hp : p < n) (hr : ∀ u, u < 4 → z (5 + u) = nI (rt u)) {pct : Nat} (hpc : pct ≤ 100) (h3 : z 3 = nI pct) : mRoom z p = nI (roomA pct x) := by
  unfold mRoom roomA
  rw [mw_begun hM hO]
  cases e : x.beg with
  | false => rfl
  | true =>
    have h1 := hO.chg_le
    have h2 := hO.rlf_le
    have h5 := (hO.bg e).2.2.2.2.2.2
    have h6 := hO.su
    have h7 : (chg x - rlf x) * pct ≤ 3992004 * 100 := Nat.mul_le_mul (by omega) hpc
    have hR : mRoomR z p = nI ((chg x - rlf x) * pct / 100) - nI x.Ld := by
      unfold mRoomR
      rw [mw_sum hM hO hp hr, h3, pct_l (by omega) (by omega) (by omega), hM.Ld]
    rw [hR, if_pos rfl]
    by_cases q : (chg x - rlf x) * pct / 100 ≤ x.Ld
    · rw [decide_eq_true ((nI_sub0 (by omega) (by omega)).mpr q), Nat.sub_eq_zero_of_le q]; rfl
    · rw [decide_eq_false (fun y => q ((nI_sub0 (by omega) (by omega)).mp y))]
      show nI _ - nI _ = _
      rw [pk_sub (by omega)]
theorem mw_fd (hM : MP z p x) (hO : OP day n p rt x) : ∀ j k, k + j = x.N → (∀ i, i < k → x.O i = 0) → fd z p j k = cond (decide (cZ x.O x.N < x.N)) (nI (fdu x)) (-1)
  | 0, k, h, hz => by
    have hk : k = x.N := by omega
    subst hk
    rw [cZ_all _ hz, decide_eq_false (Nat.lt_irrefl _)]
    rfl
  | j + 1, k, h, hz => by
    have hk : k < x.N := by omega
    have hb := hO.O_le hk
    show cond (decide (mo z p (22 + k) ≤ 0)) (fd z p j (k + 1)) (mo z p (26 + k)) = _
    rw [hM.O k hk]
    by_cases q : x.O k = 0
    · rw [q, decide_eq_true (show nI 0 ≤ 0 by decide)]
      refine mw_fd hM hO j (k + 1) (by omega) fun i hi => ?_
      rcases Nat.lt_or_ge i k with y | y
      · exact hz i y
      · rw [show i = k by omega]; exact q
    · rw [decide_eq_false (fun y => by
        rw [← nI_0, nI_leI (by omega) (by decide)] at y
        omega)]
      have h1 := cZ_sh _ hO.sh k hk
      have h2 : cZ x.O x.N ≤ k := Nat.le_of_not_lt fun y => q (h1.mpr y)
      have h3 : ¬ cZ x.O x.N < k := fun y => by
        have h4 := cZ_sh _ hO.sh (cZ x.O x.N) (by omega)
        exact absurd (h4.mp (hz _ y)) (Nat.lt_irrefl _)
      have h5 : cZ x.O x.N = k := by omega
      rw [h5, decide_eq_true hk]
      show mo z p (26 + k) = nI (fdu x)
      unfold fdu
      rw [hM.D k hk, h5]
theorem mw_mFd (hM : MP z p x) (hO : OP day n p rt x) : mFd z p = cond (decide (cZ x.O x.N < x.N)) (nI (fdu x)) (-1) := by
  unfold mFd
  rw [mw_zp hM hO]
  exact mw_fd hM hO _ 0 (Nat.zero_add _) fun i hi => absurd hi (Nat.not_lt_zero i)
theorem mw_fdz (hM : MP z p x) (hO : OP day n p rt x) (h : cZ x.O x.N < x.N) (hb : x.beg = true) : mFd z p = nI (fdu x) := by
  rw [mw_mFd hM hO, decide_eq_true h]
  rfl
theorem mw_brk (hM : MP z p x) (hO : OP day n p rt x) : (mo z p 36 = 0) ↔ x.br = false := by
  rw [hM.br, ← nI_0]
  cases x.br
  · exact ⟨fun _ => rfl, fun _ => rfl⟩
  · exact ⟨fun q => absurd q (by decide), fun q => absurd q (by decide)⟩
theorem mw_can (hM : MP z p x) (hO : OP day n p rt x) : mCan z p = canB x := by
  unfold mCan canB
  rw [mw_begun hM hO, mw_mFd hM hO]
  cases e : x.beg with
  | false => rfl
  | true =>
    have h1 : decide (mo z p 36 = 0) = !x.br := by
      cases hb : x.br with
      | false => exact decide_eq_true ((mw_brk hM hO).mpr hb)
      | true => exact decide_eq_false (fun q => by rw [(mw_brk hM hO).mp q] at hb; exact absurd hb (by decide))
    rw [h1]
    by_cases q : cZ x.O x.N < x.N
    · have h3 : fdu x ≤ 10599 := hO.fdu_le e (Nat.le_of_lt q)
      rw [decide_eq_true q]
      show (true && (!x.br && !(decide (nI (fdu x) = -1)))) = _
      rw [decide_eq_false (nI_m1 (by omega))]
      cases x.br <;> rfl
    · rw [decide_eq_false q]
      show (true && (!x.br && !(decide ((-1 : Int32) = -1)))) = _
      cases x.br <;> rfl
theorem mw_breaks (hM : MP z p x) (hO : OP day n p rt x) (h4 : z 4 = nI day) (h99 : day ≤ 9999) : mBreaks z p = cond (canB x) (nI (fdu x + 1 - day)) (-1) := by
  unfold mBreaks
  rw [mw_can hM hO]
  cases e : canB x with
  | false => rfl
  | true =>
    have h1 := fdu_day hO e
    obtain ⟨h2, -, h5⟩ := canB_iff.mp e
    have h3 : fdu x ≤ 10599 := hO.fdu_le h2 (Nat.le_of_lt h5)
    show cond (decide (nI 1 ≤ mFd z p + nI 1 - z 4)) (mFd z p + nI 1 - z 4) (nI 1) = nI _
    rw [mw_fdz hM hO h5 h2, h4, nI_add, pk_sub (by omega), decide_eq_true ((nI_leI (by omega) (by omega)).mpr (by omega))]
    rfl
theorem mw_whole (hM : MP z p x) (hO : OP day n p rt x) : mWholeK z p x.N = nI (cZ x.O x.N) := by
  have h : ∀ m, m ≤ x.N → mWholeK z p m = nI (cZ x.O m) := by
    intro m
    induction m with
    | zero => intro _; rfl
    | succ m ih =>
      intro hm
      have hb := hO.O_le (k := m) (by omega)
      show mWholeK z p m + cond (decide (mo z p (22 + m) = 0)) (nI 1) (nI 0) = nI (if x.O m = 0 then cZ x.O m + 1 else cZ x.O m)
      rw [ih (by omega), hM.O m (by omega)]
      by_cases q : x.O m = 0
      · rw [q, if_pos rfl, decide_eq_true (show nI 0 = 0 from nI_0)]
        exact nI_add _ _
      · rw [if_neg q, decide_eq_false (fun y => q (by rw [← nI_0, nI_eq (by omega) (by decide)] at y; exact y))]
        exact nI_add _ _
  exact h x.N (Nat.le_refl _)
end MWORDS
/-! the queries of a phase answer alike -/
def CR (μ : Mem) (i : Nat) (a : ALw) : Prop := (μ.1 4 i 0 0 = nI a.day) ∧ (μ.1 4 i 0 1 = nI a.n) ∧ (∀ u, u < 4 → μ.1 5 i 0 u = nI (a.rt u)) ∧ (∀ u, u < 4 → μ.1 6 i 0 u = nI (a.st u)) ∧ (∀ p, p < 6 → CP μ i p (a.ph p))
theorem CR.mk {μ : Mem} {i : Nat} {a : ALw} (f_day : μ.1 4 i 0 0 = nI a.day) (f_n : μ.1 4 i 0 1 = nI a.n) (f_rt : ∀ u, u < 4 → μ.1 5 i 0 u = nI (a.rt u)) (f_st : ∀ u, u < 4 → μ.1 6 i 0 u = nI (a.st u)) (f_ph : ∀ p, p < 6 → CP μ i p (a.ph p)) : CR μ i a := ⟨f_day, f_n, f_rt, f_st, f_ph⟩
theorem CR.day {μ : Mem} {i : Nat} {a : ALw} (h : CR μ i a) : μ.1 4 i 0 0 = nI a.day := h.1
theorem CR.n {μ : Mem} {i : Nat} {a : ALw} (h : CR μ i a) : μ.1 4 i 0 1 = nI a.n := h.2.1
theorem CR.rt {μ : Mem} {i : Nat} {a : ALw} (h : CR μ i a) : ∀ u, u < 4 → μ.1 5 i 0 u = nI (a.rt u) := h.2.2.1
theorem CR.st {μ : Mem} {i : Nat} {a : ALw} (h : CR μ i a) : ∀ u, u < 4 → μ.1 6 i 0 u = nI (a.st u) := h.2.2.2.1
theorem CR.ph {μ : Mem} {i : Nat} {a : ALw} (h : CR μ i a) : ∀ p, p < 6 → CP μ i p (a.ph p) := h.2.2.2.2
def MR (z : Zr) (a : ALw) : Prop := (z 4 = nI a.day) ∧ (ZI z a.n) ∧ (∀ u, u < 4 → z (5 + u) = nI (a.rt u)) ∧ (∀ u, u < 4 → z u = nI (a.st u)) ∧ (∀ p, p < a.n → MP z p (a.ph p))
theorem MR.mk {z : Zr} {a : ALw} (f_day : z 4 = nI a.day) (f_zi : ZI z a.n) (f_rt : ∀ u, u < 4 → z (5 + u) = nI (a.rt u)) (f_st : ∀ u, u < 4 → z u = nI (a.st u)) (f_ph : ∀ p, p < a.n → MP z p (a.ph p)) : MR z a := ⟨f_day, f_zi, f_rt, f_st, f_ph⟩
theorem MR.day {z : Zr} {a : ALw} (h : MR z a) : z 4 = nI a.day := h.1
theorem MR.zi {z : Zr} {a : ALw} (h : MR z a) : ZI z a.n := h.2.1
theorem MR.rt {z : Zr} {a : ALw} (h : MR z a) : ∀ u, u < 4 → z (5 + u) = nI (a.rt u) := h.2.2.1
theorem MR.st {z : Zr} {a : ALw} (h : MR z a) : ∀ u, u < 4 → z u = nI (a.st u) := h.2.2.2.1
theorem MR.ph {z : Zr} {a : ALw} (h : MR z a) : ∀ p, p < a.n → MP z p (a.ph p) := h.2.2.2.2
def OK (a : ALw) : Prop := (a.day ≤ 9999) ∧ (a.n ≤ 6) ∧ (∀ u, u < 4 → a.rt u ≤ 999) ∧ (1 ≤ a.st 0 ∧ a.st 0 ≤ 120) ∧ (a.st 1 ≤ 50) ∧ (a.st 2 ≤ 3000) ∧ (a.st 3 ≤ 100) ∧ (∀ p, p < 6 → OP a.day a.n p a.rt (a.ph p))
theorem OK.mk {a : ALw} (f_day : a.day ≤ 9999) (f_n : a.n ≤ 6) (f_rt : ∀ u, u < 4 → a.rt u ≤ 999) (f_s0 : 1 ≤ a.st 0 ∧ a.st 0 ≤ 120) (f_s1 : a.st 1 ≤ 50) (f_s2 : a.st 2 ≤ 3000) (f_s3 : a.st 3 ≤ 100) (f_ph : ∀ p, p < 6 → OP a.day a.n p a.rt (a.ph p)) : OK a := ⟨f_day, f_n, f_rt, f_s0, f_s1, f_s2, f_s3, f_ph⟩
theorem OK.day {a : ALw} (h : OK a) : a.day ≤ 9999 := h.1
theorem OK.n {a : ALw} (h : OK a) : a.n ≤ 6 := h.2.1
theorem OK.rt {a : ALw} (h : OK a) : ∀ u, u < 4 → a.rt u ≤ 999 := h.2.2.1
theorem OK.s0 {a : ALw} (h : OK a) : 1 ≤ a.st 0 ∧ a.st 0 ≤ 120 := h.2.2.2.1
theorem OK.s1 {a : ALw} (h : OK a) : a.st 1 ≤ 50 := h.2.2.2.2.1
theorem OK.s2 {a : ALw} (h : OK a) : a.st 2 ≤ 3000 := h.2.2.2.2.2.1
theorem OK.s3 {a : ALw} (h : OK a) : a.st 3 ≤ 100 := h.2.2.2.2.2.2.1
theorem OK.ph {a : ALw} (h : OK a) : ∀ p, p < 6 → OP a.day a.n p a.rt (a.ph p) := h.2.2.2.2.2.2.2
theorem CR.CI {μ : Mem} {a : ALw} (hC : CR μ 0 a) (hK : OK a) : CI μ a.n := by
  refine ⟨hC.n, hK.n, fun p hp => ?_⟩
  have h1 := cw_ins (hC.ph p hp) (hK.ph p hp)
  rw [h1]
  exact ⟨(hC.ph p hp).N, (hK.ph p hp).N4⟩
section QUERY
variable {μ : Mem} {z : Zr} {a : ALw}
theorem q_phase (hC : CR μ 0 a) (hM : MR z a) (hK : OK a) {p : Nat} (hp : p < a.n) {w : Nat} (hw : w < 14) : cPhaseQ μ p w = mPhase z p w := by
  have hp6 : p < 6 := Nat.lt_of_lt_of_le hp hK.n
  have c := hC.ph p hp6
  have m := hM.ph p hp
  have o := hK.ph p hp6
  match w, hw with
  | 0, _ => exact c.b.trans m.b.symm
  | 1, _ => exact (cw_chg c o).trans (mw_chg m o hp hM.rt).symm
  | 2, _ => exact (cw_rlf c o).trans (mw_rlf m o hp hM.rt).symm
  | 3, _ => exact (cw_owed c o).trans (mw_owed m o).symm
  | 4, _ =>
    have h := hK.day
    show cDueOn μ 0 p (insN μ 0 p) (μ.1 4 0 0 0) = mDueNow z p
    rw [cw_ins c o, hC.day, cw_due c o (by omega), mw_dueNow m o (by omega) hM.day]
  | 5, _ => exact c.P.trans m.P.symm
  | 6, _ => exact c.Ld.trans m.Ld.symm
  | 7, _ => exact c.Su.trans m.Su.symm
  | 8, _ => exact (cw_lps c o).trans m.la.symm
  | 9, _ =>
    show cond (decide (μ.1 8 0 p 12 = 0)) (nI 0) (nI 1) = mo z p 36
    rw [m.br]
    cases e : (a.ph p).br with
    | false => rw [decide_eq_true ((cw_brk c o).mpr e)]; rfl
    | true => rw [decide_eq_false (fun q => by rw [(cw_brk c o).mp q] at e; exact absurd e (by decide))]; rfl
  | 10, _ => exact c.N.trans m.N.symm
  | 11, _ =>
    show nI (cWhole μ 0 p (insN μ 0 p)) = mWholeK z p (zp z p)
    rw [cw_ins c o, mw_zp m o, cw_whole c o, mw_whole m o]
  | 12, _ => exact (cw_area c o).trans (mw_area m o).symm
  | 13, _ =>
    show cRoom μ 0 p (μ.1 6 0 0 3) = mRoom z p
    rw [hC.st 3 (by decide), cw_room c o hK.s3, mw_room m o hp hM.rt hK.s3 (hM.st 3 (by decide))]
theorem q_use (hC : CR μ 0 a) (hM : MR z a) (hK : OK a) {p : Nat} (hp : p < a.n) {u : Nat} (hu : u < 4) {w : Nat} (hw : w < 5) : cUseQ μ p u w = mUse z p u w := by
  have hp6 : p < 6 := Nat.lt_of_lt_of_le hp hK.n
  have c := hC.ph p hp6
  have m := hM.ph p hp
  have o := hK.ph p hp6
  match w, hw with
  | 0, _ => exact (c.A u hu).trans (m.A u hu).symm
  | 1, _ => exact (c.E u hu).trans (m.E u hu).symm
  | 2, _ => exact (c.R u hu).trans (mw_rate m o hp hM.rt hu).symm
  | 3, _ =>
    show μ.1 9 0 p u * μ.1 11 0 p u = mChU z p u
    rw [mw_chU m o hp hM.rt hu, c.A u hu, c.R u hu, nI_mul]
  | 4, _ => exact (cw_rel c o hu).trans (mw_reU m o hp hM.rt hu).symm
theorem q_inst (hC : CR μ 0 a) (hM : MR z a) (hK : OK a) {p : Nat} (hp : p < a.n) {k w : Nat} (hw : w < 3) : cInstQ μ p k w = mInst z p k w := by
  have hp6 : p < 6 := Nat.lt_of_lt_of_le hp hK.n
  have c := hC.ph p hp6
  have m := hM.ph p hp
  have o := hK.ph p hp6
  unfold cInstQ mInst
  rw [cw_ins c o, mw_zp m o]
  by_cases hk : k < (a.ph p).N
  · rw [decide_eq_true hk]
    have hb : (a.ph p).beg = true := by
      cases e : (a.ph p).beg with
      | true => rfl
      | false => rw [(o.un e).1] at hk; exact absurd hk (Nat.not_lt_zero k)
    match w, hw with
    | 0, _ => exact (c.I k hk).trans (m.I k hk).symm
    | 1, _ => exact (c.O k hk).trans (m.O k hk).symm
    | 2, _ => exact (cw_last c o hb k).trans (m.D k hk).symm
  · rw [decide_eq_false hk]; rfl
theorem q_why1 (hC : CR μ 0 a) (hM : MR z a) (hK : OK a) {p : Nat} (hp : p < a.n) : cWhy1 μ 0 p = mWhy1 z p := by
  have hp6 : p < 6 := Nat.lt_of_lt_of_le hp hK.n
  have c := hC.ph p hp6
  have m := hM.ph p hp
  have o := hK.ph p hp6
  unfold cWhy1 mWhy1
  rw [cw_begun c o, mw_begun m o, cw_area c o, mw_area m o]
theorem q_why2 (hC : CR μ 0 a) (hM : MR z a) (hK : OK a) {p : Nat} (hp : p < a.n) : cWhy2 μ 0 p = mWhy2 z p := by
  have hp6 : p < 6 := Nat.lt_of_lt_of_le hp hK.n
  have c := hC.ph p hp6
  have m := hM.ph p hp
  have o := hK.ph p hp6
  unfold cWhy2 mWhy2
  rw [cw_begun c o, mw_begun m o, cw_owed c o, mw_owed m o]
theorem q_why3 (hC : CR μ 0 a) (hM : MR z a) (hK : OK a) {p : Nat} (hp : p < a.n) : cWhy3 μ 0 p = mWhy3 z p := by
  have hp6 : p < 6 := Nat.lt_of_lt_of_le hp hK.n
  have c := hC.ph p hp6
  have m := hM.ph p hp
  have o := hK.ph p hp6
  unfold cWhy3 mWhy3 mWhy2
  rw [cw_begun c o, mw_begun m o, cw_owed c o, mw_owed m o, hC.st 3 (by decide), cw_room c o hK.s3, mw_room m o hp hM.rt hK.s3 (hM.st 3 (by decide))]
  cases (a.ph p).beg with
  | false => rfl
  | true =>
    show cond (decide (nI (owd (a.ph p)) = 0)) (nI 4) _ = cond (decide (cond (decide (nI (owd (a.ph p)) = 0)) (nI 4) (nI 0) = 0)) (cond _ (nI 5) (cond (decide (nI (owd (a.ph p)) = 0)) (nI 4) (nI 0))) (cond (decide (nI (owd (a.ph p)) = 0)) (nI 4) (nI 0))
    cases decide (nI (owd (a.ph p)) = 0) <;> rfl
theorem q_why4 (hC : CR μ 0 a) (hM : MR z a) (hK : OK a) {p : Nat} (hp : p < a.n) {u : Nat} (hu : u < 4) : cWhy4 μ 0 p u = mWhy4 z p u := by
  have hp6 : p < 6 := Nat.lt_of_lt_of_le hp hK.n
  have c := hC.ph p hp6
  have m := hM.ph p hp
  have o := hK.ph p hp6
  unfold cWhy4 mWhy4
  rw [cw_begun c o, mw_begun m o]
  cases e : (a.ph p).beg with
  | false => rfl
  | true =>
    show cond (cLate μ 0 p || decide (cRel μ 0 p u = 0)) (nI 6) (nI 0) = cond (decide (mo z p (13 + u) = 0) || !(decide (z 4 ≤ mo z p 0 + z 2))) (nI 6) (nI 0)
    unfold cLate
    rw [cw_rel c o hu, m.re e u hu, c.b, m.b, hC.st 2 (by decide), hM.st 2 (by decide), hC.day, hM.day, Bool.or_comm]
theorem q_why (hC : CR μ 0 a) (hM : MR z a) (hK : OK a) {p : Nat} (hp : p < a.n) {u : Nat} (hu : u < 4) {w : Nat} (hw : w < 5) : cWhy μ 0 p u w = mWhy z p u w := by
  have hp6 : p < 6 := Nat.lt_of_lt_of_le hp hK.n
  match w, hw with
  | 0, _ =>
    show cWhy0 μ 0 p = cond (mBegun z p) (nI 1) (nI 0)
    unfold cWhy0
    rw [cw_begun (hC.ph p hp6) (hK.ph p hp6), mw_begun (hM.ph p hp) (hK.ph p hp6)]
  | 1, _ => exact q_why1 hC hM hK hp
  | 2, _ => exact q_why2 hC hM hK hp
  | 3, _ => exact q_why3 hC hM hK hp
  | 4, _ => exact q_why4 hC hM hK hp hu
end QUERY
