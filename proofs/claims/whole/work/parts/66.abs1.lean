/-! ===== the abstract state: sums over numbers ===== -/
def sN (f : Nat → Nat) : Nat → Nat
  | 0 => 0
  | n + 1 => sN f n + f n
def cZ (f : Nat → Nat) : Nat → Nat
  | 0 => 0
  | n + 1 => if f n = 0 then cZ f n + 1 else cZ f n
theorem sN_le {f g : Nat → Nat} : ∀ n, (∀ k, k < n → f k ≤ g k) → sN f n ≤ sN g n
  | 0, _ => Nat.le_refl _
  | n + 1, h => Nat.add_le_add (sN_le n fun k hk => h k (Nat.lt_succ_of_lt hk)) (h n (Nat.lt_succ_self n))
theorem sN_ext {f g : Nat → Nat} : ∀ n, (∀ k, k < n → f k = g k) → sN f n = sN g n
  | 0, _ => rfl
  | n + 1, h => by
    show sN f n + f n = sN g n + g n
    rw [sN_ext n fun k hk => h k (Nat.lt_succ_of_lt hk), h n (Nat.lt_succ_self n)]
theorem sN_zero {f : Nat → Nat} : ∀ n, (∀ k, k < n → f k = 0) → sN f n = 0
  | 0, _ => rfl
  | n + 1, h => by
    show sN f n + f n = 0
    rw [sN_zero n fun k hk => h k (Nat.lt_succ_of_lt hk), h n (Nat.lt_succ_self n)]
theorem sN_add {f g : Nat → Nat} : ∀ n, sN (fun k => f k + g k) n = sN f n + sN g n
  | 0 => rfl
  | n + 1 => by
    show sN (fun k => f k + g k) n + (f n + g n) = sN f n + f n + (sN g n + g n)
    rw [sN_add n]
    omega
theorem sN_mono {f : Nat → Nat} {m : Nat} : ∀ n, m ≤ n → sN f m ≤ sN f n
  | 0, h => by rw [Nat.le_zero.mp h]; exact Nat.le_refl _
  | n + 1, h => by
    rcases Nat.lt_or_ge m (n + 1) with q | q
    · exact Nat.le_trans (sN_mono n (by omega)) (Nat.le_add_right _ _)
    · rw [show m = n + 1 by omega]; exact Nat.le_refl _
theorem sN_one {f : Nat → Nat} {k n : Nat} (h : k < n) : f k ≤ sN f n := Nat.le_trans (Nat.le_add_left _ _) (sN_mono (m := k + 1) n h)
theorem sN_four (f : Nat → Nat) : sN f 4 = f 0 + f 1 + f 2 + f 3 := by
  show 0 + f 0 + f 1 + f 2 + f 3 = _
  omega
theorem lt4 {P : Nat → Prop} (h0 : P 0) (h1 : P 1) (h2 : P 2) (h3 : P 3) : ∀ u, u < 4 → P u := fun u hu => match u, hu with
  | 0, _ => h0
  | 1, _ => h1
  | 2, _ => h2
  | 3, _ => h3
  | n + 4, h => absurd h (by omega)
theorem sumI_nI {f : Nat → Int32} {g : Nat → Nat} : ∀ n, (∀ k, k < n → f k = nI (g k)) → sumI f n = nI (sN g n)
  | 0, _ => rfl
  | n + 1, h => by
    show sumI f n + f n = nI (sN g n + g n)
    rw [sumI_nI n fun k hk => h k (Nat.lt_succ_of_lt hk), h n (Nat.lt_succ_self n), nI_add]
theorem accK_nI {a : Nat} {f : Nat → Int32} {g : Nat → Nat} : ∀ n, (∀ k, k < n → f k = nI (g k)) → accK (nI a) f n = nI (a + sN g n)
  | 0, _ => rfl
  | n + 1, h => by
    show accK (nI a) f n + f n = nI (a + (sN g n + g n))
    rw [accK_nI n fun k hk => h k (Nat.lt_succ_of_lt hk), h n (Nat.lt_succ_self n), nI_add, Nat.add_assoc]
theorem sumB_nI {b : Nat → Bool} {f : Nat → Int32} {g : Nat → Nat} : ∀ n, (∀ k, k < n → b k = true → f k = nI (g k)) → sumB b f n = nI (sN (fun k => if b k = true then g k else 0) n)
  | 0, _ => rfl
  | n + 1, h => by
    show cond (b n) (sumB b f n + f n) (sumB b f n) = nI (sN (fun k => if b k = true then g k else 0) n + if b n = true then g n else 0)
    rw [sumB_nI n fun k hk => h k (Nat.lt_succ_of_lt hk)]
    cases e : b n with
    | false => simp
    | true =>
      rw [h n (Nat.lt_succ_self n) e]
      simp [nI_add]
theorem cntZ_nI {f : Nat → Int32} {g : Nat → Nat} : ∀ n, (∀ k, k < n → f k = nI (g k) ∧ g k < 2 ^ 31) → cntZ f n = cZ g n
  | 0, _ => rfl
  | n + 1, h => by
    have h9 := h n (Nat.lt_succ_self n)
    have e : (f n = 0) ↔ g n = 0 := by rw [h9.1, ← nI_0, nI_eq h9.2 (by decide)]
    show cond (decide (f n = 0)) (cntZ f n + 1) (cntZ f n) = if g n = 0 then cZ g n + 1 else cZ g n
    rw [cntZ_nI n fun k hk => h k (Nat.lt_succ_of_lt hk)]
    by_cases q : g n = 0
    · rw [if_pos q, decide_eq_true (e.mpr q)]; rfl
    · rw [if_neg q, decide_eq_false (fun z => q (e.mp z))]; rfl
theorem cZ_le {f : Nat → Nat} : ∀ n, cZ f n ≤ n
  | 0 => Nat.le_refl _
  | n + 1 => by
    show (if f n = 0 then cZ f n + 1 else cZ f n) ≤ n + 1
    have := cZ_le (f := f) n
    split <;> omega
theorem cZ_ext {f g : Nat → Nat} : ∀ n, (∀ k, k < n → f k = g k) → cZ f n = cZ g n
  | 0, _ => rfl
  | n + 1, h => by
    show (if f n = 0 then cZ f n + 1 else cZ f n) = (if g n = 0 then cZ g n + 1 else cZ g n)
    rw [cZ_ext n fun k hk => h k (Nat.lt_succ_of_lt hk), h n (Nat.lt_succ_self n)]
theorem cZ_all {f : Nat → Nat} : ∀ n, (∀ k, k < n → f k = 0) → cZ f n = n
  | 0, _ => rfl
  | n + 1, h => by
    show (if f n = 0 then cZ f n + 1 else cZ f n) = n + 1
    rw [if_pos (h n (Nat.lt_succ_self n)), cZ_all n fun k hk => h k (Nat.lt_succ_of_lt hk)]
/-- zeros first: the number of zeros is the place of the first that is none -/
theorem cZ_sh {f : Nat → Nat} : ∀ n, (∀ j k, j < k → k < n → f k = 0 → f j = 0) → ∀ k, k < n → (f k = 0 ↔ k < cZ f n)
  | 0, _, k, hk => absurd hk (Nat.not_lt_zero k)
  | n + 1, sh, k, hk => by
    have ih := cZ_sh n fun j k h1 h2 => sh j k h1 (Nat.lt_succ_of_lt h2)
    show f k = 0 ↔ k < if f n = 0 then cZ f n + 1 else cZ f n
    by_cases q : f n = 0
    · rw [if_pos q, cZ_all n fun j hj => sh j n hj (Nat.lt_succ_self n) q]
      refine ⟨fun _ => hk, fun _ => ?_⟩
      rcases Nat.lt_or_ge k n with z | z
      · exact sh k n z (Nat.lt_succ_self n) q
      · rw [show k = n by omega]; exact q
    · rw [if_neg q]
      rcases Nat.lt_or_ge k n with z | z
      · exact ih k z
      · have hkn : k = n := by omega
        subst hkn
        exact ⟨fun h => absurd h q, fun h => absurd (cZ_le (f := f) k) (by omega)⟩
theorem nI_m1 {n : Nat} (h : n < 2 ^ 31) : nI n ≠ -1 := fun e => by
  have h1 := congrArg Int32.toInt e
  rw [nI_toInt h, show (-1 : Int32).toInt = -1 by decide] at h1
  omega
theorem nI_sub0 {a b : Nat} (ha : a < 2 ^ 30) (hb : b < 2 ^ 30) : (nI a - nI b ≤ 0) ↔ a ≤ b := by
  rw [Int32.le_iff_toInt_le, pk_sub_toInt ha hb, show (0 : Int32).toInt = 0 by decide]
  omega
theorem lN_div100 {a : Nat} (ha : a < 2 ^ 31) : lN a / 100 = lN (a / 100) := by
  apply Int64.toInt_inj.mp
  rw [Int64.toInt_div, lN_toInt ha, lN_toInt (by omega), show (100 : Int64).toInt = 100 by decide, show (a : Int).tdiv 100 = ((a / 100 : Nat) : Int) from rfl]
  exact Int.bmod_eq_of_le (by omega) (by omega)
theorem pct_l {a b : Nat} (ha : a < 2 ^ 31) (hb : b < 2 ^ 31) (h : a * b < 2 ^ 31) : ((nI a).toInt64 * (nI b).toInt64 / 100).toInt32 = nI (a * b / 100) := by
  rw [nI_l ha, nI_l hb, lN_mul, lN_div100 h, lN_i]
theorem pct_i {a b : Nat} (h : a * b < 2 ^ 31) : pctV (nI b) (nI a) = nI (a * b / 100) := by
  unfold pctV
  rw [nI_mul, pk_div h (by decide) (by decide)]
theorem mini_nI {a b : Nat} (ha : a < 2 ^ 31) (hb : b < 2 ^ 31) : mini (nI a) (nI b) = nI (min a b) := by
  unfold mini
  by_cases h : b < a
  · rw [if_pos ((nI_ltI hb ha).mpr h), Nat.min_eq_right (by omega)]
  · rw [if_neg (fun q => h ((nI_ltI hb ha).mp q)), Nat.min_eq_left (by omega)]
theorem mPart_nI {a b : Nat} (ha : a < 2 ^ 31) (hb : b < 2 ^ 31) : mPart (nI a) (nI b) = nI (min b a) := by
  unfold mPart
  by_cases h : b ≤ a
  · rw [decide_eq_true ((nI_leI hb ha).mpr h), Nat.min_eq_left h]; rfl
  · rw [decide_eq_false (fun q => h ((nI_leI hb ha).mp q)), Nat.min_eq_right (by omega)]; rfl
theorem rOk_nI {a b c : Nat} (ha : a < 2 ^ 31) (hb : b < 2 ^ 31) (hc : c < 2 ^ 31) : rOk (nI a) (nI b) (nI c) = (decide (b ≤ a) && decide (a ≤ c)) := by
  unfold rOk
  congr 1
  · by_cases h : b ≤ a
    · rw [decide_eq_true h, decide_eq_false (fun q => absurd ((nI_ltI ha hb).mp q) (by omega))]; rfl
    · rw [decide_eq_false h, decide_eq_true ((nI_ltI ha hb).mpr (by omega))]; rfl
  · by_cases h : a ≤ c
    · rw [decide_eq_true h, decide_eq_true ((nI_leI ha hc).mpr h)]
    · rw [decide_eq_false h, decide_eq_false (fun q => h ((nI_leI ha hc).mp q))]
/-- a value in a range is a number -/
theorem rOk_ex {v : Int32} {b c : Nat} (hb : b < 2 ^ 31) (hc : c < 2 ^ 31) (h : rOk v (nI b) (nI c) = true) : ∃ a, v = nI a ∧ b ≤ a ∧ a ≤ c := by
  unfold rOk at h
  rw [Bool.and_eq_true] at h
  have h1 : ¬ v < nI b := by simpa using h.1
  have h2 : v ≤ nI c := of_decide_eq_true h.2
  have h0 : ¬ v < 0 := fun q => h1 (by
    rw [Int32.lt_iff_toInt_lt] at q ⊢
    rw [nI_toInt hb]
    have : (0 : Int32).toInt = 0 := by decide
    omega)
  obtain ⟨j, hj, rfl⟩ := nI_of h0
  exact ⟨j, rfl, by rw [nI_ltI hj hb] at h1; omega, (nI_leI hj hc).mp h2⟩
