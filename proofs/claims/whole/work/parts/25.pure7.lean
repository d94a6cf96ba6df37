def mLeft (z : Zr) (a : Int32) : Bool := !(decide (nI 9999 < z 4 + a))
def unK (μ : Mem) (st : Nat) : Nat → Mem
  | 0 => μ
  | k + 1 => mset (unK μ st k) 16 0 0 k ((unK μ st k).1 17 0 0 (232 * st + k))
theorem unK_tag {μ : Mem} {st t : Nat} (h : t ≠ 16) : ∀ k, (unK μ st k).1 t = μ.1 t
  | 0 => rfl
  | k + 1 => (mset_tag h).trans (unK_tag h k)
theorem svN_le {sc : Nat} (h : sc ≤ 6) : svN sc ≤ 5 := by
  unfold svN
  split <;> omega
theorem svM_15 {μ : Mem} {sc : Nat} (h : μ.1 15 0 0 1 = nI sc) : (svM μ sc).1 15 0 0 1 = nI (svN sc) := by
  unfold svM svN
  split
  · exact mset_at
  · exact h
theorem svK_15 {μ : Mem} {sc k : Nat} (h : μ.1 15 0 0 1 = nI sc) : (svK (svM μ sc) (svN sc) k).1 15 0 0 1 = nI (svN sc) := by
  rw [svK_tag (by decide)]
  exact svM_15 h
theorem dpK_far {z : Zr} {j : Nat} (hj : 232 ≤ j) : ∀ k, k ≤ 6 → (dpK z k).1 j = z j
  | 0, _ => upd_ne (by omega)
  | k + 1, hk => by
    unfold dpK
    cases mCan (dpK z k).1 k && !(decide ((dpK z k).1 4 ≤ mFd (dpK z k).1 k))
    · exact dpK_far hj k (by omega)
    · exact (zput_ne (by omega)).trans ((zput_ne (by omega)).trans ((zput_ne (by omega)).trans (dpK_far hj k (by omega))))
theorem dpsK_far {z : Zr} {n j : Nat} (hn : n ≤ 6) (hj : 232 ≤ j) : ∀ k, (dpsK z n k).1 j = z j
  | 0 => rfl
  | k + 1 => (dpK_far hj n hn).trans (dpsK_far hn hj k)
theorem kpK_20 {μ : Mem} : ∀ k j, (kpK μ k).1 20 0 0 j = if j < k then μ.1 16 0 0 j else μ.1 20 0 0 j
  | 0, j => by simp [kpK]
  | k + 1, j => by
    show (if 20 = 20 ∧ 0 = 0 ∧ 0 = 0 ∧ j = k then (kpK μ k).1 16 0 0 k else (kpK μ k).1 20 0 0 j) = _
    by_cases h : j = k
    · subst h
      rw [if_pos ⟨rfl, rfl, rfl, rfl⟩, if_pos (by omega), kpK_tag (by decide)]
    · rw [if_neg (fun q => h q.2.2.2), kpK_20 k j]
      by_cases h2 : j < k
      · rw [if_pos h2, if_pos (by omega)]
      · rw [if_neg h2, if_neg (by omega)]
theorem lbK_eq {M : Mem} : ∀ k, lbK M k = zmem M (fun j => if j < k then M.1 20 0 0 j else M.1 16 0 0 j)
  | 0 => by
    refine (zself ?_).symm
    funext j
    exact (if_neg (Nat.not_lt_zero j)).symm
  | k + 1 => by
    show mset (lbK M k) 16 0 0 k ((lbK M k).1 20 0 0 k) = _
    rw [lbK_eq k, zmem_put, zmem_tag (by decide)]
    congr 1
    funext j
    by_cases h : j = k
    · subst h
      simp [upd]
    · rw [upd_ne h]
      by_cases h2 : j < k
      · rw [if_pos h2, if_pos (by omega)]
      · rw [if_neg h2, if_neg (by omega)]
theorem zmem_zmem {μ : Mem} {z z' : Zr} : zmem (zmem μ z) z' = zmem μ z' := by
  refine Prod.ext ?_ rfl
  funext t i p k
  show (if t = 16 ∧ i = 0 ∧ p = 0 then z' k else (if t = 16 ∧ i = 0 ∧ p = 0 then z k else μ.1 t i p k)) = (if t = 16 ∧ i = 0 ∧ p = 0 then z' k else μ.1 t i p k)
  by_cases h1 : t = 16 ∧ i = 0 ∧ p = 0
  · rw [if_pos h1, if_pos h1]
  · rw [if_neg h1, if_neg h1, if_neg h1]
/-- days that were let pass are taken back -/
theorem back_eq {μ : Mem} {z z' : Zr} (hz : μ.1 16 0 0 = z) (hf : ∀ j, 232 ≤ j → z' j = z j) : lbK (zmem (kpK μ 232) z') 232 = kpK μ 232 := by
  rw [lbK_eq, zmem_zmem]
  refine zself ?_
  funext j
  have e1 : (kpK μ 232).1 16 0 0 j = z j := by rw [kpK_tag (by decide), hz]
  rw [e1, zmem_tag (by decide), kpK_20, zmem_16, hz]
  by_cases h : j < 232
  · rw [if_pos h, if_pos h]
  · rw [if_neg h]
    exact (hf j (by omega)).symm
