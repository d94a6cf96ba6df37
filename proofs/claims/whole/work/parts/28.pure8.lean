abbrev PS : Type := Nat × Int32 × Nat × (Nat → Int32)
def pmF (μ : Mem) (s : PS) (k : Nat) : Int32 := match k with
  | 7 => nI s.1
  | 8 => s.2.1
  | 9 => nI s.2.2.1
  | _ => μ.1 15 0 0 k
def pmr (μ : Mem) (s : PS) : Mem := (fun t i p k => if t = 15 ∧ i = 0 ∧ p = 0 then pmF μ s k else if t = 19 ∧ i = 0 ∧ p = 0 then s.2.2.2 k else μ.1 t i p k, μ.2)
theorem pmr_tag {μ : Mem} {s : PS} {t : Nat} (h : t ≠ 15) (h2 : t ≠ 19) : (pmr μ s).1 t = μ.1 t := by
  funext i p k
  show (if t = 15 ∧ i = 0 ∧ p = 0 then pmF μ s k else if t = 19 ∧ i = 0 ∧ p = 0 then s.2.2.2 k else μ.1 t i p k) = _
  rw [if_neg fun q => h q.1, if_neg fun q => h2 q.1]
theorem pmr_k {μ : Mem} {s : PS} {k : Nat} : (pmr μ s).1 15 0 0 k = pmF μ s k := by simp [pmr]
theorem pmr_19 {μ : Mem} {s : PS} : (pmr μ s).1 19 0 0 = s.2.2.2 := by
  funext k
  simp [pmr]
theorem pmr_set {μ : Mem} {s s' : PS} {k : Nat} {v : Int32} (hp : s'.2.2.2 = s.2.2.2) (h : ∀ k', (if k' = k then v else pmF μ s k') = pmF μ s' k') : mset (pmr μ s) 15 0 0 k v = pmr μ s' := by
  refine Prod.ext ?_ rfl
  funext t i p k'
  show (if t = 15 ∧ i = 0 ∧ p = 0 ∧ k' = k then v else (if t = 15 ∧ i = 0 ∧ p = 0 then pmF μ s k' else if t = 19 ∧ i = 0 ∧ p = 0 then s.2.2.2 k' else μ.1 t i p k')) = (if t = 15 ∧ i = 0 ∧ p = 0 then pmF μ s' k' else if t = 19 ∧ i = 0 ∧ p = 0 then s'.2.2.2 k' else μ.1 t i p k')
  rw [hp]
  by_cases h1 : t = 15 ∧ i = 0 ∧ p = 0
  · obtain ⟨rfl, rfl, rfl⟩ := h1
    by_cases e : k' = k
    · rw [if_pos ⟨rfl, rfl, rfl, e⟩, if_pos ⟨rfl, rfl, rfl⟩, ← h k', if_pos e]
    · rw [if_neg (fun q => e q.2.2.2), if_pos ⟨rfl, rfl, rfl⟩, if_pos ⟨rfl, rfl, rfl⟩, ← h k', if_neg e]
  · rw [if_neg (fun q => h1 ⟨q.1, q.2.1, q.2.2.1⟩), if_neg h1, if_neg h1]
theorem pm_ps {μ : Mem} {s : PS} {k : Nat} {v : Int32} : mset (pmr μ s) 19 0 0 k v = pmr μ (s.1, s.2.1, s.2.2.1, upd s.2.2.2 k v) := by
  refine Prod.ext ?_ rfl
  funext t i p k'
  show (if t = 19 ∧ i = 0 ∧ p = 0 ∧ k' = k then v else (if t = 15 ∧ i = 0 ∧ p = 0 then pmF μ s k' else if t = 19 ∧ i = 0 ∧ p = 0 then s.2.2.2 k' else μ.1 t i p k')) = (if t = 15 ∧ i = 0 ∧ p = 0 then pmF μ s k' else if t = 19 ∧ i = 0 ∧ p = 0 then upd s.2.2.2 k v k' else μ.1 t i p k')
  by_cases h1 : t = 19 ∧ i = 0 ∧ p = 0
  · obtain ⟨rfl, rfl, rfl⟩ := h1
    simp [upd]
  · rw [if_neg (fun q => h1 ⟨q.1, q.2.1, q.2.2.1⟩), if_neg h1, if_neg h1]
theorem pm_rd {μ : Mem} {s : PS} {a : Nat} : mset (pmr μ s) 15 0 0 7 (nI a) = pmr μ (a, s.2) := pmr_set rfl fun k' => by
  by_cases h : k' = 7
  · subst h; rw [if_pos rfl]; rfl
  · rw [if_neg h]
    match k', h with
    | 0, h => rfl
    | 1, h => rfl
    | 2, h => rfl
    | 3, h => rfl
    | 4, h => rfl
    | 5, h => rfl
    | 6, h => rfl
    | 7, h => exact absurd rfl h
    | 8, h => rfl
    | 9, h => rfl
    | n + 10, h => rfl
theorem pm_nu {μ : Mem} {s : PS} {v : Int32} : mset (pmr μ s) 15 0 0 8 v = pmr μ (s.1, v, s.2.2) := pmr_set rfl fun k' => by
  by_cases h : k' = 8
  · subst h; rw [if_pos rfl]; rfl
  · rw [if_neg h]
    match k', h with
    | 0, h => rfl
    | 1, h => rfl
    | 2, h => rfl
    | 3, h => rfl
    | 4, h => rfl
    | 5, h => rfl
    | 6, h => rfl
    | 7, h => rfl
    | 8, h => exact absurd rfl h
    | 9, h => rfl
    | n + 10, h => rfl
theorem pm_du {μ : Mem} {s : PS} {a : Nat} : mset (pmr μ s) 15 0 0 9 (nI a) = pmr μ (s.1, s.2.1, a, s.2.2.2) := pmr_set rfl fun k' => by
  by_cases h : k' = 9
  · subst h; rw [if_pos rfl]; rfl
  · rw [if_neg h]
    match k', h with
    | 0, h => rfl
    | 1, h => rfl
    | 2, h => rfl
    | 3, h => rfl
    | 4, h => rfl
    | 5, h => rfl
    | 6, h => rfl
    | 7, h => rfl
    | 8, h => rfl
    | 9, h => exact absurd rfl h
    | n + 10, h => rfl
theorem pm_self (μ : Mem) {a d : Nat} (h : μ.1 15 0 0 7 = nI a) (h2 : μ.1 15 0 0 9 = nI d) : pmr μ (a, μ.1 15 0 0 8, d, μ.1 19 0 0) = μ := by
  refine Prod.ext ?_ rfl
  funext t i p k
  show (if t = 15 ∧ i = 0 ∧ p = 0 then pmF μ _ k else if t = 19 ∧ i = 0 ∧ p = 0 then μ.1 19 0 0 k else μ.1 t i p k) = μ.1 t i p k
  by_cases h1 : t = 15 ∧ i = 0 ∧ p = 0
  · obtain ⟨rfl, rfl, rfl⟩ := h1
    rw [if_pos ⟨rfl, rfl, rfl⟩]
    match k with
    | 0 | 1 | 2 | 3 | 4 | 5 | 6 | 8 => rfl
    | 7 => exact h.symm
    | 9 => exact h2.symm
    | n + 10 => rfl
  · rw [if_neg h1]
    by_cases h3 : t = 19 ∧ i = 0 ∧ p = 0
    · obtain ⟨rfl, rfl, rfl⟩ := h3
      rw [if_pos ⟨rfl, rfl, rfl⟩]
    · rw [if_neg h3]
theorem nLet : (¬ nI 98 = nI 97) ∧ (¬ nI 112 = nI 97) ∧ (¬ nI 112 = nI 98) ∧ (¬ nI 100 = nI 97) ∧ (¬ nI 100 = nI 98) ∧ (¬ nI 100 = nI 112) ∧ (¬ nI 97 = nI 100) ∧ (¬ nI 98 = nI 100) ∧ (¬ nI 112 = nI 100) ∧ (¬ nI 97 = nI 98) := by decide
theorem pm_start (μ : Mem) : mset (mset μ 15 0 0 7 (nI 0)) 15 0 0 9 (nI 0) = pmr μ (0, μ.1 15 0 0 8, 0, μ.1 19 0 0) := by
  refine Prod.ext ?_ rfl
  funext t i p k
  show (if t = 15 ∧ i = 0 ∧ p = 0 ∧ k = 9 then nI 0 else (if t = 15 ∧ i = 0 ∧ p = 0 ∧ k = 7 then nI 0 else μ.1 t i p k)) = (if t = 15 ∧ i = 0 ∧ p = 0 then pmF μ _ k else if t = 19 ∧ i = 0 ∧ p = 0 then μ.1 19 0 0 k else μ.1 t i p k)
  by_cases h1 : t = 15 ∧ i = 0 ∧ p = 0
  · obtain ⟨rfl, rfl, rfl⟩ := h1
    rw [if_pos (show (15 : Nat) = 15 ∧ (0 : Nat) = 0 ∧ (0 : Nat) = 0 from ⟨rfl, rfl, rfl⟩)]
    match k with
    | 0 | 1 | 2 | 3 | 4 | 5 | 6 | 7 | 8 | 9 => rfl
    | n + 10 =>
      rw [if_neg (fun q => by have := q.2.2.2; omega), if_neg (fun q => by have := q.2.2.2; omega)]
      rfl
  · rw [if_neg h1, if_neg (fun q => h1 ⟨q.1, q.2.1, q.2.2.1⟩), if_neg (fun q => h1 ⟨q.1, q.2.1, q.2.2.1⟩)]
    by_cases h3 : t = 19 ∧ i = 0 ∧ p = 0
    · obtain ⟨rfl, rfl, rfl⟩ := h3
      rw [if_pos ⟨rfl, rfl, rfl⟩]
    · rw [if_neg h3]
def pLet (s : PS) : Int32 := s.2.2.2 (4 * s.1)
def tkBegin (c : Int32) (s : PS) : Bool × PS := (decide (c = nI 97) || (decide (c = nI 98) || (decide (c = nI 112) || decide (c = nI 100))), (s.1, -1, cond (decide (c = nI 100)) 4 1, upd s.2.2.2 (4 * s.1) c))
def tkPhase (c : Int32) (s : PS) : Bool × PS := (rOk c (nI 48) (nI 53), (s.1, s.2.1, cond (decide (pLet s = nI 97)) 2 (cond (decide (pLet s = nI 98)) 5 3), upd s.2.2.2 (4 * s.1 + 1) (c - nI 48)))
def tkUse (c : Int32) (s : PS) : Bool × PS := (uOk (c - nI 48), (s.1, s.2.1, 3, upd s.2.2.2 (4 * s.1 + 2) (c - nI 48)))
def dgW (dg : Int32) (s : PS) : Int32 := cond (decide (s.2.1 = -1)) dg (nI 10 * s.2.1 + dg)
def dgM (s : PS) : Nat := cond (decide (pLet s = nI 97)) 999 (cond (decide (pLet s = nI 112)) 99999 99)
def dgL (s : PS) : Nat := cond (decide (pLet s = nI 97)) 0 1
def dgI (dg : Int32) (s : PS) : Bool := rOk dg (nI 0) (nI 9) && (!(decide (s.2.1 = 0)) && rOk (dgW dg s) (nI (dgL s)) (nI (dgM s)))
def tkDigit (dg : Int32) (s : PS) : Bool × PS := (dgI dg s, (s.1, cond (dgI dg s) (dgW dg s) s.2.1, s.2.2.1, upd s.2.2.2 (4 * s.1 + 3) (cond (dgI dg s) (dgW dg s) s.2.1)))
def isEnd (s : PS) : Bool := decide (s.2.2.1 = 5) || (decide (s.2.2.1 = 4) && !(decide (s.2.1 = -1)))
def tkMid (c : Int32) (s : PS) : Bool × PS := (decide (c = nI (cond (decide (pLet s = nI 97)) 61 58)), (s.1, s.2.1, 4, s.2.2.2))
def tkNext (c : Int32) (s : PS) : Bool × PS := cond (decide (c = nI 59) && isEnd s) (true, (s.1 + 1, s.2.1, 0, s.2.2.2)) (match s.2.2.1 with
  | 0 => tkBegin c s
  | 1 => tkPhase c s
  | 2 => tkUse c s
  | 3 => tkMid c s
  | 4 => tkDigit (c - nI 48) s
  | _ => (false, s))
def rgK (t : Nat → Int32) : Nat → Nat → PS → Nat × PS
  | 0, k, s => (k, s)
  | f + 1, k, s => cond (tkNext (t k) s).1 (rgK t f (k + 1) (tkNext (t k) s).2) (k, (tkNext (t k) s).2)
/-- how many characters are behind it at least, by what is due -/
def pNeed (s : PS) : Nat := 3 * s.1 + (match s.2.2.1 with
  | 0 => 0
  | 1 => 1
  | 2 => 2
  | 3 => 2
  | 4 => cond (decide (s.2.1 = -1)) 1 2
  | _ => 2)
theorem tkNext_need {c : Int32} {s : PS} {k : Nat} (hd : s.2.2.1 ≤ 5) (h : pNeed s ≤ k) (ht : (tkNext c s).1 = true) : pNeed (tkNext c s).2 ≤ k + 1 ∧ (tkNext c s).2.2.2.1 ≤ 5 := by
  obtain ⟨rd, nu, du, ps⟩ := s
  unfold tkNext at ht ⊢
  cases e : decide (c = nI 59) && isEnd (rd, nu, du, ps)
  · rw [e] at ht
    simp only [cond_false] at ht ⊢
    match du, hd with
    | 0, _ =>
      simp only [tkBegin, pNeed] at h ⊢
      cases decide (c = nI 100) <;> simp <;> omega
    | 1, _ =>
      simp only [tkPhase, pNeed] at h ⊢
      cases decide (pLet (rd, nu, 1, ps) = nI 97) <;> cases decide (pLet (rd, nu, 1, ps) = nI 98) <;> simp <;> omega
    | 2, _ =>
      simp only [tkUse, pNeed] at h ⊢
      omega
    | 3, _ =>
      simp only [tkMid, pNeed] at h ⊢
      cases decide (nu = -1) <;> simp <;> omega
    | 4, _ =>
      simp only [tkDigit] at ht
      simp only [tkDigit, pNeed, ht, cond_true] at h ⊢
      cases decide (dgW (c - nI 48) (rd, nu, 4, ps) = -1) <;> cases h4 : decide (nu = -1) <;> rw [h4] at h <;> simp at h ⊢ <;> omega
    | 5, _ => simp at ht
  · simp only [cond_true, pNeed] at h ⊢
    rw [Bool.and_eq_true] at e
    have e2 := e.2
    simp only [isEnd, Bool.or_eq_true, Bool.and_eq_true, decide_eq_true_eq, Bool.not_eq_true', decide_eq_false_iff_not] at e2
    rcases e2 with rfl | ⟨rfl, h3⟩
    · simp at h
      omega
    · simp only [h3, decide_false, cond_false] at h
      omega
theorem pNeed_rd {s : PS} {k : Nat} (h : pNeed s ≤ k) (hk : k ≤ 60) : s.1 ≤ 20 := by
  unfold pNeed at h
  omega
def mCanC (z : Zr) (n : Nat) (lt ph : Int32) : Bool := cHas n ph && cond (decide (lt = nI 97)) (!(mBegun z ph.toNatClampNeg)) (cond (decide (lt = nI 98)) (decide (mWhy1 z ph.toNatClampNeg = 0)) (decide (mWhy2 z ph.toNatClampNeg = 0)))
def mCarry (z : Zr) (n : Nat) (lt ph us v : Int32) : Bool × Zr := cond (decide (lt = nI 100)) (mLeft z v, cond (mLeft z v) (dpsK z n v.toNatClampNeg).1 z)
  (cond (mCanC z n lt ph) (true, cond (decide (lt = nI 97)) (zArea z ph.toNatClampNeg us.toNatClampNeg v) (cond (decide (lt = nI 98)) (zBegins z ph.toNatClampNeg) (zTakes z ph.toNatClampNeg v 34))) (false, z))
def mcP (ps : Nat → Int32) (z : Zr) (n k : Nat) : Bool × Zr := mCarry z n (ps (4 * k)) (ps (4 * k + 1)) (ps (4 * k + 2)) (ps (4 * k + 3))
def mRunK (ps : Nat → Int32) (n : Nat) : Nat → Nat → Zr → Nat × Zr
  | 0, k, z => (k, z)
  | f + 1, k, z => cond (mcP ps z n k).1 (mRunK ps n f (k + 1) (mcP ps z n k).2) (k, (mcP ps z n k).2)
/-- what an order that was read holds, so that it can be carried -/
def oOk (ps : Nat → Int32) (k : Nat) : Prop := (ps (4 * k) = nI 100 → ∃ d, d < 2 ^ 31 ∧ ps (4 * k + 3) = nI d) ∧ (ps (4 * k) = nI 97 → ∃ u, u < 4 ∧ ps (4 * k + 2) = nI u)
