/-- a loop that ends by itself: f falls -/
theorem K_whl {l : Launch} {G : WG} {R : Room} {own : String} {cc : ByteArray} {nL : Nat} {ret : Option FieldType} {X : Code → Prop} {Z : Zz} {pc : Nat} {S : Type} (lvf : Nat → S → Lv) (μf : Nat → S → Mem) (P : Nat → S → Prop) (hb : ∀ f x, P f x → (∀ f' x', f' < f → P f' x' → K l G R own cc nL ret X Z (μf f' x') pc (lvf f' x') []) → K l G R own cc nL ret X Z (μf f x) pc (lvf f x) []) : ∀ f x, P f x → K l G R own cc nL ret X Z (μf f x) pc (lvf f x) [] := by
  intro f
  induction f using Nat.strongRecOn with
  | ind f ih => exact fun x hx => hb f x hx (fun f' x' hf hx' => ih f' hf x' hx')
abbrev RS : Type := Nat × Int32 × Int32 × Int32 × Int32
def omF (μ : Mem) (s : RS) (k : Nat) : Int32 := match k with
  | 2 => nI s.1
  | 3 => s.2.1
  | 4 => s.2.2.1
  | 5 => s.2.2.2.1
  | 6 => s.2.2.2.2
  | _ => μ.1 2 0 0 k
def omr (μ : Mem) (s : RS) : Mem := (fun t i p k => if t = 2 ∧ i = 0 ∧ p = 0 then omF μ s k else μ.1 t i p k, μ.2)
theorem omr_tag {μ : Mem} {s : RS} {t : Nat} (h : t ≠ 2) : (omr μ s).1 t = μ.1 t := by
  funext i p k
  exact if_neg fun q => h q.1
theorem omr_set {μ : Mem} {s s' : RS} {k : Nat} {v : Int32} (h : ∀ k', (if k' = k then v else (omr μ s).1 2 0 0 k') = (omr μ s').1 2 0 0 k') : mset (omr μ s) 2 0 0 k v = omr μ s' := by
  refine Prod.ext ?_ rfl
  funext t i p k'
  show (if t = 2 ∧ i = 0 ∧ p = 0 ∧ k' = k then v else (omr μ s).1 t i p k') = (omr μ s').1 t i p k'
  by_cases h1 : t = 2 ∧ i = 0 ∧ p = 0
  · obtain ⟨rfl, rfl, rfl⟩ := h1
    rw [← h k']
    simp only [true_and]
  · rw [if_neg (fun q => h1 ⟨q.1, q.2.1, q.2.2.1⟩)]
    show (if t = 2 ∧ i = 0 ∧ p = 0 then _ else μ.1 t i p k') = (if t = 2 ∧ i = 0 ∧ p = 0 then _ else μ.1 t i p k')
    rw [if_neg h1, if_neg h1]
theorem omr_k {μ : Mem} {s : RS} {k : Nat} : (omr μ s).1 2 0 0 k = omF μ s k := by simp [omr]
theorem omr_at {μ : Mem} {s : RS} {a : Nat} : mset (omr μ s) 2 0 0 2 (nI a) = omr μ (a, s.2) := omr_set fun k' => by
  by_cases h : k' = 2
  · subst h; rw [if_pos rfl, omr_k]; rfl
  · rw [if_neg h, omr_k, omr_k]
    match k', h with
    | 0, h => rfl
    | 1, h => rfl
    | 2, h => exact absurd rfl h
    | 3, h => rfl
    | 4, h => rfl
    | 5, h => rfl
    | 6, h => rfl
    | n + 7, h => rfl
theorem omr_kd {μ : Mem} {s : RS} {v : Int32} : mset (omr μ s) 2 0 0 3 v = omr μ (s.1, v, s.2.2) := omr_set fun k' => by
  by_cases h : k' = 3
  · subst h; rw [if_pos rfl, omr_k]; rfl
  · rw [if_neg h, omr_k, omr_k]
    match k', h with
    | 0, h => rfl
    | 1, h => rfl
    | 2, h => rfl
    | 3, h => exact absurd rfl h
    | 4, h => rfl
    | 5, h => rfl
    | 6, h => rfl
    | n + 7, h => rfl
theorem omr_ph {μ : Mem} {s : RS} {v : Int32} : mset (omr μ s) 2 0 0 4 v = omr μ (s.1, s.2.1, v, s.2.2.2) := omr_set fun k' => by
  by_cases h : k' = 4
  · subst h; rw [if_pos rfl, omr_k]; rfl
  · rw [if_neg h, omr_k, omr_k]
    match k', h with
    | 0, h => rfl
    | 1, h => rfl
    | 2, h => rfl
    | 3, h => rfl
    | 4, h => exact absurd rfl h
    | 5, h => rfl
    | 6, h => rfl
    | n + 7, h => rfl
theorem omr_us {μ : Mem} {s : RS} {v : Int32} : mset (omr μ s) 2 0 0 5 v = omr μ (s.1, s.2.1, s.2.2.1, v, s.2.2.2.2) := omr_set fun k' => by
  by_cases h : k' = 5
  · subst h; rw [if_pos rfl, omr_k]; rfl
  · rw [if_neg h, omr_k, omr_k]
    match k', h with
    | 0, h => rfl
    | 1, h => rfl
    | 2, h => rfl
    | 3, h => rfl
    | 4, h => rfl
    | 5, h => exact absurd rfl h
    | 6, h => rfl
    | n + 7, h => rfl
theorem omr_nu {μ : Mem} {s : RS} {v : Int32} : mset (omr μ s) 2 0 0 6 v = omr μ (s.1, s.2.1, s.2.2.1, s.2.2.2.1, v) := omr_set fun k' => by
  by_cases h : k' = 6
  · subst h; rw [if_pos rfl, omr_k]; rfl
  · rw [if_neg h, omr_k, omr_k]
    match k', h with
    | 0, h => rfl
    | 1, h => rfl
    | 2, h => rfl
    | 3, h => rfl
    | 4, h => rfl
    | 5, h => rfl
    | 6, h => exact absurd rfl h
    | n + 7, h => rfl
theorem omr_self (μ : Mem) {a : Nat} (h : μ.1 2 0 0 2 = nI a) : omr μ (a, μ.1 2 0 0 3, μ.1 2 0 0 4, μ.1 2 0 0 5, μ.1 2 0 0 6) = μ := by
  refine Prod.ext ?_ rfl
  funext t i p k
  by_cases h1 : t = 2 ∧ i = 0 ∧ p = 0
  · obtain ⟨rfl, rfl, rfl⟩ := h1
    rw [omr_k]
    match k with
    | 0 | 1 | 3 | 4 | 5 | 6 => rfl
    | 2 => exact h.symm
    | n + 7 => rfl
  · exact if_neg h1
def isDig (c : Nat → Int32) (L a lo hi : Nat) : Bool := decide (a < L) && (!(decide (c a < nI (48 + lo))) && !(decide (nI (48 + hi) < c a)))
def isSgn (c : Nat → Int32) (L a : Nat) (ch : Int32) : Bool := decide (a < L) && decide (c a = ch)
def dgV (c : Nat → Int32) (L a lo hi : Nat) : Int32 := cond (isDig c L a lo hi) (c a - nI 48) (-1)
def dgA (c : Nat → Int32) (L a lo hi : Nat) : Nat := cond (isDig c L a lo hi) (a + 1) a
def rdSign (c : Nat → Int32) (L : Nat) (s : RS) (ch : Int32) : Bool × RS := (isSgn c L s.1 ch, (cond (isSgn c L s.1 ch) (s.1 + 1) s.1, s.2))
def rdPhase (c : Nat → Int32) (L : Nat) (s : RS) : Bool × RS := (!(decide (dgV c L s.1 0 5 = -1)), (dgA c L s.1 0 5, s.2.1, dgV c L s.1 0 5, s.2.2.2))
def rdUse (c : Nat → Int32) (L : Nat) (s : RS) : Bool × RS := (!(decide (dgV c L s.1 0 3 = -1)), (dgA c L s.1 0 3, s.2.1, s.2.2.1, dgV c L s.1 0 3, s.2.2.2.2))
def numK (c : Nat → Int32) (L : Nat) : Nat → Nat → Int32 → Nat × Int32
  | 0, a, v => (a, v)
  | f + 1, a, v => cond (isDig c L a 0 9) (numK c L f (a + 1) (nI 10 * v + (c a - nI 48))) (a, v)
def rdNum (c : Nat → Int32) (L : Nat) (s : RS) (least most : Nat) : Bool × RS :=
  cond (decide (dgV c L s.1 least 9 = -1)) (false, (dgA c L s.1 least 9, s.2.1, s.2.2.1, s.2.2.2.1, dgV c L s.1 least 9))
    (true, ((numK c L (cond (decide (dgV c L s.1 least 9 = 0)) 0 (most - 1)) (dgA c L s.1 least 9) (dgV c L s.1 least 9)).1, s.2.1, s.2.2.1, s.2.2.2.1, (numK c L (cond (decide (dgV c L s.1 least 9 = 0)) 0 (most - 1)) (dgA c L s.1 least 9) (dgV c L s.1 least 9)).2))
def andThen (a : Bool × RS) (f : RS → Bool × RS) : Bool × RS := cond a.1 (f a.2) a
def setKd (s : RS) (v : Int32) : RS := (s.1, v, s.2.2)
def rdOrder (c : Nat → Int32) (L : Nat) (s : RS) : Bool × RS :=
  cond (rdSign c L s (nI 97)).1 (andThen (rdPhase c L (setKd (rdSign c L s (nI 97)).2 (nI 97))) fun s1 => andThen (rdUse c L s1) fun s2 => andThen (rdSign c L s2 (nI 61)) fun s3 => rdNum c L s3 0 3)
  (cond (rdSign c L (rdSign c L s (nI 97)).2 (nI 98)).1 (rdPhase c L (setKd (rdSign c L (rdSign c L s (nI 97)).2 (nI 98)).2 (nI 98)))
  (cond (rdSign c L (rdSign c L (rdSign c L s (nI 97)).2 (nI 98)).2 (nI 112)).1 (andThen (rdPhase c L (setKd (rdSign c L (rdSign c L (rdSign c L s (nI 97)).2 (nI 98)).2 (nI 112)).2 (nI 112))) fun s1 => andThen (rdSign c L s1 (nI 58)) fun s2 => rdNum c L s2 1 5)
  (andThen (rdSign c L (setKd (rdSign c L (rdSign c L (rdSign c L s (nI 97)).2 (nI 98)).2 (nI 112)).2 (nI 100)) (nI 100)) fun s1 => rdNum c L s1 1 2)))
def rdNext (c : Nat → Int32) (L : Nat) (s : RS) : Bool × RS := cond (decide (s.1 = 0)) (rdOrder c L s) (andThen (rdSign c L s (nI 59)) fun s1 => rdOrder c L s1)
def rowK (c : Nat → Int32) (L : Nat) : Nat → Bool × RS → Bool × RS
  | 0, q => q
  | f + 1, q => cond (q.1 && decide (q.2.1 < L)) (rowK c L f (rdNext c L q.2)) q
def rdRow (c : Nat → Int32) (L : Nat) (s : RS) : Bool × RS := rowK c L 60 (rdNext c L (0, s.2))
theorem dgA_le {c : Nat → Int32} {L a lo hi : Nat} (h : a ≤ L) : dgA c L a lo hi ≤ L := by
  unfold dgA
  cases e : isDig c L a lo hi
  · exact h
  · have : a < L := by
      unfold isDig at e
      simp at e
      exact e.1
    exact this
theorem rdSign_le {c : Nat → Int32} {L : Nat} {s : RS} {ch : Int32} (h : s.1 ≤ L) : (rdSign c L s ch).2.1 ≤ L := by
  unfold rdSign
  cases e : isSgn c L s.1 ch
  · exact h
  · have : s.1 < L := by
      unfold isSgn at e
      simp at e
      exact e.1
    exact this
theorem numK_le {c : Nat → Int32} {L : Nat} : ∀ {f a : Nat} {v : Int32}, a ≤ L → (numK c L f a v).1 ≤ L
  | 0, a, v, h => h
  | f + 1, a, v, h => by
    unfold numK
    cases e : isDig c L a 0 9
    · exact h
    · have : a < L := by
        unfold isDig at e
        simp at e
        exact e.1
      exact numK_le this
theorem rdNum_le {c : Nat → Int32} {L : Nat} {s : RS} {x y : Nat} (h : s.1 ≤ L) : (rdNum c L s x y).2.1 ≤ L := by
  unfold rdNum
  cases decide (dgV c L s.1 x 9 = -1)
  · exact numK_le (dgA_le h)
  · exact dgA_le h
theorem andThen_le {L : Nat} {a : Bool × RS} {f : RS → Bool × RS} (ha : a.2.1 ≤ L) (hf : ∀ s : RS, s.1 ≤ L → (f s).2.1 ≤ L) : (andThen a f).2.1 ≤ L := by
  unfold andThen
  cases a.1
  · exact ha
  · exact hf _ ha
theorem rdPhase_le {c : Nat → Int32} {L : Nat} {s : RS} (h : s.1 ≤ L) : (rdPhase c L s).2.1 ≤ L := dgA_le h
theorem rdUse_le {c : Nat → Int32} {L : Nat} {s : RS} (h : s.1 ≤ L) : (rdUse c L s).2.1 ≤ L := dgA_le h
theorem setKd_le {L : Nat} {s : RS} {v : Int32} (h : s.1 ≤ L) : (setKd s v).1 ≤ L := h
theorem rdOrder_le {c : Nat → Int32} {L : Nat} {s : RS} (h : s.1 ≤ L) : (rdOrder c L s).2.1 ≤ L := by
  unfold rdOrder
  have h1 := rdSign_le (c := c) (ch := nI 97) h
  have h2 := rdSign_le (c := c) (ch := nI 98) h1
  have h3 := rdSign_le (c := c) (ch := nI 112) h2
  cases (rdSign c L s (nI 97)).1
  · cases (rdSign c L (rdSign c L s (nI 97)).2 (nI 98)).1
    · cases (rdSign c L (rdSign c L (rdSign c L s (nI 97)).2 (nI 98)).2 (nI 112)).1
      · exact andThen_le (rdSign_le (setKd_le h3)) fun s hs => rdNum_le hs
      · exact andThen_le (rdPhase_le (setKd_le h3)) fun s hs => andThen_le (rdSign_le hs) fun s hs => rdNum_le hs
    · exact rdPhase_le (setKd_le h2)
  · exact andThen_le (rdPhase_le (setKd_le h1)) fun s hs => andThen_le (rdUse_le hs) fun s hs => andThen_le (rdSign_le hs) fun s hs => rdNum_le hs
theorem rdNext_le {c : Nat → Int32} {L : Nat} {s : RS} (h : s.1 ≤ L) : (rdNext c L s).2.1 ≤ L := by
  unfold rdNext
  cases decide (s.1 = 0)
  · exact andThen_le (rdSign_le h) fun s hs => rdOrder_le hs
  · exact rdOrder_le h
theorem rowK_le {c : Nat → Int32} {L : Nat} : ∀ {f : Nat} {q : Bool × RS}, q.2.1 ≤ L → (rowK c L f q).2.1 ≤ L
  | 0, q, h => h
  | f + 1, q, h => by
    unfold rowK
    cases q.1 && decide (q.2.1 < L)
    · exact h
    · exact rowK_le (rdNext_le h)
theorem rdRow_le {c : Nat → Int32} {L : Nat} {s : RS} : (rdRow c L s).2.1 ≤ L := rowK_le (rdNext_le (Nat.zero_le L))
