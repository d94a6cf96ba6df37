/-! ===== pure words ===== -/
def sumI (f : Nat → Int32) : Nat → Int32
  | 0 => nI 0
  | n + 1 => sumI f n + f n
def cntZ (f : Nat → Int32) : Nat → Nat
  | 0 => 0
  | n + 1 => cond (decide (f n = 0)) (cntZ f n + 1) (cntZ f n)
def sumB (b : Nat → Bool) (f : Nat → Int32) : Nat → Int32
  | 0 => nI 0
  | n + 1 => cond (b n) (sumB b f n + f n) (sumB b f n)
theorem cntZ_le (f : Nat → Int32) : ∀ n, cntZ f n ≤ n
  | 0 => Nat.le_refl 0
  | n + 1 => by
    have h := cntZ_le f n
    unfold cntZ
    cases decide (f n = 0) <;> simp only [cond_true, cond_false] <;> omega
theorem K_rep {l : Launch} {G : WG} {R : Room} {own : String} {cc : ByteArray} {nL : Nat} {ret : Option FieldType} {X : Code → Prop} {Z : Zz} {μ : Mem} {pc : Nat} {lv : Lv} {st : List Value} (kk : (∀ i p, i < 7 → p < 6 → μ.1 8 i p 12 = 0 ∨ μ.1 8 i p 12 = 1) → K l G R own cc nL ret X Z μ pc lv st) : K l G R own cc nL ret X Z μ pc lv st := by
  intro p e s m args below meth c H locs ls C hR hS hl
  exact kk hR.2.2 p e s m args below meth c H locs ls C hR hS hl
theorem mset_tag {μ : Mem} {t i p k : Nat} {v : Int32} {t' : Nat} (h : t' ≠ t) : (mset μ t i p k v).1 t' = μ.1 t' := by
  funext i' p' k'
  exact if_neg fun q => h q.1
theorem mset_at {μ : Mem} {t i p k : Nat} {v : Int32} : (mset μ t i p k v).1 t i p k = v := if_pos ⟨rfl, rfl, rfl, rfl⟩
def partsN (s : Int32) : Nat := if nI 1000 ≤ s then (if nI 5000 ≤ s then (if nI 20000 ≤ s then 4 else 3) else 2) else 1
def partV (s : Int32) (n k : Nat) : Int32 := if k = n - 1 then s - nI k * (s / nI n) else s / nI n
def pctV (pct s : Int32) : Int32 := s * pct / nI 100
def cBegun (μ : Mem) (i p : Nat) : Bool := !(decide (μ.1 8 i p 6 = -1))
def cCharge (μ : Mem) (i p : Nat) : Int32 := sumI (fun u => μ.1 9 i p u * μ.1 11 i p u) 4
def cRel (μ : Mem) (i p u : Nat) : Int32 := μ.1 10 i p u * μ.1 11 i p u - μ.1 12 i p u
def cRelief (μ : Mem) (i p : Nat) : Int32 := sumI (fun u => cRel μ i p u) 4
def cLapsed (μ : Mem) (i p : Nat) : Int32 := sumI (fun u => μ.1 12 i p u) 4
def cArea (μ : Mem) (i p : Nat) : Int32 := sumI (fun u => μ.1 9 i p u) 4
def cOwed (μ : Mem) (i p : Nat) : Int32 := cond (cBegun μ i p) (cCharge μ i p - cRelief μ i p + μ.1 8 i p 11 - μ.1 8 i p 9 - μ.1 8 i p 10) (nI 0)
def cRoom (μ : Mem) (i p : Nat) (pct : Int32) : Int32 := cond (cBegun μ i p) (maxi (nI 0) (pctV pct (cCharge μ i p - cRelief μ i p) - μ.1 8 i p 10)) (nI 0)
def cLast (μ : Mem) (i p : Nat) (k : Int32) : Int32 := μ.1 8 i p 6 + (k + nI 1) * μ.1 8 i p 7
def cWhole (μ : Mem) (i p n : Nat) : Nat := cntZ (fun k => μ.1 14 i p k) n
def cNotDue (μ : Mem) (i p : Nat) (day : Int32) (n : Nat) : Int32 := sumB (fun k => !(decide (cLast μ i p (nI k) ≤ day))) (fun k => μ.1 14 i p k) n
def cDueOn (μ : Mem) (i p n : Nat) (day : Int32) : Int32 := cond (decide (μ.1 8 i p 12 = 0)) (cOwed μ i p - cNotDue μ i p day n) (cOwed μ i p)
def cBreak (μ : Mem) (i p n : Nat) : Int32 := cond (decide (μ.1 8 i p 12 = 0) && decide (cWhole μ i p n < n)) (cLast μ i p (nI (cWhole μ i p n)) + nI 1) (-1)
def settleK (μ : Mem) (i p : Nat) (a : Int32) : Nat → Mem × Int32
  | 0 => (μ, a)
  | k + 1 => (mset (settleK μ i p a k).1 14 i p k ((settleK μ i p a k).1.1 14 i p k - mini (settleK μ i p a k).2 ((settleK μ i p a k).1.1 14 i p k)), (settleK μ i p a k).2 - mini (settleK μ i p a k).2 ((settleK μ i p a k).1.1 14 i p k))
def cSettle (μ : Mem) (i p n : Nat) (a : Int32) : Mem := (settleK μ i p a n).1
theorem settleK_8 {μ : Mem} {i p : Nat} {a : Int32} : ∀ k, (settleK μ i p a k).1.1 8 = μ.1 8
  | 0 => rfl
  | k + 1 => (mset_tag (by decide)).trans (settleK_8 k)
def cTaken (μ : Mem) (i p : Nat) (money : Int32) : Int32 := mini money (cOwed μ i p)
def cPay (μ : Mem) (i p n : Nat) (money : Int32) : Mem := cSettle (mset μ 8 i p 9 (μ.1 8 i p 9 + cTaken μ i p money)) i p n (cTaken μ i p money)
def cLandTaken (μ : Mem) (i p : Nat) (value pct : Int32) : Int32 := mini value (mini (cOwed μ i p) (cRoom μ i p pct))
def cLand (μ : Mem) (i p n : Nat) (value pct : Int32) : Mem := cSettle (mset μ 8 i p 10 (μ.1 8 i p 10 + cLandTaken μ i p value pct)) i p n (cLandTaken μ i p value pct)
def cSum (μ : Mem) (i p : Nat) : Int32 := cCharge μ i p - cRelief μ i p
def startK (μ : Mem) (i p : Nat) (s : Int32) (n : Nat) : Nat → Mem
  | 0 => μ
  | k + 1 => mset (mset (startK μ i p s n k) 13 i p k (partV s n k)) 14 i p k (partV s n k)
def cStart (μ : Mem) (i p : Nat) (day gap : Int32) : Mem := startK (mset (mset (mset μ 8 i p 6 day) 8 i p 7 gap) 8 i p 8 (nI (partsN (cSum μ i p)))) i p (cSum μ i p) (partsN (cSum μ i p)) (partsN (cSum μ i p))
theorem startK_8 {μ : Mem} {i p : Nat} {s : Int32} {n : Nat} : ∀ k, (startK μ i p s n k).1 8 = μ.1 8
  | 0 => rfl
  | k + 1 => (mset_tag (by decide)).trans ((mset_tag (by decide)).trans (startK_8 k))
theorem partsN_le (s : Int32) : 1 ≤ partsN s ∧ partsN s ≤ 4 := by
  unfold partsN
  split
  · split
    · split <;> omega
    · omega
  · omega
def copyA (μ : Mem) (i j p : Nat) : Nat → Mem
  | 0 => μ
  | k + 1 => mset (mset (mset (mset (copyA μ i j p k) 9 i p k ((copyA μ i j p k).1 9 j p k)) 10 i p k ((mset (copyA μ i j p k) 9 i p k ((copyA μ i j p k).1 9 j p k)).1 10 j p k)) 11 i p k ((mset (mset (copyA μ i j p k) 9 i p k ((copyA μ i j p k).1 9 j p k)) 10 i p k ((mset (copyA μ i j p k) 9 i p k ((copyA μ i j p k).1 9 j p k)).1 10 j p k)).1 11 j p k)) 12 i p k ((mset (mset (mset (copyA μ i j p k) 9 i p k ((copyA μ i j p k).1 9 j p k)) 10 i p k ((mset (copyA μ i j p k) 9 i p k ((copyA μ i j p k).1 9 j p k)).1 10 j p k)) 11 i p k ((mset (mset (copyA μ i j p k) 9 i p k ((copyA μ i j p k).1 9 j p k)) 10 i p k ((mset (copyA μ i j p k) 9 i p k ((copyA μ i j p k).1 9 j p k)).1 10 j p k)).1 11 j p k)).1 12 j p k)
def copyB (μ : Mem) (i j p : Nat) : Nat → Mem
  | 0 => μ
  | k + 1 => mset (mset (copyB μ i j p k) 13 i p k ((copyB μ i j p k).1 13 j p k)) 14 i p k ((mset (copyB μ i j p k) 13 i p k ((copyB μ i j p k).1 13 j p k)).1 14 j p k)
def copyC (μ : Mem) (i j p : Nat) : Nat → Mem
  | 0 => μ
  | k + 1 => mset (copyC μ i j p k) 8 i p (k + 6) ((copyC μ i j p k).1 8 j p (k + 6))
def copyP (μ : Mem) (i j p : Nat) : Mem := copyC (copyB (copyA μ i j p 4) i j p 4) i j p 7
theorem copyA_8 {μ : Mem} {i j p : Nat} : ∀ k, (copyA μ i j p k).1 8 = μ.1 8
  | 0 => rfl
  | k + 1 => (mset_tag (by decide)).trans ((mset_tag (by decide)).trans ((mset_tag (by decide)).trans ((mset_tag (by decide)).trans (copyA_8 k))))
theorem copyB_8 {μ : Mem} {i j p : Nat} : ∀ k, (copyB μ i j p k).1 8 = μ.1 8
  | 0 => rfl
  | k + 1 => (mset_tag (by decide)).trans ((mset_tag (by decide)).trans (copyB_8 k))
