def insN (μ : Mem) (i p : Nat) : Nat := (μ.1 8 i p 8).toNatClampNeg
def WfI (μ : Mem) (i : Nat) : Prop := ∀ p, p < 6 → μ.1 8 i p 8 = nI (insN μ i p) ∧ insN μ i p ≤ 4
theorem WfI.of {μ μ' : Mem} {i : Nat} (h : WfI μ i) (e : ∀ p, p < 6 → μ'.1 8 i p 8 = μ.1 8 i p 8) : WfI μ' i := by
  intro p hp
  obtain ⟨h1, h2⟩ := h p hp
  unfold insN at *
  rw [e p hp]
  exact ⟨h1, h2⟩
theorem WfI.tag {μ : Mem} {i t j p k : Nat} {v : Int32} (h : WfI μ i) (ht : t ≠ 8) : WfI (mset μ t j p k v) i := h.of fun p _ => by rw [mset_tag (fun q => ht q.symm)]
theorem WfI.fld {μ : Mem} {i j p k : Nat} {v : Int32} (h : WfI μ i) (hk : k ≠ 8) : WfI (mset μ 8 j p k v) i := h.of fun p _ => if_neg fun q => hk q.2.2.2.symm
theorem insN_tag {μ : Mem} {i t j p q k : Nat} {v : Int32} (ht : t ≠ 8) : insN (mset μ t j p k v) i q = insN μ i q := by unfold insN; rw [mset_tag (fun q => ht q.symm)]
theorem insN_fld {μ : Mem} {i j p q k : Nat} {v : Int32} (hk : k ≠ 8) : insN (mset μ 8 j p k v) i q = insN μ i q := congrArg Int32.toNatClampNeg (if_neg fun q => hk q.2.2.2.symm)
def cHas (n : Nat) (p : Int32) : Bool := !(decide (p < 0)) && !(decide (nI n ≤ p))
theorem cHas_nat {n p : Nat} (h : p < n) (hn : n ≤ 6) : cHas n (nI p) = true := by
  have h1 : ¬ nI p < 0 := nI_pos (by omega)
  have h2 : ¬ nI n ≤ nI p := nI_ge h (by omega)
  simp [cHas, h1, h2]
def cLeft (μ : Mem) (i : Nat) (days : Int32) : Bool := !(decide (nI 9999 - μ.1 4 i 0 0 < days))
def cDays (μ : Mem) (i p n : Nat) : Int32 := cond (decide (cBreak μ i p n = -1)) (-1) (cBreak μ i p n - μ.1 4 i 0 0)
def cWithin (μ : Mem) (i p n : Nat) (days : Int32) : Bool := !(decide (cBreak μ i p n = -1)) && !(decide (days < cBreak μ i p n - μ.1 4 i 0 0))
def cSurW (μ : Mem) (i p n : Nat) (days : Int32) : Int32 := cond (cWithin μ i p n days) (pctV (μ.1 6 i 0 1) (cOwed μ i p)) (nI 0)
def cWhy0 (μ : Mem) (i p : Nat) : Int32 := cond (cBegun μ i p) (nI 1) (nI 0)
def cWhy1 (μ : Mem) (i p : Nat) : Int32 := cond (cBegun μ i p) (nI 1) (cond (decide (cArea μ i p = 0)) (nI 3) (nI 0))
def cWhy2 (μ : Mem) (i p : Nat) : Int32 := cond (cBegun μ i p) (cond (decide (cOwed μ i p = 0)) (nI 4) (nI 0)) (nI 2)
def cWhy3 (μ : Mem) (i p : Nat) : Int32 := cond (cBegun μ i p) (cond (decide (cOwed μ i p = 0)) (nI 4) (cond (decide (cRoom μ i p (μ.1 6 i 0 3) = 0)) (nI 5) (nI 0))) (nI 2)
def cLate (μ : Mem) (i p : Nat) : Bool := !(decide (μ.1 4 i 0 0 ≤ μ.1 8 i p 6 + μ.1 6 i 0 2))
def cWhy4 (μ : Mem) (i p u : Nat) : Int32 := cond (cBegun μ i p) (cond (cLate μ i p || decide (cRel μ i p u = 0)) (nI 6) (nI 0)) (nI 2)
def cWhy (μ : Mem) (i p u w : Nat) : Int32 := match w with
  | 0 => cWhy0 μ i p
  | 1 => cWhy1 μ i p
  | 2 => cWhy2 μ i p
  | 3 => cWhy3 μ i p
  | _ => cWhy4 μ i p u
def cNum (μ : Mem) (i p : Nat) (w : Nat) : Int32 := match w with
  | 1 => nI 1
  | 2 => cond (decide (μ.1 8 i p 12 = 0)) (nI 0) (nI 1)
  | 4 => cCharge μ i p
  | 5 => cRelief μ i p
  | 6 => μ.1 8 i p 9
  | 7 => μ.1 8 i p 10
  | 8 => μ.1 8 i p 11
  | 9 => cOwed μ i p
  | _ => cDueOn μ i p (insN μ i p) (μ.1 4 i 0 0)
def cSumOver (μ : Mem) (i w n : Nat) : Int32 := sumB (fun p => cBegun μ i p) (fun p => cNum μ i p w) n
def appK (μ : Mem) (i n : Nat) : Nat → Mem
  | 0 => μ
  | k + 1 => mset (appK μ i n k) 11 i n k ((appK μ i n k).1 5 i 0 k)
theorem appK_tag {μ : Mem} {i n t : Nat} (ht : t ≠ 11) : ∀ k, (appK μ i n k).1 t = μ.1 t
  | 0 => rfl
  | k + 1 => (mset_tag ht).trans (appK_tag ht k)
def cAppend (μ : Mem) (i n : Nat) : Mem := mset (appK μ i n 4) 4 i 0 1 (nI (n + 1))
def rateK (μ : Mem) (i u : Nat) (r : Int32) : Nat → Mem
  | 0 => mset μ 5 i 0 u r
  | k + 1 => cond (cBegun (rateK μ i u r k) i k) (rateK μ i u r k) (mset (rateK μ i u r k) 11 i k u r)
theorem rateK_tag {μ : Mem} {i u t : Nat} {r : Int32} (h1 : t ≠ 5) (h2 : t ≠ 11) : ∀ k, (rateK μ i u r k).1 t = μ.1 t
  | 0 => mset_tag h1
  | k + 1 => by
    unfold rateK
    cases cBegun (rateK μ i u r k) i k
    · exact (mset_tag h2).trans (rateK_tag h1 h2 k)
    · exact rateK_tag h1 h2 k
def passK (μ : Mem) (i : Nat) (days : Int32) : Nat → Mem × Int32
  | 0 => (μ, nI 0)
  | k + 1 => cond (cWithin (passK μ i days k).1 i k (insN (passK μ i days k).1 i k) days) (mset (mset (passK μ i days k).1 8 i k 12 (nI 1)) 8 i k 11 (cSurW (passK μ i days k).1 i k (insN (passK μ i days k).1 i k) days), (passK μ i days k).2 + cSurW (passK μ i days k).1 i k (insN (passK μ i days k).1 i k) days) (passK μ i days k)
theorem passK_tag {μ : Mem} {i t : Nat} {days : Int32} (h1 : t ≠ 8) : ∀ k, (passK μ i days k).1.1 t = μ.1 t
  | 0 => rfl
  | k + 1 => by
    unfold passK
    cases cWithin (passK μ i days k).1 i k (insN (passK μ i days k).1 i k) days
    · exact passK_tag h1 k
    · exact (mset_tag h1).trans ((mset_tag h1).trans (passK_tag h1 k))
theorem passK_Wf {μ : Mem} {i : Nat} {days : Int32} (h : WfI μ i) : ∀ k, WfI (passK μ i days k).1 i
  | 0 => h
  | k + 1 => by
    unfold passK
    cases cWithin (passK μ i days k).1 i k (insN (passK μ i days k).1 i k) days
    · exact passK_Wf h k
    · exact WfI.fld (WfI.fld (passK_Wf h k) (by decide)) (by decide)
def cPass (μ : Mem) (i n : Nat) (days : Int32) : Mem := mset (passK μ i days n).1 4 i 0 0 (μ.1 4 i 0 0 + days)
def copyR (μ : Mem) (i j : Nat) : Nat → Mem
  | 0 => μ
  | k + 1 => mset (copyR μ i j k) 5 i 0 k ((copyR μ i j k).1 5 j 0 k)
def copyS (μ : Mem) (i j : Nat) : Nat → Mem
  | 0 => μ
  | k + 1 => mset (copyS μ i j k) 6 i 0 k ((copyS μ i j k).1 6 j 0 k)
def copyQ (μ : Mem) (i j : Nat) : Nat → Mem
  | 0 => μ
  | k + 1 => copyP (copyQ μ i j k) i j k
def copyH (μ : Mem) (i j : Nat) : Mem := mset (mset μ 4 i 0 0 (μ.1 4 j 0 0)) 4 i 0 1 ((mset μ 4 i 0 0 (μ.1 4 j 0 0)).1 4 j 0 1)
def copyL (μ : Mem) (i j : Nat) : Mem := copyQ (copyS (copyR (copyH μ i j) i j 4) i j 4) i j 6
