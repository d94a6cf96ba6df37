def zmem (μ : Mem) (z : Nat → Int32) : Mem := (fun t i p k => if t = 16 ∧ i = 0 ∧ p = 0 then z k else μ.1 t i p k, μ.2)
theorem zmem_16 {μ : Mem} {z : Nat → Int32} : (zmem μ z).1 16 0 0 = z := by
  funext k
  simp [zmem]
theorem zmem_tag {μ : Mem} {z : Nat → Int32} {t : Nat} (h : t ≠ 16) : (zmem μ z).1 t = μ.1 t := by
  funext i p k
  exact if_neg fun q => h q.1
theorem zself {μ : Mem} {z : Nat → Int32} (h : μ.1 16 0 0 = z) : zmem μ z = μ := by
  refine Prod.ext ?_ rfl
  funext t i p k
  show (if t = 16 ∧ i = 0 ∧ p = 0 then z k else μ.1 t i p k) = μ.1 t i p k
  by_cases h1 : t = 16 ∧ i = 0 ∧ p = 0
  · obtain ⟨rfl, rfl, rfl⟩ := h1
    rw [if_pos ⟨rfl, rfl, rfl⟩, ← h]
  · rw [if_neg h1]
theorem zmem_put {μ : Mem} {z : Nat → Int32} {k : Nat} {v : Int32} : mset (zmem μ z) 16 0 0 k v = zmem μ (upd z k v) := by
  refine Prod.ext ?_ rfl
  funext t i p k'
  show (if t = 16 ∧ i = 0 ∧ p = 0 ∧ k' = k then v else (if t = 16 ∧ i = 0 ∧ p = 0 then z k' else μ.1 t i p k')) = (if t = 16 ∧ i = 0 ∧ p = 0 then upd z k v k' else μ.1 t i p k')
  by_cases h1 : t = 16 ∧ i = 0 ∧ p = 0
  · obtain ⟨rfl, rfl, rfl⟩ := h1
    simp [upd]
  · rw [if_neg h1, if_neg h1, if_neg fun q => h1 ⟨q.1, q.2.1, q.2.2.1⟩]
abbrev Zr : Type := Nat → Int32
def mo (z : Zr) (p w : Nat) : Int32 := z (10 + 37 * p + w)
def zp (z : Zr) (p : Nat) : Nat := (z (10 + 37 * p + 17)).toNatClampNeg
def ZI (z : Zr) (n : Nat) : Prop := z 9 = nI n ∧ n ≤ 6 ∧ ∀ p, p < 6 → mo z p 17 = nI (zp z p) ∧ zp z p ≤ 4
def accK (a : Int32) (f : Nat → Int32) : Nat → Int32
  | 0 => a
  | k + 1 => accK a f k + f k
def mBegun (z : Zr) (p : Nat) : Bool := !(decide (mo z p 0 = -1))
def mRate (z : Zr) (p u : Nat) : Int32 := cond (mBegun z p) (mo z p (9 + u)) (z (5 + u))
def mChU (z : Zr) (p u : Nat) : Int32 := mo z p (1 + u) * mRate z p u
def mReU (z : Zr) (p u : Nat) : Int32 := cond (mBegun z p) (mo z p (13 + u)) (mo z p (5 + u) * z (5 + u))
def mCharge (z : Zr) (p : Nat) : Int32 := sumI (fun u => mChU z p u) 4
def mRelief (z : Zr) (p : Nat) : Int32 := sumI (fun u => mReU z p u) 4
def mArea (z : Zr) (p : Nat) : Int32 := sumI (fun u => mo z p (1 + u)) 4
def mOwe (z : Zr) (p m : Nat) : Int32 := accK (mo z p 30 + mo z p 33) (fun k => mo z p (22 + k)) m
def mOwed (z : Zr) (p : Nat) : Int32 := cond (mBegun z p) (mOwe z p (zp z p)) (nI 0)
def mDue (z : Zr) (p m : Nat) : Int32 := accK (mo z p 30) (fun k => cond (decide (z 4 < mo z p (26 + k))) (nI 0) (mo z p (22 + k))) m
def mDueNow (z : Zr) (p : Nat) : Int32 := cond (mBegun z p) (cond (decide (mo z p 36 = nI 1)) (mOwed z p) (mDue z p (zp z p))) (nI 0)
def mRoomR (z : Zr) (p : Nat) : Int32 := ((mCharge z p - mRelief z p).toInt64 * (z 3).toInt64 / 100).toInt32 - mo z p 35
def mRoom (z : Zr) (p : Nat) : Int32 := cond (mBegun z p && !(decide (mRoomR z p ≤ 0))) (mRoomR z p) (nI 0)
def lastV (s : Int32) : Int32 := s / nI (partsN s) + (s - s / nI (partsN s) * nI (partsN s))
def mWhy1 (z : Zr) (p : Nat) : Int32 := cond (mBegun z p) (nI 1) (cond (decide (mArea z p = 0)) (nI 3) (nI 0))
def mWhy2 (z : Zr) (p : Nat) : Int32 := cond (mBegun z p) (cond (decide (mOwed z p = 0)) (nI 4) (nI 0)) (nI 2)
def mWhy3 (z : Zr) (p : Nat) : Int32 := cond (decide (mWhy2 z p = 0)) (cond (decide (mRoom z p = 0)) (nI 5) (mWhy2 z p)) (mWhy2 z p)
def mWhy4 (z : Zr) (p u : Nat) : Int32 := cond (mBegun z p) (cond (decide (mo z p (13 + u) = 0) || !(decide (z 4 ≤ mo z p 0 + z 2))) (nI 6) (nI 0)) (nI 2)
def mWhy (z : Zr) (p u w : Nat) : Int32 := match w with
  | 0 => cond (mBegun z p) (nI 1) (nI 0)
  | 1 => mWhy1 z p
  | 2 => mWhy2 z p
  | 3 => mWhy3 z p
  | _ => mWhy4 z p u
def fd (z : Zr) (p : Nat) : Nat → Nat → Int32
  | 0, _ => -1
  | j + 1, k => cond (decide (mo z p (22 + k) ≤ 0)) (fd z p j (k + 1)) (mo z p (26 + k))
def mFd (z : Zr) (p : Nat) : Int32 := fd z p (zp z p) 0
def mCan (z : Zr) (p : Nat) : Bool := mBegun z p && (decide (mo z p 36 = 0) && !(decide (mFd z p = -1)))
def mBreaks (z : Zr) (p : Nat) : Int32 := cond (mCan z p) (cond (decide (nI 1 ≤ mFd z p + nI 1 - z 4)) (mFd z p + nI 1 - z 4) (nI 1)) (-1)
def mWholeK (z : Zr) (p : Nat) : Nat → Int32
  | 0 => nI 0
  | k + 1 => mWholeK z p k + cond (decide (mo z p (22 + k) = 0)) (nI 1) (nI 0)
def mPhase (z : Zr) (p w : Nat) : Int32 := match w with
  | 0 => mo z p 0
  | 1 => mCharge z p
  | 2 => mRelief z p
  | 3 => mOwed z p
  | 4 => mDueNow z p
  | 5 => mo z p 34
  | 6 => mo z p 35
  | 7 => mo z p 32
  | 8 => mo z p 31
  | 9 => mo z p 36
  | 10 => mo z p 17
  | 11 => mWholeK z p (zp z p)
  | 12 => mArea z p
  | _ => mRoom z p
def mUse (z : Zr) (p u w : Nat) : Int32 := match w with
  | 0 => mo z p (1 + u)
  | 1 => mo z p (5 + u)
  | 2 => mRate z p u
  | 3 => mChU z p u
  | _ => mReU z p u
def mInst (z : Zr) (p k w : Nat) : Int32 := cond (decide (k < zp z p)) (mo z p (18 + 4 * w + k)) (-1)
def mSumK (z : Zr) (w : Nat) : Nat → Int32
  | 0 => nI 0
  | k + 1 => mSumK z w k + cond (mBegun z k) (mPhase z k w) (nI 0)
def mOnesK (z : Zr) : Nat → Int32
  | 0 => nI 0
  | k + 1 => mOnesK z k + cond (mBegun z k) (nI 1) (nI 0)
def mCount (z : Zr) (sc n w : Nat) : Int32 := match w with
  | 0 => z 9
  | 1 => mOnesK z n
  | 2 => mSumK z 9 n
  | 3 => z 4
  | 4 => mSumK z 1 n
  | 5 => mSumK z 2 n
  | 6 => mSumK z 5 n
  | 7 => mSumK z 6 n
  | 8 => mSumK z 7 n
  | 9 => mSumK z 3 n
  | 10 => mSumK z 4 n
  | 15 => nI sc
  | w => z (5 + w - 11)
def mThen (z : Zr) (p w : Nat) : Int32 := cond (decide (mWhy1 z p ≤ 0)) (match w with
  | 0 => mCharge z p - mRelief z p
  | 1 => nI (partsN (mCharge z p - mRelief z p))
  | _ => lastV (mCharge z p - mRelief z p)) (-1)
def mUrgK (z : Zr) : Nat → Int32
  | 0 => -1
  | k + 1 => cond (mCan z k) (cond (decide (mUrgK z k = -1)) (nI k)
      (cond (decide (0 < mBreaks z (mUrgK z k).toNatClampNeg - mBreaks z k)) (nI k)
        (cond (decide (mBreaks z (mUrgK z k).toNatClampNeg - mBreaks z k = 0) && !(decide (mOwed z k ≤ mOwed z (mUrgK z k).toNatClampNeg))) (nI k) (mUrgK z k)))) (mUrgK z k)
theorem mUrgK_in (z : Zr) : ∀ k, k ≤ 6 → mUrgK z k = -1 ∨ ∃ j, j < 6 ∧ mUrgK z k = nI j
  | 0, _ => Or.inl rfl
  | k + 1, hk => by
    unfold mUrgK
    cases mCan z k
    · exact mUrgK_in z k (by omega)
    · simp only [cond_true]
      cases decide (mUrgK z k = -1)
      · simp only [cond_false]
        generalize decide (0 < mBreaks z (mUrgK z k).toNatClampNeg - mBreaks z k) = b1
        generalize (decide (mBreaks z (mUrgK z k).toNatClampNeg - mBreaks z k = 0) && !decide (mOwed z k ≤ mOwed z (mUrgK z k).toNatClampNeg)) = b2
        cases b1
        · cases b2
          · exact mUrgK_in z k (by omega)
          · exact Or.inr ⟨k, by omega, rfl⟩
        · exact Or.inr ⟨k, by omega, rfl⟩
      · exact Or.inr ⟨k, by omega, rfl⟩
def zput (z : Zr) (p w : Nat) (v : Int32) : Zr := upd z (10 + 37 * p + w) v
def zadd (z : Zr) (p w : Nat) (v : Int32) : Zr := zput z p w (mo z p w + v)
def zArea (z : Zr) (p u : Nat) (a : Int32) : Zr := zput (zput z p (1 + u) a) p (5 + u) (cond (decide (a ≤ mo (zput z p (1 + u) a) p (5 + u))) a (mo (zput z p (1 + u) a) p (5 + u)))
def mPart (v m : Int32) : Int32 := cond (decide (m ≤ v)) m v
def zSettle (z : Zr) (p w : Nat) (m : Int32) : Zr := zadd z p w (-(mPart (mo z p w) m))
def takeK (z : Zr) (p : Nat) (m : Int32) : Nat → Zr × Int32
  | 0 => (z, m)
  | k + 1 => (zSettle (takeK z p m k).1 p (22 + k) (takeK z p m k).2, (takeK z p m k).2 - mPart (mo (takeK z p m k).1 p (22 + k)) (takeK z p m k).2)
def takeA (z : Zr) (p : Nat) (m : Int32) : Zr × Int32 := (zSettle (takeK z p m (zp z p)).1 p 30 (takeK z p m (zp z p)).2, (takeK z p m (zp z p)).2 - mPart (mo (takeK z p m (zp z p)).1 p 30) (takeK z p m (zp z p)).2)
def takeB (z : Zr) (p : Nat) (m : Int32) : Zr × Int32 := (zSettle (takeA z p m).1 p 33 (takeA z p m).2, (takeA z p m).2 - mPart (mo (takeA z p m).1 p 33) (takeA z p m).2)
def zTakes (z : Zr) (p : Nat) (m : Int32) (w : Nat) : Zr := zadd (takeB z p m).1 p w (m - (takeB z p m).2)
def mTakes (z : Zr) (p : Nat) (m : Int32) : Int32 := m - (takeB z p m).2
def begK (z : Zr) (p : Nat) : Nat → Zr
  | 0 => z
  | k + 1 => zput (zput (begK z p k) p (9 + k) (begK z p k (5 + k))) p (13 + k) (mo (zput (begK z p k) p (9 + k) (begK z p k (5 + k))) p (5 + k) * (zput (begK z p k) p (9 + k) (begK z p k (5 + k))) (5 + k))
def begH (z : Zr) (p : Nat) (s : Int32) : Zr := zput (zput (begK z p 4) p 0 (begK z p 4 4)) p 17 (nI (partsN s))
def begV (s : Int32) (k : Nat) : Int32 := cond (decide (k = partsN s - 1)) (lastV s) (s / nI (partsN s))
def begP (z : Zr) (p : Nat) (s : Int32) : Nat → Zr
  | 0 => z
  | k + 1 => zput (zput (zput (begP z p s k) p (18 + k) (begV s k)) p (22 + k) (begV s k)) p (26 + k) ((zput (zput (begP z p s k) p (18 + k) (begV s k)) p (22 + k) (begV s k)) 4 + nI (k + 1) * (zput (zput (begP z p s k) p (18 + k) (begV s k)) p (22 + k) (begV s k)) 0)
def mSum (z : Zr) (p : Nat) : Int32 := mCharge z p - mRelief z p
def zBegins (z : Zr) (p : Nat) : Zr := begP (begH z p (mSum z p)) p (mSum z p) (partsN (mSum z p))
def mSurch (z : Zr) (p : Nat) : Int32 := ((mOwed z p).toInt64 * (z 1).toInt64 / 100).toInt32
def dpK (z : Zr) : Nat → Zr × Int32
  | 0 => (upd z 4 (z 4 + nI 1), nI 0)
  | k + 1 => cond (mCan (dpK z k).1 k && !(decide ((dpK z k).1 4 ≤ mFd (dpK z k).1 k))) (zadd (zadd (zput (dpK z k).1 k 36 (nI 1)) k 32 (mSurch (dpK z k).1 k)) k 33 (mSurch (dpK z k).1 k), (dpK z k).2 + mSurch (dpK z k).1 k) (dpK z k)
def dpsK (z : Zr) (n : Nat) : Nat → Zr × Int32
  | 0 => (z, nI 0)
  | k + 1 => ((dpK (dpsK z n k).1 n).1, (dpsK z n k).2 + (dpK (dpsK z n k).1 n).2)
theorem upd_ne {f : Zr} {k j : Nat} {v : Int32} (h : j ≠ k) : upd f k v j = f j := pk_un h
theorem zput_ne {z : Zr} {p w k : Nat} {v : Int32} (h : k ≠ 10 + 37 * p + w) : zput z p w v k = z k := pk_un h
theorem zput_at {z : Zr} {p w : Nat} {v : Int32} : mo (zput z p w v) p w = v := pk_us
theorem ZI.put {z : Zr} {n k : Nat} {v : Int32} (h : ZI z n) (h9 : k ≠ 9) (hk : ∀ p, p < 6 → k ≠ 10 + 37 * p + 17) : ZI (upd z k v) n := by
  refine ⟨(upd_ne (Ne.symm h9)).trans h.1, h.2.1, fun p hp => ?_⟩
  have e : upd z k v (10 + 37 * p + 17) = z (10 + 37 * p + 17) := upd_ne (Ne.symm (hk p hp))
  unfold mo zp
  rw [e]
  exact h.2.2 p hp
theorem ZI.zput {z : Zr} {n p w : Nat} {v : Int32} (h : ZI z n) (hw : w < 37) (h17 : w ≠ 17) : ZI (zput z p w v) n := h.put (by omega) (fun q _ => by omega)
theorem ZI.zadd {z : Zr} {n p w : Nat} {v : Int32} (h : ZI z n) (hw : w < 37) (h17 : w ≠ 17) : ZI (zadd z p w v) n := h.zput hw h17
theorem zp_put {z : Zr} {p w q : Nat} {v : Int32} (hw : w < 37) (h17 : w ≠ 17) : zp (zput z p w v) q = zp z q := congrArg Int32.toNatClampNeg (zput_ne (by omega))
theorem takeK_ZI {z : Zr} {p n : Nat} {m : Int32} (h : ZI z n) : ∀ k, k ≤ 4 → ZI (takeK z p m k).1 n ∧ zp (takeK z p m k).1 p = zp z p
  | 0, _ => ⟨h, rfl⟩
  | k + 1, hk => ⟨(takeK_ZI h k (by omega)).1.zadd (by omega) (by omega), (zp_put (by omega) (by omega)).trans (takeK_ZI h k (by omega)).2⟩
theorem dpK_ZI {z : Zr} {n : Nat} (h : ZI z n) : ∀ k, ZI (dpK z k).1 n
  | 0 => h.put (by omega) (fun p _ => by omega)
  | k + 1 => by
    unfold dpK
    cases mCan (dpK z k).1 k && !(decide ((dpK z k).1 4 ≤ mFd (dpK z k).1 k))
    · exact dpK_ZI h k
    · exact (((dpK_ZI h k).zput (by omega) (by omega)).zadd (by omega) (by omega)).zadd (by omega) (by omega)
theorem dpsK_ZI {z : Zr} {n : Nat} (h : ZI z n) : ∀ k, ZI (dpsK z n k).1 n
  | 0 => h
  | k + 1 => dpK_ZI (dpsK_ZI h k) n
def shK (μ : Mem) : Nat → Mem
  | 0 => μ
  | k + 1 => mset (shK μ k) 17 0 0 (232 + k - 232) ((shK μ k).1 17 0 0 (232 + k))
def svK (μ : Mem) (st : Nat) : Nat → Mem
  | 0 => μ
  | k + 1 => mset (svK μ st k) 17 0 0 (232 * st + k) ((svK μ st k).1 16 0 0 k)
theorem shK_tag {μ : Mem} {t : Nat} (h : t ≠ 17) : ∀ k, (shK μ k).1 t = μ.1 t
  | 0 => rfl
  | k + 1 => (mset_tag h).trans (shK_tag h k)
theorem svK_tag {μ : Mem} {st t : Nat} (h : t ≠ 17) : ∀ k, (svK μ st k).1 t = μ.1 t
  | 0 => rfl
  | k + 1 => (mset_tag h).trans (svK_tag h k)
def svM (μ : Mem) (sc : Nat) : Mem := if sc = 6 then mset (shK μ 1160) 15 0 0 1 (nI (sc - 1)) else μ
def svN (sc : Nat) : Nat := if sc = 6 then sc - 1 else sc
def mSave (μ : Mem) (sc : Nat) : Mem := mset (svK (svM μ sc) (svN sc) 232) 15 0 0 1 (nI (svN sc + 1))
theorem svM_16 {μ : Mem} {sc : Nat} : (svM μ sc).1 16 = μ.1 16 := by
  unfold svM
  split
  · exact (mset_tag (by decide)).trans (shK_tag (by decide) _)
  · rfl
theorem mSave_16 {μ : Mem} {sc : Nat} : (mSave μ sc).1 16 = μ.1 16 := (mset_tag (by decide)).trans ((svK_tag (by decide) _).trans svM_16)
def kpK (μ : Mem) : Nat → Mem
  | 0 => μ
  | k + 1 => mset (kpK μ k) 20 0 0 k ((kpK μ k).1 16 0 0 k)
theorem kpK_tag {μ : Mem} {t : Nat} (h : t ≠ 20) : ∀ k, (kpK μ k).1 t = μ.1 t
  | 0 => rfl
  | k + 1 => (mset_tag h).trans (kpK_tag h k)
def lbK (μ : Mem) : Nat → Mem
  | 0 => μ
  | k + 1 => mset (lbK μ k) 16 0 0 k ((lbK μ k).1 20 0 0 k)
theorem rOk_has {n : Nat} {a : Int32} (hn : n ≤ 6) : rOk a (nI 0) (nI n - nI 1) = cHas n a := by
  have h1 : (nI n - nI 1).toInt = (n : Int) - 1 := pk_sub_toInt (by omega) (by omega)
  have h2 : (nI n).toInt = (n : Int) := nI_toInt (by omega)
  unfold rOk cHas
  rw [nI_0]
  congr 1
  rw [← decide_not]
  refine decide_eq_decide.mpr ?_
  rw [Int32.le_iff_toInt_le, Int32.le_iff_toInt_le, h1, h2]
  omega
theorem rOk_use {a : Int32} : rOk a (nI 0) (nI 3) = uOk a := by
  have h1 : (nI 3).toInt = 3 := nI_toInt (by omega)
  have h2 : (nI 4).toInt = 4 := nI_toInt (by omega)
  unfold rOk uOk
  rw [nI_0]
  congr 1
  refine decide_eq_decide.mpr ?_
  rw [Int32.le_iff_toInt_le, Int32.lt_iff_toInt_lt, h1, h2]
  omega
