def uOk (u : Int32) : Bool := !(decide (u < 0)) && decide (u < nI 4)
def rOk (v a b : Int32) : Bool := !(decide (v < a)) && decide (v ≤ b)
theorem uOk_nat {u : Nat} (h : u < 4) : uOk (nI u) = true := by
  have h1 : ¬ nI u < 0 := nI_pos (by omega)
  have h2 : nI u < nI 4 := nI_lt h (by omega)
  simp [uOk, h1, h2]
theorem rOk_nat {w b : Nat} (h : w ≤ b) (hb : b < 2 ^ 31) : rOk (nI w) (nI 0) (nI b) = true := by
  have h1 : ¬ nI w < nI 0 := nI_nlt (by omega) (by omega)
  have h2 : nI w ≤ nI b := nI_le h hb
  simp [rOk, h1, h2]
def CI (μ : Mem) (n : Nat) : Prop := μ.1 4 0 0 1 = nI n ∧ n ≤ 6 ∧ WfI μ 0
def SI (μ : Mem) (ns sc : Nat) : Prop := μ.1 0 0 0 3 = nI ns ∧ ns ≤ 6 ∧ μ.1 0 0 0 2 = nI sc ∧ sc ≤ 6
def cur (ns : Nat) : Nat := if ns = 6 then 0 else ns
theorem cur_lt {ns : Nat} (h : ns ≤ 6) : cur ns < 6 := by unfold cur; split <;> omega
def nxt (ns : Nat) : Nat := cur ns + 1
/-- the memory where the place for the next saved state has come round -/
def cwr (μ : Mem) (ns : Nat) : Mem := if ns = 6 then mset μ 0 0 0 3 (nI 0) else μ
theorem cwr_tag {μ : Mem} {ns t : Nat} (h : t ≠ 0) : (cwr μ ns).1 t = μ.1 t := by
  unfold cwr
  split
  · exact mset_tag h
  · rfl
theorem cwr_3 {μ : Mem} {ns : Nat} (h : μ.1 0 0 0 3 = nI ns) : (cwr μ ns).1 0 0 0 3 = nI (cur ns) := by
  unfold cwr cur
  by_cases q : ns = 6
  · rw [if_pos q, if_pos q]; exact mset_at
  · rw [if_neg q, if_neg q]; exact h
theorem cwr_2 {μ : Mem} {ns : Nat} : (cwr μ ns).1 0 0 0 2 = μ.1 0 0 0 2 := by
  unfold cwr
  split
  · simp [mset]
  · rfl
def prv (ns : Nat) : Nat := if ns = 0 then 5 else ns - 1
def cSave (μ : Mem) (ns sc : Nat) : Mem := cond (decide (6 ≤ sc)) (mset (copyL (cwr μ ns) (cur ns + 1) 0) 0 0 0 3 (nI (nxt ns))) (mset (mset (copyL (cwr μ ns) (cur ns + 1) 0) 0 0 0 3 (nI (nxt ns))) 0 0 0 2 (nI (sc + 1)))
theorem copyA_tag {μ : Mem} {i j p t : Nat} (h : t < 9 ∨ 12 < t) : ∀ k, (copyA μ i j p k).1 t = μ.1 t
  | 0 => rfl
  | k + 1 => (mset_tag (by omega)).trans ((mset_tag (by omega)).trans ((mset_tag (by omega)).trans ((mset_tag (by omega)).trans (copyA_tag h k))))
theorem copyB_tag {μ : Mem} {i j p t : Nat} (h : t < 13 ∨ 14 < t) : ∀ k, (copyB μ i j p k).1 t = μ.1 t
  | 0 => rfl
  | k + 1 => (mset_tag (by omega)).trans ((mset_tag (by omega)).trans (copyB_tag h k))
theorem copyC_tag {μ : Mem} {i j p t : Nat} (h : t ≠ 8) : ∀ k, (copyC μ i j p k).1 t = μ.1 t
  | 0 => rfl
  | k + 1 => (mset_tag h).trans (copyC_tag h k)
theorem copyP_tag {μ : Mem} {i j p t : Nat} (h : t < 8 ∨ 14 < t) : (copyP μ i j p).1 t = μ.1 t := (copyC_tag (by omega) _).trans ((copyB_tag (by omega) _).trans (copyA_tag (by omega) _))
theorem copyQ_tag {μ : Mem} {i j t : Nat} (h : t < 8 ∨ 14 < t) : ∀ k, (copyQ μ i j k).1 t = μ.1 t
  | 0 => rfl
  | k + 1 => (copyP_tag h).trans (copyQ_tag h k)
theorem copyR_tag {μ : Mem} {i j t : Nat} (h : t ≠ 5) : ∀ k, (copyR μ i j k).1 t = μ.1 t
  | 0 => rfl
  | k + 1 => (mset_tag h).trans (copyR_tag h k)
theorem copyS_tag {μ : Mem} {i j t : Nat} (h : t ≠ 6) : ∀ k, (copyS μ i j k).1 t = μ.1 t
  | 0 => rfl
  | k + 1 => (mset_tag h).trans (copyS_tag h k)
theorem copyH_tag {μ : Mem} {i j t : Nat} (h : t ≠ 4) : (copyH μ i j).1 t = μ.1 t := (mset_tag h).trans (mset_tag h)
theorem copyL_tag {μ : Mem} {i j t : Nat} (h : t < 4 ∨ 14 < t) : (copyL μ i j).1 t = μ.1 t := (copyQ_tag (by omega) _).trans ((copyS_tag (by omega) _).trans ((copyR_tag (by omega) _).trans (copyH_tag (by omega))))
/-- what another object keeps -/
theorem mset_ix {μ : Mem} {t i p k : Nat} {v : Int32} {t' i' : Nat} (h : i' ≠ i) : (mset μ t i p k v).1 t' i' = μ.1 t' i' := by
  funext p' k'
  exact if_neg fun q => h q.2.1
theorem copyA_ix {μ : Mem} {i j p t i' : Nat} (h : i' ≠ i) : ∀ k, (copyA μ i j p k).1 t i' = μ.1 t i'
  | 0 => rfl
  | k + 1 => (mset_ix h).trans ((mset_ix h).trans ((mset_ix h).trans ((mset_ix h).trans (copyA_ix h k))))
theorem copyB_ix {μ : Mem} {i j p t i' : Nat} (h : i' ≠ i) : ∀ k, (copyB μ i j p k).1 t i' = μ.1 t i'
  | 0 => rfl
  | k + 1 => (mset_ix h).trans ((mset_ix h).trans (copyB_ix h k))
theorem copyC_ix {μ : Mem} {i j p t i' : Nat} (h : i' ≠ i) : ∀ k, (copyC μ i j p k).1 t i' = μ.1 t i'
  | 0 => rfl
  | k + 1 => (mset_ix h).trans (copyC_ix h k)
theorem copyP_ix {μ : Mem} {i j p t i' : Nat} (h : i' ≠ i) : (copyP μ i j p).1 t i' = μ.1 t i' := (copyC_ix h _).trans ((copyB_ix h _).trans (copyA_ix h _))
theorem copyQ_ix {μ : Mem} {i j t i' : Nat} (h : i' ≠ i) : ∀ k, (copyQ μ i j k).1 t i' = μ.1 t i'
  | 0 => rfl
  | k + 1 => (copyP_ix h).trans (copyQ_ix h k)
theorem copyR_ix {μ : Mem} {i j t i' : Nat} (h : i' ≠ i) : ∀ k, (copyR μ i j k).1 t i' = μ.1 t i'
  | 0 => rfl
  | k + 1 => (mset_ix h).trans (copyR_ix h k)
theorem copyS_ix {μ : Mem} {i j t i' : Nat} (h : i' ≠ i) : ∀ k, (copyS μ i j k).1 t i' = μ.1 t i'
  | 0 => rfl
  | k + 1 => (mset_ix h).trans (copyS_ix h k)
theorem copyH_ix {μ : Mem} {i j t i' : Nat} (h : i' ≠ i) : (copyH μ i j).1 t i' = μ.1 t i' := (mset_ix h).trans (mset_ix h)
theorem copyL_ix {μ : Mem} {i j t i' : Nat} (h : i' ≠ i) : (copyL μ i j).1 t i' = μ.1 t i' := (copyQ_ix h _).trans ((copyS_ix h _).trans ((copyR_ix h _).trans (copyH_ix h)))
theorem cSave_tag {μ : Mem} {ns sc t : Nat} (h : (0 < t ∧ t < 4) ∨ 14 < t) : (cSave μ ns sc).1 t = μ.1 t := by
  unfold cSave
  cases decide (6 ≤ sc)
  · exact (mset_tag (by omega)).trans ((mset_tag (by omega)).trans ((copyL_tag (by omega)).trans (cwr_tag (by omega))))
  · exact (mset_tag (by omega)).trans ((copyL_tag (by omega)).trans (cwr_tag (by omega)))
theorem cSave_0 {μ : Mem} {ns sc t : Nat} (h : 4 ≤ t) : (cSave μ ns sc).1 t 0 = μ.1 t 0 := by
  unfold cSave
  cases decide (6 ≤ sc)
  · rw [cond_false, mset_tag (by omega), mset_tag (by omega)]
    exact (copyL_ix (by omega)).trans (congrFun (cwr_tag (by omega)) 0)
  · rw [cond_true, mset_tag (by omega)]
    exact (copyL_ix (by omega)).trans (congrFun (cwr_tag (by omega)) 0)
theorem cSave_CI {μ : Mem} {ns sc n : Nat} (h : CI μ n) : CI (cSave μ ns sc) n := ⟨by rw [cSave_0 (by omega)]; exact h.1, h.2.1, h.2.2.of fun p _ => by rw [cSave_0 (by omega)]⟩
def cPhaseQ (μ : Mem) (p w : Nat) : Int32 := match w with
  | 0 => μ.1 8 0 p 6
  | 1 => cCharge μ 0 p
  | 2 => cRelief μ 0 p
  | 3 => cOwed μ 0 p
  | 4 => cDueOn μ 0 p (insN μ 0 p) (μ.1 4 0 0 0)
  | 5 => μ.1 8 0 p 9
  | 6 => μ.1 8 0 p 10
  | 7 => μ.1 8 0 p 11
  | 8 => cLapsed μ 0 p
  | 9 => cond (decide (μ.1 8 0 p 12 = 0)) (nI 0) (nI 1)
  | 10 => μ.1 8 0 p 8
  | 11 => nI (cWhole μ 0 p (insN μ 0 p))
  | 12 => cArea μ 0 p
  | _ => cRoom μ 0 p (μ.1 6 0 0 3)
def cUseQ (μ : Mem) (p u w : Nat) : Int32 := match w with
  | 0 => μ.1 9 0 p u
  | 1 => μ.1 10 0 p u
  | 2 => μ.1 11 0 p u
  | 3 => μ.1 9 0 p u * μ.1 11 0 p u
  | _ => cRel μ 0 p u
def cInstQ (μ : Mem) (p k w : Nat) : Int32 := cond (decide (k < insN μ 0 p)) (match w with
  | 0 => μ.1 13 0 p k
  | 1 => μ.1 14 0 p k
  | _ => cLast μ 0 p (nI k)) (-1)
def cCountQ (μ : Mem) (n w : Nat) : Int32 := match w with
  | 0 => μ.1 4 0 0 1
  | 3 => μ.1 4 0 0 0
  | 11 => μ.1 5 0 0 0
  | 12 => μ.1 5 0 0 1
  | 13 => μ.1 5 0 0 2
  | 14 => μ.1 5 0 0 3
  | 15 => μ.1 0 0 0 2
  | w => cSumOver μ 0 w n
def cIfQ (μ : Mem) (p w : Nat) : Int32 := cond (decide (cWhy1 μ 0 p = 0)) (match w with
  | 0 => cSum μ 0 p
  | 1 => nI (partsN (cSum μ 0 p))
  | _ => partV (cSum μ 0 p) (partsN (cSum μ 0 p)) (partsN (cSum μ 0 p) - 1)) (-1)
def cDueIn (μ : Mem) (p : Nat) (d : Int32) : Int32 := cond (cWithin μ 0 p (insN μ 0 p) d) (cOwed μ 0 p + cSurW μ 0 p (insN μ 0 p) d) (cDueOn μ 0 p (insN μ 0 p) (μ.1 4 0 0 0 + d))
def cSurIn (μ : Mem) (d : Int32) (n : Nat) : Int32 := sumI (fun p => cSurW μ 0 p (insN μ 0 p) d) n
def urgK (μ : Mem) : Nat → Int32 × Int32 × Int32
  | 0 => (-1, nI 0, nI 0)
  | k + 1 => cond (!(decide (cDays μ 0 k (insN μ 0 k) = -1)) && (decide ((urgK μ k).1 = -1) || decide (cDays μ 0 k (insN μ 0 k) < (urgK μ k).2.1) || (decide (cDays μ 0 k (insN μ 0 k) = (urgK μ k).2.1) && !(decide (cOwed μ 0 k ≤ (urgK μ k).2.2))))) (nI k, cDays μ 0 k (insN μ 0 k), cOwed μ 0 k) (urgK μ k)
section KT
variable {l : Launch} {G : WG} {d d' idx : Nat} {nL : Nat} {cc : ByteArray} {ret : Option FieldType} {μ μ' : Mem} {pc : Nat} {lv : Lv} {st : List Value} {E : String}

theorem kt_X3_demandPhase {a0 : Value} (hC : CtT l G d' yX3_demandPhase cX3_demandPhase 2 none (.ref (adr G 0 0 0) :: [a0]) μ E μ') (hd : d' + 1 ≤ d ∧ 2 ≤ 15) (hlink : Cond.methodLink RX3 idx yX3_demandPhase ∈ UW) (hW : (st.map fun v => v.category).sum ≤ 8) (hdg : decode cc pc = .ok (.invokevirtual idx, 3)) : K l G (rmT d) RX3 cc nL ret noX (ZT G E μ') μ pc lv (a0 :: .ref (adr G 0 0 0) :: st) := K_callVT (ci := 3) hC mk_X3_demandPhase hlink hd (dm0 (by decide)) rfl rfl rfl hW hdg

theorem kt_X3_demandNoReason {a0 a1 a2 : Value} (hC : CtT l G d' yX3_demandNoReason cX3_demandNoReason 4 none (.ref (adr G 0 0 0) :: [a0, a1, a2]) μ E μ') (hd : d' + 1 ≤ d ∧ 4 ≤ 15) (hlink : Cond.methodLink RX3 idx yX3_demandNoReason ∈ UW) (hW : (st.map fun v => v.category).sum ≤ 8) (hdg : decode cc pc = .ok (.invokevirtual idx, 3)) : K l G (rmT d) RX3 cc nL ret noX (ZT G E μ') μ pc lv (a2 :: a1 :: a0 :: .ref (adr G 0 0 0) :: st) := K_callVT (ci := 3) hC mk_X3_demandNoReason hlink hd (dm0 (by decide)) rfl rfl rfl hW hdg

theorem kt_X3_demandUse {a0 : Value} (hC : CtT l G d' yX3_demandUse cX3_demandUse 1 none [a0] μ E μ') (hd : d' + 1 ≤ d ∧ 1 ≤ 15) (hlink : Cond.methodLink RX3 idx yX3_demandUse ∈ UW) (hW : (st.map fun v => v.category).sum ≤ 8) (hdg : decode cc pc = .ok (.invokestatic idx, 3)) : K l G (rmT d) RX3 cc nL ret noX (ZT G E μ') μ pc lv (a0 :: st) := K_callST hC mk_X3_demandUse hlink rfl hd rfl hW hdg

theorem kt_X3_demandSetting {a0 : Value} (hC : CtT l G d' yX3_demandSetting cX3_demandSetting 1 none [a0] μ E μ') (hd : d' + 1 ≤ d ∧ 1 ≤ 15) (hlink : Cond.methodLink RX3 idx yX3_demandSetting ∈ UW) (hW : (st.map fun v => v.category).sum ≤ 8) (hdg : decode cc pc = .ok (.invokestatic idx, 3)) : K l G (rmT d) RX3 cc nL ret noX (ZT G E μ') μ pc lv (a0 :: st) := K_callST hC mk_X3_demandSetting hlink rfl hd rfl hW hdg

theorem kt_X3_demandRange {a0 a1 a2 : Value} (hC : CtT l G d' yX3_demandRange cX3_demandRange 3 none [a0, a1, a2] μ E μ') (hd : d' + 1 ≤ d ∧ 3 ≤ 15) (hlink : Cond.methodLink RX3 idx yX3_demandRange ∈ UW) (hW : (st.map fun v => v.category).sum ≤ 8) (hdg : decode cc pc = .ok (.invokestatic idx, 3)) : K l G (rmT d) RX3 cc nL ret noX (ZT G E μ') μ pc lv (a2 :: a1 :: a0 :: st) := K_callST hC mk_X3_demandRange hlink rfl hd rfl hW hdg

end KT
