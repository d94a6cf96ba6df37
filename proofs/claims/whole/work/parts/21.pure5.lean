theorem fls_88 : Cond.fieldLink RX3 88 "LevyPhases" "LEAST_SETTINGS" "[I" ∈ UW := tb_in 583 (by decide +kernel) rfl
theorem fls_91 : Cond.fieldLink RX3 91 "LevyPhases" "MOST_SETTINGS" "[I" ∈ UW := tb_in 585 (by decide +kernel) rfl
section KTBL
variable {l : Launch} {G : WG} {R : Room} {cc : ByteArray} {nL : Nat} {ret : Option FieldType} {X : Code → Prop} {Z : Zz} {μ : Mem} {pc : Nat} {lv : Lv} {st : List Value}
theorem K_tblL {k : Fin 4} {j : Nat} (d1 : decode cc pc = .ok (.getstatic 88, 3)) (d2 : decode cc (pc + 3) = .ok (.iload_n k, 1)) (d3 : decode cc (pc + 3 + 1) = .ok (.iaload, 1)) (hk : lkp lv (k : Nat) = some (.int (nI j))) (hj : j < 4) (kk : K l G R RX3 cc nL ret X Z μ (pc + 3 + 1 + 1) lv (.int (leastT j) :: st)) : K l G R RX3 cc nL ret X Z μ pc lv st := by
  intro p e s m args below meth c H locs ls C hR hS hl
  obtain ⟨a, b, t1, t2, t3, t4⟩ := C.2.2.2.2.2.2.2.1.2.2.1
  refine va_gets C.1 C.2.1 t1 hS C.2.2.2.2.2.1 (C.2.2.2.2.2.2.1 _ fls_88) (fun _ h9 => h9) d1 ?_
  refine lv_iload_n C.1 C.2.1 d2 rfl (lkp_has hl hk) ?_
  exact va_ti C.1 C.2.1 t2 hS (vp_inN hj (by omega)) (by rw [nI_clamp (by omega)]) d3 (kk p e s m args below meth c H locs ls C hR hS hl)
theorem K_tblM {k : Fin 4} {j : Nat} (d1 : decode cc pc = .ok (.getstatic 91, 3)) (d2 : decode cc (pc + 3) = .ok (.iload_n k, 1)) (d3 : decode cc (pc + 3 + 1) = .ok (.iaload, 1)) (hk : lkp lv (k : Nat) = some (.int (nI j))) (hj : j < 4) (kk : K l G R RX3 cc nL ret X Z μ (pc + 3 + 1 + 1) lv (.int (mostT j) :: st)) : K l G R RX3 cc nL ret X Z μ pc lv st := by
  intro p e s m args below meth c H locs ls C hR hS hl
  obtain ⟨a, b, t1, t2, t3, t4⟩ := C.2.2.2.2.2.2.2.1.2.2.1
  refine va_gets C.1 C.2.1 t3 hS C.2.2.2.2.2.1 (C.2.2.2.2.2.2.1 _ fls_91) (fun _ h9 => h9) d1 ?_
  refine lv_iload_n C.1 C.2.1 d2 rfl (lkp_has hl hk) ?_
  exact va_ti C.1 C.2.1 t4 hS (vp_inN hj (by omega)) (by rw [nI_clamp (by omega)]) d3 (kk p e s m args below meth c H locs ls C hR hS hl)
end KTBL
def cNs (μ : Mem) : Nat := (μ.1 0 0 0 3).toNatClampNeg
theorem mset_twice {μ : Mem} {t i p k : Nat} {v w : Int32} : mset (mset μ t i p k v) t i p k w = mset μ t i p k w := by
  unfold mset
  refine Prod.ext (funext fun t' => funext fun i' => funext fun p' => funext fun k' => ?_) rfl
  dsimp only
  split <;> rfl
def cUndo (μ : Mem) (ns sc : Nat) : Mem := copyL (mset (mset μ 0 0 0 3 (nI (prv ns))) 0 0 0 2 (nI (sc - 1))) 0 (prv ns + 1)
theorem copyL_keep0 {μ : Mem} {i j : Nat} : (copyL μ i j).1 0 = μ.1 0 := copyL_tag (by omega)
theorem cBegun_save {μ : Mem} {ns sc p : Nat} : cBegun (cSave μ ns sc) 0 p = cBegun μ 0 p := by unfold cBegun; rw [cSave_0 (by omega)]
theorem cCharge_save {μ : Mem} {ns sc p : Nat} : cCharge (cSave μ ns sc) 0 p = cCharge μ 0 p := by unfold cCharge; rw [cSave_0 (by omega), cSave_0 (by omega)]
theorem cRel_save {μ : Mem} {ns sc p u : Nat} : cRel (cSave μ ns sc) 0 p u = cRel μ 0 p u := by unfold cRel; rw [cSave_0 (by omega), cSave_0 (by omega), cSave_0 (by omega)]
theorem cRelief_save {μ : Mem} {ns sc p : Nat} : cRelief (cSave μ ns sc) 0 p = cRelief μ 0 p := by simp only [cRelief, cRel_save]
theorem cSum_save {μ : Mem} {ns sc p : Nat} : cSum (cSave μ ns sc) 0 p = cSum μ 0 p := by unfold cSum; rw [cCharge_save, cRelief_save]
theorem cOwed_save {μ : Mem} {ns sc p : Nat} : cOwed (cSave μ ns sc) 0 p = cOwed μ 0 p := by unfold cOwed; rw [cBegun_save, cCharge_save, cRelief_save, cSave_0 (by omega)]
theorem cRoom_save {μ : Mem} {ns sc p : Nat} {a : Int32} : cRoom (cSave μ ns sc) 0 p a = cRoom μ 0 p a := by unfold cRoom; rw [cBegun_save, cCharge_save, cRelief_save, cSave_0 (by omega)]
theorem insN_save {μ : Mem} {ns sc p : Nat} : insN (cSave μ ns sc) 0 p = insN μ 0 p := by unfold insN; rw [cSave_0 (by omega)]
theorem cHas_inv {n : Nat} {a : Int32} (h : cHas n a = true) (hn : n ≤ 6) : ∃ p, p < n ∧ a = nI p := by
  simp only [cHas, Bool.and_eq_true, Bool.not_eq_true', decide_eq_false_iff_not] at h
  obtain ⟨j, hj, rfl⟩ := nI_of h.1
  exact ⟨j, Nat.not_le.mp fun q => h.2 (nI_le q hj), rfl⟩
theorem uOk_inv {a : Int32} (h : uOk a = true) : ∃ u, u < 4 ∧ a = nI u := by
  simp only [uOk, Bool.and_eq_true, Bool.not_eq_true', decide_eq_false_iff_not, decide_eq_true_eq] at h
  obtain ⟨j, hj, rfl⟩ := nI_of h.1
  exact ⟨j, (nI_ltI hj (by omega)).mp h.2, rfl⟩
theorem rOk_inv {a : Int32} {b : Nat} (h : rOk a (nI 0) (nI b) = true) (hb : b < 2 ^ 31) : ∃ w, w ≤ b ∧ a = nI w := by
  simp only [rOk, Bool.and_eq_true, Bool.not_eq_true', decide_eq_false_iff_not, decide_eq_true_eq] at h
  obtain ⟨j, hj, rfl⟩ := nI_of (x := a) (by rw [← nI_0]; exact h.1)
  exact ⟨j, (nI_leI hj hb).mp h.2, rfl⟩
