/-! ===== the words that every method may use: the good ones of the table ===== -/
def UW : List Cond := lw_tbl.filter goodWord
theorem UW_good {w : Cond} (h : w ∈ UW) : (w.onTables && w.keeps) = true ∨ ∃ ty, w = .arrayClass ty := good_of_word (List.mem_filter.mp h).2
theorem tb_in {w : Cond} (i : Nat) (h : tables_1[i]? = some w) (hg : goodWord w = true) : w ∈ UW :=
  List.mem_filter.mpr ⟨List.mem_append_right _ (List.mem_of_getElem? h), hg⟩
theorem sel_in {y : MethodName} {n : Nat} (i : Nat) (h : lw_privs[i]? = some (y, n)) : Cond.selects y.cls y y ∈ UW :=
  List.mem_filter.mpr ⟨List.mem_append_left _ (List.mem_map.mpr ⟨(y, n), List.mem_of_getElem? h, rfl⟩), rfl⟩
/-! ===== the memory: cells by kind, two numbers, place; and the longs ===== -/
abbrev Mem : Type := (Nat → Nat → Nat → Nat → Int32) × (Nat → Int64)
abbrev WG : Type := va_G × (Nat → ClassId) × (Nat → Nat → Nat → Nat)
def mset (μ : Mem) (t i p k : Nat) (v : Int32) : Mem := (fun t' i' p' k' => if t' = t ∧ i' = i ∧ p' = p ∧ k' = k then v else μ.1 t' i' p' k', μ.2)
def mlset (μ : Mem) (k : Nat) (v : Int64) : Mem := (μ.1, fun k' => if k' = k then v else μ.2 k')
abbrev adr (G : WG) (t i p : Nat) : Nat := G.2.2 t i p
def ct (G : WG) (μ : Mem) (t i p : Nat) : va_E := match t with
  | 0 => .inr (3, [.ref (adr G 4 0 0), .ref (adr G 1 0 0), .int (μ.1 0 i p 2), .int (μ.1 0 i p 3), .ref (adr G 2 0 0)])
  | 1 => .inl (G.2.1 2, 6, .inr (.inr (.inr (.inr (fun j => some (adr G 4 (j + 1) 0))))))
  | 2 => .inr (1, [.ref (adr G 3 0 0), .int (μ.1 2 i p 1), .int (μ.1 2 i p 2), .int (μ.1 2 i p 3), .int (μ.1 2 i p 4), .int (μ.1 2 i p 5), .int (μ.1 2 i p 6)])
  | 3 => .inl (G.2.1 0, 60, .inl (μ.1 3 i p))
  | 4 => .inr (0, [.int (μ.1 4 i p 0), .int (μ.1 4 i p 1), .ref (adr G 5 i 0), .ref (adr G 6 i 0), .ref (adr G 7 i 0)])
  | 5 => .inl (G.2.1 0, 4, .inl (μ.1 5 i p))
  | 6 => .inl (G.2.1 0, 4, .inl (μ.1 6 i p))
  | 7 => .inl (G.2.1 1, 6, .inr (.inr (.inr (.inr (fun j => some (adr G 8 i j))))))
  | 8 => .inr (2, [.ref (adr G 9 i p), .ref (adr G 10 i p), .ref (adr G 11 i p), .ref (adr G 12 i p), .ref (adr G 13 i p), .ref (adr G 14 i p), .int (μ.1 8 i p 6), .int (μ.1 8 i p 7), .int (μ.1 8 i p 8), .int (μ.1 8 i p 9), .int (μ.1 8 i p 10), .int (μ.1 8 i p 11), .int (μ.1 8 i p 12)])
  | 9 => .inl (G.2.1 0, 4, .inl (μ.1 9 i p))
  | 10 => .inl (G.2.1 0, 4, .inl (μ.1 10 i p))
  | 11 => .inl (G.2.1 0, 4, .inl (μ.1 11 i p))
  | 12 => .inl (G.2.1 0, 4, .inl (μ.1 12 i p))
  | 13 => .inl (G.2.1 0, 4, .inl (μ.1 13 i p))
  | 14 => .inl (G.2.1 0, 4, .inl (μ.1 14 i p))
  | 15 => .inr (4, [.ref (adr G 16 0 0), .int (μ.1 15 i p 1), .ref (adr G 17 0 0), .int (μ.1 15 i p 3), .ref (adr G 18 0 0), .int (μ.1 15 i p 5), .ref (adr G 19 0 0), .int (μ.1 15 i p 7), .int (μ.1 15 i p 8), .int (μ.1 15 i p 9), .ref (adr G 20 0 0), .long (μ.2 0)])
  | 16 => .inl (G.2.1 0, 232, .inl (μ.1 16 i p))
  | 17 => .inl (G.2.1 0, 1392, .inl (μ.1 17 i p))
  | 18 => .inl (G.2.1 0, 60, .inl (μ.1 18 i p))
  | 19 => .inl (G.2.1 0, 88, .inl (μ.1 19 i p))
  | 20 => .inl (G.2.1 0, 232, .inl (μ.1 20 i p))
  | _ => .inl (G.2.1 3, 1, .inr (.inl (fun j => μ.2 (j + 1))))
def dm (t i p : Nat) : Prop := (4 ≤ t ∧ t ≤ 7 ∧ i < 7 ∧ p = 0) ∨ (8 ≤ t ∧ t ≤ 14 ∧ i < 7 ∧ p < 6) ∨ ((t ≤ 3 ∨ (15 ≤ t ∧ t ≤ 21)) ∧ i = 0 ∧ p = 0)
def AG (G : WG) : Nat → Prop := fun q => ∃ t i p, dm t i p ∧ q = adr G t i p
def Inj (G : WG) : Prop := ∀ t i p t' i' p', dm t i p → dm t' i' p' → adr G t i p = adr G t' i' p' → t = t' ∧ i = i' ∧ p = p'
def Rep (G : WG) (μ : Mem) (H : Heap) : Prop := (∀ t i p, dm t i p → va_at G.1 vwCl (adr G t i p, ct G μ t i p) H) ∧ Inj G ∧ ∀ i p, i < 7 → p < 6 → μ.1 8 i p 12 = 0 ∨ μ.1 8 i p 12 = 1
theorem mset_ne {μ : Mem} {t i p k : Nat} {v : Int32} {t' i' p' : Nat} (h : ¬ (t' = t ∧ i' = i ∧ p' = p)) : (mset μ t i p k v).1 t' i' p' = μ.1 t' i' p' := by
  funext k'
  exact if_neg fun q => h ⟨q.1, q.2.1, q.2.2.1⟩
theorem mset_row {μ : Mem} {t i p k : Nat} {v : Int32} : (mset μ t i p k v).1 t i p = upd (μ.1 t i p) k v := by
  funext k'
  simp only [mset, upd, true_and]
theorem ct_ne {G : WG} {μ : Mem} {t i p k : Nat} {v : Int32} {t' i' p' : Nat} (h : ¬ (t' = t ∧ i' = i ∧ p' = p)) : ct G (mset μ t i p k v) t' i' p' = ct G μ t' i' p' := by
  have e := mset_ne (μ := μ) (k := k) (v := v) h
  unfold ct
  have e2 : (mset μ t i p k v).2 = μ.2 := rfl
  split <;> simp only [e, e2]
/-- one cell is written: the picture moves along -/
theorem Rep.set {G : WG} {μ : Mem} {H H' : Heap} {t i p k : Nat} {v : Int32} (h : Rep G μ H) (hd : dm t i p) (h1 : va_at G.1 vwCl (adr G t i p, ct G (mset μ t i p k v) t i p) H') (oq : ∀ q : Nat, q ≠ adr G t i p → H'[q]? = H[q]?) (hz : t = 8 → k = 12 → v = 0 ∨ v = 1) : Rep G (mset μ t i p k v) H' := by
  refine ⟨fun t' i' p' hd' => ?_, h.2.1, fun i' p' hi hp => ?_⟩
  · by_cases e : t' = t ∧ i' = i ∧ p' = p
    · obtain ⟨rfl, rfl, rfl⟩ := e
      exact h1
    · rw [ct_ne e]
      exact (h.1 t' i' p' hd').kept (oq _ fun q => e (h.2.1 _ _ _ _ _ _ hd' hd q))
  · by_cases e : 8 = t ∧ i' = i ∧ p' = p ∧ 12 = k
    · show (if 8 = t ∧ i' = i ∧ p' = p ∧ 12 = k then v else _) = 0 ∨ (if 8 = t ∧ i' = i ∧ p' = p ∧ 12 = k then v else _) = 1
      rw [if_pos e]
      exact hz e.1.symm e.2.2.2.symm
    · show (if 8 = t ∧ i' = i ∧ p' = p ∧ 12 = k then v else _) = 0 ∨ (if 8 = t ∧ i' = i ∧ p' = p ∧ 12 = k then v else _) = 1
      rw [if_neg e]
      exact h.2.2 i' p' hi hp
theorem Rep.lset {G : WG} {μ : Mem} {H H' : Heap} {t i p k : Nat} {v : Int64} (h : Rep G μ H) (hd : dm t i p) (ht : t = 15 ∧ k = 0 ∨ 21 ≤ t ∧ 1 ≤ k) (h1 : va_at G.1 vwCl (adr G t i p, ct G (mlset μ k v) t i p) H') (oq : ∀ q : Nat, q ≠ adr G t i p → H'[q]? = H[q]?) : Rep G (mlset μ k v) H' := by
  refine ⟨fun t' i' p' hd' => ?_, h.2.1, h.2.2⟩
  by_cases e : t' = t ∧ i' = i ∧ p' = p
  · obtain ⟨rfl, rfl, rfl⟩ := e
    exact h1
  · have e1 : ct G (mlset μ k v) t' i' p' = ct G μ t' i' p' := by
      unfold dm at hd hd'
      have hne : t' ≠ t := by omega
      by_cases h21 : t' = 21
      · subst h21
        have hk : k = 0 := by omega
        subst hk
        rfl
      · have hk : t' = 15 → (if 0 = k then v else μ.2 0) = μ.2 0 := fun h => if_neg (by omega)
        have hlt : t' < 21 := by omega
        match t', hk, hlt with
        | 0, _, _ | 1, _, _ | 2, _, _ | 3, _, _ | 4, _, _ | 5, _, _ | 6, _, _ | 7, _, _ | 8, _, _ | 9, _, _ | 10, _, _ | 11, _, _ | 12, _, _ | 13, _, _ | 14, _, _ | 16, _, _ | 17, _, _ | 18, _, _ | 19, _, _ | 20, _, _ => rfl
        | 15, hk, _ => simp only [ct, mlset, hk rfl]
        | n + 21, _, h9 => exact absurd h9 (by omega)
    rw [e1]
    exact (h.1 t' i' p' hd').kept (oq _ fun q => e (h.2.1 _ _ _ _ _ _ hd' hd q))
