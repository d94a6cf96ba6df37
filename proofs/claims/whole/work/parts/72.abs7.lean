/-! ===== a phase begins ===== -/
def pvN (S N k : Nat) : Nat := if k = N - 1 then S - (N - 1) * (S / N) else S / N
theorem partV_nI {S : Nat} (hS : S < 2 ^ 30) {k : Nat} : partV (nI S) (partsN (nI S)) k = nI (pvN S (partsN (nI S)) k) := by
  by_cases h : k = partsN (nI S) - 1
  · unfold pvN
    rw [if_pos h, h, partV_last hS]
    exact (lastV_nI hS).1
  · unfold partV pvN
    rw [if_neg h, if_neg h]
    rcases partsN_4 (nI S) with q | q | q | q <;> rw [q, pk_div (by omega) (by decide) (by decide)]
theorem pvN_sum {S N : Nat} (hN : N = 1 ∨ N = 2 ∨ N = 3 ∨ N = 4) : sN (pvN S N) N = S := by
  rcases hN with h | h | h | h <;> subst h <;> simp only [sN, pvN] <;> simp <;> omega
theorem pvN_pos {S : Nat} (hS : S < 2 ^ 30) {k : Nat} (h1 : partsN (nI S) ≠ 1) : 0 < pvN S (partsN (nI S)) k := by
  have h2 : 1000 ≤ S := by
    rcases Nat.lt_or_ge S 1000 with q | q
    · refine absurd ?_ h1
      unfold partsN
      rw [if_neg (fun y => absurd ((nI_leI (by decide) (by omega)).mp y) (by omega))]
    · exact q
  unfold pvN
  rcases partsN_4 (nI S) with q | q | q | q <;> rw [q] <;> split <;> omega
def begX (day g : Nat) (x : APh) : APh := (APh.mk (true) x.A x.E x.R x.La (partsN (nI (chg x - rlf x))) (day) (g) (pvN (chg x - rlf x) (partsN (nI (chg x - rlf x)))) (pvN (chg x - rlf x) (partsN (nI (chg x - rlf x)))) x.P x.Ld x.Su x.br x.lo x.so)
theorem begX_OP {day n p g : Nat} {rt : Nat → Nat} {x : APh} (h : OP day n p rt x) (hb : x.beg = false) (hp : p < n) (hday : day ≤ 9999) (hg : 1 ≤ g ∧ g ≤ 120) : OP day n p rt (begX day g x) := by
  obtain ⟨u1, u2, u3, u4, u5, u6, u7, u8⟩ := h.un hb
  have hS : chg x - rlf x < 2 ^ 30 := by have := h.chg_le; omega
  have hN := partsN_4 (nI (chg x - rlf x))
  exact (OP.mk (f_hA := h.hA) (f_hE := h.hE) (f_hR := h.hR) (f_hL := h.hL) (f_blank := fun q => absurd hp (by omega)) (f_un := fun q => noTF q) (f_rt := fun q => noTF q) (f_bg := fun _ => by
      have h1 := h.rlf_le
      refine ⟨Nat.le_refl _, hday, (partsN_le _).1, (partsN_le _).2, hg.1, hg.2, ?_⟩
      show chg x + x.Su = rlf x + x.P + x.Ld + (x.lo + x.so + sN (pvN (chg x - rlf x) (partsN (nI (chg x - rlf x)))) (partsN (nI (chg x - rlf x))))
      rw [pvN_sum hN, u3, u4, u5, u7, u8]
      omega) (f_sh := fun j k hj hk q => by
      have hk' : k < partsN (nI (chg x - rlf x)) := hk
      have h9 : 0 < pvN (chg x - rlf x) (partsN (nI (chg x - rlf x))) k := pvN_pos hS (by omega)
      have q' : pvN (chg x - rlf x) (partsN (nI (chg x - rlf x))) k = 0 := q
      omega) (f_du := fun _ _ k _ _ => Nat.le_add_right _ _) (f_un2 := h.un2) (f_su := h.su))
theorem startK_ab {μ : Mem} {i p n : Nat} {s : Int32} : ∀ k, (∀ j, (startK μ i p s n k).1 13 i p j = if j < k then partV s n j else μ.1 13 i p j) ∧ (∀ j, (startK μ i p s n k).1 14 i p j = if j < k then partV s n j else μ.1 14 i p j) ∧ (∀ t i' p' j, ¬ ((t = 13 ∨ t = 14) ∧ i' = i ∧ p' = p) → (startK μ i p s n k).1 t i' p' j = μ.1 t i' p' j)
  | 0 => ⟨fun j => (if_neg (Nat.not_lt_zero j)).symm, fun j => (if_neg (Nat.not_lt_zero j)).symm, fun _ _ _ _ _ => rfl⟩
  | k + 1 => by
    obtain ⟨h1, h2, h3⟩ := startK_ab (μ := μ) (i := i) (p := p) (n := n) (s := s) k
    have hst : startK μ i p s n (k + 1) = mset (mset (startK μ i p s n k) 13 i p k (partV s n k)) 14 i p k (partV s n k) := rfl
    rw [hst]
    refine ⟨fun j => ?_, fun j => ?_, fun t i' p' j hne => ?_⟩
    · rw [mset_t (by decide)]
      by_cases q : j = k
      · subst q
        rw [mset_at, if_pos (Nat.lt_succ_self j)]
      · rw [mset_k q, h1]
        by_cases q2 : j < k
        · rw [if_pos q2, if_pos (by omega)]
        · rw [if_neg q2, if_neg (by omega)]
    · by_cases q : j = k
      · subst q
        rw [mset_at, if_pos (Nat.lt_succ_self j)]
      · rw [mset_k q, mset_t (by decide), h2]
        by_cases q2 : j < k
        · rw [if_pos q2, if_pos (by omega)]
        · rw [if_neg q2, if_neg (by omega)]
    · exact (if_neg fun q => hne ⟨Or.inr q.1, q.2.1, q.2.2.1⟩).trans ((if_neg fun q => hne ⟨Or.inl q.1, q.2.1, q.2.2.1⟩).trans (h3 t i' p' j hne))
theorem start_tag {μ : Mem} {i p : Nat} {day gap : Int32} {t i' p' j : Nat} (h : ¬ ((t = 8 ∨ t = 13 ∨ t = 14) ∧ i' = i ∧ p' = p)) : (cStart μ i p day gap).1 t i' p' j = μ.1 t i' p' j := by
  unfold cStart
  rw [(startK_ab _).2.2 t i' p' j (fun q => h ⟨by omega, q.2⟩)]
  exact (if_neg fun q => h ⟨Or.inl q.1, q.2.1, q.2.2.1⟩).trans ((if_neg fun q => h ⟨Or.inl q.1, q.2.1, q.2.2.1⟩).trans (if_neg fun q => h ⟨Or.inl q.1, q.2.1, q.2.2.1⟩))
theorem start_C {μ : Mem} {i p day n g : Nat} {rt : Nat → Nat} {x : APh} (c : CP μ i p x) (o : OP day n p rt x) : CP (cStart μ i p (nI day) (nI g)) i p (begX day g x) := by
  have hS : chg x - rlf x < 2 ^ 30 := by have := o.chg_le; omega
  have hs := cw_sum c o
  have T : ∀ t j, t ≠ 8 → t ≠ 13 → t ≠ 14 → (cStart μ i p (nI day) (nI g)).1 t i p j = μ.1 t i p j := fun t j h1 h2 h3 => start_tag (by omega)
  have E8 : ∀ j, (cStart μ i p (nI day) (nI g)).1 8 i p j = (mset (mset (mset μ 8 i p 6 (nI day)) 8 i p 7 (nI g)) 8 i p 8 (nI (partsN (cSum μ i p)))).1 8 i p j := fun j => (startK_ab _).2.2 8 i p j (by omega)
  have K : ∀ j, j ≠ 6 → j ≠ 7 → j ≠ 8 → (cStart μ i p (nI day) (nI g)).1 8 i p j = μ.1 8 i p j := fun j h1 h2 h3 => by
    rw [E8, mset_k h3, mset_k h2, mset_k h1]
  exact (CP.mk (f_A := fun u hu => (T 9 u (by decide) (by decide) (by decide)).trans (c.A u hu)) (f_E := fun u hu => (T 10 u (by decide) (by decide) (by decide)).trans (c.E u hu)) (f_R := fun u hu => (T 11 u (by decide) (by decide) (by decide)).trans (c.R u hu)) (f_La := fun u hu => (T 12 u (by decide) (by decide) (by decide)).trans (c.La u hu)) (f_b := by rw [E8, mset_k (by decide), mset_k (by decide), mset_at]; rfl) (f_g := fun _ => by rw [E8, mset_k (by decide), mset_at]; rfl) (f_N := by rw [E8, mset_at, hs]; rfl) (f_P := (K 9 (by decide) (by decide) (by decide)).trans c.P) (f_Ld := (K 10 (by decide) (by decide) (by decide)).trans c.Ld) (f_Su := (K 11 (by decide) (by decide) (by decide)).trans c.Su) (f_br := (K 12 (by decide) (by decide) (by decide)).trans c.br) (f_I := fun k hk => by
      have hk' : k < partsN (nI (chg x - rlf x)) := hk
      unfold cStart
      rw [(startK_ab _).1, hs, if_pos hk', partV_nI hS]
      rfl) (f_O := fun k hk => by
      have hk' : k < partsN (nI (chg x - rlf x)) := hk
      unfold cStart
      rw [(startK_ab _).2.1, hs, if_pos hk', partV_nI hS]
      rfl))
theorem begK_ab {z : Zr} {p : Nat} : ∀ k, k ≤ 4 → (∀ j, j < 4 → mo (begK z p k) p (9 + j) = if j < k then z (5 + j) else mo z p (9 + j)) ∧ (∀ j, j < 4 → mo (begK z p k) p (13 + j) = if j < k then mo z p (5 + j) * z (5 + j) else mo z p (13 + j)) ∧ (∀ q w, w < 37 → ¬ (q = p ∧ 9 ≤ w ∧ w < 17) → mo (begK z p k) q w = mo z q w) ∧ (∀ j, j < 10 → begK z p k j = z j)
  | 0, _ => ⟨fun j _ => (if_neg (Nat.not_lt_zero j)).symm, fun j _ => (if_neg (Nat.not_lt_zero j)).symm, fun _ _ _ _ => rfl, fun _ _ => rfl⟩
  | k + 1, hk => by
    obtain ⟨h1, h2, h3, h4⟩ := begK_ab (z := z) (p := p) k (by omega)
    have hst : begK z p (k + 1) = zput (zput (begK z p k) p (9 + k) (begK z p k (5 + k))) p (13 + k) (mo (zput (begK z p k) p (9 + k) (begK z p k (5 + k))) p (5 + k) * (zput (begK z p k) p (9 + k) (begK z p k (5 + k))) (5 + k)) := rfl
    have e1 : mo (zput (begK z p k) p (9 + k) (begK z p k (5 + k))) p (5 + k) = mo z p (5 + k) := (mo_ne (by omega) (by omega) (by omega)).trans (h3 p (5 + k) (by omega) (by omega))
    have e2 : (zput (begK z p k) p (9 + k) (begK z p k (5 + k))) (5 + k) = z (5 + k) := (z_lo (by omega)).trans (h4 (5 + k) (by omega))
    rw [e1, e2, h4 (5 + k) (by omega)] at hst
    rw [hst]
    refine ⟨fun j hj => ?_, fun j hj => ?_, fun q w hw hne => ?_, fun j hj => (z_lo hj).trans ((z_lo hj).trans (h4 j hj))⟩
    · rw [mo_ne (by omega) (by omega) (by omega)]
      by_cases q : j = k
      · subst q
        rw [zput_at, if_pos (Nat.lt_succ_self j)]
      · rw [mo_ne (by omega) (by omega) (by omega), h1 j hj]
        by_cases q2 : j < k
        · rw [if_pos q2, if_pos (by omega)]
        · rw [if_neg q2, if_neg (by omega)]
    · by_cases q : j = k
      · subst q
        rw [zput_at, if_pos (Nat.lt_succ_self j)]
      · rw [mo_ne (by omega) (by omega) (by omega), mo_ne (by omega) (by omega) (by omega), h2 j hj]
        by_cases q2 : j < k
        · rw [if_pos q2, if_pos (by omega)]
        · rw [if_neg q2, if_neg (by omega)]
    · rw [mo_ne (by omega) hw (by omega), mo_ne (by omega) hw (by omega)]
      exact h3 q w hw hne
theorem begP_ab {z : Zr} {p : Nat} {s : Int32} : ∀ k, k ≤ 4 → (∀ j, j < k → mo (begP z p s k) p (18 + j) = begV s j ∧ mo (begP z p s k) p (22 + j) = begV s j ∧ mo (begP z p s k) p (26 + j) = z 4 + nI (j + 1) * z 0) ∧ (∀ q w, w < 37 → ¬ (q = p ∧ 18 ≤ w ∧ w < 30) → mo (begP z p s k) q w = mo z q w) ∧ (∀ j, j < 10 → begP z p s k j = z j)
  | 0, _ => ⟨fun j hj => absurd hj (Nat.not_lt_zero j), fun _ _ _ _ => rfl, fun _ _ => rfl⟩
  | k + 1, hk => by
    obtain ⟨h1, h2, h3⟩ := begP_ab (z := z) (p := p) (s := s) k (by omega)
    have hst : begP z p s (k + 1) = zput (zput (zput (begP z p s k) p (18 + k) (begV s k)) p (22 + k) (begV s k)) p (26 + k) ((zput (zput (begP z p s k) p (18 + k) (begV s k)) p (22 + k) (begV s k)) 4 + nI (k + 1) * (zput (zput (begP z p s k) p (18 + k) (begV s k)) p (22 + k) (begV s k)) 0) := rfl
    rw [z_lo (k := 4) (by decide), z_lo (k := 4) (by decide), z_lo (k := 0) (by decide), z_lo (k := 0) (by decide), h3 4 (by decide), h3 0 (by decide)] at hst
    rw [hst]
    refine ⟨fun j hj => ?_, fun q w hw hne => ?_, fun j hj => (z_lo hj).trans ((z_lo hj).trans ((z_lo hj).trans (h3 j hj)))⟩
    · by_cases q : j = k
      · subst q
        refine ⟨?_, ?_, zput_at⟩
        · rw [mo_ne (by omega) (by omega) (by omega), mo_ne (by omega) (by omega) (by omega), zput_at]
        · rw [mo_ne (by omega) (by omega) (by omega), zput_at]
      · obtain ⟨g1, g2, g3⟩ := h1 j (by omega)
        refine ⟨?_, ?_, ?_⟩
        · rw [mo_ne (by omega) (by omega) (by omega), mo_ne (by omega) (by omega) (by omega), mo_ne (by omega) (by omega) (by omega)]
          exact g1
        · rw [mo_ne (by omega) (by omega) (by omega), mo_ne (by omega) (by omega) (by omega), mo_ne (by omega) (by omega) (by omega)]
          exact g2
        · rw [mo_ne (by omega) (by omega) (by omega), mo_ne (by omega) (by omega) (by omega), mo_ne (by omega) (by omega) (by omega)]
          exact g3
    · rw [mo_ne (by omega) hw (by omega), mo_ne (by omega) hw (by omega), mo_ne (by omega) hw (by omega)]
      exact h2 q w hw hne
theorem begins_M {z : Zr} {p day n g : Nat} {rt : Nat → Nat} {x : APh} (c : MP z p x) (o : OP day n p rt x) (hb : x.beg = false) (hp : p < n) (hr : ∀ u, u < 4 → z (5 + u) = nI (rt u)) (h4 : z 4 = nI day) (h0 : z 0 = nI g) :
    MP (zBegins z p) p (begX day g x) ∧ (∀ q w, q ≠ p → w < 37 → mo (zBegins z p) q w = mo z q w) ∧ (∀ j, j < 10 → zBegins z p j = z j) := by
  have hS : chg x - rlf x < 2 ^ 30 := by have := o.chg_le; omega
  have hs : mSum z p = nI (chg x - rlf x) := mw_sum c o hp hr
  obtain ⟨u1, u2, u3, u4, u5, u6, u7, u8⟩ := o.un hb
  obtain ⟨k1, k2, k3, k4⟩ := begK_ab (z := z) (p := p) 4 (Nat.le_refl 4)
  have hNN := partsN_le (nI (chg x - rlf x))
  obtain ⟨p1, p2, p3⟩ := begP_ab (z := begH z p (mSum z p)) (p := p) (s := mSum z p) (partsN (mSum z p)) (by rw [hs]; exact hNN.2)
  have H0 : mo (begH z p (mSum z p)) p 0 = nI day := by
    unfold begH
    rw [mo_ne (by decide) (by decide) (by omega), zput_at, k4 4 (by decide), h4]
  have H17 : mo (begH z p (mSum z p)) p 17 = nI (partsN (mSum z p)) := zput_at
  have HH : ∀ q w, w < 37 → ¬ (q = p ∧ (w = 0 ∨ w = 17)) → mo (begH z p (mSum z p)) q w = mo (begK z p 4) q w := fun q w hw hne => by
    unfold begH
    rw [mo_ne (by decide) hw (by omega), mo_ne (by decide) hw (by omega)]
  have HL : ∀ j, j < 10 → begH z p (mSum z p) j = z j := fun j hj => (z_lo hj).trans ((z_lo hj).trans (k4 j hj))
  have F : ∀ q w, w < 37 → ¬ (q = p ∧ (w = 0 ∨ (9 ≤ w ∧ w < 30))) → mo (zBegins z p) q w = mo z q w := fun q w hw hne => by
    unfold zBegins
    rw [p2 q w hw (by omega), HH q w hw (by omega), k3 q w hw (by omega)]
  refine ⟨?_, fun q w hq hw => F q w hw (by omega), fun j hj => (p3 j hj).trans (HL j hj)⟩
  exact (MP.mk (f_A := fun u hu => (F p (1 + u) (by omega) (by omega)).trans (c.A u hu)) (f_E := fun u hu => (F p (5 + u) (by omega) (by omega)).trans (c.E u hu)) (f_R := fun _ u hu => by
      show mo (begP (begH z p (mSum z p)) p (mSum z p) (partsN (mSum z p))) p (9 + u) = _
      rw [p2 p (9 + u) (by omega) (by omega), HH p (9 + u) (by omega) (by omega), k1 u hu, if_pos hu, hr u hu, ← o.rt hb hp u hu]
      rfl) (f_re := fun _ u hu => by
      show mo (begP (begH z p (mSum z p)) p (mSum z p) (partsN (mSum z p))) p (13 + u) = nI (x.E u * x.R u - x.La u)
      rw [p2 p (13 + u) (by omega) (by omega), HH p (13 + u) (by omega) (by omega), k2 u hu, if_pos hu, hr u hu, ← o.rt hb hp u hu, c.E u hu, nI_mul, u2 u hu, Nat.sub_zero]) (f_b := by
      show mo (begP (begH z p (mSum z p)) p (mSum z p) (partsN (mSum z p))) p 0 = nI day
      rw [p2 p 0 (by omega) (by omega), H0]) (f_N := by
      show mo (begP (begH z p (mSum z p)) p (mSum z p) (partsN (mSum z p))) p 17 = nI (partsN (nI (chg x - rlf x)))
      rw [p2 p 17 (by omega) (by omega), H17, hs]) (f_I := fun k hk => by
      have hk' : k < partsN (nI (chg x - rlf x)) := hk
      have h9 := (p1 k (by rw [hs]; exact hk')).1
      exact h9.trans (by rw [hs, begV_partV hS, partV_nI hS]; rfl)) (f_O := fun k hk => by
      have hk' : k < partsN (nI (chg x - rlf x)) := hk
      have h9 := (p1 k (by rw [hs]; exact hk')).2.1
      exact h9.trans (by rw [hs, begV_partV hS, partV_nI hS]; rfl)) (f_D := fun k hk => by
      have hk' : k < partsN (nI (chg x - rlf x)) := hk
      have h9 := (p1 k (by rw [hs]; exact hk')).2.2
      refine h9.trans ?_
      rw [HL 4 (by decide), HL 0 (by decide), h4, h0, nI_mul, nI_add]
      rfl) (f_lo := (F p 30 (by omega) (by omega)).trans c.lo) (f_la := (F p 31 (by omega) (by omega)).trans c.la) (f_Su := (F p 32 (by omega) (by omega)).trans c.Su) (f_so := (F p 33 (by omega) (by omega)).trans c.so) (f_P := (F p 34 (by omega) (by omega)).trans c.P) (f_Ld := (F p 35 (by omega) (by omega)).trans c.Ld) (f_br := (F p 36 (by omega) (by omega)).trans c.br))
