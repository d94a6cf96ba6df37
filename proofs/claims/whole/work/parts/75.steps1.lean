/-! ===== every call keeps what holds: the frame of it ===== -/
def Fr (M' M : Mem) : Prop := ∀ t i p k, (t ≤ 3 ∨ i ≠ 0 ∨ 15 ≤ t) → M'.1 t i p k = M.1 t i p k
theorem fr_rf {M : Mem} : Fr M M := fun _ _ _ _ _ => rfl
theorem fr_tr {A B C : Mem} (h : Fr A B) (g : Fr B C) : Fr A C := fun t i p k q => (h t i p k q).trans (g t i p k q)
theorem fr_ms {M : Mem} {t0 p0 k0 : Nat} {v : Int32} (h1 : 4 ≤ t0) (h2 : t0 ≤ 14) : Fr (mset M t0 0 p0 k0 v) M := fun t i p k q => if_neg fun y => by omega
theorem fr_settle {M : Mem} {p N kk : Nat} {v w : Int32} : Fr (cSettle (mset M 8 0 p kk v) 0 p N w) M := fun t i p' k q => by
  by_cases y : i = 0
  · rw [settle_tag (by omega) (by omega)]
  · exact settle_far fun e => y e.1
theorem fr_start {M : Mem} {p : Nat} {d g : Int32} : Fr (cStart M 0 p d g) M := fun t i p' k q => start_tag (by omega)
theorem fr_app {M : Mem} {n : Nat} : Fr (cAppend M 0 n) M := fun t i p' k q => by
  unfold cAppend
  exact (if_neg fun y => by omega).trans ((appK_ab 4).2 t i p' k (by omega))
theorem fr_rate {M : Mem} {u : Nat} {r : Int32} : ∀ n, Fr (rateK M 0 u r n) M
  | 0 => fr_ms (by decide) (by decide)
  | n + 1 => by
    unfold rateK
    cases cBegun (rateK M 0 u r n) 0 n
    · exact fr_tr (fr_ms (by decide) (by decide)) (fr_rate n)
    · exact fr_rate n
theorem fr_passK {M : Mem} {d : Int32} : ∀ n, Fr (passK M 0 d n).1 M
  | 0 => fr_rf
  | n + 1 => by
    unfold passK
    cases cWithin (passK M 0 d n).1 0 n (insN (passK M 0 d n).1 0 n) d
    · exact fr_passK n
    · exact fr_tr (fr_tr (fr_ms (by decide) (by decide)) (fr_ms (by decide) (by decide))) (fr_passK n)
theorem fr_pass {M : Mem} {n : Nat} {d : Int32} : Fr (cPass M 0 n d) M := fr_tr (fr_ms (by decide) (by decide)) (fr_passK n)
theorem ClsI_step {M M' : Mem} {a a' : ALw} {ns sc : Nat} {h : Nat → ALw} {L : Nat} {t : Nat → Int32} (c : ClsI M a ns sc h L t) (f : Fr M' M) (hC : CR M' 0 a') : ClsI M' a' ns sc h L t := by
  obtain ⟨c1, c2, c3, c4, c5, c6⟩ := c
  have e : ∀ t, t ≤ 3 → M'.1 t = M.1 t := fun t ht => funext fun i => funext fun p => funext fun k => f t i p k (Or.inl ht)
  unfold ClsI SI
  rw [e 0 (by decide), e 2 (by decide), e 3 (by decide)]
  exact ⟨hC, c2, fun j hj => (c3 j hj).congr fun t _ _ => funext fun p => funext fun k => f t _ p k (Or.inr (Or.inl (by omega))), c4, c5, c6⟩
theorem ms_2 {μ : Mem} {t i p k : Nat} {v : Int32} : (mset μ t i p k v).2 = μ.2 := rfl
theorem zm_2 {μ : Mem} {z : Zr} : (zmem μ z).2 = μ.2 := rfl
theorem ml_1 {μ : Mem} {k : Nat} {v : Int64} : (mlset μ k v).1 = μ.1 := rfl
theorem ml_at {μ : Mem} {k : Nat} {v : Int64} : (mlset μ k v).2 k = v := if_pos rfl
theorem svK_2 {μ : Mem} {st : Nat} : ∀ k, (svK μ st k).2 = μ.2
  | 0 => rfl
  | k + 1 => svK_2 k
theorem shK_2 {μ : Mem} : ∀ k, (shK μ k).2 = μ.2
  | 0 => rfl
  | k + 1 => shK_2 k
theorem unK_2 {μ : Mem} {st : Nat} : ∀ k, (unK μ st k).2 = μ.2
  | 0 => rfl
  | k + 1 => unK_2 k
theorem mSave_2 {μ : Mem} {sc : Nat} : (mSave μ sc).2 = μ.2 := by
  unfold mSave
  rw [ms_2, svK_2]
  unfold svM
  split
  · rw [ms_2, shK_2]
  · rfl
theorem RefI_zm {M : Mem} {a a' : ALw} {sc : Nat} {h : Nat → ALw} {L : Nat} {t : Nat → Int32} {z : Zr} (c : RefI M a sc h L t) (hM : MR z a') : RefI (zmem M z) a' sc h L t := by
  obtain ⟨c1, c2, c3, c4, c5⟩ := c
  unfold RefI
  rw [zmem_16, zmem_tag (by decide), zmem_tag (by decide), zmem_tag (by decide)]
  exact ⟨hM, c2, c3, c4, c5⟩
theorem RefI_15 {M : Mem} {a : ALw} {sc : Nat} {h : Nat → ALw} {L : Nat} {t : Nat → Int32} {v : Int32} (c : RefI M a sc h L t) : RefI (mset M 15 0 0 5 v) a sc h L t :=
  c.congr (mset_tag (by decide)) (mset_tag (by decide)) (mset_tag (by decide)) (mset_k (by decide)) (mset_k (by decide))
theorem inv_mk {μc μ2 : Mem} {a : ALw} {ns sc : Nat} {h : Nat → ALw} {L : Nat} {t : Nat → Int32} (hc : ClsI μc a ns sc h L t) (e : ∀ t, t ≤ 14 → μ2.1 t = μc.1 t) (hr : RefI μ2 a sc h L t) (k : OKs a ns sc h L) : Inv μ2 := ⟨a, ns, sc, h, L, t, hc.congr e, hr, k⟩
theorem inv_15 {μ : Mem} {v : Int32} (hI : Inv μ) : Inv (mset μ 15 0 0 5 v) := by
  obtain ⟨a, ns, sc, h, L, t, hc, hr, hk⟩ := hI
  exact inv_mk hc (fun t ht => mset_tag (by omega)) (RefI_15 hr) hk
section STEP
variable {l : Launch} {G : WG} {yw : MethodName} {cw : ByteArray} {nw : Nat} {hh : List (Nat × Nat × Nat × Nat)} {ym : MethodName} {cm : ByteArray} {nm : Nat} {as : List Value} {μ μc : Mem} {d2 : Nat}
theorem stw_err {k r : Int32} (hk : k ≠ 0) (hW : CtW l G 11 yw cw nw hh (.ref (adr G 0 0 0) :: (as ++ [.ref (adr G 21 0 0)])) μ k μc) (hM : Ct l G d2 ym cm nm (some .int) (.ref (adr G 15 0 0) :: as) μc (some (.int r)) (mset μc 15 0 0 5 k)) (hd : d2 ≤ 11) (hI : Inv μc) : StW l G Inv yw cw nw hh ym cm nm as μ := by
  have h9 := C_X4_thrown (l := l) (G := G) (μ := mset μc 15 0 0 5 k)
  rw [mset_at] at h9
  exact ⟨k, r, μc, _, d2, 0, ⟨hd, by decide⟩, hW, hM, h9, fun h => absurd h hk, inv_15 hI⟩
theorem stw_q {r : Int32} (hW : CtW l G 11 yw cw nw hh (.ref (adr G 0 0 0) :: (as ++ [.ref (adr G 21 0 0)])) μ 0 (mlset μ 1 r.toInt64)) (hM : Ct l G d2 ym cm nm (some .int) (.ref (adr G 15 0 0) :: as) (mlset μ 1 r.toInt64) (some (.int r)) (mset (mlset μ 1 r.toInt64) 15 0 0 5 (nI 0))) (hd : d2 ≤ 11) (hI : Inv μ) : StW l G Inv yw cw nw hh ym cm nm as μ := by
  have h9 := C_X4_thrown (l := l) (G := G) (μ := mset (mlset μ 1 r.toInt64) 15 0 0 5 (nI 0))
  rw [mset_at] at h9
  exact ⟨0, r, _, _, d2, 0, ⟨hd, by decide⟩, hW, hM, h9, fun _ => by rw [ms_2]; exact ml_at, inv_15 (μ := mlset μ 1 r.toInt64) hI⟩
theorem stw_any {μ2 : Mem} {r : Int32} (hW : CtW l G 11 yw cw nw hh (.ref (adr G 0 0 0) :: (as ++ [.ref (adr G 21 0 0)])) μ 0 (mlset μc 1 r.toInt64)) (hM : Ct l G d2 ym cm nm (some .int) (.ref (adr G 15 0 0) :: as) (mlset μc 1 r.toInt64) (some (.int r)) μ2) (hd : d2 ≤ 11) (h5 : μ2.1 15 0 0 5 = nI 0) (h2 : μ2.2 = (mlset μc 1 r.toInt64).2) (hI : Inv μ2) : StW l G Inv yw cw nw hh ym cm nm as μ := by
  have h9 := C_X4_thrown (l := l) (G := G) (μ := μ2)
  rw [h5] at h9
  exact ⟨0, r, _, μ2, d2, 0, ⟨hd, by decide⟩, hW, hM, h9, fun _ => by rw [h2]; exact ml_at, hI⟩
theorem stw_mut {r : Int32} {z : Zr} {a a' : ALw} {ns sc : Nat} {h : Nat → ALw} {L : Nat} {t : Nat → Int32} (c : ClsI μ a ns sc h L t) (m : RefI μ a sc h L t) (k : OKs a ns sc h L) (hW : CtW l G 11 yw cw nw hh (.ref (adr G 0 0 0) :: (as ++ [.ref (adr G 21 0 0)])) μ 0 (mlset μc 1 r.toInt64)) (hM : ∀ M : Mem, M.1 16 0 0 = μ.1 16 0 0 → M.1 15 0 0 1 = nI sc → Ct l G d2 ym cm nm (some .int) (.ref (adr G 15 0 0) :: as) M (some (.int r)) (zmem (mSave (mset M 15 0 0 5 (nI 0)) sc) z)) (hd : d2 ≤ 11) (f : Fr μc (cSave μ ns sc)) (hC : CR μc 0 a') (hz : MR z a') (hO : OK a') : StW l G Inv yw cw nw hh ym cm nm as μ := by
  have hk := save_K k
  have h15 : ∀ t, 15 ≤ t → μc.1 t = μ.1 t := fun t ht => (funext fun i => funext fun p => funext fun j => f t i p j (Or.inr (Or.inr ht))).trans (cSave_tag (by omega))
  have hm1 : RefI (mset (mlset μc 1 r.toInt64) 15 0 0 5 (nI 0)) a sc h L t := RefI_15 (M := mlset μc 1 r.toInt64) (m.congr15 (μ' := mlset μc 1 r.toInt64) h15)
  have e16 : μc.1 16 0 0 = μ.1 16 0 0 := by rw [h15 16 (by decide)]
  have e151 : μc.1 15 0 0 1 = nI sc := by rw [h15 15 (by decide)]; exact m.2.1
  refine stw_any hW (hM (mlset μc 1 r.toInt64) e16 e151) hd ?_ ?_ ?_
  · rw [zmem_tag (by decide), mSave_15 (by decide)]
    exact mset_at
  · rw [zm_2, mSave_2, ms_2]
  · refine inv_mk (μc := μc) (ClsI_step (save_C c k) f hC) (fun t ht => ?_) (RefI_zm (save_M hm1 k) hz) ⟨hO, hk.2⟩
    rw [zmem_tag (by omega), mSave_tag (by omega) (by omega)]
    exact mset_tag (by omega)
end STEP
theorem cSave_CR {μ : Mem} {a : ALw} {ns sc : Nat} (h : CR μ 0 a) : CR (cSave μ ns sc) 0 a := h.congr fun t h1 _ => cSave_0 h1
