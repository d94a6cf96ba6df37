/-! ===== the last four calls: reading, running, the share, the digest ===== -/
theorem rgS_G {μ : Mem} {L : Nat} {c : Nat → Int32} (h : ∀ j, j < L → μ.1 18 0 0 j = c j) : rgS μ L = gT c L 0 (0, μ.1 15 0 0 8, 0, μ.1 19 0 0) := rgK_ext L 0 _ fun j _ h2 => h j (by omega)
theorem ClsI_omr {μ : Mem} {a : ALw} {ns sc : Nat} {h : Nat → ALw} {L : Nat} {t : Nat → Int32} {s : RS} (c : ClsI μ a ns sc h L t) : ClsI (omr μ s) a ns sc h L t := by
  obtain ⟨c1, c2, c3, c4, c5, c6⟩ := c
  refine ⟨CR_omr c1, ?_, fun j hj => (c3 j hj).congr fun t h1 _ => by rw [omr_tag (by omega)], omr_k.trans c4, ⟨_, omr_k⟩, fun j hj => ?_⟩
  · unfold SI
    rw [omr_tag (by decide)]
    exact c2
  · rw [omr_tag (by decide)]
    exact c6 j hj
theorem RefI_omr {μ : Mem} {a : ALw} {sc : Nat} {h : Nat → ALw} {L : Nat} {t : Nat → Int32} {s : RS} (c : RefI μ a sc h L t) : RefI (omr μ s) a sc h L t := c.congr15 fun t ht => omr_tag (by omega)
theorem RefI_pmr {μ : Mem} {a : ALw} {sc : Nat} {h : Nat → ALw} {L : Nat} {t : Nat → Int32} {s : PS} (c : RefI μ a sc h L t) : RefI (pmr μ s) a sc h L t := c.congr (pmr_tag (by decide) (by decide)) (pmr_tag (by decide) (by decide)) (pmr_tag (by decide) (by decide)) pmr_k pmr_k
theorem RefI_clr {M : Mem} {a a' : ALw} {sc : Nat} {h : Nat → ALw} {L : Nat} {t : Nat → Int32} {z : Zr} (c : RefI M a sc h L t) (hz : MR z a') : RefI (zmem (mset M 15 0 0 3 (nI 0)) z) a' sc h 0 t := by
  obtain ⟨c1, c2, c3, c4, c5⟩ := c
  unfold RefI
  rw [zmem_16, zmem_tag (by decide), zmem_tag (by decide), zmem_tag (by decide)]
  refine ⟨hz, (mset_k (by decide)).trans c2, ?_, mset_at, fun j hj => absurd hj (Nat.not_lt_zero j)⟩
  rw [mset_tag (by decide)]
  exact c3
set_option maxHeartbeats 4000000 in
theorem st_firstError {l : Launch} {G : WG} (μ : Mem) (hI : Inv μ) : StE l G Inv yX3_firstError cX3_firstError 1 yX4_firstError cX4_firstError 1 .int (fun r => ∃ v, r = .int v) μ := by
  obtain ⟨a, ns, sc, h, L, t, hc, hr, hk⟩ := id hI
  obtain ⟨k, hkk⟩ := hc.2.2.2.2.1
  have hL := hc.2.2.2.1
  have hL60 := hk.2.2.2.2
  have hT : ∀ j, j < L → μ.1 18 0 0 j = μ.1 3 0 0 j := fun j hj => (hr.2.2.2.2 j hj).trans (hc.2.2.2.2.2 j hj).symm
  have hC := C_X3_firstError (l := l) (G := G) hL hL60 hkk
  have hTx := (text_G (c := μ.1 3 0 0) hL60 (s := (k, μ.1 2 0 0 3, μ.1 2 0 0 4, μ.1 2 0 0 5, μ.1 2 0 0 6)) (nu := μ.1 15 0 0 8) (ps := μ.1 19 0 0)).1
  revert hC hTx
  generalize rdRow (μ.1 3 0 0) L (k, μ.1 2 0 0 3, μ.1 2 0 0 4, μ.1 2 0 0 5, μ.1 2 0 0 6) = q
  intro hC hTx
  have hc2 := ClsI_omr (s := q.2) hc
  have hr2 := RefI_omr (s := q.2) hr
  have hM : Ct l G 5 yX4_firstError cX4_firstError 1 (some .int) [.ref (adr G 15 0 0)] (omr μ q.2) (some (.int (nI (rgS (omr μ q.2) L).1))) (pmr (mset (omr μ q.2) 15 0 0 5 (nI 0)) (rgS (omr μ q.2) L).2) := C_X4_firstError (μ := omr μ q.2) hr2.2.2.2.1 hL60
  have e15 : (omr μ q.2).1 15 = μ.1 15 := omr_tag (by decide)
  have e19 : (omr μ q.2).1 19 = μ.1 19 := omr_tag (by decide)
  have e : (rgS (omr μ q.2) L).1 = q.2.1 := by
    rw [rgS_G (c := μ.1 3 0 0) (fun j hj => by rw [omr_tag (by decide)]; exact hT j hj), e15, e19]
    exact hTx
  rw [e] at hM
  refine ⟨_, _, _, 6, 5, ⟨by decide, by decide⟩, ⟨_, rfl⟩, hC, hM, a, ns, sc, h, L, t, hc2.congr (fun t ht => (pmr_tag (by omega) (by omega)).trans (mset_tag (by omega))), RefI_pmr (RefI_15 hr2), hk⟩
theorem cRd_G {μ : Mem} {a : ALw} {sc : Nat} {h : Nat → ALw} {L k : Nat} {t : Nat → Int32} (hL60 : L ≤ 60) {nu : Int32} {ps : Nat → Int32} : ((gT (μ.1 3 0 0) L 0 (0, nu, 0, ps)).1 = L ∧ isEnd (gT (μ.1 3 0 0) L 0 (0, nu, 0, ps)).2 = true ↔ (cRd μ L k).1 = true) := (text_G (c := μ.1 3 0 0) hL60 (s := (k, μ.1 2 0 0 3, μ.1 2 0 0 4, μ.1 2 0 0 5, μ.1 2 0 0 6)) (nu := nu) (ps := ps)).2
set_option maxHeartbeats 4000000 in
theorem st_run {l : Launch} {G : WG} (hfl : l.stackTraces = false) (μ : Mem) (hI : Inv μ) : StW l G Inv yL_run cL_run 3 hh_run yX4_run cX4_run 3 [] μ := by
  obtain ⟨a, ns, sc, h, L, t, hc, hr, hk⟩ := id hI
  have hci := hc.1.CI hk.1
  have hS := hc.2.1
  obtain ⟨k, hkk⟩ := hc.2.2.2.2.1
  have hL := hc.2.2.2.1
  have hL60 := hk.2.2.2.2
  have hT : ∀ j, j < L → μ.1 18 0 0 j = μ.1 3 0 0 j := fun j hj => (hr.2.2.2.2 j hj).trans (hc.2.2.2.2.2 j hj).symm
  have hC := ClsI_omr (s := (cRd μ L k).2) hc
  have hR := RefI_omr (s := (cRd μ L k).2) hr
  cases e : (cRd μ L k).1 with
  | false =>
    have hok : rgOk (omr μ (cRd μ L k).2) L = false := by
      cases e2 : rgOk (omr μ (cRd μ L k).2) L with
      | false => rfl
      | true =>
        unfold rgOk at e2
        rw [rgS_G (c := μ.1 3 0 0) (fun j hj => by rw [omr_tag (by decide)]; exact hT j hj), Bool.and_eq_true, decide_eq_true_eq] at e2
        have h8 := (cRd_G (a := a) (sc := sc) (h := h) (k := k) (t := t) hL60).mp e2
        rw [e] at h8
        exact absurd h8 (by decide)
    have h9 := C_X4_thrown (l := l) (G := G) (μ := rgM (omr μ (cRd μ L k).2) L 1)
    have e5 : (rgM (omr μ (cRd μ L k).2) L 1).1 15 0 0 5 = nI 1 := mset_at
    rw [e5] at h9
    refine ⟨1, nI 0, _, _, 5, 0, ⟨by decide, by decide⟩, W_run_IAE (T_X3_run hfl hL hL60 hkk e) mk_X3_run (by decide), C_X4_runF hR.2.2.2.1 hL60 hok, h9, fun q => absurd q (by decide), ?_⟩
    exact ⟨a, ns, sc, h, L, t, hC.congr (fun t ht => (mset_tag (by omega)).trans (pmr_tag (by omega) (by omega))), RefI_15 (RefI_pmr hR), hk⟩
  | true =>
    have hV : ClsI (cRunV μ L k ns sc) a (nxt ns) (scN sc) (hSave a h) L t := save_C hC hk
    have hkV := save_K hk
    have hVf : ∀ t, 15 ≤ t → (cRunV μ L k ns sc).1 t = μ.1 t := fun t ht => (cSave_tag (μ := omr μ (cRd μ L k).2) (by omega)).trans (omr_tag (by omega))
    have hW := W_run (C_X3_run (l := l) (G := G) hL hL60 hkk e hci hS) mk_X3_run (by decide)
    have hrunK : ∀ (nu : Int32) (ps : Nat → Int32), (cRunS μ L k ns sc a.n).1 = (mRunK (gT (μ.1 3 0 0) L 0 (0, nu, 0, ps)).2.2.2.2 a.n ((gT (μ.1 3 0 0) L 0 (0, nu, 0, ps)).2.1 + 1) 0 (μ.1 16 0 0)).1 ∧ ∃ a' : ALw, CR (cRunS μ L k ns sc a.n).2.1 0 a' ∧ MR (mRunK (gT (μ.1 3 0 0) L 0 (0, nu, 0, ps)).2.2.2.2 a.n ((gT (μ.1 3 0 0) L 0 (0, nu, 0, ps)).2.1 + 1) 0 (μ.1 16 0 0)).2 a' ∧ OK a' ∧ Fr2 (cRunS μ L k ns sc a.n).2.1 (omr (cRunV μ L k ns sc) (0, (cRd μ L k).2.2)) ∧ ∃ j, (cRunS μ L k ns sc a.n).2.1.1 2 0 0 2 = nI j := by
      intro nu ps
      obtain ⟨g1, g2⟩ := (cRd_G (μ := μ) (a := a) (sc := sc) (h := h) (k := k) (t := t) hL60 (nu := nu) (ps := ps)).mpr e
      exact run_K (c := μ.1 3 0 0) (L := L) g2 60 (0, (cRd μ L k).2.2) (0, nu, 0, ps) 0 (omr (cRunV μ L k ns sc) (0, (cRd μ L k).2.2)) (μ.1 16 0 0) a (by show L ≤ 0 + 60; omega) (Nat.zero_le _) (Or.inl ⟨rfl, rfl⟩) (if_pos rfl).symm (Prod.ext g1 rfl) (CR_omr hV.1) hr.1 hk.1 ⟨_, omr_k⟩
    revert hW hrunK
    generalize cRunS μ L k ns sc a.n = Q
    intro hW hrunK
    have far0 : ∀ t, 15 ≤ t → Q.2.1.1 t = μ.1 t := by
      intro t ht
      obtain ⟨-, a', -, -, -, r5, -⟩ := hrunK 0 (fun _ => 0)
      exact (funext fun i => funext fun p => funext fun j => r5 t i p j (by omega)).trans ((omr_tag (by omega)).trans (hVf t ht))
    have far : ∀ t, 15 ≤ t → (mlset (mset Q.2.1 2 0 0 1 (nI 0)) 1 (nI Q.1).toInt64).1 t = μ.1 t := fun t ht => (mset_tag (by omega)).trans (far0 t ht)
    have hm : RefI (mlset (mset Q.2.1 2 0 0 1 (nI 0)) 1 (nI Q.1).toInt64) a sc h L t := hr.congr15 far
    have hz : ZI ((mlset (mset Q.2.1 2 0 0 1 (nI 0)) 1 (nI Q.1).toInt64).1 16 0 0) a.n := by
      rw [far 16 (by decide)]
      exact hr.1.zi
    have hrg := rgS_G (μ := mlset (mset Q.2.1 2 0 0 1 (nI 0)) 1 (nI Q.1).toInt64) (L := L) (c := μ.1 3 0 0) (fun j hj => by rw [far 18 (by decide)]; exact hT j hj)
    obtain ⟨g1, g2⟩ := (cRd_G (μ := μ) (a := a) (sc := sc) (h := h) (k := k) (t := t) hL60 (nu := (mlset (mset Q.2.1 2 0 0 1 (nI 0)) 1 (nI Q.1).toInt64).1 15 0 0 8) (ps := (mlset (mset Q.2.1 2 0 0 1 (nI 0)) 1 (nI Q.1).toInt64).1 19 0 0)).mpr e
    have hok : rgOk (mlset (mset Q.2.1 2 0 0 1 (nI 0)) 1 (nI Q.1).toInt64) L = true := by
      unfold rgOk
      rw [hrg, decide_eq_true g1, g2]
      rfl
    have hM := C_X4_run (l := l) (G := G) (μ := mlset (mset Q.2.1 2 0 0 1 (nI 0)) 1 (nI Q.1).toInt64) hm.2.2.2.1 hL60 hok hm.2.1 hk.2.1 hz
    have eS : mRunS (mlset (mset Q.2.1 2 0 0 1 (nI 0)) 1 (nI Q.1).toInt64) L a.n = mRunK (gT (μ.1 3 0 0) L 0 (0, (mlset (mset Q.2.1 2 0 0 1 (nI 0)) 1 (nI Q.1).toInt64).1 15 0 0 8, 0, (mlset (mset Q.2.1 2 0 0 1 (nI 0)) 1 (nI Q.1).toInt64).1 19 0 0)).2.2.2.2 a.n ((gT (μ.1 3 0 0) L 0 (0, (mlset (mset Q.2.1 2 0 0 1 (nI 0)) 1 (nI Q.1).toInt64).1 15 0 0 8, 0, (mlset (mset Q.2.1 2 0 0 1 (nI 0)) 1 (nI Q.1).toInt64).1 19 0 0)).2.1 + 1) 0 (μ.1 16 0 0) := by
      unfold mRunS
      rw [hrg, far 16 (by decide)]
    obtain ⟨r1, a', r2, r3, r4, r5, r6⟩ := hrunK ((mlset (mset Q.2.1 2 0 0 1 (nI 0)) 1 (nI Q.1).toInt64).1 15 0 0 8) ((mlset (mset Q.2.1 2 0 0 1 (nI 0)) 1 (nI Q.1).toInt64).1 19 0 0)
    rw [← eS] at r1 r3
    rw [← r1] at hM
    have hsv := save_M (RefI_15 (v := nI 0) (RefI_pmr (s := (rgS (mlset (mset Q.2.1 2 0 0 1 (nI 0)) 1 (nI Q.1).toInt64) L).2) hm)) hk
    refine stw_any (as := []) hW hM (by decide) ?_ ?_ ?_
    · rw [zmem_tag (by decide)]
      unfold rgN
      rw [mset_k (by decide), mSave_15 (by decide)]
      exact mset_at
    · rw [zm_2]
      unfold rgN
      rw [ms_2, mSave_2]
      unfold rgM
      rw [ms_2]
      rfl
    · refine ⟨a', nxt ns, scN sc, hSave a h, 0, t, ?_, RefI_clr hsv r3, r4, hkV.2.1, hkV.2.2.1, hkV.2.2.2.1, Nat.zero_le _⟩
      have hcl : ClsI (mset Q.2.1 2 0 0 1 (nI 0)) a' (nxt ns) (scN sc) (hSave a h) 0 t := by
        refine ⟨r2.congr fun t h1 _ => by rw [mset_tag (by omega)], ?_, fun j hj => (hV.2.2.1 j hj).congr fun t h1 _ => ?_, mset_at, ?_, fun j hj => absurd hj (Nat.not_lt_zero j)⟩
        · have e0 : (mset Q.2.1 2 0 0 1 (nI 0)).1 0 = (cRunV μ L k ns sc).1 0 := (mset_tag (by decide)).trans ((funext fun i => funext fun p => funext fun j => r5 0 i p j (by omega)).trans (omr_tag (by decide)))
          unfold SI
          rw [e0]
          exact hV.2.1
        · exact funext fun p => funext fun j => (congrFun (congrFun (congrFun (mset_tag (by omega)) _) p) j).trans ((r5 t _ p j (by omega)).trans (congrFun (congrFun (congrFun (omr_tag (by omega)) _) p) j))
        · obtain ⟨j, hj⟩ := r6
          exact ⟨j, (mset_k (by decide)).trans hj⟩
      refine hcl.congr fun t ht => ?_
      rw [zmem_tag (by omega)]
      unfold rgN
      rw [mset_tag (by omega), mSave_tag (by omega) (by omega)]
      unfold rgM
      rw [mset_tag (by omega), pmr_tag (by omega) (by omega)]
      rfl
theorem st_settledShare {l : Launch} {G : WG} (μ : Mem) (hI : Inv μ) : StE l G Inv yX3_settledShare cX3_settledShare 3 yX4_settledShare cX4_settledShare 1 .double (fun r => ∃ v, r = .double v ∧ Op.cmpValue (FP.dcmp v v) .l = 0) μ := by
  obtain ⟨a, ns, sc, h, L, t, hc, hr, hk⟩ := id hI
  have hM := C_X4_settledShare (l := l) (G := G) (μ := μ) rfl hr.1.zi
  rw [← q_share hc.1 hr.1 hk.1] at hM
  refine ⟨_, _, _, 4, 6, ⟨by decide, by decide⟩, ⟨_, rfl, ?_⟩, C_X3_settledShare (hc.1.CI hk.1), hM, inv_15 hI⟩
  have e : FP.dcmp (cShare μ a.n) (cShare μ a.n) = some .eq := FP.Core.dcmp_self shV_n
  rw [e]
  rfl
/-! the digest -/
theorem hPh_congr {P P' : Nat → Int32} {U U' : Nat → Nat → Int32} {W4 W4' : Nat → Int32} {I I' : Nat → Nat → Int32} {W W' B B' : Nat → Int32} {br br' due due' : Int32} {h : Int64} (h1 : ∀ k, k < 14 → P k = P' k) (h2 : ∀ u, u < 4 → ∀ k, k < 5 → U u k = U' u k) (h3 : ∀ u, u < 4 → W4 u = W4' u) (h4 : ∀ m, m < 4 → ∀ k, k < 3 → I m k = I' m k) (h5 : ∀ k, k < 4 → W k = W' k) (h6 : ∀ k, k < 3 → B k = B' k) (h7 : br = br') (h8 : due = due') : hPh P U W4 I W B br due h = hPh P' U' W4' I' W' B' br' due' h := by
  subst h7 h8
  have e2 : ∀ u, u < 4 → hUse U W4 u = hUse U' W4' u := fun u hu => by
    funext x
    unfold hUse
    rw [hxK_congr (fun k hk => h2 u hu k hk), h3 u hu]
  have e4 : ∀ m, m < 4 → (fun h => hxK (I m) h 3) = (fun h => hxK (I' m) h 3) := fun m hm => by
    funext x
    exact hxK_congr fun k hk => h4 m hm k hk
  unfold hPh
  rw [hxK_congr h1, hxO_congr 4 e2, hxO_congr (f := fun m h => hxK (I m) h 3) (g := fun m h => hxK (I' m) h 3) 4 e4, hxK_congr h5, hxK_congr h6]
theorem hDig_congr {C C' S S' : Nat → Int32} {n : Nat} {Ph Ph' : Nat → Int64 → Int64} {sur sur' urg urg' : Int32} {bits bits' : Int64} {L : Nat} {T T' : Nat → Int32} (h1 : ∀ k, k < 16 → C k = C' k) (h2 : ∀ k, k < 4 → S k = S' k) (h3 : ∀ p, p < n → Ph p = Ph' p) (h4 : sur = sur') (h5 : urg = urg') (h6 : bits = bits') (h7 : ∀ k, k < L → T k = T' k) : hDig C S n Ph sur urg bits L T = hDig C' S' n Ph' sur' urg' bits' L T' := by
  subst h4 h5 h6
  unfold hDig
  rw [hxK_congr h1, hxK_congr h2, hxO_congr n h3, hxK_congr h7]
set_option maxHeartbeats 1000000 in
theorem q_dig {μ : Mem} {a : ALw} {ns sc : Nat} {h : Nat → ALw} {L : Nat} {t : Nat → Int32} (hc : ClsI μ a ns sc h L t) (hr : RefI μ a sc h L t) (hk : OKs a ns sc h L) : cDig μ a.n L = mDig μ sc a.n L := by
  have hday := hk.1.day
  unfold cDig mDig
  refine hDig_congr (fun k hk9 => q_count hc.1 hr.1 hk.1 hc.2.1.2.2.1 hk9) (fun u hu => (hc.1.st u hu).trans (hr.1.st u hu).symm) (fun p hp => ?_) ?_ (q_urg hc.1 hr.1 hk.1 a.n (Nat.le_refl _)).1 (by rw [q_share hc.1 hr.1 hk.1]) (fun j hj => (hc.2.2.2.2.2 j hj).trans (hr.2.2.2.2 j hj).symm)
  · funext x
    unfold cPh mPh
    exact hPh_congr (fun w hw => q_phase hc.1 hr.1 hk.1 hp hw) (fun u hu w hw => q_use hc.1 hr.1 hk.1 hp hu hw) (fun u hu => q_why hc.1 hr.1 hk.1 hp hu (w := 4) (by decide)) (fun m _ w hw => q_inst hc.1 hr.1 hk.1 hp hw) (fun w hw => q_why hc.1 hr.1 hk.1 hp (u := 0) (by decide) (by omega)) (fun w hw => q_if hc.1 hr.1 hk.1 hp hw) (q_days hc.1 hr.1 hk.1 hp) (q_dueIn hc.1 hr.1 hk.1 hp (d := 100) (by decide))
  · exact (q_surIn hc.1 hk.1 (d := 200) (by decide)).trans (pass_M hr.1 hk.1.w 200 (by omega)).2.symm
theorem sum_le {f : Nat → Nat} {n : Nat} (hn : n ≤ 6) (h : ∀ k, k < n → f k ≤ 5988006) : sN f n ≤ 35928036 := by
  have h1 := sN_le (f := f) (g := fun _ => 5988006) n h
  have h2 := sN_mono (f := fun _ => 5988006) (m := n) 6 hn
  exact Nat.le_trans h1 (Nat.le_trans h2 (Nat.le_of_ble_eq_true rfl))
theorem OP.P_le {day n p : Nat} {rt : Nat → Nat} {x : APh} (h : OP day n p rt x) : x.P ≤ 5988006 ∧ x.Ld ≤ 5988006 := by
  cases e : x.beg with
  | false =>
    obtain ⟨-, -, h1, h2, -⟩ := h.un e
    rw [h1, h2]
    exact ⟨Nat.zero_le _, Nat.zero_le _⟩
  | true =>
    have h1 := (h.bg e).2.2.2.2.2.2
    have h2 := h.chg_le
    have h3 := h.su
    omega
theorem q_okSh {μ : Mem} {a : ALw} (hC : CR μ 0 a) (hK : OK a) : okSh (cShare μ a.n) := by
  have hn := hK.n
  have s6 : cSumOver μ 0 6 a.n = nI (sN (fun k => if cBegun μ 0 k = true then (a.ph k).P else 0) a.n) := sumB_nI a.n fun k hk _ => (hC.ph k (by omega)).P
  have s7 : cSumOver μ 0 7 a.n = nI (sN (fun k => if cBegun μ 0 k = true then (a.ph k).Ld else 0) a.n) := sumB_nI a.n fun k hk _ => (hC.ph k (by omega)).Ld
  have s9 : cSumOver μ 0 9 a.n = nI (sN (fun k => if cBegun μ 0 k = true then owd (a.ph k) else 0) a.n) := sumB_nI a.n fun k hk _ => cw_owed (hC.ph k (by omega)) (hK.ph k (by omega))
  have b6 := sum_le (f := fun k => if cBegun μ 0 k = true then (a.ph k).P else 0) hn fun k hk => by
    have := (hK.ph k (by omega)).P_le.1
    show (if _ then _ else _) ≤ _
    split <;> omega
  have b7 := sum_le (f := fun k => if cBegun μ 0 k = true then (a.ph k).Ld else 0) hn fun k hk => by
    have := (hK.ph k (by omega)).P_le.2
    show (if _ then _ else _) ≤ _
    split <;> omega
  have b9 := sum_le (f := fun k => if cBegun μ 0 k = true then owd (a.ph k) else 0) hn fun k hk => by
    have := (hK.ph k (by omega)).owd_le
    show (if _ then _ else _) ≤ _
    split <;> omega
  unfold cShare
  rw [s6, s7, s9]
  revert b6 b7 b9
  generalize sN (fun k => if cBegun μ 0 k = true then (a.ph k).P else 0) a.n = x6
  generalize sN (fun k => if cBegun μ 0 k = true then (a.ph k).Ld else 0) a.n = x7
  generalize sN (fun k => if cBegun μ 0 k = true then owd (a.ph k) else 0) a.n = x9
  intro b6 b7 b9
  rw [nI_add, nI_add]
  exact shV_ok (nI_toInt (by omega)) (nI_toInt (by omega)) (by omega)
theorem inv_kq {M : Mem} {k : Nat} (hI : Inv M) : Inv (kq M k) := by
  unfold kq
  cases decide (k = 0)
  · show Inv (kpK M 232)
    obtain ⟨a, ns, sc, h, L, t, hc, hr, hk⟩ := hI
    exact inv_mk hc (fun t ht => kpK_tag (by omega) _) (hr.congr (kpK_tag (by decide) _) (kpK_tag (by decide) _) (kpK_tag (by decide) _) (by rw [kpK_tag (by decide)]) (by rw [kpK_tag (by decide)])) hk
  · exact hI
theorem inv_ml {M : Mem} {k : Nat} {v : Int64} (h : Inv M) : Inv (mlset M k v) := h
set_option maxHeartbeats 1000000 in
theorem st_digest {l : Launch} {G : WG} (μ : Mem) (hI : Inv μ) : StE l G Inv yX3_digest cX3_digest 4 yX4_digest cX4_digest 2 .long (fun r => ∃ v, r = .long v) μ := by
  obtain ⟨a, ns, sc, h, L, t, hc, hr, hk⟩ := id hI
  have hC := C_X3_digest (l := l) (G := G) (hc.1.CI hk.1) hc.2.2.2.1 hk.2.2.2.2 (Ct_mono (by decide) (C_X3_bitsOfShare (q_okSh hc.1 hk.1)))
  have hM := C_X4_digest (l := l) (G := G) hr.1.zi hr.2.1 hr.2.2.2.1 hk.2.2.2.2
  rw [q_dig hc hr hk] at hC
  exact ⟨_, _, _, 6, 9, ⟨by decide, by decide⟩, ⟨_, rfl⟩, hC, hM, inv_ml (inv_kq (inv_15 hI))⟩
/-! ===== every call of the law ===== -/
theorem law_all {l : Launch} {G : WG} (hfl : l.stackTraces = false) : LawSt l G Inv := LawSt.mk (st_addPhase hfl) (st_area hfl) (st_exempt hfl) (st_rate hfl) (st_set hfl) (st_begin hfl) (st_pay hfl) (st_land hfl) (st_lapse hfl) (st_pass hfl) (st_append hfl) st_clearBuffer st_firstError (st_run hfl) (st_undo hfl) (st_phase hfl) (st_use hfl) (st_instalment hfl) (st_count hfl) (st_setting hfl) (st_whyNot hfl) (st_ifBegun hfl) (st_breaksIn hfl) (st_surchargesIn hfl) st_mostUrgent (st_dueIn hfl) st_settledShare st_digest
