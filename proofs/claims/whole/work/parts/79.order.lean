/-! ===== one order ===== -/
section TKROWS2
variable {nu : Int32} {rd d : Nat} {ps : Nat → Int32}
theorem ok53 (hd : d ≤ 5) : rOk (nI (48 + d)) (nI 48) (nI 53) = true := (rOk_d (lo := 0) (hi := 5) (by decide) (by decide)).mpr ⟨d, Nat.zero_le _, hd, rfl⟩
theorem tk_1a (hp : ps (4 * rd) = nI 97) (hd : d ≤ 5) : tkNext (nI (48 + d)) (rd, nu, 1, ps) = (true, (rd, nu, 2, upd ps (4 * rd + 1) (nI d))) := by
  rw [tk_1]
  unfold tkPhase
  rw [ok53 hd, show pLet (rd, nu, 1, ps) = nI 97 from hp, decide_eq_true rfl, sub48]
  rfl
theorem tk_1b (hp : ps (4 * rd) = nI 98) (hd : d ≤ 5) : tkNext (nI (48 + d)) (rd, nu, 1, ps) = (true, (rd, nu, 5, upd ps (4 * rd + 1) (nI d))) := by
  rw [tk_1]
  unfold tkPhase
  rw [ok53 hd, show pLet (rd, nu, 1, ps) = nI 98 from hp, decide_eq_false nLet.1, decide_eq_true rfl, sub48]
  rfl
theorem tk_1p (hp : ps (4 * rd) = nI 112) (hd : d ≤ 5) : tkNext (nI (48 + d)) (rd, nu, 1, ps) = (true, (rd, nu, 3, upd ps (4 * rd + 1) (nI d))) := by
  rw [tk_1]
  unfold tkPhase
  rw [ok53 hd, show pLet (rd, nu, 1, ps) = nI 112 from hp, decide_eq_false nLet.2.1, decide_eq_false nLet.2.2.1, sub48]
  rfl
theorem tk_1n {c : Nat → Int32} {L a : Nat} (h : isDig c L a 0 5 = false) (ha : a < L) : (tkNext (c a) (rd, nu, 1, ps)).1 = false := by
  rw [tk_1]
  show rOk (c a) (nI 48) (nI 53) = false
  cases e : rOk (c a) (nI 48) (nI 53) with
  | false => rfl
  | true =>
    have := (isDig_iff (c := c) (L := L) (a := a) (lo := 0) (hi := 5) (by decide) (by decide)).mpr ⟨ha, (rOk_d (lo := 0) (hi := 5) (by decide) (by decide)).mp e⟩
    rw [h] at this
    exact absurd this (by decide)
theorem uOk_n (hd : d ≤ 3) : uOk (nI d) = true := match d, hd with
  | 0, _ => by decide
  | 1, _ => by decide
  | 2, _ => by decide
  | 3, _ => by decide
  | n + 4, h => absurd h (by omega)
theorem tk_2t (hd : d ≤ 3) : tkNext (nI (48 + d)) (rd, nu, 2, ps) = (true, (rd, nu, 3, upd ps (4 * rd + 2) (nI d))) := by
  rw [tk_2]
  unfold tkUse
  rw [sub48, uOk_n hd]
theorem tk_2n {c : Nat → Int32} {L a : Nat} (h : isDig c L a 0 3 = false) (ha : a < L) : (tkNext (c a) (rd, nu, 2, ps)).1 = false := by
  rw [tk_2]
  show uOk (c a - nI 48) = false
  cases e : uOk (c a - nI 48) with
  | false => rfl
  | true =>
    obtain ⟨u, hu, h2⟩ := uOk_inv e
    have h3 := Int32.sub_add_cancel (c a) (nI 48)
    rw [h2, nI_add, Nat.add_comm] at h3
    have := (isDig_iff (c := c) (L := L) (a := a) (lo := 0) (hi := 3) (by decide) (by decide)).mpr ⟨ha, u, Nat.zero_le _, by omega, h3.symm⟩
    rw [h] at this
    exact absurd this (by decide)
theorem tk_3a (hp : ps (4 * rd) = nI 97) {c : Int32} : tkNext c (rd, nu, 3, ps) = (decide (c = nI 61), (rd, nu, 4, ps)) := by
  rw [tk_3]
  unfold tkMid
  rw [show pLet (rd, nu, 3, ps) = nI 97 from hp, decide_eq_true rfl]
  rfl
theorem tk_3p (hp : ps (4 * rd) = nI 112) {c : Int32} : tkNext c (rd, nu, 3, ps) = (decide (c = nI 58), (rd, nu, 4, ps)) := by
  rw [tk_3]
  unfold tkMid
  rw [show pLet (rd, nu, 3, ps) = nI 112 from hp, decide_eq_false nLet.2.1]
  rfl
end TKROWS2
section RDROWS
variable {c : Nat → Int32} {L : Nat} {s : RS} {ch : Int32}
theorem sg_t (h : s.1 < L) (e : c s.1 = ch) : rdSign c L s ch = (true, (s.1 + 1, s.2)) := by
  have h1 : isSgn c L s.1 ch = true := by
    unfold isSgn
    rw [decide_eq_true h, decide_eq_true e]
    rfl
  unfold rdSign
  rw [h1]
  rfl
theorem sg_f (h : s.1 < L → ¬ c s.1 = ch) : rdSign c L s ch = (false, s) := by
  have h1 : isSgn c L s.1 ch = false := by
    unfold isSgn
    by_cases q : s.1 < L
    · rw [decide_eq_false (h q), Bool.and_false]
    · rw [decide_eq_false q, Bool.false_and]
  unfold rdSign
  rw [h1]
  rfl
theorem ph_t (h : isDig c L s.1 0 5 = true) : ∃ d, d ≤ 5 ∧ s.1 < L ∧ c s.1 = nI (48 + d) ∧ rdPhase c L s = (true, (s.1 + 1, s.2.1, nI d, s.2.2.2)) := by
  obtain ⟨d, -, h1, h2, h3, h4, h5⟩ := dg_t (by decide) (by decide) h
  refine ⟨d, h1, h2, h3, ?_⟩
  unfold rdPhase
  rw [h4, h5, decide_eq_false (nI_m1 (by omega))]
  rfl
theorem ph_f (h : isDig c L s.1 0 5 = false) : rdPhase c L s = (false, (s.1, s.2.1, -1, s.2.2.2)) := by
  obtain ⟨h4, h5⟩ := dg_f h
  unfold rdPhase
  rw [h4, h5, decide_eq_true rfl]
  rfl
theorem us_t (h : isDig c L s.1 0 3 = true) : ∃ d, d ≤ 3 ∧ s.1 < L ∧ c s.1 = nI (48 + d) ∧ rdUse c L s = (true, (s.1 + 1, s.2.1, s.2.2.1, nI d, s.2.2.2.2)) := by
  obtain ⟨d, -, h1, h2, h3, h4, h5⟩ := dg_t (by decide) (by decide) h
  refine ⟨d, h1, h2, h3, ?_⟩
  unfold rdUse
  rw [h4, h5, decide_eq_false (nI_m1 (by omega))]
  rfl
theorem us_f (h : isDig c L s.1 0 3 = false) : rdUse c L s = (false, (s.1, s.2.1, s.2.2.1, -1, s.2.2.2.2)) := by
  obtain ⟨h4, h5⟩ := dg_f h
  unfold rdUse
  rw [h4, h5, decide_eq_true rfl]
  rfl
theorem ro_a (h : s.1 < L) (e : c s.1 = nI 97) : rdOrder c L s = andThen (rdPhase c L (s.1 + 1, nI 97, s.2.2)) fun s1 => andThen (rdUse c L s1) fun s2 => andThen (rdSign c L s2 (nI 61)) fun s3 => rdNum c L s3 0 3 := by
  unfold rdOrder
  rw [sg_t h e]
  rfl
theorem ro_b (h : s.1 < L) (e : c s.1 = nI 98) : rdOrder c L s = rdPhase c L (s.1 + 1, nI 98, s.2.2) := by
  unfold rdOrder
  rw [sg_f (ch := nI 97) (fun _ => by rw [e]; exact nLet.1)]
  show cond (rdSign c L s (nI 98)).1 _ _ = _
  rw [sg_t h e]
  rfl
theorem ro_p (h : s.1 < L) (e : c s.1 = nI 112) : rdOrder c L s = andThen (rdPhase c L (s.1 + 1, nI 112, s.2.2)) fun s1 => andThen (rdSign c L s1 (nI 58)) fun s2 => rdNum c L s2 1 5 := by
  unfold rdOrder
  rw [sg_f (ch := nI 97) (fun _ => by rw [e]; exact nLet.2.1)]
  show cond (rdSign c L s (nI 98)).1 _ (cond (rdSign c L (rdSign c L s (nI 98)).2 (nI 112)).1 (andThen (rdPhase c L (setKd (rdSign c L (rdSign c L s (nI 98)).2 (nI 112)).2 (nI 112))) _) _) = _
  rw [sg_f (ch := nI 98) (fun _ => by rw [e]; exact nLet.2.2.1)]
  show cond (rdSign c L s (nI 112)).1 (andThen (rdPhase c L (setKd (rdSign c L s (nI 112)).2 (nI 112))) _) _ = _
  rw [sg_t h e]
  rfl
theorem ro_d (h1 : s.1 < L → ¬ c s.1 = nI 97) (h2 : s.1 < L → ¬ c s.1 = nI 98) (h3 : s.1 < L → ¬ c s.1 = nI 112) : rdOrder c L s = andThen (rdSign c L (s.1, nI 100, s.2.2) (nI 100)) fun s1 => rdNum c L s1 1 2 := by
  unfold rdOrder
  rw [sg_f (ch := nI 97) h1]
  show cond (rdSign c L s (nI 98)).1 _ (cond (rdSign c L (rdSign c L s (nI 98)).2 (nI 112)).1 _ (andThen (rdSign c L (setKd (rdSign c L (rdSign c L s (nI 98)).2 (nI 112)).2 (nI 100)) (nI 100)) _)) = _
  rw [sg_f (ch := nI 98) h2]
  show cond (rdSign c L s (nI 112)).1 _ (andThen (rdSign c L (setKd (rdSign c L s (nI 112)).2 (nI 100)) (nI 100)) _) = _
  rw [sg_f (ch := nI 112) h3]
  rfl
end RDROWS
def ordP (rd : Nat) (ps : Nat → Int32) (q : RS) : Prop := ps (4 * rd) = q.2.1 ∧ ((q.2.1 = nI 97 ∧ (∃ p, p ≤ 5 ∧ q.2.2.1 = nI p) ∧ ps (4 * rd + 1) = q.2.2.1 ∧ (∃ u, u < 4 ∧ q.2.2.2.1 = nI u) ∧ ps (4 * rd + 2) = q.2.2.2.1 ∧ (∃ w, w ≤ 999 ∧ q.2.2.2.2 = nI w) ∧ ps (4 * rd + 3) = q.2.2.2.2)
  ∨ (q.2.1 = nI 98 ∧ (∃ p, p ≤ 5 ∧ q.2.2.1 = nI p) ∧ ps (4 * rd + 1) = q.2.2.1)
  ∨ (q.2.1 = nI 112 ∧ (∃ p, p ≤ 5 ∧ q.2.2.1 = nI p) ∧ ps (4 * rd + 1) = q.2.2.1 ∧ (∃ w, 1 ≤ w ∧ w ≤ 99999 ∧ q.2.2.2.2 = nI w) ∧ ps (4 * rd + 3) = q.2.2.2.2)
  ∨ (q.2.1 = nI 100 ∧ (∃ w, 1 ≤ w ∧ w ≤ 99 ∧ q.2.2.2.2 = nI w) ∧ ps (4 * rd + 3) = q.2.2.2.2))
def ordR (c : Nat → Int32) (L a : Nat) (S : PS) (rd : Nat) (ps : Nat → Int32) (q : Bool × RS) : Prop := (q.1 = true ∧ ∃ S' : PS, gT c L a S = gT c L q.2.1 S' ∧ S'.1 = rd ∧ isEnd S' = true ∧ (q.2.1 < L → ¬ c q.2.1 = nI 59 → (tkNext (c q.2.1) S').1 = false) ∧ a < q.2.1 ∧ q.2.1 ≤ L ∧ ordP rd S'.2.2.2 q.2 ∧ ∀ j, j < 4 * rd → S'.2.2.2 j = ps j) ∨ (q.1 = false ∧ (gT c L a S).1 = q.2.1 ∧ ¬ ((gT c L a S).1 = L ∧ isEnd (gT c L a S).2 = true))
theorem ordR_no {c : Nat → Int32} {L a b : Nat} {S S1 : PS} {rd : Nat} {ps : Nat → Int32} {q : Bool × RS} (h : gT c L a S = gT c L b S1) (hb : b ≤ L) (h1 : isEnd S1 = false) (h2 : b < L → (tkNext (c b) S1).1 = false) (h3 : q.1 = false) (h4 : q.2.1 = b) : ordR c L a S rd ps q := by
  have g := gT_no hb h1 h2
  rw [← h] at g
  exact Or.inr ⟨h3, by rw [h4]; exact g.1, g.2⟩
theorem isE_5 {rd : Nat} {nu : Int32} {ps : Nat → Int32} : isEnd (rd, nu, 5, ps) = true := rfl
theorem isE_4 {rd w : Nat} {ps : Nat → Int32} (h : w ≤ 99999) : isEnd (rd, nI w, 4, ps) = true := by
  unfold isEnd
  rw [decide_eq_false (nI_m1 (by omega))]
  rfl
theorem isE_n {rd : Nat} {ps : Nat → Int32} : isEnd (rd, -1, 4, ps) = false := by simp [isEnd]
theorem andThen_f {s : RS} {f : RS → Bool × RS} : andThen (false, s) f = (false, s) := rfl
theorem andThen_g {s : RS} {f : RS → Bool × RS} : andThen (true, s) f = f s := rfl
theorem letP_a {ps : Nat → Int32} {rd : Nat} (h : ps (4 * rd) = nI 97) : letP ps rd 0 999 := by
  unfold letP
  rw [h, decide_eq_true rfl]
  exact ⟨rfl, rfl⟩
theorem letP_p {ps : Nat → Int32} {rd : Nat} (h : ps (4 * rd) = nI 112) : letP ps rd 1 99999 := by
  unfold letP
  rw [h, decide_eq_false nLet.2.1, decide_eq_true rfl]
  exact ⟨rfl, rfl⟩
theorem letP_d {ps : Nat → Int32} {rd : Nat} (h : ps (4 * rd) = nI 100) : letP ps rd 1 99 := by
  unfold letP
  rw [h, decide_eq_false nLet.2.2.2.1, decide_eq_false nLet.2.2.2.2.2.1]
  exact ⟨rfl, rfl⟩
set_option maxHeartbeats 1000000 in
theorem ord_a {c : Nat → Int32} {L rd : Nat} {nu : Int32} {ps : Nat → Int32} {s : RS} (h : s.1 < L) (e : c s.1 = nI 97) : ordR c L s.1 (rd, nu, 0, ps) rd ps (rdOrder c L s) := by
  obtain ⟨a, kd, ph, us, nm⟩ := s
  change a < L at h
  change c a = nI 97 at e
  rw [ro_a (s := (a, kd, ph, us, nm)) h e]
  show ordR c L a (rd, nu, 0, ps) rd ps (andThen (rdPhase c L (a + 1, nI 97, ph, us, nm)) _)
  have g1 : gT c L a (rd, nu, 0, ps) = gT c L (a + 1) (rd, -1, 1, upd ps (4 * rd) (nI 97)) := gT_go h (by rw [e]; exact tk_ba)
  have p1 : (upd ps (4 * rd) (nI 97)) (4 * rd) = nI 97 := upd_at
  have q1 : ∀ j, j < 4 * rd → (upd ps (4 * rd) (nI 97)) j = ps j := fun j hj => upd_ne (by omega)
  revert g1 p1 q1
  generalize upd ps (4 * rd) (nI 97) = ps1
  intro g1 p1 q1
  cases e1 : isDig c L (a + 1) 0 5 with
  | false =>
    rw [ph_f (s := (a + 1, nI 97, ph, us, nm)) e1, andThen_f]
    exact ordR_no g1 h rfl (fun r => tk_1n e1 r) rfl rfl
  | true =>
    obtain ⟨d, hd, hL1, hc1, hr1⟩ := ph_t (s := (a + 1, nI 97, ph, us, nm)) e1
    rw [hr1, andThen_g]
    show ordR c L a (rd, nu, 0, ps) rd ps (andThen (rdUse c L (a + 1 + 1, nI 97, nI d, us, nm)) _)
    have g2 := g1.trans (gT_go hL1 (by rw [hc1]; exact tk_1a p1 hd))
    have p2 : (upd ps1 (4 * rd + 1) (nI d)) (4 * rd) = nI 97 := (upd_ne (by omega)).trans p1
    have r2 : (upd ps1 (4 * rd + 1) (nI d)) (4 * rd + 1) = nI d := upd_at
    have q2 : ∀ j, j < 4 * rd → (upd ps1 (4 * rd + 1) (nI d)) j = ps j := fun j hj => (upd_ne (by omega)).trans (q1 j hj)
    revert g2 p2 q2 r2
    generalize upd ps1 (4 * rd + 1) (nI d) = ps2
    intro g2 p2 r2 q2
    cases e2 : isDig c L (a + 1 + 1) 0 3 with
    | false =>
      rw [us_f (s := (a + 1 + 1, nI 97, nI d, us, nm)) e2, andThen_f]
      exact ordR_no g2 hL1 rfl (fun r => tk_2n e2 r) rfl rfl
    | true =>
      obtain ⟨d2, hd2, hL2, hc2, hr2⟩ := us_t (s := (a + 1 + 1, nI 97, nI d, us, nm)) e2
      rw [hr2, andThen_g]
      show ordR c L a (rd, nu, 0, ps) rd ps (andThen (rdSign c L (a + 1 + 1 + 1, nI 97, nI d, nI d2, nm) (nI 61)) _)
      have g3 := g2.trans (gT_go hL2 (by rw [hc2]; exact tk_2t hd2))
      have p3 : (upd ps2 (4 * rd + 2) (nI d2)) (4 * rd) = nI 97 := (upd_ne (by omega)).trans p2
      have r3 : (upd ps2 (4 * rd + 2) (nI d2)) (4 * rd + 1) = nI d := (upd_ne (by omega)).trans r2
      have t3 : (upd ps2 (4 * rd + 2) (nI d2)) (4 * rd + 2) = nI d2 := upd_at
      have q3 : ∀ j, j < 4 * rd → (upd ps2 (4 * rd + 2) (nI d2)) j = ps j := fun j hj => (upd_ne (by omega)).trans (q2 j hj)
      revert g3 p3 q3 r3 t3
      generalize upd ps2 (4 * rd + 2) (nI d2) = ps3
      intro g3 p3 r3 t3 q3
      by_cases e3 : a + 1 + 1 + 1 < L ∧ c (a + 1 + 1 + 1) = nI 61
      · rw [sg_t (s := (a + 1 + 1 + 1, nI 97, nI d, nI d2, nm)) e3.1 e3.2, andThen_g]
        have g4 := g3.trans (gT_go e3.1 (S' := (rd, -1, 4, ps3)) (by rw [tk_3a p3, e3.2, decide_eq_true rfl]))
        rcases rdNum_G (c := c) (L := L) (rd := rd) (ps := ps3) (lo := 0) (M := 999) (m := 3) (by decide) (by decide) (by decide) (by decide) (s := (a + 1 + 1 + 1 + 1, nI 97, nI d, nI d2, nm)) e3.1 (letP_a p3) with ⟨k1, w, ps', k2, k3, k4, k5, k6, k7, k8, k9, k10⟩ | ⟨k1, k2, k3⟩
        · refine Or.inl ⟨k1, (rd, nI w, 4, ps'), g4.trans k5, rfl, isE_4 (by omega), k10, Nat.lt_trans (by omega) k6, k7, ⟨?_, Or.inl ⟨?_, ⟨d, hd, ?_⟩, ?_, ⟨d2, by omega, ?_⟩, ?_, ⟨w, k3, ?_⟩, ?_⟩⟩, fun j hj => (k9 j (by omega)).trans (q3 j hj)⟩
          · exact ((k9 _ (by omega)).trans p3).trans (congrArg (fun x => x.1) k4).symm
          · exact congrArg (fun x => x.1) k4
          · exact congrArg (fun x => x.2.1) k4
          · exact ((k9 _ (by omega)).trans r3).trans (congrArg (fun x => x.2.1) k4).symm
          · exact congrArg (fun x => x.2.2.1) k4
          · exact ((k9 _ (by omega)).trans t3).trans (congrArg (fun x => x.2.2.1) k4).symm
          · exact congrArg (fun x => x.2.2.2) k4
          · exact k8.trans (congrArg (fun x => x.2.2.2) k4).symm
        · exact ordR_no g4 e3.1 isE_n k3 k1 k2
      · rw [sg_f (s := (a + 1 + 1 + 1, nI 97, nI d, nI d2, nm)) (fun r1 r2 => e3 ⟨r1, r2⟩), andThen_f]
        exact ordR_no g3 hL2 rfl (fun r => by rw [tk_3a p3]; exact decide_eq_false fun r2 => e3 ⟨r, r2⟩) rfl rfl
set_option maxHeartbeats 1000000 in
theorem ord_b {c : Nat → Int32} {L rd : Nat} {nu : Int32} {ps : Nat → Int32} {s : RS} (h : s.1 < L) (e : c s.1 = nI 98) : ordR c L s.1 (rd, nu, 0, ps) rd ps (rdOrder c L s) := by
  obtain ⟨a, kd, ph, us, nm⟩ := s
  change a < L at h
  change c a = nI 98 at e
  rw [ro_b (s := (a, kd, ph, us, nm)) h e]
  show ordR c L a (rd, nu, 0, ps) rd ps (rdPhase c L (a + 1, nI 98, ph, us, nm))
  have g1 : gT c L a (rd, nu, 0, ps) = gT c L (a + 1) (rd, -1, 1, upd ps (4 * rd) (nI 98)) := gT_go h (by rw [e]; exact tk_bb)
  have p1 : (upd ps (4 * rd) (nI 98)) (4 * rd) = nI 98 := upd_at
  have q1 : ∀ j, j < 4 * rd → (upd ps (4 * rd) (nI 98)) j = ps j := fun j hj => upd_ne (by omega)
  revert g1 p1 q1
  generalize upd ps (4 * rd) (nI 98) = ps1
  intro g1 p1 q1
  cases e1 : isDig c L (a + 1) 0 5 with
  | false =>
    rw [ph_f (s := (a + 1, nI 98, ph, us, nm)) e1]
    exact ordR_no g1 h rfl (fun r => tk_1n e1 r) rfl rfl
  | true =>
    obtain ⟨d, hd, hL1, hc1, hr1⟩ := ph_t (s := (a + 1, nI 98, ph, us, nm)) e1
    rw [hr1]
    show ordR c L a (rd, nu, 0, ps) rd ps (true, (a + 1 + 1, nI 98, nI d, us, nm))
    have g2 := g1.trans (gT_go hL1 (by rw [hc1]; exact tk_1b p1 hd))
    have p2 : (upd ps1 (4 * rd + 1) (nI d)) (4 * rd) = nI 98 := (upd_ne (by omega)).trans p1
    have r2 : (upd ps1 (4 * rd + 1) (nI d)) (4 * rd + 1) = nI d := upd_at
    have q2 : ∀ j, j < 4 * rd → (upd ps1 (4 * rd + 1) (nI d)) j = ps j := fun j hj => (upd_ne (by omega)).trans (q1 j hj)
    exact Or.inl ⟨rfl, _, g2, rfl, rfl, fun r1 r2 => by rw [tk_5 r2], by show a < a + 1 + 1; omega, hL1, ⟨p2, Or.inr (Or.inl ⟨rfl, ⟨d, hd, rfl⟩, r2⟩)⟩, q2⟩
set_option maxHeartbeats 1000000 in
theorem ord_p {c : Nat → Int32} {L rd : Nat} {nu : Int32} {ps : Nat → Int32} {s : RS} (h : s.1 < L) (e : c s.1 = nI 112) : ordR c L s.1 (rd, nu, 0, ps) rd ps (rdOrder c L s) := by
  obtain ⟨a, kd, ph, us, nm⟩ := s
  change a < L at h
  change c a = nI 112 at e
  rw [ro_p (s := (a, kd, ph, us, nm)) h e]
  show ordR c L a (rd, nu, 0, ps) rd ps (andThen (rdPhase c L (a + 1, nI 112, ph, us, nm)) _)
  have g1 : gT c L a (rd, nu, 0, ps) = gT c L (a + 1) (rd, -1, 1, upd ps (4 * rd) (nI 112)) := gT_go h (by rw [e]; exact tk_bp)
  have p1 : (upd ps (4 * rd) (nI 112)) (4 * rd) = nI 112 := upd_at
  have q1 : ∀ j, j < 4 * rd → (upd ps (4 * rd) (nI 112)) j = ps j := fun j hj => upd_ne (by omega)
  revert g1 p1 q1
  generalize upd ps (4 * rd) (nI 112) = ps1
  intro g1 p1 q1
  cases e1 : isDig c L (a + 1) 0 5 with
  | false =>
    rw [ph_f (s := (a + 1, nI 112, ph, us, nm)) e1, andThen_f]
    exact ordR_no g1 h rfl (fun r => tk_1n e1 r) rfl rfl
  | true =>
    obtain ⟨d, hd, hL1, hc1, hr1⟩ := ph_t (s := (a + 1, nI 112, ph, us, nm)) e1
    rw [hr1, andThen_g]
    show ordR c L a (rd, nu, 0, ps) rd ps (andThen (rdSign c L (a + 1 + 1, nI 112, nI d, us, nm) (nI 58)) _)
    have g2 := g1.trans (gT_go hL1 (by rw [hc1]; exact tk_1p p1 hd))
    have p2 : (upd ps1 (4 * rd + 1) (nI d)) (4 * rd) = nI 112 := (upd_ne (by omega)).trans p1
    have r2 : (upd ps1 (4 * rd + 1) (nI d)) (4 * rd + 1) = nI d := upd_at
    have q2 : ∀ j, j < 4 * rd → (upd ps1 (4 * rd + 1) (nI d)) j = ps j := fun j hj => (upd_ne (by omega)).trans (q1 j hj)
    revert g2 p2 q2 r2
    generalize upd ps1 (4 * rd + 1) (nI d) = ps2
    intro g2 p2 r2 q2
    by_cases e3 : a + 1 + 1 < L ∧ c (a + 1 + 1) = nI 58
    · rw [sg_t (s := (a + 1 + 1, nI 112, nI d, us, nm)) e3.1 e3.2, andThen_g]
      have g4 := g2.trans (gT_go e3.1 (S' := (rd, -1, 4, ps2)) (by rw [tk_3p p2, e3.2, decide_eq_true rfl]))
      rcases rdNum_G (c := c) (L := L) (rd := rd) (ps := ps2) (lo := 1) (M := 99999) (m := 5) (by decide) (by decide) (by decide) (by decide) (s := (a + 1 + 1 + 1, nI 112, nI d, us, nm)) e3.1 (letP_p p2) with ⟨k1, w, ps', k2, k3, k4, k5, k6, k7, k8, k9, k10⟩ | ⟨k1, k2, k3⟩
      · refine Or.inl ⟨k1, (rd, nI w, 4, ps'), g4.trans k5, rfl, isE_4 (by omega), k10, Nat.lt_trans (by omega) k6, k7, ⟨?_, Or.inr (Or.inr (Or.inl ⟨?_, ⟨d, hd, ?_⟩, ?_, ⟨w, k2, k3, ?_⟩, ?_⟩))⟩, fun j hj => (k9 j (by omega)).trans (q2 j hj)⟩
        · exact ((k9 _ (by omega)).trans p2).trans (congrArg (fun x => x.1) k4).symm
        · exact congrArg (fun x => x.1) k4
        · exact congrArg (fun x => x.2.1) k4
        · exact ((k9 _ (by omega)).trans r2).trans (congrArg (fun x => x.2.1) k4).symm
        · exact congrArg (fun x => x.2.2.2) k4
        · exact k8.trans (congrArg (fun x => x.2.2.2) k4).symm
      · exact ordR_no g4 e3.1 isE_n k3 k1 k2
    · rw [sg_f (s := (a + 1 + 1, nI 112, nI d, us, nm)) (fun r1 r2 => e3 ⟨r1, r2⟩), andThen_f]
      exact ordR_no g2 hL1 rfl (fun r => by rw [tk_3p p2]; exact decide_eq_false fun r2 => e3 ⟨r, r2⟩) rfl rfl
set_option maxHeartbeats 1000000 in
theorem ord_d {c : Nat → Int32} {L rd : Nat} {nu : Int32} {ps : Nat → Int32} {s : RS} (hL : s.1 ≤ L) (h1 : s.1 < L → ¬ c s.1 = nI 97) (h2 : s.1 < L → ¬ c s.1 = nI 98) (h3 : s.1 < L → ¬ c s.1 = nI 112) : ordR c L s.1 (rd, nu, 0, ps) rd ps (rdOrder c L s) := by
  rw [ro_d h1 h2 h3]
  obtain ⟨a, kd, ph, us, nm⟩ := s
  change a ≤ L at hL
  change a < L → _ at h1
  change a < L → _ at h2
  change a < L → _ at h3
  show ordR c L a (rd, nu, 0, ps) rd ps (andThen (rdSign c L (a, nI 100, ph, us, nm) (nI 100)) _)
  by_cases e3 : a < L ∧ c a = nI 100
  · rw [sg_t (s := (a, nI 100, ph, us, nm)) e3.1 e3.2, andThen_g]
    have g1 : gT c L a (rd, nu, 0, ps) = gT c L (a + 1) (rd, -1, 4, upd ps (4 * rd) (nI 100)) := gT_go e3.1 (by rw [e3.2]; exact tk_bd)
    have p1 : (upd ps (4 * rd) (nI 100)) (4 * rd) = nI 100 := upd_at
    have q1 : ∀ j, j < 4 * rd → (upd ps (4 * rd) (nI 100)) j = ps j := fun j hj => upd_ne (by omega)
    revert g1 p1 q1
    generalize upd ps (4 * rd) (nI 100) = ps1
    intro g1 p1 q1
    rcases rdNum_G (c := c) (L := L) (rd := rd) (ps := ps1) (lo := 1) (M := 99) (m := 2) (by decide) (by decide) (by decide) (by decide) (s := (a + 1, nI 100, ph, us, nm)) e3.1 (letP_d p1) with ⟨k1, w, ps', k2, k3, k4, k5, k6, k7, k8, k9, k10⟩ | ⟨k1, k2, k3⟩
    · refine Or.inl ⟨k1, (rd, nI w, 4, ps'), g1.trans k5, rfl, isE_4 (by omega), k10, Nat.lt_trans (by omega) k6, k7, ⟨?_, Or.inr (Or.inr (Or.inr ⟨?_, ⟨w, k2, k3, ?_⟩, ?_⟩))⟩, fun j hj => (k9 j (by omega)).trans (q1 j hj)⟩
      · exact ((k9 _ (by omega)).trans p1).trans (congrArg (fun x => x.1) k4).symm
      · exact congrArg (fun x => x.1) k4
      · exact congrArg (fun x => x.2.2.2) k4
      · exact k8.trans (congrArg (fun x => x.2.2.2) k4).symm
    · exact ordR_no g1 e3.1 isE_n k3 k1 k2
  · rw [sg_f (s := (a, nI 100, ph, us, nm)) (fun r1 r2 => e3 ⟨r1, r2⟩), andThen_f]
    exact ordR_no rfl hL rfl (fun r => tk_bn (h1 r) (h2 r) (h3 r) (fun r2 => e3 ⟨r, r2⟩)) rfl rfl
theorem ord_G {c : Nat → Int32} {L rd : Nat} {nu : Int32} {ps : Nat → Int32} {s : RS} (hL : s.1 ≤ L) : ordR c L s.1 (rd, nu, 0, ps) rd ps (rdOrder c L s) := by
  by_cases h1 : s.1 < L ∧ c s.1 = nI 97
  · exact ord_a h1.1 h1.2
  · by_cases h2 : s.1 < L ∧ c s.1 = nI 98
    · exact ord_b h2.1 h2.2
    · by_cases h3 : s.1 < L ∧ c s.1 = nI 112
      · exact ord_p h3.1 h3.2
      · exact ord_d hL (fun q r => h1 ⟨q, r⟩) (fun q r => h2 ⟨q, r⟩) (fun q r => h3 ⟨q, r⟩)
/-! ===== the next order, the whole row ===== -/
/-- where the reference stands between two orders -/
def posG (c : Nat → Int32) (L a : Nat) (S : PS) : Prop := (a = 0 ∧ S.2.2.1 = 0) ∨ (0 < a ∧ isEnd S = true ∧ (a < L → ¬ c a = nI 59 → (tkNext (c a) S).1 = false))
def nxR (a : Nat) (S : PS) : Nat := if a = 0 then S.1 else S.1 + 1
theorem next_G {c : Nat → Int32} {L : Nat} {S : PS} {s : RS} (h : s.1 < L ∨ s.1 = 0) (hp : posG c L s.1 S) : ordR c L s.1 S (nxR s.1 S) S.2.2.2 (rdNext c L s) := by
  obtain ⟨rd, nu, du, ps⟩ := S
  rcases hp with ⟨h0, h1⟩ | ⟨h0, h1, h2⟩
  · change du = 0 at h1
    subst h1
    have e : rdNext c L s = rdOrder c L s := by
      unfold rdNext
      rw [decide_eq_true h0]
      rfl
    have e2 : nxR s.1 (rd, nu, 0, ps) = rd := if_pos h0
    rw [e, e2]
    exact ord_G (by omega)
  · have hL : s.1 < L := by omega
    have e : rdNext c L s = andThen (rdSign c L s (nI 59)) fun s1 => rdOrder c L s1 := by
      unfold rdNext
      rw [decide_eq_false (by omega)]
      rfl
    have e2 : nxR s.1 (rd, nu, du, ps) = rd + 1 := if_neg (by omega)
    rw [e, e2]
    by_cases q : c s.1 = nI 59
    · rw [sg_t hL q, andThen_g]
      have g1 : gT c L s.1 (rd, nu, du, ps) = gT c L (s.1 + 1) (rd + 1, nu, 0, ps) := gT_go hL (by rw [q]; exact tk_59 h1)
      rcases ord_G (c := c) (L := L) (rd := rd + 1) (nu := nu) (ps := ps) (s := (s.1 + 1, s.2)) hL with ⟨k1, S', k2, k3, k4, k5, k6, k7, k8, k9⟩ | ⟨k1, k2, k3⟩
      · have k6' : s.1 + 1 < (rdOrder c L (s.1 + 1, s.2)).2.1 := k6
        exact Or.inl ⟨k1, S', g1.trans k2, k3, k4, k5, by omega, k7, k8, fun j hj => k9 j hj⟩
      · exact Or.inr ⟨k1, by rw [g1]; exact k2, by rw [g1]; exact k3⟩
    · rw [sg_f (fun _ => q), andThen_f]
      refine Or.inr ⟨rfl, ?_, ?_⟩
      · rw [gT_step hL, h2 hL q]
        rfl
      · rw [gT_step hL, h2 hL q]
        intro r
        have r1 : s.1 = L := r.1
        omega
theorem row_G {c : Nat → Int32} {L : Nat} : ∀ (f : Nat) (s : RS) (S : PS), L ≤ s.1 + f → 0 < s.1 → s.1 ≤ L → posG c L s.1 S → (gT c L s.1 S).1 = (rowK c L f (true, s)).2.1 ∧ ((gT c L s.1 S).1 = L ∧ isEnd (gT c L s.1 S).2 = true ↔ (rowK c L f (true, s)).1 = true) := by
  intro f
  induction f with
  | zero =>
    intro s S h1 h2 h3 hp
    have e : s.1 = L := by omega
    rcases hp with ⟨h0, -⟩ | ⟨-, h4, -⟩
    · omega
    · show (gT c L s.1 S).1 = s.1 ∧ (_ ↔ true = true)
      rw [e, gT_end]
      exact ⟨rfl, fun _ => rfl, fun _ => ⟨rfl, h4⟩⟩
  | succ f ih =>
    intro s S h1 h2 h3 hp
    by_cases q : s.1 < L
    · have e : rowK c L (f + 1) (true, s) = rowK c L f (rdNext c L s) := by
        show cond (true && decide (s.1 < L)) _ _ = _
        rw [decide_eq_true q]
        rfl
      rw [e]
      rcases next_G (Or.inl q) hp with ⟨k1, S', k2, k3, k4, k5, k6, k7, -, -⟩ | ⟨k1, k2, k3⟩
      · have e2 : rdNext c L s = (true, (rdNext c L s).2) := Prod.ext k1 rfl
        rw [k2, e2]
        exact ih (rdNext c L s).2 S' (by omega) (by omega) k7 (Or.inr ⟨by omega, k4, k5⟩)
      · have e2 : rowK c L f (rdNext c L s) = rdNext c L s := by
          cases f with
          | zero => rfl
          | succ f =>
            show cond ((rdNext c L s).1 && _) _ _ = _
            rw [k1]
            rfl
        rw [e2]
        exact ⟨k2, fun r => absurd r k3, fun r => by rw [k1] at r; exact absurd r (by decide)⟩
    · have e : s.1 = L := by omega
      have e1 : rowK c L (f + 1) (true, s) = (true, s) := by
        show cond (true && decide (s.1 < L)) _ _ = _
        rw [decide_eq_false q]
        rfl
      rw [e1]
      rcases hp with ⟨h0, -⟩ | ⟨-, h4, -⟩
      · omega
      · rw [e, gT_end]
        exact ⟨rfl, fun _ => rfl, fun _ => ⟨rfl, h4⟩⟩
/-- the whole text: both find the same place, and take the same rows for whole -/
theorem text_G {c : Nat → Int32} {L : Nat} (hL : L ≤ 60) {s : RS} {nu : Int32} {ps : Nat → Int32} : (gT c L 0 (0, nu, 0, ps)).1 = (rdRow c L s).2.1 ∧ ((gT c L 0 (0, nu, 0, ps)).1 = L ∧ isEnd (gT c L 0 (0, nu, 0, ps)).2 = true ↔ (rdRow c L s).1 = true) := by
  unfold rdRow
  rcases next_G (c := c) (L := L) (S := (0, nu, 0, ps)) (s := (0, s.2)) (Or.inr rfl) (Or.inl ⟨rfl, rfl⟩) with ⟨k1, S', k2, k3, k4, k5, k6, k7, -, -⟩ | ⟨k1, k2, k3⟩
  · have e2 : rdNext c L (0, s.2) = (true, (rdNext c L (0, s.2)).2) := Prod.ext k1 rfl
    change gT c L 0 (0, nu, 0, ps) = _ at k2
    rw [k2, e2]
    exact row_G 60 (rdNext c L (0, s.2)).2 S' (by omega) k6 k7 (Or.inr ⟨k6, k4, k5⟩)
  · have e2 : rowK c L 60 (rdNext c L (0, s.2)) = rdNext c L (0, s.2) := by
      show cond ((rdNext c L (0, s.2)).1 && _) _ _ = _
      rw [k1]
      rfl
    rw [e2]
    exact ⟨k2, fun r => absurd r k3, fun r => by rw [k1] at r; exact absurd r (by decide)⟩
theorem rgK_ext {t c : Nat → Int32} : ∀ f k s, (∀ j, k ≤ j → j < k + f → t j = c j) → rgK t f k s = rgK c f k s
  | 0, _, _, _ => rfl
  | f + 1, k, s, h => by
    show cond (tkNext (t k) s).1 (rgK t f (k + 1) (tkNext (t k) s).2) (k, (tkNext (t k) s).2) = cond (tkNext (c k) s).1 (rgK c f (k + 1) (tkNext (c k) s).2) (k, (tkNext (c k) s).2)
    rw [h k (Nat.le_refl _) (by omega), rgK_ext f (k + 1) _ fun j h1 h2 => h j (by omega) (by omega)]
