theorem Ct_mono {l : Launch} {G : WG} {d d2 : Nat} {y : MethodName} {cc : ByteArray} {nL : Nat} {ret : Option FieldType} {av : List Value} {μ : Mem} {r : Option Value} {μ' : Mem} (hd : d ≤ d2) (h : Ct l G d y cc nL ret av μ r μ') : Ct l G d2 y cc nL ret av μ r μ' := by
  intro p e ha hc hk s m args below hf happ hP hK
  refine h p e ha hc hk s m args below hf ?_ hP hK
  rw [Spec.appliesLoose_iff hf] at happ ⊢
  obtain ⟨a1, a2, a3, a4, a5, a6, a7, a8⟩ := happ
  refine ⟨a1, a2, a3, a4, a5, a6, ?_, a8⟩
  have b : s.hasRoom e.platform (rmD d2) = true := a7
  have hs : s.frames.length + d2 ≤ e.platform.maxFrames ∧ _ ∧ s.localsInUse + 34 * d2 ≤ e.platform.maxStackSlots ∧ _ := State.hasRoom_stack b
  have hr : s.localsInUse + 34 * d2 + stackMargin ≤ realStackBytes / 8 := State.hasRoom_real b
  have h0 : s.slotsTrue = true := by
    rw [State.hasRoom, Bool.and_eq_true] at b
    exact b.2
  exact State.hasRoom_of (State.hasRoom_plain b) (show s.frames.length + d ≤ _ by omega) (show s.localsInUse + 34 * d ≤ _ by omega) (State.hasRoom_heap b).1 (State.hasRoom_heap b).2 h0 (show s.localsInUse + 34 * d + stackMargin ≤ _ by omega)
theorem begK_ZI {z : Zr} {p n : Nat} (h : ZI z n) : ∀ k, k ≤ 4 → ZI (begK z p k) n
  | 0, _ => h
  | k + 1, hk => ((begK_ZI h k (by omega)).zput (by omega) (by omega)).zput (by omega) (by omega)
theorem ZI_parts {z : Zr} {p n v : Nat} (h : ZI z n) (hv : v ≤ 4) : ZI (zput z p 17 (nI v)) n := by
  refine ⟨(zput_ne (by omega)).trans h.1, h.2.1, fun q hq => ?_⟩
  by_cases e : q = p
  · subst e
    have hm : mo (zput z q 17 (nI v)) q 17 = nI v := zput_at
    have hz : zp (zput z q 17 (nI v)) q = v := by
      show (mo (zput z q 17 (nI v)) q 17).toNatClampNeg = v
      rw [hm]; exact nI_clamp (by omega)
    rw [hm, hz]; exact ⟨rfl, hv⟩
  · have hm : mo (zput z p 17 (nI v)) q 17 = mo z q 17 := zput_ne (by omega)
    have hz : zp (zput z p 17 (nI v)) q = zp z q := congrArg Int32.toNatClampNeg (zput_ne (by omega))
    rw [hm, hz]; exact h.2.2 q hq
theorem begP_ZI {z : Zr} {p n : Nat} {s : Int32} (h : ZI z n) : ∀ k, k ≤ 4 → ZI (begP z p s k) n
  | 0, _ => h
  | k + 1, hk => (((begP_ZI h k (by omega)).zput (by omega) (by omega)).zput (by omega) (by omega)).zput (by omega) (by omega)
theorem zBegins_ZI {z : Zr} {p n : Nat} (h : ZI z n) : ZI (zBegins z p) n := begP_ZI (ZI_parts ((begK_ZI h 4 (by omega)).zput (by omega) (by omega)) (partsN_le _).2) _ (partsN_le _).2
theorem zTakes_ZI {z : Zr} {p n w : Nat} {m : Int32} (h : ZI z n) (hp : p < 6) (hw : w < 37) (h17 : w ≠ 17) : ZI (zTakes z p m w) n :=
  ((((takeK_ZI h _ (h.2.2 p hp).2).1.zadd (by omega) (by omega)).zadd (by omega) (by omega)).zadd hw h17)
theorem zArea_ZI {z : Zr} {p n u : Nat} {a : Int32} (h : ZI z n) (hu : u < 4) : ZI (zArea z p u a) n := (h.zput (by omega) (by omega)).zput (by omega) (by omega)
theorem mcP_ZI {ps : Nat → Int32} {z : Zr} {n k : Nat} (h : ZI z n) (ho : oOk ps k) : ZI (mcP ps z n k).2 n := by
  unfold mcP mCarry
  cases c1 : decide (ps (4 * k) = nI 100)
  · rw [cond_false]
    cases c2 : mCanC z n (ps (4 * k)) (ps (4 * k + 1))
    · exact h
    · rw [cond_true]
      have hh : cHas n (ps (4 * k + 1)) = true := by
        unfold mCanC at c2
        rw [Bool.and_eq_true] at c2
        exact c2.1
      obtain ⟨p, hp, e⟩ := cHas_inv hh h.2.1
      have hcl : (ps (4 * k + 1)).toNatClampNeg = p := by rw [e]; exact nI_clamp (Nat.lt_of_lt_of_le hp (Nat.le_trans h.2.1 (by decide)))
      have hp6 : p < 6 := Nat.lt_of_lt_of_le hp h.2.1
      rw [hcl]
      cases c3 : decide (ps (4 * k) = nI 97)
      · rw [cond_false]
        cases decide (ps (4 * k) = nI 98)
        · exact zTakes_ZI h hp6 (by omega) (by omega)
        · exact zBegins_ZI h
      · obtain ⟨u, hu, eu⟩ := ho.2 (of_decide_eq_true c3)
        have : (ps (4 * k + 2)).toNatClampNeg = u := by rw [eu]; exact nI_clamp (by omega)
        rw [cond_true, this]
        exact zArea_ZI h hu
  · rw [cond_true]
    show ZI (cond _ _ _) n
    cases mLeft z (ps (4 * k + 3))
    · exact h
    · exact dpsK_ZI h _
theorem upd_at {f : Nat → Int32} {k : Nat} {v : Int32} : upd f k v k = v := pk_us
theorem rOk_0 {v b : Int32} (h : rOk v (nI 1) b = true) : rOk v (nI 0) b = true := by
  unfold rOk at h ⊢
  rw [Bool.and_eq_true, Bool.not_eq_true', decide_eq_false_iff_not] at h ⊢
  refine ⟨fun q => h.1 ?_, h.2⟩
  have e0 : (nI 0).toInt = 0 := rfl
  have e1 : (nI 1).toInt = 1 := rfl
  rw [Int32.lt_iff_toInt_lt] at q ⊢
  rw [e0] at q
  rw [e1]
  omega
theorem oOk_upd {ps : Nat → Int32} {k j : Nat} {v : Int32} (h : oOk ps k) (hj : 4 * k + 3 < j) : oOk (upd ps j v) k := by
  unfold oOk
  rw [upd_ne (by omega), upd_ne (by omega), upd_ne (by omega)]
  exact h
def pJd (s : PS) : Prop := match s.2.2.1 with
  | 0 => True
  | 1 => ¬ pLet s = nI 100
  | 2 => ¬ pLet s = nI 100
  | 3 => ¬ pLet s = nI 100 ∧ (pLet s = nI 97 → ∃ u, u < 4 ∧ s.2.2.2 (4 * s.1 + 2) = nI u)
  | 4 => (pLet s = nI 97 → ∃ u, u < 4 ∧ s.2.2.2 (4 * s.1 + 2) = nI u) ∧ (pLet s = nI 100 → s.2.1 = -1 ∨ ∃ d, d < 2 ^ 31 ∧ s.2.2.2 (4 * s.1 + 3) = nI d)
  | _ => ¬ pLet s = nI 100 ∧ ¬ pLet s = nI 97
def pJ (s : PS) : Prop := (∀ k, k < s.1 → oOk s.2.2.2 k) ∧ pJd s
theorem pJ_end {s : PS} (h : pJ s) (he : isEnd s = true) : oOk s.2.2.2 s.1 := by
  obtain ⟨rd, nu, du, ps⟩ := s
  simp only [isEnd, Bool.or_eq_true, Bool.and_eq_true, decide_eq_true_eq, Bool.not_eq_true', decide_eq_false_iff_not] at he
  rcases he with rfl | ⟨rfl, h3⟩
  · exact ⟨fun q => absurd q h.2.1, fun q => absurd q h.2.2⟩
  · exact ⟨fun q => (h.2.2 q).resolve_left h3, h.2.1⟩
theorem tkNext_J {c : Int32} {s : PS} (hd : s.2.2.1 ≤ 5) (h : pJ s) (ht : (tkNext c s).1 = true) : pJ (tkNext c s).2 := by
  obtain ⟨rd, nu, du, ps⟩ := s
  unfold tkNext at ht ⊢
  cases e : decide (c = nI 59) && isEnd (rd, nu, du, ps)
  · rw [e] at ht
    simp only [cond_false] at ht ⊢
    match du, hd with
    | 0, _ =>
      refine ⟨fun k hk => oOk_upd (h.1 k hk) (by show 4 * k + 3 < 4 * rd; have : k < rd := hk; omega), ?_⟩
      cases c1 : decide (c = nI 100)
      · simp only [tkBegin, c1, cond_false, pJd, pLet, upd_at]
        exact of_decide_eq_false c1
      · simp only [tkBegin, c1, cond_true, pJd, pLet, upd_at]
        exact ⟨fun q => absurd (q.symm.trans (of_decide_eq_true c1)) (by decide), fun _ => by first | trivial | exact Or.inl trivial⟩
    | 1, _ =>
      refine ⟨fun k hk => oOk_upd (h.1 k hk) (by show 4 * k + 3 < 4 * rd + 1; have : k < rd := hk; omega), ?_⟩
      have e0 : ∀ du, pLet (rd, nu, du, upd ps (4 * rd + 1) (c - nI 48)) = ps (4 * rd) := fun _ => upd_ne (by omega)
      have h1 : ¬ ps (4 * rd) = nI 100 := h.2
      have h2 : pLet (rd, nu, 1, ps) = ps (4 * rd) := rfl
      simp only [tkPhase, h2]
      cases c1 : decide (ps (4 * rd) = nI 97)
      · cases c2 : decide (ps (4 * rd) = nI 98)
        · simp only [cond_false, pJd, e0]
          exact ⟨h1, fun q => absurd q (of_decide_eq_false c1)⟩
        · simp only [cond_false, cond_true, pJd, e0]
          exact ⟨h1, of_decide_eq_false c1⟩
      · simp only [cond_true, pJd, e0]
        exact h1
    | 2, _ =>
      refine ⟨fun k hk => oOk_upd (h.1 k hk) (by show 4 * k + 3 < 4 * rd + 2; have : k < rd := hk; omega), ?_⟩
      have e0 : upd ps (4 * rd + 2) (c - nI 48) (4 * rd) = ps (4 * rd) := upd_ne (by omega)
      simp only [tkUse, pLet, pJd, e0, upd_at]
      exact ⟨h.2, fun _ => uOk_inv ht⟩
    | 3, _ => exact ⟨h.1, h.2.2, fun q => absurd q h.2.1⟩
    | 4, _ =>
      refine ⟨fun k hk => oOk_upd (h.1 k hk) (by show 4 * k + 3 < 4 * rd + 3; have : k < rd := hk; omega), ?_⟩
      have e0 : upd ps (4 * rd + 3) (cond (dgI (c - nI 48) (rd, nu, 4, ps)) (dgW (c - nI 48) (rd, nu, 4, ps)) nu) (4 * rd) = ps (4 * rd) := upd_ne (by omega)
      have e2 : upd ps (4 * rd + 3) (cond (dgI (c - nI 48) (rd, nu, 4, ps)) (dgW (c - nI 48) (rd, nu, 4, ps)) nu) (4 * rd + 2) = ps (4 * rd + 2) := upd_ne (by omega)
      have ht2 : dgI (c - nI 48) (rd, nu, 4, ps) = true := ht
      simp only [tkDigit, pLet, pJd, e0, e2, upd_at]
      refine ⟨h.2.1, fun q => Or.inr ?_⟩
      rw [ht2, cond_true]
      have h9 := ht2
      simp only [dgI, Bool.and_eq_true] at h9
      obtain ⟨-, -, h9⟩ := h9
      have q1 : dgL (rd, nu, 4, ps) = 1 := by simp only [dgL, pLet, q]; rfl
      have q2 : dgM (rd, nu, 4, ps) = 99 := by simp only [dgM, pLet, q]; rfl
      rw [q1, q2] at h9
      have : rOk (dgW (c - nI 48) (rd, nu, 4, ps)) (nI 0) (nI 99) = true := rOk_0 h9
      obtain ⟨w, hw, ew⟩ := rOk_inv this (by decide)
      exact ⟨w, by omega, ew⟩
    | 5, _ => exact absurd (show false = true from ht) Bool.false_ne_true
  · simp only [cond_true]
    rw [Bool.and_eq_true] at e
    refine ⟨fun k hk => ?_, trivial⟩
    by_cases hr : k = rd
    · subst hr; exact pJ_end h e.2
    · exact h.1 k (by have : k < rd + 1 := hk; show k < rd; omega)
def rgS (μ : Mem) (L : Nat) : Nat × PS := rgK (μ.1 18 0 0) L 0 (0, μ.1 15 0 0 8, 0, μ.1 19 0 0)
theorem rgK_J {t : Nat → Int32} : ∀ f k s, pNeed s ≤ k → k + f ≤ 60 → s.2.2.1 ≤ 5 → pJ s → (rgK t f k s).1 = k + f → pJ (rgK t f k s).2 ∧ (rgK t f k s).2.1 ≤ 20 ∧ (rgK t f k s).2.2.2.1 ≤ 5
  | 0, k, s, hn, hk, hd, h, _ => ⟨h, pNeed_rd hn (by omega), hd⟩
  | f + 1, k, s, hn, hk, hd, h, he => by
    unfold rgK at he ⊢
    cases c : (tkNext (t k) s).1
    · rw [c, cond_false] at he
      exact absurd he (by show ¬ k = k + (f + 1); omega)
    · rw [c, cond_true] at he
      rw [cond_true]
      have q := tkNext_need hd hn c
      exact rgK_J f (k + 1) _ q.1 (by omega) q.2 (tkNext_J hd h c) (by omega)
theorem rgS_J {μ : Mem} {L : Nat} (hL : L ≤ 60) (h : (rgS μ L).1 = L) : pJ (rgS μ L).2 ∧ (rgS μ L).2.1 ≤ 20 ∧ (rgS μ L).2.2.2.1 ≤ 5 :=
  rgK_J L 0 _ (Nat.le_refl 0) (by omega) (Nat.zero_le 5) ⟨fun k hk => absurd hk (Nat.not_lt_zero k), trivial⟩ (h.trans (Nat.zero_add L).symm)
theorem rgK_le {t : Nat → Int32} : ∀ f k s, pNeed s ≤ k → k + f ≤ 60 → s.2.2.1 ≤ 5 → (rgK t f k s).1 ≤ k + f
  | 0, k, s, _, _, _ => Nat.le_refl k
  | f + 1, k, s, hn, hk, hd => by
    unfold rgK
    cases c : (tkNext (t k) s).1
    · rw [cond_false]; show k ≤ k + (f + 1); omega
    · rw [cond_true]
      have q := tkNext_need hd hn c
      have := rgK_le (t := t) f (k + 1) _ q.1 (by omega) q.2
      omega
/-- whether the text is a whole row of orders -/
def rgOk (μ : Mem) (L : Nat) : Bool := decide ((rgS μ L).1 = L) && isEnd (rgS μ L).2
/-- the memory behind the reading, with the code of the error -/
def rgM (μ : Mem) (L : Nat) (e : Nat) : Mem := mset (pmr μ (rgS μ L).2) 15 0 0 5 (nI e)
def rgN (μ : Mem) (L sc : Nat) : Mem := mset (mSave (rgM μ L 0) sc) 15 0 0 3 (nI 0)
def mRunS (μ : Mem) (L n : Nat) : Nat × Zr := mRunK (rgS μ L).2.2.2.2 n ((rgS μ L).2.1 + 1) 0 (μ.1 16 0 0)
theorem K_sts {l : Launch} {G : WG} {R : Room} {own : String} {cc : ByteArray} {nL : Nat} {ret : Option FieldType} {X : Code → Prop} {Z : Zz} {μ : Mem} {pc : Nat} {lv : Lv} {st st' : List Value} (e : st = st') (kk : K l G R own cc nL ret X Z μ pc lv st') : K l G R own cc nL ret X Z μ pc lv st := e ▸ kk
theorem mset_15 {μ : Mem} {k k' : Nat} {v : Int32} (h : k' ≠ k) : (mset μ 15 0 0 k v).1 15 0 0 k' = μ.1 15 0 0 k' := if_neg fun q => h q.2.2.2
theorem mSave_15 {μ : Mem} {sc k : Nat} (h : k ≠ 1) : (mSave μ sc).1 15 0 0 k = μ.1 15 0 0 k := by
  refine (mset_15 h).trans ((congrFun (congrFun (congrFun (svK_tag (by decide) _) 0) 0) k).trans ?_)
  unfold svM
  split
  · exact (mset_15 h).trans (congrFun (congrFun (congrFun (shK_tag (by decide) _) 0) 0) k)
  · rfl
theorem mSave_tag {μ : Mem} {sc t : Nat} (h : t ≠ 15) (h7 : t ≠ 17) : (mSave μ sc).1 t = μ.1 t := by
  refine (mset_tag h).trans ((svK_tag h7 _).trans ?_)
  unfold svM
  split
  · exact (mset_tag h).trans (shK_tag h7 _)
  · rfl
theorem rgN_7 {μ : Mem} {L sc : Nat} : (rgN μ L sc).1 15 0 0 7 = nI (rgS μ L).2.1 := (mset_15 (by decide)).trans ((mSave_15 (by decide)).trans ((mset_15 (by decide)).trans pmr_k))
theorem rgN_19 {μ : Mem} {L sc : Nat} : (rgN μ L sc).1 19 0 0 = (rgS μ L).2.2.2.2 := by
  rw [show (rgN μ L sc).1 19 = (pmr μ (rgS μ L).2).1 19 from (mset_tag (by decide)).trans ((mSave_tag (by decide) (by decide)).trans (mset_tag (by decide)))]
  exact pmr_19
theorem rgN_16 {μ : Mem} {L sc : Nat} : (rgN μ L sc).1 16 0 0 = μ.1 16 0 0 := by
  rw [show (rgN μ L sc).1 16 = μ.1 16 from (mset_tag (by decide)).trans ((mSave_tag (by decide) (by decide)).trans ((mset_tag (by decide)).trans (pmr_tag (by decide) (by decide))))]
