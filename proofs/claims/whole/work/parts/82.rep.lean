/-! ===== where everything lies when the three are made: the memory at the start ===== -/
def lmA (i : Nat) : Nat := if i = 0 then 1 else 46 * i + 2
def ofA (t i p : Nat) : Nat := match t with
  | 0 => 0
  | 1 => 47
  | 2 => 324
  | 3 => 325
  | 4 => lmA i + 0
  | 5 => lmA i + 1
  | 6 => lmA i + 2
  | 7 => lmA i + 3
  | 8 => lmA i + 4 + 7 * p + 0
  | 9 => lmA i + 4 + 7 * p + 1
  | 10 => lmA i + 4 + 7 * p + 2
  | 11 => lmA i + 4 + 7 * p + 3
  | 12 => lmA i + 4 + 7 * p + 4
  | 13 => lmA i + 4 + 7 * p + 5
  | 14 => lmA i + 4 + 7 * p + 6
  | 15 => 326
  | 16 => 327
  | 17 => 328
  | 18 => 329
  | 19 => 330
  | 20 => 331
  | _ => 332
def dmB (t i p : Nat) : Bool := ((decide (4 ≤ t) && decide (t ≤ 7)) && decide (p = 0)) || (decide (8 ≤ t) && decide (t ≤ 14)) || ((decide (i = 0) && decide (p = 0)) && (decide (t ≤ 3) || decide (15 ≤ t)))
def decA (v : Nat) : Nat × Nat × Nat :=
  if v = 0 then (0, 0, 0) else if v = 47 then (1, 0, 0) else if v = 324 then (2, 0, 0) else if v = 325 then (3, 0, 0) else if 326 ≤ v then (v - 311, 0, 0)
  else if (v - lmA (if v < 47 then 0 else (v - 2) / 46)) < 4 then (4 + (v - lmA (if v < 47 then 0 else (v - 2) / 46)), (if v < 47 then 0 else (v - 2) / 46), 0)
  else (8 + (v - lmA (if v < 47 then 0 else (v - 2) / 46) - 4) % 7, (if v < 47 then 0 else (v - 2) / 46), (v - lmA (if v < 47 then 0 else (v - 2) / 46) - 4) / 7)
def okA : Bool := (List.range 22).all fun t => (List.range 7).all fun i => (List.range 6).all fun p => !(dmB t i p) || (decide (decA (ofA t i p) = (t, i, p)) && decide (ofA t i p < 333))
theorem okA_t : okA = true := by decide +kernel
theorem dec_ok (t : Nat) (ht : t < 22) (i : Nat) (hi : i < 7) (p : Nat) (hp : p < 6) (h : dmB t i p = true) : decA (ofA t i p) = (t, i, p) ∧ ofA t i p < 333 := by
  have h1 := List.all_eq_true.mp (List.all_eq_true.mp (List.all_eq_true.mp okA_t t (List.mem_range.mpr ht)) i (List.mem_range.mpr hi)) p (List.mem_range.mpr hp)
  rw [h, Bool.not_true, Bool.false_or, Bool.and_eq_true, decide_eq_true_eq, decide_eq_true_eq] at h1
  exact h1
theorem dm_B {t i p : Nat} (h : dm t i p) : t < 22 ∧ i < 7 ∧ p < 6 ∧ dmB t i p = true := by
  unfold dm at h
  refine ⟨by omega, by omega, by omega, ?_⟩
  unfold dmB
  simp only [Bool.or_eq_true, Bool.and_eq_true, decide_eq_true_eq]
  omega
theorem dm_dec {t i p : Nat} (h : dm t i p) : decA (ofA t i p) = (t, i, p) ∧ ofA t i p < 333 := by
  obtain ⟨h1, h2, h3, h4⟩ := dm_B h
  exact dec_ok t h1 i h2 p h3 h4
def GA (D : va_G) (dA : Nat → ClassId) (b0 : Nat) : WG := (D, dA, fun t i p => b0 + ofA t i p)
theorem GA_inj {D : va_G} {dA : Nat → ClassId} {b0 : Nat} : Inj (GA D dA b0) := by
  intro t i p t' i' p' h h' e
  have e1 : ofA t i p = ofA t' i' p' := Nat.add_left_cancel (show b0 + ofA t i p = b0 + ofA t' i' p' from e)
  have e2 := (dm_dec h).1
  rw [e1, (dm_dec h').1] at e2
  cases e2
  exact ⟨rfl, rfl, rfl⟩
theorem GA_AG {D : va_G} {dA : Nat → ClassId} {b0 : Nat} : ∀ q, AG (GA D dA b0) q → AB b0 q := by
  rintro q ⟨t, i, p, -, rfl⟩
  show b0 ≤ b0 + ofA t i p
  omega
def muA : Mem := (fun t _ _ k => match t with
  | 5 => firR k
  | 6 => firS k
  | 8 => if k = 6 then -1 else 0
  | 16 => moZ k
  | _ => 0, fun _ => 0)
theorem arrV_ext {c : ClassId} {N : Nat} {f g : Nat → Value} (h : ∀ j, j < N → f j = g j) : arrV c N f = arrV c N g := by
  unfold arrV
  have e : (fun j : Fin N => f j.val) = (fun j : Fin N => g j.val) := funext fun j => h j.val j.isLt
  rw [e]
theorem at_q {D : va_G} {cl : List vw_C} {a N : Nat} {c : ClassId} {f g : Nat → Option Nat} {H : Heap} (h : ∀ j, j < N → f j = g j) (ha : va_at D cl (a, .inl (c, N, .inr (.inr (.inr (.inr f))))) H) : va_at D cl (a, .inl (c, N, .inr (.inr (.inr (.inr g))))) H := by
  have h1 : H[a]? = some (vp_cell c (N, .inr (.inr (.inr (.inr f))))) := ha
  show H[a]? = some (vp_cell c (N, .inr (.inr (.inr (.inr g)))))
  rw [h1, vp_cell_q, vp_cell_q, arrV_ext (f := fun j => va_rf (f j)) (g := fun j => va_rf (g j)) fun j hj => by rw [h j hj]]
section REPA
variable {G : WG} {b0 : Nat} {w w1 w3 : Nat → va_E}
theorem wLv (h1 : ∀ q, q < 326 → w q = lpE G b0 0 1 w1 q) {i r : Nat} (hi : i < 7) (hr : r < 46) : w (lmA i + r) = lvB G b0 (lmA i) (lmA i + r) := by
  by_cases h0 : i = 0
  · subst h0
    have e : lmA 0 = 1 := rfl
    rw [e, h1 _ (by omega)]
    unfold lpE
    rw [if_neg (by omega), if_neg (by omega), if_neg (by omega)]
    unfold lpW
    rw [if_neg (by omega), if_pos (by omega)]
  · have e : lmA i = 46 * i + 2 := if_neg h0
    rw [e, h1 _ (by omega)]
    unfold lpE
    rw [if_neg (by omega), if_neg (by omega), if_neg (by omega)]
    unfold lpW
    rw [if_neg (by omega), if_neg (by omega), if_neg (by omega), if_pos (by omega), show 1 + 47 + 46 * ((46 * i + 2 + r - (1 + 47)) / 46) = 46 * i + 2 by omega]
theorem lvB_0 {m : Nat} : lvB G b0 m (m + 0) = .inr (0, lvF b0 (m + 1) 3) := if_pos rfl
theorem lvB_1 {m : Nat} : lvB G b0 m (m + 1) = ratA G := by
  unfold lvB lvW
  rw [if_neg (by omega), if_pos rfl]
theorem lvB_2 {m : Nat} : lvB G b0 m (m + 2) = setA G := by
  unfold lvB lvW
  rw [if_neg (by omega), if_neg (by omega), if_pos rfl]
theorem lvB_3 {m : Nat} : lvB G b0 m (m + 3) = lvQ G b0 (m + 1) 6 := by
  unfold lvB lvW
  rw [if_neg (by omega), if_neg (by omega), if_neg (by omega), if_pos rfl]
theorem lvB_8 {m p : Nat} (hp : p < 6) : lvB G b0 m (m + (4 + 7 * p)) = .inr (2, phO b0 (m + (4 + 7 * p) + 1)) := by
  unfold lvB lvW
  rw [if_neg (by omega), if_neg (by omega), if_neg (by omega), if_neg (by omega), if_pos (by omega), if_pos (by omega)]
theorem lvB_9 {m p r : Nat} (hp : p < 6) (h1 : 1 ≤ r) (h2 : r ≤ 6) : lvB G b0 m (m + (4 + 7 * p + r)) = zero4 G := by
  unfold lvB lvW
  rw [if_neg (by omega), if_neg (by omega), if_neg (by omega), if_neg (by omega), if_pos (by omega), if_neg (by omega)]
theorem w_9 (h1 : ∀ q, q < 326 → w q = lpE G b0 0 1 w1 q) {i p r : Nat} (hi : i < 7) (hp : p < 6) (hr : 1 ≤ r) (hr6 : r ≤ 6) : w (lmA i + 4 + 7 * p + r) = zero4 G := by
  rw [show lmA i + 4 + 7 * p + r = lmA i + (4 + 7 * p + r) by omega, wLv h1 hi (by omega)]
  exact lvB_9 hp hr hr6
theorem w_8 (h1 : ∀ q, q < 326 → w q = lpE G b0 0 1 w1 q) {i p : Nat} (hi : i < 7) (hp : p < 6) : w (lmA i + 4 + 7 * p + 0) = .inr (2, phO b0 (lmA i + 4 + 7 * p + 1)) := by
  rw [show lmA i + 4 + 7 * p + 0 = lmA i + (4 + 7 * p) by omega, wLv h1 hi (by omega), lvB_8 hp, show lmA i + (4 + 7 * p) + 1 = lmA i + 4 + 7 * p + 1 by omega]
end REPA
set_option maxHeartbeats 1000000 in
theorem repA {D : va_G} {dA : Nat → ClassId} {b0 : Nat} {w w1 w3 : Nat → va_E} {H : Heap} (hH : HI (GA D dA b0) b0 333 w H) (h1 : ∀ q, q < 326 → w q = lpE (GA D dA b0) b0 0 1 w1 q) (h2 : ∀ q, 326 ≤ q → q < 332 → w q = moE (GA D dA b0) b0 326 327 w3 q) (h3 : w 332 = .inl (dA 3, 1, .inr (.inl (fun _ => 0)))) : Rep (GA D dA b0) muA H := by
  refine ⟨fun t i p hd => ?_, GA_inj, fun i p _ _ => Or.inl rfl⟩
  have hlt := (dm_dec hd).2
  have ha : va_at D vwCl (b0 + ofA t i p, w (ofA t i p)) H := hH.2 _ hlt
  show va_at D vwCl (b0 + ofA t i p, ct (GA D dA b0) muA t i p) H
  unfold dm at hd
  have ht : t < 22 := by omega
  match t, ht, hd, ha with
  | 0, _, hd, ha =>
    have e : w (ofA 0 i p) = .inr (3, lpF b0 1 3) := (h1 0 (by decide)).trans (if_pos rfl)
    rw [e] at ha
    exact ha
  | 1, _, hd, ha =>
    have e : w (ofA 1 i p) = svQ (GA D dA b0) b0 1 6 := by
      refine (h1 47 (by decide)).trans ?_
      unfold lpE
      rw [if_neg (by decide), if_neg (by decide), if_neg (by decide)]
      exact lpW_q (by decide)
    rw [e] at ha
    refine at_q (fun j hj => ?_) ha
    show svRefs b0 1 6 j = some (b0 + ofA 4 (j + 1) 0)
    unfold svRefs
    rw [if_pos hj]
    show some (b0 + (1 + 47 + 46 * j)) = some (b0 + (46 * (j + 1) + 2 + 0))
    congr 1
    omega
  | 2, _, hd, ha =>
    have e : w (ofA 2 i p) = .inr (1, orF b0 325 1) := by
      refine (h1 324 (by decide)).trans ?_
      unfold lpE
      rw [if_neg (by decide), if_pos rfl]
    rw [e] at ha
    exact ha
  | 3, _, hd, ha =>
    have e : w (ofA 3 i p) = zeroN (GA D dA b0) 60 := by
      refine (h1 325 (by decide)).trans ?_
      unfold lpE
      rw [if_neg (by decide), if_neg (by decide), if_pos rfl]
    rw [e] at ha
    exact ha
  | 4, _, hd, ha =>
    have e : w (ofA 4 i p) = .inr (0, lvF b0 (lmA i + 1) 3) := (wLv h1 (r := 0) (by omega) (by decide)).trans lvB_0
    rw [e] at ha
    exact ha
  | 5, _, hd, ha =>
    have e : w (ofA 5 i p) = ratA (GA D dA b0) := (wLv h1 (r := 1) (by omega) (by decide)).trans lvB_1
    rw [e] at ha
    exact ha
  | 6, _, hd, ha =>
    have e : w (ofA 6 i p) = setA (GA D dA b0) := (wLv h1 (r := 2) (by omega) (by decide)).trans lvB_2
    rw [e] at ha
    exact ha
  | 7, _, hd, ha =>
    have e : w (ofA 7 i p) = lvQ (GA D dA b0) b0 (lmA i + 1) 6 := (wLv h1 (r := 3) (by omega) (by decide)).trans lvB_3
    rw [e] at ha
    refine at_q (fun j hj => ?_) ha
    show lvRefs b0 (lmA i + 1) 6 j = some (b0 + ofA 8 i j)
    unfold lvRefs
    rw [if_pos hj]
    show some (b0 + (lmA i + 1 + 3 + 7 * j)) = some (b0 + (lmA i + 4 + 7 * j + 0))
    congr 1
  | 8, _, hd, ha =>
    have e : w (ofA 8 i p) = .inr (2, phO b0 (lmA i + 4 + 7 * p + 1)) := w_8 h1 (by omega) (by omega)
    rw [e] at ha
    exact ha
  | 9, _, hd, ha =>
    have e : w (ofA 9 i p) = zero4 (GA D dA b0) := w_9 h1 (by omega) (by omega) (by decide) (by decide)
    rw [e] at ha
    exact ha
  | 10, _, hd, ha =>
    have e : w (ofA 10 i p) = zero4 (GA D dA b0) := w_9 h1 (by omega) (by omega) (by decide) (by decide)
    rw [e] at ha
    exact ha
  | 11, _, hd, ha =>
    have e : w (ofA 11 i p) = zero4 (GA D dA b0) := w_9 h1 (by omega) (by omega) (by decide) (by decide)
    rw [e] at ha
    exact ha
  | 12, _, hd, ha =>
    have e : w (ofA 12 i p) = zero4 (GA D dA b0) := w_9 h1 (by omega) (by omega) (by decide) (by decide)
    rw [e] at ha
    exact ha
  | 13, _, hd, ha =>
    have e : w (ofA 13 i p) = zero4 (GA D dA b0) := w_9 h1 (by omega) (by omega) (by decide) (by decide)
    rw [e] at ha
    exact ha
  | 14, _, hd, ha =>
    have e : w (ofA 14 i p) = zero4 (GA D dA b0) := w_9 h1 (by omega) (by omega) (by decide) (by decide)
    rw [e] at ha
    exact ha
  | 15, _, hd, ha =>
    have e : w (ofA 15 i p) = .inr (4, moF b0 327 5) := by
      refine (h2 326 (by decide) (by decide)).trans ?_
      unfold moE
      rw [if_neg (by decide)]
      exact moW_at
    rw [e] at ha
    exact ha
  | 16, _, hd, ha =>
    have e : w (ofA 16 i p) = .inl (dA 0, 232, .inl moZ) := (h2 327 (by decide) (by decide)).trans (if_pos rfl)
    rw [e] at ha
    exact ha
  | 17, _, hd, ha =>
    have e : w (ofA 17 i p) = zeroN (GA D dA b0) 1392 := by
      refine (h2 328 (by decide) (by decide)).trans ?_
      unfold moE moW
      rw [if_neg (by decide), if_neg (by decide), if_pos (by decide)]
      rfl
    rw [e] at ha
    exact ha
  | 18, _, hd, ha =>
    have e : w (ofA 18 i p) = zeroN (GA D dA b0) 60 := by
      refine (h2 329 (by decide) (by decide)).trans ?_
      unfold moE moW
      rw [if_neg (by decide), if_neg (by decide), if_pos (by decide)]
      rfl
    rw [e] at ha
    exact ha
  | 19, _, hd, ha =>
    have e : w (ofA 19 i p) = zeroN (GA D dA b0) 88 := by
      refine (h2 330 (by decide) (by decide)).trans ?_
      unfold moE moW
      rw [if_neg (by decide), if_neg (by decide), if_pos (by decide)]
      rfl
    rw [e] at ha
    exact ha
  | 20, _, hd, ha =>
    have e : w (ofA 20 i p) = zeroN (GA D dA b0) 232 := by
      refine (h2 331 (by decide) (by decide)).trans ?_
      unfold moE moW
      rw [if_neg (by decide), if_neg (by decide), if_pos (by decide)]
      rfl
    rw [e] at ha
    exact ha
  | 21, _, hd, ha =>
    have e : w (ofA 21 i p) = .inl (dA 3, 1, .inr (.inl (fun _ => 0))) := h3
    rw [e] at ha
    exact ha
  | n + 22, h, _, _ => exact absurd h (by omega)
