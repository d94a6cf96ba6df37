/-! ===== what holds at the start ===== -/
def rtN (u : Nat) : Nat := match u with
  | 0 => 100
  | 1 => 60
  | 2 => 30
  | _ => 0
def stN (u : Nat) : Nat := match u with
  | 0 => 60
  | 1 => 5
  | 2 => 700
  | _ => 50
def phN : APh := APh.mk false (fun _ => 0) (fun _ => 0) (fun _ => 0) (fun _ => 0) 0 0 0 (fun _ => 0) (fun _ => 0) 0 0 0 false 0 0
def aN : ALw := ALw.mk 0 0 rtN stN (fun _ => phN)
theorem z0 : (0 : Int32) = nI 0 := nI_0.symm
theorem mu8 {p k : Nat} : muA.1 8 0 p k = if k = 6 then -1 else 0 := rfl
theorem mu8z {p k : Nat} (h : k ≠ 6) : muA.1 8 0 p k = nI 0 := (mu8.trans (if_neg h)).trans z0
theorem noB {P : Prop} (h : phN.beg = true) : P := absurd (show false = true from h) (by decide)
theorem CP_N {p : Nat} : CP muA 0 p phN := CP.mk (fun _ _ => z0) (fun _ _ => z0) (fun _ _ => z0) (fun _ _ => z0) (mu8.trans (if_pos rfl)) (fun h => noB h) (mu8z (by decide)) (mu8z (by decide)) (mu8z (by decide)) (mu8z (by decide)) (mu8z (by decide)) (fun k hk => absurd hk (Nat.not_lt_zero k)) (fun k hk => absurd hk (Nat.not_lt_zero k))
theorem CR_N : CR muA 0 aN := ⟨z0, z0, lt4 (by decide) (by decide) (by decide) (by decide), lt4 (by decide) (by decide) (by decide) (by decide), fun _ _ => CP_N⟩
theorem moZ_far {k : Nat} (h : 8 ≤ k) : moZ k = 0 := by
  unfold moZ
  rw [upd_ne (by omega), upd_ne (by omega), upd_ne (by omega), upd_ne (by omega), upd_ne (by omega), upd_ne (by omega), upd_ne (by omega)]
theorem ZI_N : ZI moZ 0 := by
  refine ⟨(moZ_far (by decide)).trans z0, by decide, fun p _ => ?_⟩
  have e : mo moZ p 17 = 0 := moZ_far (by omega)
  have e2 : zp moZ p = 0 := by
    have e3 : moZ (10 + 37 * p + 17) = 0 := e
    unfold zp
    rw [e3]
    rfl
  rw [e2]
  exact ⟨e.trans z0, by decide⟩
theorem MR_N : MR moZ aN := ⟨by decide, ZI_N, lt4 (by decide) (by decide) (by decide) (by decide), lt4 (by decide) (by decide) (by decide) (by decide), fun p hp => absurd hp (Nat.not_lt_zero p)⟩
theorem OP_N {p : Nat} : OP 0 0 p rtN phN := ⟨fun _ _ => Nat.zero_le _, fun _ _ => Nat.le_refl _, fun _ _ => Nat.zero_le _, fun _ _ => Nat.zero_le _, fun _ => ⟨rfl, fun _ _ => rfl⟩, fun _ => ⟨rfl, fun _ _ => rfl, rfl, rfl, rfl, rfl, rfl, rfl⟩, fun _ h => absurd h (Nat.not_lt_zero p), fun h => noB h, fun _ k _ hk => absurd hk (Nat.not_lt_zero k), fun h => noB h, fun _ => ⟨rfl, rfl⟩, Nat.zero_le _⟩
theorem OK_N : OK aN := ⟨by decide, by decide, lt4 (by decide) (by decide) (by decide) (by decide), by decide, by decide, by decide, by decide, fun _ _ => OP_N⟩
theorem inv_N : Inv muA := by
  refine ⟨aN, 0, 0, fun _ => aN, 0, fun _ => 0, ⟨CR_N, ⟨z0, by decide, z0, by decide⟩, fun j hj => absurd hj (Nat.not_lt_zero j), z0, ⟨0, z0⟩, fun j hj => absurd hj (Nat.not_lt_zero j)⟩, ⟨MR_N, z0, fun j hj => absurd hj (Nat.not_lt_zero j), z0, fun j hj => absurd hj (Nat.not_lt_zero j)⟩, OK_N, by decide, by decide, fun j hj => absurd hj (Nat.not_lt_zero j), by decide⟩
