section STEPQ
variable {l : Launch} {G : WG} {yw : MethodName} {cw : ByteArray} {nw : Nat} {hh : List (Nat × Nat × Nat × Nat)} {ym : MethodName} {cm : ByteArray} {nm : Nat} {as : List Value} {μ : Mem} {d2 : Nat}
/-- a call that changes nothing but the note of what was thrown -/
theorem stw_qf {r : Int32} (hW : CtW l G 11 yw cw nw hh (.ref (adr G 0 0 0) :: (as ++ [.ref (adr G 21 0 0)])) μ 0 (mlset μ 1 r.toInt64)) (hM : ∀ M : Mem, M.1 16 0 0 = μ.1 16 0 0 → M.1 15 0 0 1 = μ.1 15 0 0 1 → Ct l G d2 ym cm nm (some .int) (.ref (adr G 15 0 0) :: as) M (some (.int r)) (mset M 15 0 0 5 (nI 0))) (hd : d2 ≤ 11) (hI : Inv μ) : StW l G Inv yw cw nw hh ym cm nm as μ :=
  stw_q hW (hM (mlset μ 1 r.toInt64) rfl rfl) hd hI
/-- .. and what was kept aside -/
theorem stw_qk {r : Int32} (hW : CtW l G 11 yw cw nw hh (.ref (adr G 0 0 0) :: (as ++ [.ref (adr G 21 0 0)])) μ 0 (mlset μ 1 r.toInt64)) (hM : ∀ M : Mem, M.1 16 0 0 = μ.1 16 0 0 → Ct l G d2 ym cm nm (some .int) (.ref (adr G 15 0 0) :: as) M (some (.int r)) (kpK (mset M 15 0 0 5 (nI 0)) 232)) (hd : d2 ≤ 11) (hI : Inv μ) : StW l G Inv yw cw nw hh ym cm nm as μ := by
  refine stw_any (μc := μ) hW (hM (mlset μ 1 r.toInt64) rfl) hd ?_ ?_ ?_
  · rw [kpK_tag (by decide)]
    exact mset_at
  · rw [kpK_2, ms_2]
  · have h15 := inv_15 (v := nI 0) (μ := mlset μ 1 r.toInt64) hI
    generalize mset (mlset μ 1 r.toInt64) 15 0 0 5 (nI 0) = M at h15
    obtain ⟨a, ns, sc, h, L, t, hc, hr, hk⟩ := h15
    exact inv_mk hc (fun t ht => kpK_tag (by omega) _) (hr.congr (kpK_tag (by decide) _) (kpK_tag (by decide) _) (kpK_tag (by decide) _) (by rw [kpK_tag (by decide)]) (by rw [kpK_tag (by decide)])) hk
end STEPQ
theorem C_X4_phaseA {l : Launch} {G : WG} {μ : Mem} {z : Zr} (hz : μ.1 16 0 0 = z) {n : Nat} (hZ : ZI z n) {p : Nat} (hp : p < n) {w : Nat} (hw : w < 14) : Ct l G 7 yX4_phase cX4_phase 3 (some .int) [.ref (adr G 15 0 0), .int (nI p), .int (nI w)] μ (some (.int (mPhase z p w))) (mset μ 15 0 0 5 (nI 0)) := match w, hw with
  | 0, _ => Ct_mono (by decide) (C_X4_phase0 hz hZ hp)
  | 1, _ => Ct_mono (by decide) (C_X4_phase1 hz hZ hp)
  | 2, _ => Ct_mono (by decide) (C_X4_phase2 hz hZ hp)
  | 3, _ => Ct_mono (by decide) (C_X4_phase3 hz hZ hp)
  | 4, _ => Ct_mono (by decide) (C_X4_phase4 hz hZ hp)
  | 5, _ => Ct_mono (by decide) (C_X4_phase5 hz hZ hp)
  | 6, _ => Ct_mono (by decide) (C_X4_phase6 hz hZ hp)
  | 7, _ => Ct_mono (by decide) (C_X4_phase7 hz hZ hp)
  | 8, _ => Ct_mono (by decide) (C_X4_phase8 hz hZ hp)
  | 9, _ => Ct_mono (by decide) (C_X4_phase9 hz hZ hp)
  | 10, _ => Ct_mono (by decide) (C_X4_phase10 hz hZ hp)
  | 11, _ => Ct_mono (by decide) (C_X4_phase11 hz hZ hp)
  | 12, _ => Ct_mono (by decide) (C_X4_phase12 hz hZ hp)
  | 13, _ => Ct_mono (by decide) (C_X4_phase13 hz hZ hp)
  | k + 14, h => absurd h (by omega)
theorem C_X4_useA {l : Launch} {G : WG} {μ : Mem} {z : Zr} (hz : μ.1 16 0 0 = z) {n : Nat} (hZ : ZI z n) {p : Nat} (hp : p < n) {u : Nat} (hu : u < 4) {w : Nat} (hw : w < 5) : Ct l G 5 yX4_use cX4_use 4 (some .int) [.ref (adr G 15 0 0), .int (nI p), .int (nI u), .int (nI w)] μ (some (.int (mUse z p u w))) (mset μ 15 0 0 5 (nI 0)) := match w, hw with
  | 0, _ => Ct_mono (by decide) (C_X4_use0 hz hZ hp hu)
  | 1, _ => Ct_mono (by decide) (C_X4_use1 hz hZ hp hu)
  | 2, _ => Ct_mono (by decide) (C_X4_use2 hz hZ hp hu)
  | 3, _ => Ct_mono (by decide) (C_X4_use3 hz hZ hp hu)
  | 4, _ => Ct_mono (by decide) (C_X4_use4 hz hZ hp hu)
  | k + 5, h => absurd h (by omega)
theorem C_X4_instalmentA {l : Launch} {G : WG} {μ : Mem} {z : Zr} (hz : μ.1 16 0 0 = z) {n : Nat} (hZ : ZI z n) {p : Nat} (hp : p < n) {k : Nat} (hk : k < 4) {w : Nat} (hw : w < 3) : Ct l G 2 yX4_instalment cX4_instalment 4 (some .int) [.ref (adr G 15 0 0), .int (nI p), .int (nI k), .int (nI w)] μ (some (.int (mInst z p k w))) (mset μ 15 0 0 5 (nI 0)) := match w, hw with
  | 0, _ => Ct_mono (by decide) (C_X4_instalment0 hz hZ hp hk)
  | 1, _ => Ct_mono (by decide) (C_X4_instalment1 hz hZ hp hk)
  | 2, _ => Ct_mono (by decide) (C_X4_instalment2 hz hZ hp hk)
  | k + 3, h => absurd h (by omega)
theorem C_X4_whyNotA {l : Launch} {G : WG} {μ : Mem} {z : Zr} (hz : μ.1 16 0 0 = z) {n : Nat} (hZ : ZI z n) {p : Nat} (hp : p < n) {u : Nat} (hu : u < 4) {w : Nat} (hw : w < 5) : Ct l G 8 yX4_whyNot cX4_whyNot 4 (some .int) [.ref (adr G 15 0 0), .int (nI w), .int (nI p), .int (nI u)] μ (some (.int (mWhy z p u w))) (mset μ 15 0 0 5 (nI 0)) := match w, hw with
  | 0, _ => Ct_mono (by decide) (C_X4_whyNot0 hz hZ hp hu)
  | 1, _ => Ct_mono (by decide) (C_X4_whyNot1 hz hZ hp hu)
  | 2, _ => Ct_mono (by decide) (C_X4_whyNot2 hz hZ hp hu)
  | 3, _ => Ct_mono (by decide) (C_X4_whyNot3 hz hZ hp hu)
  | 4, _ => Ct_mono (by decide) (C_X4_whyNot4 hz hZ hp hu)
  | k + 5, h => absurd h (by omega)
theorem C_X4_ifBegunA {l : Launch} {G : WG} {μ : Mem} {z : Zr} (hz : μ.1 16 0 0 = z) {n : Nat} (hZ : ZI z n) {p : Nat} (hp : p < n) {w : Nat} (hw : w < 3) : Ct l G 6 yX4_ifBegun cX4_ifBegun 3 (some .int) [.ref (adr G 15 0 0), .int (nI p), .int (nI w)] μ (some (.int (mThen z p w))) (mset μ 15 0 0 5 (nI 0)) := match w, hw with
  | 0, _ => Ct_mono (by decide) (C_X4_ifBegun0 hz hZ hp)
  | 1, _ => Ct_mono (by decide) (C_X4_ifBegun1 hz hZ hp)
  | 2, _ => Ct_mono (by decide) (C_X4_ifBegun2 hz hZ hp)
  | k + 3, h => absurd h (by omega)
theorem C_X4_countA {l : Launch} {G : WG} {μ : Mem} {z : Zr} (hz : μ.1 16 0 0 = z) {n : Nat} (hZ : ZI z n) {sc : Nat} (hs : μ.1 15 0 0 1 = nI sc) {w : Nat} (hw : w < 16) : Ct l G 8 yX4_count cX4_count 2 (some .int) [.ref (adr G 15 0 0), .int (nI w)] μ (some (.int (mCount z sc n w))) (mset μ 15 0 0 5 (nI 0)) := match w, hw with
  | 0, _ => Ct_mono (by decide) (C_X4_count0 hz hZ hs)
  | 1, _ => Ct_mono (by decide) (C_X4_count1 hz hZ hs)
  | 2, _ => Ct_mono (by decide) (C_X4_count2 hz hZ hs)
  | 3, _ => Ct_mono (by decide) (C_X4_count3 hz hZ hs)
  | 4, _ => Ct_mono (by decide) (C_X4_count4 hz hZ hs)
  | 5, _ => Ct_mono (by decide) (C_X4_count5 hz hZ hs)
  | 6, _ => Ct_mono (by decide) (C_X4_count6 hz hZ hs)
  | 7, _ => Ct_mono (by decide) (C_X4_count7 hz hZ hs)
  | 8, _ => Ct_mono (by decide) (C_X4_count8 hz hZ hs)
  | 9, _ => Ct_mono (by decide) (C_X4_count9 hz hZ hs)
  | 10, _ => Ct_mono (by decide) (C_X4_count10 hz hZ hs)
  | 11, _ => Ct_mono (by decide) (C_X4_count11 hz hZ hs)
  | 12, _ => Ct_mono (by decide) (C_X4_count12 hz hZ hs)
  | 13, _ => Ct_mono (by decide) (C_X4_count13 hz hZ hs)
  | 14, _ => Ct_mono (by decide) (C_X4_count14 hz hZ hs)
  | 15, _ => Ct_mono (by decide) (C_X4_count15 hz hZ hs)
  | k + 16, h => absurd h (by omega)
set_option maxHeartbeats 4000000 in
theorem st_phase {l : Launch} {G : WG} (hfl : l.stackTraces = false) (μ : Mem) (x y : Int32) (hI : Inv μ) : StW l G Inv yL_phase cL_phase 5 hh_phase yX4_phase cX4_phase 3 [.int x, .int y] μ := by
  obtain ⟨a, ns, sc, h, L, t, hc, hr, hk⟩ := id hI
  have hci := hc.1.CI hk.1
  have hS := hc.2.1
  have hz := hr.1.zi
  have hn6 := hk.1.n
  cases hx : cHas a.n x with
  | false =>
    exact stw_err (k := 1) (as := [.int x, .int y]) (by decide) (W_phase_IOB (T_X3_phase1 hfl hci hx) mk_X3_phase (by decide)) (C_X4_phase_e1 rfl hz hx) (by decide) hI
  | true =>
    obtain ⟨p, hp, rfl⟩ := cHas_inv hx hn6
    have hp6 : p < 6 := by omega
    have c := hc.1.ph p hp6
    have m := hr.1.ph p hp
    have o := hk.1.ph p hp6
    cases hvw : rOk y (nI 0) (nI 13) with
    | false =>
      exact stw_err (k := 2) (as := [.int (nI p), .int y]) (by decide) (W_phase_IAE (T_X3_phase2 hfl hci hp hvw) mk_X3_phase (by decide)) (C_X4_phase_e2 rfl hz hp hvw) (by decide) hI
    | true =>
      obtain ⟨w, rfl, -, hww⟩ := rOk_ex (by decide) (by decide) hvw
      exact stw_qf (as := [.int (nI p), .int (nI w)]) (W_phase (C_X3_phase hci hp (w := w) (by omega)) mk_X3_phase (by decide)) (fun M k1 k2 => ct_r ((q_phase hc.1 hr.1 hk.1 hp (by omega)).symm) (C_X4_phaseA k1 hz hp (by omega))) (by decide) hI
set_option maxHeartbeats 4000000 in
theorem st_use {l : Launch} {G : WG} (hfl : l.stackTraces = false) (μ : Mem) (x y v : Int32) (hI : Inv μ) : StW l G Inv yL_use cL_use 6 hh_use yX4_use cX4_use 4 [.int x, .int y, .int v] μ := by
  obtain ⟨a, ns, sc, h, L, t, hc, hr, hk⟩ := id hI
  have hci := hc.1.CI hk.1
  have hS := hc.2.1
  have hz := hr.1.zi
  have hn6 := hk.1.n
  cases hx : cHas a.n x with
  | false =>
    exact stw_err (k := 1) (as := [.int x, .int y, .int v]) (by decide) (W_use_IOB (T_X3_use1 hfl hci hx) mk_X3_use (by decide)) (C_X4_use_e1 rfl hz hx) (by decide) hI
  | true =>
    obtain ⟨p, hp, rfl⟩ := cHas_inv hx hn6
    have hp6 : p < 6 := by omega
    have c := hc.1.ph p hp6
    have m := hr.1.ph p hp
    have o := hk.1.ph p hp6
    cases hy : uOk y with
    | false =>
      exact stw_err (k := 1) (as := [.int (nI p), .int y, .int v]) (by decide) (W_use_IOB (T_X3_use2 hfl hci hp hy) mk_X3_use (by decide)) (C_X4_use_e2 rfl hz hp hy) (by decide) hI
    | true =>
      obtain ⟨u, hu, rfl⟩ := uOk_inv hy
      cases hvw : rOk v (nI 0) (nI 4) with
      | false =>
        exact stw_err (k := 2) (as := [.int (nI p), .int (nI u), .int v]) (by decide) (W_use_IAE (T_X3_use3 hfl hci hp hu hvw) mk_X3_use (by decide)) (C_X4_use_e3 rfl hz hp hu hvw) (by decide) hI
      | true =>
        obtain ⟨w, rfl, -, hww⟩ := rOk_ex (by decide) (by decide) hvw
        exact stw_qf (as := [.int (nI p), .int (nI u), .int (nI w)]) (W_use (C_X3_use hci hp hu (w := w) (by omega)) mk_X3_use (by decide)) (fun M k1 k2 => ct_r ((q_use hc.1 hr.1 hk.1 hp hu (by omega)).symm) (C_X4_useA k1 hz hp hu (by omega))) (by decide) hI
set_option maxHeartbeats 4000000 in
theorem st_instalment {l : Launch} {G : WG} (hfl : l.stackTraces = false) (μ : Mem) (x y v : Int32) (hI : Inv μ) : StW l G Inv yL_instalment cL_instalment 6 hh_instalment yX4_instalment cX4_instalment 4 [.int x, .int y, .int v] μ := by
  obtain ⟨a, ns, sc, h, L, t, hc, hr, hk⟩ := id hI
  have hci := hc.1.CI hk.1
  have hS := hc.2.1
  have hz := hr.1.zi
  have hn6 := hk.1.n
  cases hx : cHas a.n x with
  | false =>
    exact stw_err (k := 1) (as := [.int x, .int y, .int v]) (by decide) (W_instalment_IOB (T_X3_instalment1 hfl hci hx) mk_X3_instalment (by decide)) (C_X4_instalment_e1 rfl hz hx) (by decide) hI
  | true =>
    obtain ⟨p, hp, rfl⟩ := cHas_inv hx hn6
    have hp6 : p < 6 := by omega
    have c := hc.1.ph p hp6
    have m := hr.1.ph p hp
    have o := hk.1.ph p hp6
    cases hvk : rOk y (nI 0) (nI 3) with
    | false =>
      exact stw_err (k := 2) (as := [.int (nI p), .int y, .int v]) (by decide) (W_instalment_IAE (T_X3_instalment2 hfl hci hp hvk) mk_X3_instalment (by decide)) ((fun q => C_X4_instalment_e2 rfl hz hp (by rw [q]; rfl)) hvk) (by decide) hI
    | true =>
      obtain ⟨k, rfl, -, hwk⟩ := rOk_ex (by decide) (by decide) hvk
      cases hvw : rOk v (nI 0) (nI 2) with
      | false =>
        exact stw_err (k := 2) (as := [.int (nI p), .int (nI k), .int v]) (by decide) (W_instalment_IAE (T_X3_instalment3 hfl hci hp hvk hvw) mk_X3_instalment (by decide)) ((fun q => C_X4_instalment_e2 rfl hz hp (by rw [q, Bool.and_false])) hvw) (by decide) hI
      | true =>
        obtain ⟨w, rfl, -, hww⟩ := rOk_ex (by decide) (by decide) hvw
        exact stw_qf (as := [.int (nI p), .int (nI k), .int (nI w)]) (W_instalment (C_X3_instalment hci hp (k := k) (by omega) (w := w) (by omega)) mk_X3_instalment (by decide)) (fun M k1 k2 => ct_r ((q_inst hc.1 hr.1 hk.1 hp (by omega)).symm) (C_X4_instalmentA k1 hz hp (by omega) (by omega))) (by decide) hI
set_option maxHeartbeats 4000000 in
theorem st_count {l : Launch} {G : WG} (hfl : l.stackTraces = false) (μ : Mem) (x : Int32) (hI : Inv μ) : StW l G Inv yL_count cL_count 4 hh_count yX4_count cX4_count 2 [.int x] μ := by
  obtain ⟨a, ns, sc, h, L, t, hc, hr, hk⟩ := id hI
  have hci := hc.1.CI hk.1
  have hS := hc.2.1
  have hz := hr.1.zi
  have hn6 := hk.1.n
  cases hvw : rOk x (nI 0) (nI 15) with
  | false =>
    exact stw_err (k := 1) (as := [.int x]) (by decide) (W_count_IAE (T_X3_count1 hfl hvw) mk_X3_count (by decide)) (C_X4_count_e1 hvw) (by decide) hI
  | true =>
    obtain ⟨w, rfl, -, hww⟩ := rOk_ex (by decide) (by decide) hvw
    exact stw_qf (as := [.int (nI w)]) (W_count (C_X3_count hci (w := w) (by omega)) mk_X3_count (by decide)) (fun M k1 k2 => ct_r ((q_count hc.1 hr.1 hk.1 hS.2.2.1 (by omega)).symm) (C_X4_countA k1 hz (k2.trans hr.2.1) (by omega))) (by decide) hI
set_option maxHeartbeats 4000000 in
theorem st_setting {l : Launch} {G : WG} (hfl : l.stackTraces = false) (μ : Mem) (x : Int32) (hI : Inv μ) : StW l G Inv yL_setting cL_setting 4 hh_setting yX4_setting cX4_setting 2 [.int x] μ := by
  obtain ⟨a, ns, sc, h, L, t, hc, hr, hk⟩ := id hI
  have hci := hc.1.CI hk.1
  have hS := hc.2.1
  have hz := hr.1.zi
  have hn6 := hk.1.n
  cases hy : uOk x with
  | false =>
    exact stw_err (k := 1) (as := [.int x]) (by decide) (W_setting_IOB (T_X3_setting1 hfl hy) mk_X3_setting (by decide)) (C_X4_setting_e1 hy) (by decide) hI
  | true =>
    obtain ⟨u, hu, rfl⟩ := uOk_inv hy
    exact stw_qf (as := [.int (nI u)]) (W_setting (C_X3_setting hu) mk_X3_setting (by decide)) (fun M k1 k2 => ct_r ((hr.1.st u hu).trans (hc.1.st u hu).symm) (C_X4_setting k1 hz hu)) (by decide) hI
set_option maxHeartbeats 4000000 in
theorem st_whyNot {l : Launch} {G : WG} (hfl : l.stackTraces = false) (μ : Mem) (v x y : Int32) (hI : Inv μ) : StW l G Inv yL_whyNot cL_whyNot 6 hh_whyNot yX4_whyNot cX4_whyNot 4 [.int v, .int x, .int y] μ := by
  obtain ⟨a, ns, sc, h, L, t, hc, hr, hk⟩ := id hI
  have hci := hc.1.CI hk.1
  have hS := hc.2.1
  have hz := hr.1.zi
  have hn6 := hk.1.n
  cases hx : cHas a.n x with
  | false =>
    exact stw_err (k := 1) (as := [.int v, .int x, .int y]) (by decide) (W_whyNot_IOB (T_X3_whyNot1 hfl hci hx) mk_X3_whyNot (by decide)) (C_X4_whyNot_e1 rfl hz hx) (by decide) hI
  | true =>
    obtain ⟨p, hp, rfl⟩ := cHas_inv hx hn6
    have hp6 : p < 6 := by omega
    have c := hc.1.ph p hp6
    have m := hr.1.ph p hp
    have o := hk.1.ph p hp6
    cases hy : uOk y with
    | false =>
      exact stw_err (k := 1) (as := [.int v, .int (nI p), .int y]) (by decide) (W_whyNot_IOB (T_X3_whyNot2 hfl hci hp hy) mk_X3_whyNot (by decide)) (C_X4_whyNot_e2 rfl hz hp hy) (by decide) hI
    | true =>
      obtain ⟨u, hu, rfl⟩ := uOk_inv hy
      cases hvw : rOk v (nI 0) (nI 4) with
      | false =>
        exact stw_err (k := 2) (as := [.int v, .int (nI p), .int (nI u)]) (by decide) (W_whyNot_IAE (T_X3_whyNot3 hfl hci hp hu hvw) mk_X3_whyNot (by decide)) (C_X4_whyNot_e3 rfl hz hp hu hvw) (by decide) hI
      | true =>
        obtain ⟨w, rfl, -, hww⟩ := rOk_ex (by decide) (by decide) hvw
        exact stw_qf (as := [.int (nI w), .int (nI p), .int (nI u)]) (W_whyNot (C_X3_whyNot hci hp hu (w := w) (by omega)) mk_X3_whyNot (by decide)) (fun M k1 k2 => ct_r ((q_why hc.1 hr.1 hk.1 hp hu (by omega)).symm) (C_X4_whyNotA k1 hz hp hu (by omega))) (by decide) hI
set_option maxHeartbeats 4000000 in
theorem st_ifBegun {l : Launch} {G : WG} (hfl : l.stackTraces = false) (μ : Mem) (x y : Int32) (hI : Inv μ) : StW l G Inv yL_ifBegun cL_ifBegun 5 hh_ifBegun yX4_ifBegun cX4_ifBegun 3 [.int x, .int y] μ := by
  obtain ⟨a, ns, sc, h, L, t, hc, hr, hk⟩ := id hI
  have hci := hc.1.CI hk.1
  have hS := hc.2.1
  have hz := hr.1.zi
  have hn6 := hk.1.n
  cases hx : cHas a.n x with
  | false =>
    exact stw_err (k := 1) (as := [.int x, .int y]) (by decide) (W_ifBegun_IOB (T_X3_ifBegun1 hfl hci hx) mk_X3_ifBegun (by decide)) (C_X4_ifBegun_e1 rfl hz hx) (by decide) hI
  | true =>
    obtain ⟨p, hp, rfl⟩ := cHas_inv hx hn6
    have hp6 : p < 6 := by omega
    have c := hc.1.ph p hp6
    have m := hr.1.ph p hp
    have o := hk.1.ph p hp6
    cases hvw : rOk y (nI 0) (nI 2) with
    | false =>
      exact stw_err (k := 2) (as := [.int (nI p), .int y]) (by decide) (W_ifBegun_IAE (T_X3_ifBegun2 hfl hci hp hvw) mk_X3_ifBegun (by decide)) (C_X4_ifBegun_e2 rfl hz hp hvw) (by decide) hI
    | true =>
      obtain ⟨w, rfl, -, hww⟩ := rOk_ex (by decide) (by decide) hvw
      exact stw_qf (as := [.int (nI p), .int (nI w)]) (W_ifBegun (C_X3_ifBegun hci hp (w := w) (by omega)) mk_X3_ifBegun (by decide)) (fun M k1 k2 => ct_r ((q_if hc.1 hr.1 hk.1 hp (by omega)).symm) (C_X4_ifBegunA k1 hz hp (by omega))) (by decide) hI
set_option maxHeartbeats 4000000 in
theorem st_breaksIn {l : Launch} {G : WG} (hfl : l.stackTraces = false) (μ : Mem) (x : Int32) (hI : Inv μ) : StW l G Inv yL_breaksIn cL_breaksIn 4 hh_breaksIn yX4_breaksIn cX4_breaksIn 2 [.int x] μ := by
  obtain ⟨a, ns, sc, h, L, t, hc, hr, hk⟩ := id hI
  have hci := hc.1.CI hk.1
  have hS := hc.2.1
  have hz := hr.1.zi
  have hn6 := hk.1.n
  cases hx : cHas a.n x with
  | false =>
    exact stw_err (k := 1) (as := [.int x]) (by decide) (W_breaksIn_IOB (T_X3_breaksIn1 hfl hci hx) mk_X3_breaksIn (by decide)) (C_X4_breaksIn_e1 rfl hz hx) (by decide) hI
  | true =>
    obtain ⟨p, hp, rfl⟩ := cHas_inv hx hn6
    have hp6 : p < 6 := by omega
    have c := hc.1.ph p hp6
    have m := hr.1.ph p hp
    have o := hk.1.ph p hp6
    exact stw_qf (as := [.int (nI p)]) (W_breaksIn (C_X3_breaksIn hci hp) mk_X3_breaksIn (by decide)) (fun M k1 k2 => ct_r ((q_days hc.1 hr.1 hk.1 hp).symm) (C_X4_breaksIn k1 hz hp)) (by decide) hI
theorem q_surIn {μ : Mem} {a : ALw} (hC : CR μ 0 a) (hK : OK a) {d : Nat} (hd : d ≤ 1000) : cSurIn μ (nI d) a.n = nI (sumP (a.day + d) (a.st 1) a.ph a.n) := by
  unfold cSurIn sumP
  refine sumI_nI a.n fun p hp => ?_
  have hn := hK.n
  have c := hC.ph p (by omega)
  have o := hK.ph p (by omega)
  rw [cw_ins c o]
  exact cw_surW c o hC.day (by omega) (hC.st 1 (by decide)) hK.s1
theorem q_dueIn {μ : Mem} {z : Zr} {a : ALw} (hC : CR μ 0 a) (hM : MR z a) (hK : OK a) {p : Nat} (hp : p < a.n) {d : Nat} (hd : d ≤ 1000) : cDueIn μ p (nI d) = mDueNow (dpsK z a.n d).1 p := by
  have hn := hK.n
  have hday := hK.day
  have c := hC.ph p (by omega)
  have o := hK.ph p (by omega)
  obtain ⟨p3, -⟩ := pass_M hM hK.w d (by omega)
  have m2 : MP (dpsK z a.n d).1 p (brkP (a.day + d) (a.st 1) (a.ph p)) := p3.ph p hp
  have o2 := brkP_OP (D := a.day + d) o (Nat.le_add_right _ _) hK.s1
  have hd4 : (dpsK z a.n d).1 4 = nI (a.day + d) := p3.day
  rw [mw_dueNow m2 o2 (D := a.day + d) (by omega) hd4]
  unfold cDueIn
  rw [cw_ins c o, cw_within c o hC.day (by omega), cw_surW c o hC.day (by omega) (hC.st 1 (by decide)) hK.s1, cw_owed c o, hC.day, nI_add a.day, cw_due c o (by omega)]
  cases e : (canB (a.ph p) && decide (fdu (a.ph p) + 1 ≤ a.day + d)) with
  | false =>
    rw [brkP_f e]
    rfl
  | true =>
    rw [brkP_t e]
    rw [Bool.and_eq_true] at e
    obtain ⟨g1, g2, g3⟩ := canB_iff.mp e.1
    have h1 := (o.un2 g2).2
    show nI (owd (a.ph p)) + nI (if true = true then surA (a.st 1) (a.ph p) else 0) = nI ((a.ph p).lo + surA (a.st 1) (a.ph p) + sN (a.ph p).O (a.ph p).N)
    rw [if_pos rfl, nI_add]
    refine congrArg nI ?_
    unfold owd
    omega
set_option maxHeartbeats 4000000 in
theorem st_surchargesIn {l : Launch} {G : WG} (hfl : l.stackTraces = false) (μ : Mem) (x : Int32) (hI : Inv μ) : StW l G Inv yL_surchargesIn cL_surchargesIn 4 hh_surchargesIn yX4_surchargesIn cX4_surchargesIn 2 [.int x] μ := by
  obtain ⟨a, ns, sc, h, L, t, hc, hr, hk⟩ := id hI
  have hci := hc.1.CI hk.1
  have hS := hc.2.1
  have hz := hr.1.zi
  have hn6 := hk.1.n
  cases hvw : rOk x (nI 0) (nI 500) with
  | false =>
    exact stw_err (k := 1) (as := [.int x]) (by decide) (W_surchargesIn_IAE (T_X3_surchargesIn1 hfl hvw) mk_X3_surchargesIn (by decide)) (C_X4_surchargesIn_e1 hvw) (by decide) hI
  | true =>
    obtain ⟨w, rfl, -, hww⟩ := rOk_ex (by decide) (by decide) hvw
    have hday := hk.1.day
    have e1 := q_surIn hc.1 hk.1 (d := w) (by omega)
    have e2 := (pass_M hr.1 hk.1.w w (by omega)).2
    exact stw_qk (as := [.int (nI w)]) (W_surchargesIn (C_X3_surchargesIn hci hvw) mk_X3_surchargesIn (by decide)) (fun M k1 => ct_r (e2.trans e1.symm) (C_X4_surchargesIn k1 hz (by omega) hvw)) (by decide) hI
set_option maxHeartbeats 4000000 in
theorem st_dueIn {l : Launch} {G : WG} (hfl : l.stackTraces = false) (μ : Mem) (x y : Int32) (hI : Inv μ) : StW l G Inv yL_dueIn cL_dueIn 5 hh_dueIn yX4_dueIn cX4_dueIn 3 [.int x, .int y] μ := by
  obtain ⟨a, ns, sc, h, L, t, hc, hr, hk⟩ := id hI
  have hci := hc.1.CI hk.1
  have hS := hc.2.1
  have hz := hr.1.zi
  have hn6 := hk.1.n
  cases hx : cHas a.n x with
  | false =>
    exact stw_err (k := 1) (as := [.int x, .int y]) (by decide) (W_dueIn_IOB (T_X3_dueIn1 hfl hci hx) mk_X3_dueIn (by decide)) (C_X4_dueIn_e1 rfl hz hx) (by decide) hI
  | true =>
    obtain ⟨p, hp, rfl⟩ := cHas_inv hx hn6
    have hp6 : p < 6 := by omega
    have c := hc.1.ph p hp6
    have m := hr.1.ph p hp
    have o := hk.1.ph p hp6
    cases hvw : rOk y (nI 0) (nI 500) with
    | false =>
      exact stw_err (k := 2) (as := [.int (nI p), .int y]) (by decide) (W_dueIn_IAE (T_X3_dueIn2 hfl hci hp hvw) mk_X3_dueIn (by decide)) (C_X4_dueIn_e2 rfl hz hp hvw) (by decide) hI
    | true =>
      obtain ⟨w, rfl, -, hww⟩ := rOk_ex (by decide) (by decide) hvw
      exact stw_qk (as := [.int (nI p), .int (nI w)]) (W_dueIn (C_X3_dueIn hci hp hvw) mk_X3_dueIn (by decide)) (fun M k1 => ct_r (q_dueIn hc.1 hr.1 hk.1 hp (by omega)).symm (C_X4_dueIn k1 hz hp (by omega) hvw)) (by decide) hI
set_option maxHeartbeats 4000000 in
theorem st_append {l : Launch} {G : WG} (hfl : l.stackTraces = false) (μ : Mem) (x : Int32) (hI : Inv μ) : StW l G Inv yL_append cL_append 4 hh_append yX4_append cX4_append 2 [.int x] μ := by
  obtain ⟨a, ns, sc, h, L, t, hc, hr, hk⟩ := id hI
  have hci := hc.1.CI hk.1
  have hS := hc.2.1
  have hz := hr.1.zi
  have hn6 := hk.1.n
  cases hv : rOk x (nI 33) (nI 126) with
  | false =>
    exact stw_err (k := 1) (as := [.int x]) (by decide) (W_append_IAE (T_X3_append1 hfl hv) mk_X3_append (by decide)) (C_X4_append_e1 hv) (by decide) hI
  | true =>
    obtain ⟨hCR, hSI, hSV, hL, ⟨kk, hkk⟩, ht⟩ := hc
    obtain ⟨hMR, hsc, hHI, hL2, ht2⟩ := hr
    have hL60 := hk.2.2.2.2
    by_cases h60 : L < 60
    · refine stw_any (μc := mset (mset μ 3 0 0 L x) 2 0 0 1 (nI (L + 1))) (as := [.int x]) (W_append (C_X3_append hL h60 hkk hv) mk_X3_append (by decide)) (C_X4_append (μ := mlset (mset (mset μ 3 0 0 L x) 2 0 0 1 (nI (L + 1))) 1 (nI (L + 1)).toInt64) ?_ h60 hv) (by decide) ?_ ?_ ?_
      · rw [ml_1, mset_t (by decide), mset_t (by decide)]
        exact hL2
      · rw [mset_k (by decide), mset_t (by decide)]
        exact mset_at
      · rw [ms_2, ms_2, ms_2]
      · refine ⟨a, ns, sc, h, L + 1, fun j => if j = L then x else t j, ⟨hCR.congr fun t h1 h2 => ?_, ?_, fun j hj => (hSV j hj).congr fun t h1 h2 => ?_, ?_, ?_, fun j hj => ?_⟩, ⟨?_, ?_, ?_, mset_at, fun j hj => ?_⟩, hk.1, hk.2.1, hk.2.2.1, hk.2.2.2.1, by omega⟩
        · rw [mset_tag (by omega), mset_tag (by omega), mset_tag (by omega), ml_1, mset_tag (by omega), mset_tag (by omega)]
        · unfold SI
          rw [mset_t (by decide), mset_t (by decide), mset_t (by decide), ml_1, mset_t (by decide), mset_t (by decide), mset_t (by decide), mset_t (by decide), mset_t (by decide), ml_1, mset_t (by decide), mset_t (by decide)]
          exact hSI
        · rw [mset_tag (by omega), mset_tag (by omega), mset_tag (by omega), ml_1, mset_tag (by omega), mset_tag (by omega)]
        · rw [mset_t (by decide), mset_t (by decide), mset_t (by decide), ml_1]
          exact mset_at
        · refine ⟨kk, ?_⟩
          rw [mset_t (by decide), mset_t (by decide), mset_t (by decide), ml_1, mset_k (by decide), mset_t (by decide)]
          exact hkk
        · rw [mset_t (by decide), mset_t (by decide), mset_t (by decide), ml_1, mset_t (by decide)]
          by_cases q : j = L
          · subst q
            exact mset_at.trans (if_pos rfl).symm
          · exact (mset_k q).trans ((ht j (by omega)).trans (if_neg q).symm)
        · rw [mset_tag (by decide), mset_tag (by decide), mset_tag (by decide), ml_1, mset_tag (by decide), mset_tag (by decide)]
          exact hMR
        · rw [mset_k (by decide), mset_t (by decide), mset_k (by decide), ml_1, mset_t (by decide), mset_t (by decide)]
          exact hsc
        · rw [mset_tag (by decide), mset_tag (by decide), mset_tag (by decide), ml_1, mset_tag (by decide), mset_tag (by decide)]
          exact hHI
        · rw [mset_t (by decide)]
          by_cases q : j = L
          · subst q
            exact mset_at.trans (if_pos rfl).symm
          · rw [mset_k q, mset_t (by decide), ml_1, mset_t (by decide), mset_t (by decide)]
            exact (ht2 j (by omega)).trans (if_neg q).symm
    · have e60 : L = 60 := by omega
      subst e60
      exact stw_err (k := 2) (as := [.int x]) (by decide) (W_append_ISE (T_X3_append2 hfl hL hv) mk_X3_append (by decide)) (C_X4_append_e2 hL2 hv) (by decide) hI
set_option maxHeartbeats 4000000 in
theorem st_undo {l : Launch} {G : WG} (hfl : l.stackTraces = false) (μ : Mem) (hI : Inv μ) : StW l G Inv yL_undo cL_undo 3 hh_undo yX4_undo cX4_undo 2 [] μ := by
  obtain ⟨a, ns, sc, h, L, t, hc, hr, hk⟩ := id hI
  have hci := hc.1.CI hk.1
  have hS := hc.2.1
  have hz := hr.1.zi
  have hn6 := hk.1.n
  by_cases h0 : 0 < sc
  · have hu := undo_C hc hk h0
    have hcu : ∀ t, 15 ≤ t → (cUndo μ ns sc).1 t = μ.1 t := fun t ht => (copyL_tag (by omega)).trans ((mset_tag (by omega)).trans (mset_tag (by omega)))
    have hm : RefI (mlset (cUndo μ ns sc) 1 (nI (sc - 1)).toInt64) a sc h L t := hr.congr15 (μ' := mlset (cUndo μ ns sc) 1 (nI (sc - 1)).toInt64) hcu
    have hW := W_undo (C_X3_undo (l := l) (G := G) hS h0) mk_X3_undo (by decide)
    revert hm hW hu
    generalize cUndo μ ns sc = μc
    intro hu hm hW
    refine stw_any (as := []) hW (C_X4_undo (μ := mlset μc 1 (nI (sc - 1)).toInt64) hm.2.1 hk.2.1 h0) (by decide) ?_ ?_ (inv_mk hu (fun t ht => ?_) (undo_M hm hk h0) (undo_K hk h0))
    · rw [unK_tag (by decide), mset_k (by decide)]
      exact mset_at
    · rw [unK_2, ms_2, ms_2]
    · rw [unK_tag (by omega), mset_tag (by omega), mset_tag (by omega)]
      rfl
  · have e0 : sc = 0 := by omega
    subst e0
    exact stw_err (k := 1) (as := []) (by decide) (W_undo_ISE (T_X3_undo1 hfl hS.2.2.1) mk_X3_undo (by decide)) (C_X4_undo_e1 hr.2.1) (by decide) hI
set_option maxHeartbeats 4000000 in
theorem st_clearBuffer {l : Launch} {G : WG} (μ : Mem) (hI : Inv μ) : StE l G Inv yX3_clearBuffer cX3_clearBuffer 2 yX4_clearBuffer cX4_clearBuffer 2 .int (fun r => ∃ v, r = .int v) μ := by
  obtain ⟨a, ns, sc, h, L, t, ⟨hCR, hSI, hSV, hL, ⟨kk, hkk⟩, ht⟩, ⟨hMR, hsc, hHI, hL2, ht2⟩, hk⟩ := hI
  have hC := C_X3_clearBuffer (l := l) (G := G) (μ := μ)
  have hM := C_X4_clearBuffer (l := l) (G := G) (μ := mset μ 2 0 0 1 (nI 0))
  rw [hL] at hC
  rw [mset_t (by decide), hL2] at hM
  refine ⟨.int (nI L), _, _, 0, 0, ⟨by decide, by decide⟩, ⟨_, rfl⟩, hC, hM, a, ns, sc, h, 0, t, ⟨hCR.congr fun t h1 h2 => ?_, ?_, fun j hj => (hSV j hj).congr fun t h1 h2 => ?_, ?_, ?_, fun j hj => absurd hj (Nat.not_lt_zero j)⟩, ⟨?_, ?_, ?_, mset_at, fun j hj => absurd hj (Nat.not_lt_zero j)⟩, hk.1, hk.2.1, hk.2.2.1, hk.2.2.2.1, by decide⟩
  · rw [mset_tag (by omega), mset_tag (by omega), mset_tag (by omega)]
  · unfold SI
    rw [mset_t (by decide), mset_t (by decide), mset_t (by decide), mset_t (by decide), mset_t (by decide), mset_t (by decide)]
    exact hSI
  · rw [mset_tag (by omega), mset_tag (by omega), mset_tag (by omega)]
  · rw [mset_t (by decide), mset_t (by decide)]
    exact mset_at
  · refine ⟨kk, ?_⟩
    rw [mset_t (by decide), mset_t (by decide), mset_k (by decide)]
    exact hkk
  · rw [mset_tag (by decide), mset_tag (by decide), mset_tag (by decide)]
    exact hMR
  · rw [mset_k (by decide), mset_k (by decide), mset_t (by decide)]
    exact hsc
  · rw [mset_tag (by decide), mset_tag (by decide), mset_tag (by decide)]
    exact hHI
theorem st_mostUrgent {l : Launch} {G : WG} (μ : Mem) (hI : Inv μ) : StE l G Inv yX3_mostUrgent cX3_mostUrgent 8 yX4_mostUrgent cX4_mostUrgent 1 .int (fun r => ∃ v, r = .int v) μ := by
  obtain ⟨a, ns, sc, h, L, t, hc, hr, hk⟩ := id hI
  have hci := hc.1.CI hk.1
  exact ⟨_, μ, _, 3, 5, ⟨by decide, by decide⟩, ⟨_, rfl⟩, C_X3_mostUrgent hci, ct_r (q_urg hc.1 hr.1 hk.1 a.n (Nat.le_refl _)).1.symm (C_X4_mostUrgent rfl hr.1.zi), inv_15 hI⟩
theorem q_share {μ : Mem} {z : Zr} {a : ALw} (hC : CR μ 0 a) (hM : MR z a) (hK : OK a) : cShare μ a.n = mShare z a.n := by
  have P : ∀ {p w : Nat}, p < a.n → w < 14 → cPhaseQ μ p w = mPhase z p w := fun hp hw => q_phase hC hM hK hp hw
  unfold cShare mShare
  rw [q_sum hC hM hK (w := 6) (w' := 5) (fun p hp => P (w := 5) hp (by decide)) _ (Nat.le_refl _), q_sum hC hM hK (w := 7) (w' := 6) (fun p hp => P (w := 6) hp (by decide)) _ (Nat.le_refl _), q_sum hC hM hK (w := 9) (w' := 3) (fun p hp => P (w := 3) hp (by decide)) _ (Nat.le_refl _)]
