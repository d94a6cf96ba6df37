theorem ct_r {l : Launch} {G : WG} {d : Nat} {y : MethodName} {cc : ByteArray} {nL : Nat} {av : List Value} {μ μ' : Mem} {r r' : Int32} (e : r = r') (h : Ct l G d y cc nL (some .int) av μ (some (.int r)) μ') : Ct l G d y cc nL (some .int) av μ (some (.int r')) μ' := by
  rw [← e]
  exact h
theorem fr_far {μc μ : Mem} {ns sc : Nat} (f : Fr μc (cSave μ ns sc)) (t : Nat) (ht : 15 ≤ t) : μc.1 t = μ.1 t := (funext fun i => funext fun p => funext fun j => f t i p j (Or.inr (Or.inr ht))).trans (cSave_tag (by omega))
theorem fr_16 {μc μ : Mem} {ns sc : Nat} (f : Fr μc (cSave μ ns sc)) : μc.1 16 0 0 = μ.1 16 0 0 := by rw [fr_far f 16 (by decide)]
theorem fr_151 {μc μ : Mem} {ns sc k : Nat} (f : Fr μc (cSave μ ns sc)) : μc.1 15 0 0 k = μ.1 15 0 0 k := by rw [fr_far f 15 (by decide)]
theorem why0_un {μ : Mem} {p day n : Nat} {rt : Nat → Nat} {x : APh} (c : CP μ 0 p x) (o : OP day n p rt x) (hb : x.beg = false) : cWhy0 μ 0 p = 0 := by
  unfold cWhy0
  rw [cw_begun c o, hb]
  rfl
theorem why0_be {μ : Mem} {p day n : Nat} {rt : Nat → Nat} {x : APh} (c : CP μ 0 p x) (o : OP day n p rt x) (hb : x.beg = true) : ¬ cWhy0 μ 0 p = 0 := by
  unfold cWhy0
  rw [cw_begun c o, hb]
  exact (by decide : ¬ nI 1 = 0)
theorem why1_un {μ : Mem} {p day n : Nat} {rt : Nat → Nat} {x : APh} (c : CP μ 0 p x) (o : OP day n p rt x) (hw : cWhy1 μ 0 p = 0) : x.beg = false := by
  unfold cWhy1 at hw
  rw [cw_begun c o] at hw
  cases hb : x.beg with
  | false => rfl
  | true =>
    rw [hb] at hw
    exact absurd (show nI 1 = 0 from hw) (by decide)
theorem why2_be {μ : Mem} {p day n : Nat} {rt : Nat → Nat} {x : APh} (c : CP μ 0 p x) (o : OP day n p rt x) (hw : cWhy2 μ 0 p = 0) : x.beg = true := by
  unfold cWhy2 at hw
  rw [cw_begun c o] at hw
  cases hb : x.beg with
  | true => rfl
  | false =>
    rw [hb] at hw
    exact absurd (show nI 2 = 0 from hw) (by decide)
theorem why3_be {μ : Mem} {p day n : Nat} {rt : Nat → Nat} {x : APh} (c : CP μ 0 p x) (o : OP day n p rt x) (hw : cWhy3 μ 0 p = 0) : x.beg = true := by
  unfold cWhy3 at hw
  rw [cw_begun c o] at hw
  cases hb : x.beg with
  | true => rfl
  | false =>
    rw [hb] at hw
    exact absurd (show nI 2 = 0 from hw) (by decide)
theorem why4_be {μ : Mem} {p u day n : Nat} {rt : Nat → Nat} {x : APh} (c : CP μ 0 p x) (o : OP day n p rt x) (hw : cWhy4 μ 0 p u = 0) : x.beg = true := by
  unfold cWhy4 at hw
  rw [cw_begun c o] at hw
  cases hb : x.beg with
  | true => rfl
  | false =>
    rw [hb] at hw
    exact absurd (show nI 2 = 0 from hw) (by decide)
set_option maxHeartbeats 4000000 in
theorem st_area {l : Launch} {G : WG} (hfl : l.stackTraces = false) (μ : Mem) (x y v : Int32) (hI : Inv μ) : StW l G Inv yL_area cL_area 6 hh_area yX4_area cX4_area 5 [.int x, .int y, .int v] μ := by
  obtain ⟨a, ns, sc, h, L, t, hc, hr, hk⟩ := id hI
  have hci := hc.1.CI hk.1
  have hS := hc.2.1
  have hz := hr.1.zi
  have hn6 := hk.1.n
  cases hx : cHas a.n x with
  | false =>
    exact stw_err (k := 1) (as := [.int x, .int y, .int v]) (by decide) (W_area_IOB (T_X3_area1 hfl hci hx) mk_X3_area (by decide)) (C_X4_area_e1 rfl hz hx) (by decide) hI
  | true =>
    obtain ⟨p, hp, rfl⟩ := cHas_inv hx hn6
    have hp6 : p < 6 := by omega
    have c := hc.1.ph p hp6
    have m := hr.1.ph p hp
    have o := hk.1.ph p hp6
    cases hy : uOk y with
    | false =>
      exact stw_err (k := 1) (as := [.int (nI p), .int y, .int v]) (by decide) (W_area_IOB (T_X3_area2 hfl hci hp hy) mk_X3_area (by decide)) (C_X4_area_e2 rfl hz hp hy) (by decide) hI
    | true =>
      obtain ⟨u, hu, rfl⟩ := uOk_inv hy
      cases hv : rOk v (nI 0) (nI 999) with
      | false =>
        exact stw_err (k := 2) (as := [.int (nI p), .int (nI u), .int v]) (by decide) (W_area_IAE (T_X3_area3 hfl hci hp hu hv) mk_X3_area (by decide)) (C_X4_area_e3 rfl hz hp hu hv) (by decide) hI
      | true =>
        obtain ⟨w, rfl, -, hw⟩ := rOk_ex (by decide) (by decide) hv
        cases hb : (a.ph p).beg with
        | true =>
          exact stw_err (k := 3) (as := [.int (nI p), .int (nI u), .int (nI w)]) (by decide) (W_area_ISE (T_X3_area4 hfl hci hp hu hv (why0_be c o hb)) mk_X3_area (by decide)) (C_X4_area_e4 rfl hz hp hu hv ((mw_begun m o).trans hb)) (by decide) hI
        | false =>
          have he : (a.ph p).E u < 2 ^ 30 := by
            have h1 := o.hE u hu
            have h2 := o.hA u hu
            omega
          have f : Fr (mset (mset (cSave μ ns sc) 9 0 p u (nI w)) 10 0 p u (mini (μ.1 10 0 p u) (nI w))) (cSave μ ns sc) := fr_tr (fr_ms (by decide) (by decide)) (fr_ms (by decide) (by decide))
          obtain ⟨g1, g2, g3⟩ := area_M (v := w) m hb (o.un hb).1 hu he (by omega)
          have hc0 := cSave_CR (ns := ns) (sc := sc) hc.1
          refine stw_mut (as := [.int (nI p), .int (nI u), .int (nI w)]) (a' := updP a p (areX u w (a.ph p))) (z := zArea (μ.1 16 0 0) p u (nI w)) hc hr hk (W_area (C_X3_area hci hS hp hu hv (why0_un c o hb)) mk_X3_area (by decide)) (fun M k1 k2 => ct_r ((m.A u hu).trans (c.A u hu).symm) (C_X4_area k1 hz k2 hk.2.1 hp hu hv ((mw_begun m o).trans hb))) (by decide) f ?_ (hr.1.upd g3 g2 (fun q hq => (hk.1.ph q (by omega)).N4) g1 o.N4) (hk.1.upd (areX_OP o hb hp hw))
          exact hc0.upd (fun k => (mset_t (by decide)).trans (mset_t (by decide))) (fun k => (mset_t (by decide)).trans (mset_t (by decide))) (fun k => (mset_t (by decide)).trans (mset_t (by decide))) (fun p' t k q _ _ => (mset_p q).trans (mset_p q)) (area_C (hc0.ph p hp6) hu he (by omega) (congrFun (congrFun (cSave_0 (by decide)) p) u).symm)
set_option maxHeartbeats 4000000 in
theorem st_exempt {l : Launch} {G : WG} (hfl : l.stackTraces = false) (μ : Mem) (x y v : Int32) (hI : Inv μ) : StW l G Inv yL_exempt cL_exempt 6 hh_exempt yX4_exempt cX4_exempt 5 [.int x, .int y, .int v] μ := by
  obtain ⟨a, ns, sc, h, L, t, hc, hr, hk⟩ := id hI
  have hci := hc.1.CI hk.1
  have hS := hc.2.1
  have hz := hr.1.zi
  have hn6 := hk.1.n
  cases hx : cHas a.n x with
  | false =>
    exact stw_err (k := 1) (as := [.int x, .int y, .int v]) (by decide) (W_exempt_IOB (T_X3_exempt1 hfl hci hx) mk_X3_exempt (by decide)) (C_X4_exempt_e1 rfl hz hx) (by decide) hI
  | true =>
    obtain ⟨p, hp, rfl⟩ := cHas_inv hx hn6
    have hp6 : p < 6 := by omega
    have c := hc.1.ph p hp6
    have m := hr.1.ph p hp
    have o := hk.1.ph p hp6
    cases hy : uOk y with
    | false =>
      exact stw_err (k := 1) (as := [.int (nI p), .int y, .int v]) (by decide) (W_exempt_IOB (T_X3_exempt2 hfl hci hp hy) mk_X3_exempt (by decide)) (C_X4_exempt_e2 rfl hz hp hy) (by decide) hI
    | true =>
      obtain ⟨u, hu, rfl⟩ := uOk_inv hy
      have eA := c.A u hu
      have eM := m.A u hu
      have hA9 := o.hA u hu
      cases hv : rOk v (nI 0) (nI ((a.ph p).A u)) with
      | false =>
        exact stw_err (k := 2) (as := [.int (nI p), .int (nI u), .int v]) (by decide) (W_exempt_IAE (T_X3_exempt3 hfl hci hp hu (by rw [eA]; exact hv)) mk_X3_exempt (by decide)) (C_X4_exempt_e3 rfl hz hp hu (by rw [eM]; exact hv)) (by decide) hI
      | true =>
        obtain ⟨w, rfl, -, hw⟩ := rOk_ex (by decide) (by omega) hv
        cases hb : (a.ph p).beg with
        | true =>
          exact stw_err (k := 3) (as := [.int (nI p), .int (nI u), .int (nI w)]) (by decide) (W_exempt_ISE (T_X3_exempt4 hfl hci hp hu (by rw [eA]; exact hv) (why0_be c o hb)) mk_X3_exempt (by decide)) (C_X4_exempt_e4 rfl hz hp hu (by rw [eM]; exact hv) ((mw_begun m o).trans hb)) (by decide) hI
        | false =>
          have f : Fr (mset (cSave μ ns sc) 10 0 p u (nI w)) (cSave μ ns sc) := fr_ms (by decide) (by decide)
          obtain ⟨g1, g2, g3⟩ := exempt_M (v := w) m hb (o.un hb).1 hu
          have hc0 := cSave_CR (ns := ns) (sc := sc) hc.1
          refine stw_mut (as := [.int (nI p), .int (nI u), .int (nI w)]) (a' := updP a p (exeX u w (a.ph p))) (z := zput (μ.1 16 0 0) p (5 + u) (nI w)) hc hr hk (W_exempt (C_X3_exempt hci hS hp hu (by rw [eA]; exact hv) (why0_un c o hb)) mk_X3_exempt (by decide)) (fun M k1 k2 => ct_r ((m.E u hu).trans (c.E u hu).symm) (C_X4_exempt k1 hz k2 hk.2.1 hp hu (by rw [eM]; exact hv) ((mw_begun m o).trans hb))) (by decide) f ?_ (hr.1.upd g3 g2 (fun q hq => (hk.1.ph q (by omega)).N4) g1 o.N4) (hk.1.upd (exeX_OP o hb hw))
          exact hc0.upd (fun k => mset_t (by decide)) (fun k => mset_t (by decide)) (fun k => mset_t (by decide)) (fun p' t k q _ _ => mset_p q) (exempt_C (hc0.ph p hp6))
set_option maxHeartbeats 4000000 in
theorem st_rate {l : Launch} {G : WG} (hfl : l.stackTraces = false) (μ : Mem) (x v : Int32) (hI : Inv μ) : StW l G Inv yL_rate cL_rate 5 hh_rate yX4_rate cX4_rate 4 [.int x, .int v] μ := by
  obtain ⟨a, ns, sc, h, L, t, hc, hr, hk⟩ := id hI
  have hci := hc.1.CI hk.1
  have hS := hc.2.1
  have hz := hr.1.zi
  have hn6 := hk.1.n
  cases hy : uOk x with
  | false =>
    exact stw_err (k := 1) (as := [.int x, .int v]) (by decide) (W_rate_IOB (T_X3_rate1 hfl hy) mk_X3_rate (by decide)) (C_X4_rate_e1 hy) (by decide) hI
  | true =>
    obtain ⟨u, hu, rfl⟩ := uOk_inv hy
    cases hv : rOk v (nI 0) (nI 999) with
    | false =>
      exact stw_err (k := 2) (as := [.int (nI u), .int v]) (by decide) (W_rate_IAE (T_X3_rate2 hfl hu hv) mk_X3_rate (by decide)) (C_X4_rate_e2 hu hv) (by decide) hI
    | true =>
      obtain ⟨w, rfl, -, hw⟩ := rOk_ex (by decide) (by decide) hv
      have f : Fr (rateK (cSave μ ns sc) 0 u (nI w) a.n) (cSave μ ns sc) := fr_rate _
      exact stw_mut (as := [.int (nI u), .int (nI w)]) (a' := aRate a u w) (z := upd (μ.1 16 0 0) (5 + u) (nI w)) hc hr hk (W_rate (C_X3_rate hci hS hu hv) mk_X3_rate (by decide)) (fun M k1 k2 => ct_r ((hr.1.rt u hu).trans (hc.1.rt u hu).symm) (C_X4_rate k1 hz k2 hk.2.1 hu hv)) (by decide) f (rate_C (cSave_CR hc.1) hk.1 hu) (rate_M hr.1 hk.1 hu) (aRate_OK hk.1 hw)
theorem least_N {u : Nat} (hu : u < 4) : ∃ b c, leastT u = nI b ∧ mostT u = nI c ∧ b < 2 ^ 31 ∧ c < 2 ^ 31 := match u, hu with
  | 0, _ => ⟨1, 120, rfl, rfl, by decide, by decide⟩
  | 1, _ => ⟨0, 50, rfl, rfl, by decide, by decide⟩
  | 2, _ => ⟨0, 3000, rfl, rfl, by decide, by decide⟩
  | 3, _ => ⟨0, 100, rfl, rfl, by decide, by decide⟩
  | n + 4, h => absurd h (by omega)
set_option maxHeartbeats 4000000 in
theorem st_set {l : Launch} {G : WG} (hfl : l.stackTraces = false) (μ : Mem) (x v : Int32) (hI : Inv μ) : StW l G Inv yL_set cL_set 5 hh_set yX4_set cX4_set 4 [.int x, .int v] μ := by
  obtain ⟨a, ns, sc, h, L, t, hc, hr, hk⟩ := id hI
  have hci := hc.1.CI hk.1
  have hS := hc.2.1
  have hz := hr.1.zi
  have hn6 := hk.1.n
  cases hy : uOk x with
  | false =>
    exact stw_err (k := 1) (as := [.int x, .int v]) (by decide) (W_set_IOB (T_X3_set1 hfl hy) mk_X3_set (by decide)) (C_X4_set_e1 hy) (by decide) hI
  | true =>
    obtain ⟨u, hu, rfl⟩ := uOk_inv hy
    cases hv : rOk v (leastT u) (mostT u) with
    | false =>
      exact stw_err (k := 2) (as := [.int (nI u), .int v]) (by decide) (W_set_IAE (T_X3_set2 hfl hu hv) mk_X3_set (by decide)) (C_X4_set_e2 hu hv) (by decide) hI
    | true =>
      obtain ⟨b, c, e1, e2, b1, b2⟩ := least_N hu
      have hv2 := hv
      rw [e1, e2] at hv2
      obtain ⟨w, rfl, hw1, hw2⟩ := rOk_ex b1 b2 hv2
      have f : Fr (mset (cSave μ ns sc) 6 0 0 u (nI w)) (cSave μ ns sc) := fr_ms (by decide) (by decide)
      exact stw_mut (as := [.int (nI u), .int (nI w)]) (a' := aSet a u w) (z := upd (μ.1 16 0 0) u (nI w)) hc hr hk (W_set (C_X3_set hS hu hv) mk_X3_set (by decide)) (fun M k1 k2 => ct_r ((hr.1.st u hu).trans (hc.1.st u hu).symm) (C_X4_set k1 hz k2 hk.2.1 hu hv)) (by decide) f (set_C (cSave_CR hc.1)) (set_M hr.1 hk.1 hu) (aSet_OK hk.1 (by rw [e1, e2]; exact ⟨(nI_leI b1 (by omega)).mpr hw1, (nI_leI (by omega) b2).mpr hw2⟩) (by omega) hu)
set_option maxHeartbeats 4000000 in
theorem st_begin {l : Launch} {G : WG} (hfl : l.stackTraces = false) (μ : Mem) (x : Int32) (hI : Inv μ) : StW l G Inv yL_begin cL_begin 4 hh_begin yX4_begin cX4_begin 2 [.int x] μ := by
  obtain ⟨a, ns, sc, h, L, t, hc, hr, hk⟩ := id hI
  have hci := hc.1.CI hk.1
  have hS := hc.2.1
  have hz := hr.1.zi
  have hn6 := hk.1.n
  cases hx : cHas a.n x with
  | false =>
    exact stw_err (k := 1) (as := [.int x]) (by decide) (W_begin_IOB (T_X3_begin1 hfl hci hx) mk_X3_begin (by decide)) (C_X4_begin_e1 rfl hz hx) (by decide) hI
  | true =>
    obtain ⟨p, hp, rfl⟩ := cHas_inv hx hn6
    have hp6 : p < 6 := by omega
    have c := hc.1.ph p hp6
    have m := hr.1.ph p hp
    have o := hk.1.ph p hp6
    by_cases hw : cWhy1 μ 0 p = 0
    · have hb := why1_un c o hw
      have hw' : mWhy1 (μ.1 16 0 0) p = 0 := (q_why1 hc.1 hr.1 hk.1 hp).symm.trans hw
      have f : Fr (cStart (cSave μ ns sc) 0 p (nI a.day) (nI (a.st 0))) (cSave μ ns sc) := fr_start
      obtain ⟨g1, g2, g3⟩ := begins_M m o hb hp hr.1.rt hr.1.day (hr.1.st 0 (by decide))
      have hc0 := cSave_CR (ns := ns) (sc := sc) hc.1
      have hC := C_X3_begin (l := l) (G := G) hci hS hp hw
      rw [hc.1.day, hc.1.st 0 (by decide)] at hC
      obtain ⟨r1, r2, -⟩ := q_sumN hc.1 hr.1 hk.1 hp
      refine stw_mut (as := [.int (nI p)]) (a' := updP a p (begX a.day (a.st 0) (a.ph p))) (z := zBegins (μ.1 16 0 0) p) hc hr hk (W_begin hC mk_X3_begin (by decide)) (fun M k1 k2 => ct_r (r2.trans r1.symm) (C_X4_begin k1 hz k2 hk.2.1 hp hw')) (by decide) f ?_ (hr.1.upd g3 g2 (fun q hq => (hk.1.ph q (by omega)).N4) g1 (partsN_le _).2) (hk.1.upd (begX_OP o hb hp hk.1.day hk.1.s0))
      exact hc0.upd (fun k => start_tag (by omega)) (fun k => start_tag (by omega)) (fun k => start_tag (by omega)) (fun p' t k q _ _ => start_tag (by omega)) (start_C (hc0.ph p hp6) o)
    · exact stw_err (k := 2) (as := [.int (nI p)]) (by decide) (W_begin_ISE (T_X3_begin2 hfl hci hp hw) mk_X3_begin (by decide)) (C_X4_begin_e2 rfl hz hp (fun y => hw ((q_why1 hc.1 hr.1 hk.1 hp).trans y))) (by decide) hI
set_option maxHeartbeats 4000000 in
theorem st_pay {l : Launch} {G : WG} (hfl : l.stackTraces = false) (μ : Mem) (x v : Int32) (hI : Inv μ) : StW l G Inv yL_pay cL_pay 5 hh_pay yX4_pay cX4_pay 3 [.int x, .int v] μ := by
  obtain ⟨a, ns, sc, h, L, t, hc, hr, hk⟩ := id hI
  have hci := hc.1.CI hk.1
  have hS := hc.2.1
  have hz := hr.1.zi
  have hn6 := hk.1.n
  cases hx : cHas a.n x with
  | false =>
    exact stw_err (k := 1) (as := [.int x, .int v]) (by decide) (W_pay_IOB (T_X3_pay1 hfl hci hx) mk_X3_pay (by decide)) (C_X4_pay_e1 rfl hz hx) (by decide) hI
  | true =>
    obtain ⟨p, hp, rfl⟩ := cHas_inv hx hn6
    have hp6 : p < 6 := by omega
    have c := hc.1.ph p hp6
    have m := hr.1.ph p hp
    have o := hk.1.ph p hp6
    cases hv : rOk v (nI 1) (nI 99999) with
    | false =>
      exact stw_err (k := 2) (as := [.int (nI p), .int v]) (by decide) (W_pay_IAE (T_X3_pay2 hfl hci hp hv) mk_X3_pay (by decide)) (C_X4_pay_e2 rfl hz hp hv) (by decide) hI
    | true =>
      obtain ⟨w, rfl, -, hw9⟩ := rOk_ex (by decide) (by decide) hv
      by_cases hw : cWhy2 μ 0 p = 0
      · have hb := why2_be c o hw
        have hw' : mWhy2 (μ.1 16 0 0) p = 0 := (q_why2 hc.1 hr.1 hk.1 hp).symm.trans hw
        have hc0 := cSave_CR (ns := ns) (sc := sc) hc.1
        have c0 := hc0.ph p hp6
        have b1 := o.owd_le
        have hT0 : cTaken μ 0 p (nI w) = nI (min w (owd (a.ph p))) := by
          unfold cTaken
          rw [cw_owed c o, mini_nI (by omega) (by omega)]
        have hT : cTaken (cSave μ ns sc) 0 p (nI w) = nI (min w (owd (a.ph p))) := by
          unfold cTaken
          rw [cw_owed c0 o, mini_nI (by omega) (by omega)]
        have hC := C_X3_pay (l := l) (G := G) hci hS hp hv hw
        rw [cw_ins c o, hT0] at hC
        unfold cPay at hC
        rw [hT] at hC
        have f : Fr (cSettle (mset (cSave μ ns sc) 8 0 p 9 ((cSave μ ns sc).1 8 0 p 9 + nI (min w (owd (a.ph p))))) 0 p (a.ph p).N (nI (min w (owd (a.ph p))))) (cSave μ ns sc) := fr_settle
        obtain ⟨g0, g1, g2, g3⟩ := take_M (m := w) m o (by omega) (kk := 34) (P := (a.ph p).P + min w (owd (a.ph p))) (Ld := (a.ph p).Ld) (Or.inl ⟨rfl, rfl, rfl⟩)
        refine stw_mut (as := [.int (nI p), .int (nI w)]) (a' := updP a p (APh.mk (takX w (a.ph p)).beg (takX w (a.ph p)).A (takX w (a.ph p)).E (takX w (a.ph p)).R (takX w (a.ph p)).La (takX w (a.ph p)).N (takX w (a.ph p)).B (takX w (a.ph p)).g (takX w (a.ph p)).I (takX w (a.ph p)).O ((a.ph p).P + min w (owd (a.ph p))) (a.ph p).Ld (takX w (a.ph p)).Su (takX w (a.ph p)).br (takX w (a.ph p)).lo (takX w (a.ph p)).so)) (z := zTakes (μ.1 16 0 0) p (nI w) 34) hc hr hk (W_pay hC mk_X3_pay (by decide)) (fun M k1 k2 => ct_r g0 (C_X4_pay k1 hz k2 hk.2.1 hp hv hw')) (by decide) f ?_ (hr.1.upd g3 g2 (fun q hq => (hk.1.ph q (by omega)).N4) g1 o.N4) (hk.1.upd (takX_OP o hb (by omega)))
        exact hc0.upd (fun k => congrFun (congrFun (congrFun (settle_tag (by decide) (by decide)) 0) 0) k) (fun k => congrFun (congrFun (congrFun (settle_tag (by decide) (by decide)) 0) 0) k) (fun k => congrFun (congrFun (congrFun (settle_tag (by decide) (by decide)) 0) 0) k) (fun p' t k q _ _ => settle_far (fun y => q y.2)) (settle_C c0 o hb (kk := 9) (Or.inl ⟨rfl, rfl, rfl⟩))
      · exact stw_err (k := 3) (as := [.int (nI p), .int (nI w)]) (by decide) (W_pay_ISE (T_X3_pay3 hfl hci hp hv hw) mk_X3_pay (by decide)) (C_X4_pay_e3 rfl hz hp hv (fun y => hw ((q_why2 hc.1 hr.1 hk.1 hp).trans y))) (by decide) hI
set_option maxHeartbeats 4000000 in
theorem st_land {l : Launch} {G : WG} (hfl : l.stackTraces = false) (μ : Mem) (x v : Int32) (hI : Inv μ) : StW l G Inv yL_land cL_land 5 hh_land yX4_land cX4_land 4 [.int x, .int v] μ := by
  obtain ⟨a, ns, sc, h, L, t, hc, hr, hk⟩ := id hI
  have hci := hc.1.CI hk.1
  have hS := hc.2.1
  have hz := hr.1.zi
  have hn6 := hk.1.n
  cases hx : cHas a.n x with
  | false =>
    exact stw_err (k := 1) (as := [.int x, .int v]) (by decide) (W_land_IOB (T_X3_land1 hfl hci hx) mk_X3_land (by decide)) (C_X4_land_e1 rfl hz hx) (by decide) hI
  | true =>
    obtain ⟨p, hp, rfl⟩ := cHas_inv hx hn6
    have hp6 : p < 6 := by omega
    have c := hc.1.ph p hp6
    have m := hr.1.ph p hp
    have o := hk.1.ph p hp6
    cases hv : rOk v (nI 1) (nI 99999) with
    | false =>
      exact stw_err (k := 2) (as := [.int (nI p), .int v]) (by decide) (W_land_IAE (T_X3_land2 hfl hci hp hv) mk_X3_land (by decide)) (C_X4_land_e2 rfl hz hp hv) (by decide) hI
    | true =>
      obtain ⟨w, rfl, -, hw9⟩ := rOk_ex (by decide) (by decide) hv
      by_cases hw : cWhy3 μ 0 p = 0
      · have hb := why3_be c o hw
        have hw' : mWhy3 (μ.1 16 0 0) p = 0 := (q_why3 hc.1 hr.1 hk.1 hp).symm.trans hw
        have hc0 := cSave_CR (ns := ns) (sc := sc) hc.1
        have c0 := hc0.ph p hp6
        have b1 := o.owd_le
        have b3 := hk.1.s3
        have b2 : roomA (a.st 3) (a.ph p) ≤ 3992004 := by
          unfold roomA
          rw [if_pos hb]
          have h1 := o.chg_le
          have h2 : (chg (a.ph p) - rlf (a.ph p)) * a.st 3 ≤ 3992004 * 100 := Nat.mul_le_mul (by omega) b3
          omega
        have hmin : min w (min (owd (a.ph p)) (roomA (a.st 3) (a.ph p))) = min (min (roomA (a.st 3) (a.ph p)) w) (owd (a.ph p)) := by omega
        have hT0 : cLandTaken μ 0 p (nI w) (nI (a.st 3)) = nI (min (min (roomA (a.st 3) (a.ph p)) w) (owd (a.ph p))) := by
          unfold cLandTaken
          rw [cw_owed c o, cw_room c o b3, mini_nI (by omega) (by omega), mini_nI (by omega) (by omega), hmin]
        have hT : cLandTaken (cSave μ ns sc) 0 p (nI w) (nI (a.st 3)) = nI (min (min (roomA (a.st 3) (a.ph p)) w) (owd (a.ph p))) := by
          unfold cLandTaken
          rw [cw_owed c0 o, cw_room c0 o b3, mini_nI (by omega) (by omega), mini_nI (by omega) (by omega), hmin]
        have hC := C_X3_land (l := l) (G := G) hci hS hp hv hw
        rw [cw_ins c o, hc.1.st 3 (by decide), hT0] at hC
        unfold cLand at hC
        rw [hT] at hC
        have f : Fr (cSettle (mset (cSave μ ns sc) 8 0 p 10 ((cSave μ ns sc).1 8 0 p 10 + nI (min (min (roomA (a.st 3) (a.ph p)) w) (owd (a.ph p))))) 0 p (a.ph p).N (nI (min (min (roomA (a.st 3) (a.ph p)) w) (owd (a.ph p))))) (cSave μ ns sc) := fr_settle
        obtain ⟨g0, g1, g2, g3⟩ := take_M (m := (min (roomA (a.st 3) (a.ph p)) w)) m o (by omega) (kk := 35) (P := (a.ph p).P) (Ld := (a.ph p).Ld + min (min (roomA (a.st 3) (a.ph p)) w) (owd (a.ph p))) (Or.inr ⟨rfl, rfl, rfl⟩)
        have hM := fun (M : Mem) (e1 : M.1 16 0 0 = μ.1 16 0 0) (e2 : M.1 15 0 0 1 = nI sc) => C_X4_land (l := l) (G := G) e1 hz e2 hk.2.1 hp hv hw'
        have hR : cond (decide (mRoom (μ.1 16 0 0) p ≤ nI w)) (mRoom (μ.1 16 0 0) p) (nI w) = nI (min (roomA (a.st 3) (a.ph p)) w) := by
          rw [mw_room m o hp hr.1.rt b3 (hr.1.st 3 (by decide))]
          exact mPart_nI (by omega) (by omega)
        rw [hR] at hM
        refine stw_mut (as := [.int (nI p), .int (nI w)]) (a' := updP a p (APh.mk (takX (min (roomA (a.st 3) (a.ph p)) w) (a.ph p)).beg (takX (min (roomA (a.st 3) (a.ph p)) w) (a.ph p)).A (takX (min (roomA (a.st 3) (a.ph p)) w) (a.ph p)).E (takX (min (roomA (a.st 3) (a.ph p)) w) (a.ph p)).R (takX (min (roomA (a.st 3) (a.ph p)) w) (a.ph p)).La (takX (min (roomA (a.st 3) (a.ph p)) w) (a.ph p)).N (takX (min (roomA (a.st 3) (a.ph p)) w) (a.ph p)).B (takX (min (roomA (a.st 3) (a.ph p)) w) (a.ph p)).g (takX (min (roomA (a.st 3) (a.ph p)) w) (a.ph p)).I (takX (min (roomA (a.st 3) (a.ph p)) w) (a.ph p)).O (a.ph p).P ((a.ph p).Ld + min (min (roomA (a.st 3) (a.ph p)) w) (owd (a.ph p))) (takX (min (roomA (a.st 3) (a.ph p)) w) (a.ph p)).Su (takX (min (roomA (a.st 3) (a.ph p)) w) (a.ph p)).br (takX (min (roomA (a.st 3) (a.ph p)) w) (a.ph p)).lo (takX (min (roomA (a.st 3) (a.ph p)) w) (a.ph p)).so)) (z := zTakes (μ.1 16 0 0) p (nI (min (roomA (a.st 3) (a.ph p)) w)) 35) hc hr hk (W_land hC mk_X3_land (by decide)) (fun M k1 k2 => ct_r g0 (hM M k1 k2)) (by decide) f ?_ (hr.1.upd g3 g2 (fun q hq => (hk.1.ph q (by omega)).N4) g1 o.N4) (hk.1.upd (takX_OP o hb (by omega)))
        exact hc0.upd (fun k => congrFun (congrFun (congrFun (settle_tag (by decide) (by decide)) 0) 0) k) (fun k => congrFun (congrFun (congrFun (settle_tag (by decide) (by decide)) 0) 0) k) (fun k => congrFun (congrFun (congrFun (settle_tag (by decide) (by decide)) 0) 0) k) (fun p' t k q _ _ => settle_far (fun y => q y.2)) (settle_C c0 o hb (kk := 10) (Or.inr ⟨rfl, rfl, rfl⟩))
      · exact stw_err (k := 3) (as := [.int (nI p), .int (nI w)]) (by decide) (W_land_ISE (T_X3_land3 hfl hci hp hv hw) mk_X3_land (by decide)) (C_X4_land_e3 rfl hz hp hv (fun y => hw ((q_why3 hc.1 hr.1 hk.1 hp).trans y))) (by decide) hI
set_option maxHeartbeats 4000000 in
theorem st_lapse {l : Launch} {G : WG} (hfl : l.stackTraces = false) (μ : Mem) (x y : Int32) (hI : Inv μ) : StW l G Inv yL_lapse cL_lapse 5 hh_lapse yX4_lapse cX4_lapse 4 [.int x, .int y] μ := by
  obtain ⟨a, ns, sc, h, L, t, hc, hr, hk⟩ := id hI
  have hci := hc.1.CI hk.1
  have hS := hc.2.1
  have hz := hr.1.zi
  have hn6 := hk.1.n
  cases hx : cHas a.n x with
  | false =>
    exact stw_err (k := 1) (as := [.int x, .int y]) (by decide) (W_lapse_IOB (T_X3_lapse1 hfl hci hx) mk_X3_lapse (by decide)) (C_X4_lapse_e1 rfl hz hx) (by decide) hI
  | true =>
    obtain ⟨p, hp, rfl⟩ := cHas_inv hx hn6
    have hp6 : p < 6 := by omega
    have c := hc.1.ph p hp6
    have m := hr.1.ph p hp
    have o := hk.1.ph p hp6
    cases hy : uOk y with
    | false =>
      exact stw_err (k := 1) (as := [.int (nI p), .int y]) (by decide) (W_lapse_IOB (T_X3_lapse2 hfl hci hp hy) mk_X3_lapse (by decide)) (C_X4_lapse_e2 rfl hz hp hy) (by decide) hI
    | true =>
      obtain ⟨u, hu, rfl⟩ := uOk_inv hy
      by_cases hw : cWhy4 μ 0 p u = 0
      · have hb := why4_be c o hw
        have hw' : mWhy4 (μ.1 16 0 0) p u = 0 := (q_why4 hc.1 hr.1 hk.1 hp hu).symm.trans hw
        have hc0 := cSave_CR (ns := ns) (sc := sc) hc.1
        have c0 := hc0.ph p hp6
        have f : Fr (mset (cSave μ ns sc) 12 0 p u (μ.1 12 0 p u + cRel μ 0 p u)) (cSave μ ns sc) := fr_ms (by decide) (by decide)
        obtain ⟨g1, g2, g3⟩ := lapse_M (r := mo (μ.1 16 0 0) p (13 + u)) m o hb hu (m.re hb u hu)
        refine stw_mut (as := [.int (nI p), .int (nI u)]) (a' := updP a p (lapX u (a.ph p))) (z := zadd (zadd (zput (μ.1 16 0 0) p (13 + u) (nI 0)) p 31 (mo (μ.1 16 0 0) p (13 + u))) p 30 (mo (μ.1 16 0 0) p (13 + u))) hc hr hk (W_lapse (C_X3_lapse hci hS hp hu hw) mk_X3_lapse (by decide)) (fun M k1 k2 => ct_r ((m.re hb u hu).trans (cw_rel c o hu).symm) (C_X4_lapse k1 hz k2 hk.2.1 hp hu hw')) (by decide) f ?_ (hr.1.upd g3 g2 (fun q hq => (hk.1.ph q (by omega)).N4) g1 o.N4) (hk.1.upd (lapX_OP o hb hu))
        exact hc0.upd (fun k => mset_t (by decide)) (fun k => mset_t (by decide)) (fun k => mset_t (by decide)) (fun p' t k q _ _ => mset_p q) (lapse_C c0 o hu (congrFun (congrFun (cSave_0 (by decide)) p) u).symm (cw_rel c o hu))
      · exact stw_err (k := 2) (as := [.int (nI p), .int (nI u)]) (by decide) (W_lapse_ISE (T_X3_lapse3 hfl hci hp hu hw) mk_X3_lapse (by decide)) (C_X4_lapse_e3 rfl hz hp hu (fun y => hw ((q_why4 hc.1 hr.1 hk.1 hp hu).trans y))) (by decide) hI
theorem left_C {μ : Mem} {a : ALw} (hC : CR μ 0 a) (hK : OK a) {d : Nat} (hd : d ≤ 9999) : cLeft μ 0 (nI d) = decide (a.day + d ≤ 9999) := by
  have h9 := hK.day
  unfold cLeft
  rw [hC.day, pk_sub h9]
  by_cases q : a.day + d ≤ 9999
  · rw [decide_eq_true q, decide_eq_false (fun y => absurd ((nI_ltI (by omega) (by omega)).mp y) (by omega))]; rfl
  · rw [decide_eq_false q, decide_eq_true ((nI_ltI (by omega) (by omega)).mpr (by omega))]; rfl
theorem left_M {z : Zr} {a : ALw} (hM : MR z a) (hK : OK a) {d : Nat} (hd : d ≤ 9999) : mLeft z (nI d) = decide (a.day + d ≤ 9999) := by
  have h9 := hK.day
  unfold mLeft
  rw [hM.day, nI_add]
  by_cases q : a.day + d ≤ 9999
  · rw [decide_eq_true q, decide_eq_false (fun y => absurd ((nI_ltI (by decide) (by omega)).mp y) (by omega))]; rfl
  · rw [decide_eq_false q, decide_eq_true ((nI_ltI (by decide) (by omega)).mpr (by omega))]; rfl
set_option maxHeartbeats 4000000 in
theorem st_pass {l : Launch} {G : WG} (hfl : l.stackTraces = false) (μ : Mem) (x : Int32) (hI : Inv μ) : StW l G Inv yL_pass cL_pass 4 hh_pass yX4_pass cX4_pass 2 [.int x] μ := by
  obtain ⟨a, ns, sc, h, L, t, hc, hr, hk⟩ := id hI
  have hci := hc.1.CI hk.1
  have hS := hc.2.1
  have hz := hr.1.zi
  have hn6 := hk.1.n
  cases hv : rOk x (nI 1) (nI 99) with
  | false =>
    exact stw_err (k := 1) (as := [.int x]) (by decide) (W_pass_IAE (T_X3_pass1 hfl hv) mk_X3_pass (by decide)) (C_X4_pass_e1 hv) (by decide) hI
  | true =>
    obtain ⟨d, rfl, -, hd9⟩ := rOk_ex (by decide) (by decide) hv
    have e1 := left_C hc.1 hk.1 (d := d) (by omega)
    have e2 := left_M hr.1 hk.1 (d := d) (by omega)
    by_cases hl : a.day + d ≤ 9999
    · rw [decide_eq_true hl] at e1 e2
      have hc0 := cSave_CR (ns := ns) (sc := sc) hc.1
      obtain ⟨p1, p2⟩ := pass_C hc0 hk.1.w (d := d) (by omega)
      obtain ⟨p3, p4⟩ := pass_M hr.1 hk.1.w d (by omega)
      have f : Fr (cPass (cSave μ ns sc) 0 a.n (nI d)) (cSave μ ns sc) := fr_pass
      exact stw_mut (as := [.int (nI d)]) (a' := aPass a d) (z := (dpsK (μ.1 16 0 0) a.n d).1) hc hr hk (W_pass (C_X3_pass hci hS hv e1) mk_X3_pass (by decide)) (fun M k1 k2 => ct_r (p4.trans p2.symm) (C_X4_pass k1 hz k2 hk.2.1 (by omega) hv e2)) (by decide) f p1 p3 (aPass_OK hk.1 hl)
    · rw [decide_eq_false hl] at e1 e2
      exact stw_err (k := 2) (as := [.int (nI d)]) (by decide) (W_pass_ISE (T_X3_pass2 hfl hv e1) mk_X3_pass (by decide)) (C_X4_pass_e2 rfl hz hv e2) (by decide) hI
set_option maxHeartbeats 4000000 in
theorem st_addPhase {l : Launch} {G : WG} (hfl : l.stackTraces = false) (μ : Mem) (hI : Inv μ) : StW l G Inv yL_addPhase cL_addPhase 3 hh_addPhase yX4_addPhase cX4_addPhase 3 [] μ := by
  obtain ⟨a, ns, sc, h, L, t, hc, hr, hk⟩ := id hI
  have hci := hc.1.CI hk.1
  have hS := hc.2.1
  have hz := hr.1.zi
  have hn6 := hk.1.n
  by_cases hn : a.n < 6
  · have f : Fr (cAppend (cSave μ ns sc) 0 a.n) (cSave μ ns sc) := fr_app
    exact stw_mut (as := []) (a' := aAdd a) (z := zApp (μ.1 16 0 0) a.n) hc hr hk (W_addPhase (C_X3_addPhase hci hS hn) mk_X3_addPhase (by decide)) (fun M k1 k2 => C_X4_addPhase k1 hz k2 hk.2.1 hn) (by decide) f (add_C (cSave_CR hc.1)) (add_M hr.1 hk.1 hn) (aAdd_OK hk.1 hn)
  · have h6 : a.n = 6 := by omega
    exact stw_err (k := 1) (as := []) (by decide) (W_addPhase_ISE (T_X3_addPhase1 hfl (h6 ▸ hci)) mk_X3_addPhase (by decide)) (C_X4_addPhase_e1 rfl hz h6) (by decide) hI
