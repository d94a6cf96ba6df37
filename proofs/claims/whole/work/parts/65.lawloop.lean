def StW (l : Launch) (G : WG) (Inv : Mem → Prop) (yw : MethodName) (cw : ByteArray) (nw : Nat) (hh : List (Nat × Nat × Nat × Nat)) (ym : MethodName) (cm : ByteArray) (nm : Nat) (as : List Value) (μ : Mem) : Prop := ∃ (k r : Int32) (μ1 μ2 : Mem) (d2 d3 : Nat), (d2 ≤ 11 ∧ d3 ≤ 11) ∧ CtW l G 11 yw cw nw hh (.ref (adr G 0 0 0) :: (as ++ [.ref (adr G 21 0 0)])) μ k μ1 ∧ Ct l G d2 ym cm nm (some .int) (.ref (adr G 15 0 0) :: as) μ1 (some (.int r)) μ2 ∧ Ct l G d3 yX4_thrown cX4_thrown 1 (some .int) [.ref (adr G 15 0 0)] μ2 (some (.int k)) μ2 ∧ (k = 0 → μ2.2 1 = r.toInt64) ∧ Inv μ2
def StE (l : Launch) (G : WG) (Inv : Mem → Prop) (y3 : MethodName) (c3 : ByteArray) (n3 : Nat) (y4 : MethodName) (c4 : ByteArray) (n4 : Nat) (ty : FieldType) (Pr : Value → Prop) (μ : Mem) : Prop := ∃ (r : Value) (μ1 μ2 : Mem) (d1 d2 : Nat), (d1 ≤ 11 ∧ d2 ≤ 11) ∧ Pr r ∧ Ct l G d1 y3 c3 n3 (some ty) [.ref (adr G 0 0 0)] μ (some r) μ1 ∧ Ct l G d2 y4 c4 n4 (some ty) [.ref (adr G 15 0 0)] μ1 (some r) μ2 ∧ Inv μ2
def LawSt (l : Launch) (G : WG) (Inv : Mem → Prop) : Prop := (∀ (μ : Mem), Inv μ → StW l G Inv yL_addPhase cL_addPhase 3 hh_addPhase yX4_addPhase cX4_addPhase 3 [] μ) ∧ (∀ (μ : Mem) (x y z : Int32), Inv μ → StW l G Inv yL_area cL_area 6 hh_area yX4_area cX4_area 5 [.int x, .int y, .int z] μ) ∧ (∀ (μ : Mem) (x y z : Int32), Inv μ → StW l G Inv yL_exempt cL_exempt 6 hh_exempt yX4_exempt cX4_exempt 5 [.int x, .int y, .int z] μ) ∧ (∀ (μ : Mem) (x y : Int32), Inv μ → StW l G Inv yL_rate cL_rate 5 hh_rate yX4_rate cX4_rate 4 [.int x, .int y] μ) ∧ (∀ (μ : Mem) (x y : Int32), Inv μ → StW l G Inv yL_set cL_set 5 hh_set yX4_set cX4_set 4 [.int x, .int y] μ) ∧ (∀ (μ : Mem) (x : Int32), Inv μ → StW l G Inv yL_begin cL_begin 4 hh_begin yX4_begin cX4_begin 2 [.int x] μ) ∧ (∀ (μ : Mem) (x y : Int32), Inv μ → StW l G Inv yL_pay cL_pay 5 hh_pay yX4_pay cX4_pay 3 [.int x, .int y] μ) ∧ (∀ (μ : Mem) (x y : Int32), Inv μ → StW l G Inv yL_land cL_land 5 hh_land yX4_land cX4_land 4 [.int x, .int y] μ) ∧ (∀ (μ : Mem) (x y : Int32), Inv μ → StW l G Inv yL_lapse cL_lapse 5 hh_lapse yX4_lapse cX4_lapse 4 [.int x, .int y] μ) ∧ (∀ (μ : Mem) (x : Int32), Inv μ → StW l G Inv yL_pass cL_pass 4 hh_pass yX4_pass cX4_pass 2 [.int x] μ) ∧ (∀ (μ : Mem) (x : Int32), Inv μ → StW l G Inv yL_append cL_append 4 hh_append yX4_append cX4_append 2 [.int x] μ) ∧ (∀ μ : Mem, Inv μ → StE l G Inv yX3_clearBuffer cX3_clearBuffer 2 yX4_clearBuffer cX4_clearBuffer 2 .int (fun r => ∃ v, r = .int v) μ) ∧ (∀ μ : Mem, Inv μ → StE l G Inv yX3_firstError cX3_firstError 1 yX4_firstError cX4_firstError 1 .int (fun r => ∃ v, r = .int v) μ) ∧ (∀ (μ : Mem), Inv μ → StW l G Inv yL_run cL_run 3 hh_run yX4_run cX4_run 3 [] μ) ∧ (∀ (μ : Mem), Inv μ → StW l G Inv yL_undo cL_undo 3 hh_undo yX4_undo cX4_undo 2 [] μ) ∧ (∀ (μ : Mem) (x y : Int32), Inv μ → StW l G Inv yL_phase cL_phase 5 hh_phase yX4_phase cX4_phase 3 [.int x, .int y] μ) ∧ (∀ (μ : Mem) (x y z : Int32), Inv μ → StW l G Inv yL_use cL_use 6 hh_use yX4_use cX4_use 4 [.int x, .int y, .int z] μ) ∧ (∀ (μ : Mem) (x y z : Int32), Inv μ → StW l G Inv yL_instalment cL_instalment 6 hh_instalment yX4_instalment cX4_instalment 4 [.int x, .int y, .int z] μ) ∧ (∀ (μ : Mem) (x : Int32), Inv μ → StW l G Inv yL_count cL_count 4 hh_count yX4_count cX4_count 2 [.int x] μ) ∧ (∀ (μ : Mem) (x : Int32), Inv μ → StW l G Inv yL_setting cL_setting 4 hh_setting yX4_setting cX4_setting 2 [.int x] μ) ∧ (∀ (μ : Mem) (x y z : Int32), Inv μ → StW l G Inv yL_whyNot cL_whyNot 6 hh_whyNot yX4_whyNot cX4_whyNot 4 [.int x, .int y, .int z] μ) ∧ (∀ (μ : Mem) (x y : Int32), Inv μ → StW l G Inv yL_ifBegun cL_ifBegun 5 hh_ifBegun yX4_ifBegun cX4_ifBegun 3 [.int x, .int y] μ) ∧ (∀ (μ : Mem) (x : Int32), Inv μ → StW l G Inv yL_breaksIn cL_breaksIn 4 hh_breaksIn yX4_breaksIn cX4_breaksIn 2 [.int x] μ) ∧ (∀ (μ : Mem) (x : Int32), Inv μ → StW l G Inv yL_surchargesIn cL_surchargesIn 4 hh_surchargesIn yX4_surchargesIn cX4_surchargesIn 2 [.int x] μ) ∧ (∀ μ : Mem, Inv μ → StE l G Inv yX3_mostUrgent cX3_mostUrgent 8 yX4_mostUrgent cX4_mostUrgent 1 .int (fun r => ∃ v, r = .int v) μ) ∧ (∀ (μ : Mem) (x y : Int32), Inv μ → StW l G Inv yL_dueIn cL_dueIn 5 hh_dueIn yX4_dueIn cX4_dueIn 3 [.int x, .int y] μ) ∧ (∀ μ : Mem, Inv μ → StE l G Inv yX3_settledShare cX3_settledShare 3 yX4_settledShare cX4_settledShare 1 .double (fun r => ∃ v, r = .double v ∧ Op.cmpValue (FP.dcmp v v) .l = 0) μ) ∧ (∀ μ : Mem, Inv μ → StE l G Inv yX3_digest cX3_digest 4 yX4_digest cX4_digest 2 .long (fun r => ∃ v, r = .long v) μ)
theorem LawSt.mk {l : Launch} {G : WG} {Inv : Mem → Prop} (f_s_addPhase : ∀ (μ : Mem), Inv μ → StW l G Inv yL_addPhase cL_addPhase 3 hh_addPhase yX4_addPhase cX4_addPhase 3 [] μ) (f_s_area : ∀ (μ : Mem) (x y z : Int32), Inv μ → StW l G Inv yL_area cL_area 6 hh_area yX4_area cX4_area 5 [.int x, .int y, .int z] μ) (f_s_exempt : ∀ (μ : Mem) (x y z : Int32), Inv μ → StW l G Inv yL_exempt cL_exempt 6 hh_exempt yX4_exempt cX4_exempt 5 [.int x, .int y, .int z] μ) (f_s_rate : ∀ (μ : Mem) (x y : Int32), Inv μ → StW l G Inv yL_rate cL_rate 5 hh_rate yX4_rate cX4_rate 4 [.int x, .int y] μ) (f_s_set : ∀ (μ : Mem) (x y : Int32), Inv μ → StW l G Inv yL_set cL_set 5 hh_set yX4_set cX4_set 4 [.int x, .int y] μ) (f_s_begin : ∀ (μ : Mem) (x : Int32), Inv μ → StW l G Inv yL_begin cL_begin 4 hh_begin yX4_begin cX4_begin 2 [.int x] μ) (f_s_pay : ∀ (μ : Mem) (x y : Int32), Inv μ → StW l G Inv yL_pay cL_pay 5 hh_pay yX4_pay cX4_pay 3 [.int x, .int y] μ) (f_s_land : ∀ (μ : Mem) (x y : Int32), Inv μ → StW l G Inv yL_land cL_land 5 hh_land yX4_land cX4_land 4 [.int x, .int y] μ) (f_s_lapse : ∀ (μ : Mem) (x y : Int32), Inv μ → StW l G Inv yL_lapse cL_lapse 5 hh_lapse yX4_lapse cX4_lapse 4 [.int x, .int y] μ) (f_s_pass : ∀ (μ : Mem) (x : Int32), Inv μ → StW l G Inv yL_pass cL_pass 4 hh_pass yX4_pass cX4_pass 2 [.int x] μ) (f_s_append : ∀ (μ : Mem) (x : Int32), Inv μ → StW l G Inv yL_append cL_append 4 hh_append yX4_append cX4_append 2 [.int x] μ) (f_s_clearBuffer : ∀ μ : Mem, Inv μ → StE l G Inv yX3_clearBuffer cX3_clearBuffer 2 yX4_clearBuffer cX4_clearBuffer 2 .int (fun r => ∃ v, r = .int v) μ) (f_s_firstError : ∀ μ : Mem, Inv μ → StE l G Inv yX3_firstError cX3_firstError 1 yX4_firstError cX4_firstError 1 .int (fun r => ∃ v, r = .int v) μ) (f_s_run : ∀ (μ : Mem), Inv μ → StW l G Inv yL_run cL_run 3 hh_run yX4_run cX4_run 3 [] μ) (f_s_undo : ∀ (μ : Mem), Inv μ → StW l G Inv yL_undo cL_undo 3 hh_undo yX4_undo cX4_undo 2 [] μ) (f_s_phase : ∀ (μ : Mem) (x y : Int32), Inv μ → StW l G Inv yL_phase cL_phase 5 hh_phase yX4_phase cX4_phase 3 [.int x, .int y] μ) (f_s_use : ∀ (μ : Mem) (x y z : Int32), Inv μ → StW l G Inv yL_use cL_use 6 hh_use yX4_use cX4_use 4 [.int x, .int y, .int z] μ) (f_s_instalment : ∀ (μ : Mem) (x y z : Int32), Inv μ → StW l G Inv yL_instalment cL_instalment 6 hh_instalment yX4_instalment cX4_instalment 4 [.int x, .int y, .int z] μ) (f_s_count : ∀ (μ : Mem) (x : Int32), Inv μ → StW l G Inv yL_count cL_count 4 hh_count yX4_count cX4_count 2 [.int x] μ) (f_s_setting : ∀ (μ : Mem) (x : Int32), Inv μ → StW l G Inv yL_setting cL_setting 4 hh_setting yX4_setting cX4_setting 2 [.int x] μ) (f_s_whyNot : ∀ (μ : Mem) (x y z : Int32), Inv μ → StW l G Inv yL_whyNot cL_whyNot 6 hh_whyNot yX4_whyNot cX4_whyNot 4 [.int x, .int y, .int z] μ) (f_s_ifBegun : ∀ (μ : Mem) (x y : Int32), Inv μ → StW l G Inv yL_ifBegun cL_ifBegun 5 hh_ifBegun yX4_ifBegun cX4_ifBegun 3 [.int x, .int y] μ) (f_s_breaksIn : ∀ (μ : Mem) (x : Int32), Inv μ → StW l G Inv yL_breaksIn cL_breaksIn 4 hh_breaksIn yX4_breaksIn cX4_breaksIn 2 [.int x] μ) (f_s_surchargesIn : ∀ (μ : Mem) (x : Int32), Inv μ → StW l G Inv yL_surchargesIn cL_surchargesIn 4 hh_surchargesIn yX4_surchargesIn cX4_surchargesIn 2 [.int x] μ) (f_s_mostUrgent : ∀ μ : Mem, Inv μ → StE l G Inv yX3_mostUrgent cX3_mostUrgent 8 yX4_mostUrgent cX4_mostUrgent 1 .int (fun r => ∃ v, r = .int v) μ) (f_s_dueIn : ∀ (μ : Mem) (x y : Int32), Inv μ → StW l G Inv yL_dueIn cL_dueIn 5 hh_dueIn yX4_dueIn cX4_dueIn 3 [.int x, .int y] μ) (f_s_settledShare : ∀ μ : Mem, Inv μ → StE l G Inv yX3_settledShare cX3_settledShare 3 yX4_settledShare cX4_settledShare 1 .double (fun r => ∃ v, r = .double v ∧ Op.cmpValue (FP.dcmp v v) .l = 0) μ) (f_s_digest : ∀ μ : Mem, Inv μ → StE l G Inv yX3_digest cX3_digest 4 yX4_digest cX4_digest 2 .long (fun r => ∃ v, r = .long v) μ) : LawSt l G Inv := ⟨f_s_addPhase, f_s_area, f_s_exempt, f_s_rate, f_s_set, f_s_begin, f_s_pay, f_s_land, f_s_lapse, f_s_pass, f_s_append, f_s_clearBuffer, f_s_firstError, f_s_run, f_s_undo, f_s_phase, f_s_use, f_s_instalment, f_s_count, f_s_setting, f_s_whyNot, f_s_ifBegun, f_s_breaksIn, f_s_surchargesIn, f_s_mostUrgent, f_s_dueIn, f_s_settledShare, f_s_digest⟩
theorem LawSt.s_addPhase {l : Launch} {G : WG} {Inv : Mem → Prop} (h : LawSt l G Inv) : ∀ (μ : Mem), Inv μ → StW l G Inv yL_addPhase cL_addPhase 3 hh_addPhase yX4_addPhase cX4_addPhase 3 [] μ := h.1
theorem LawSt.s_area {l : Launch} {G : WG} {Inv : Mem → Prop} (h : LawSt l G Inv) : ∀ (μ : Mem) (x y z : Int32), Inv μ → StW l G Inv yL_area cL_area 6 hh_area yX4_area cX4_area 5 [.int x, .int y, .int z] μ := h.2.1
theorem LawSt.s_exempt {l : Launch} {G : WG} {Inv : Mem → Prop} (h : LawSt l G Inv) : ∀ (μ : Mem) (x y z : Int32), Inv μ → StW l G Inv yL_exempt cL_exempt 6 hh_exempt yX4_exempt cX4_exempt 5 [.int x, .int y, .int z] μ := h.2.2.1
theorem LawSt.s_rate {l : Launch} {G : WG} {Inv : Mem → Prop} (h : LawSt l G Inv) : ∀ (μ : Mem) (x y : Int32), Inv μ → StW l G Inv yL_rate cL_rate 5 hh_rate yX4_rate cX4_rate 4 [.int x, .int y] μ := h.2.2.2.1
theorem LawSt.s_set {l : Launch} {G : WG} {Inv : Mem → Prop} (h : LawSt l G Inv) : ∀ (μ : Mem) (x y : Int32), Inv μ → StW l G Inv yL_set cL_set 5 hh_set yX4_set cX4_set 4 [.int x, .int y] μ := h.2.2.2.2.1
theorem LawSt.s_begin {l : Launch} {G : WG} {Inv : Mem → Prop} (h : LawSt l G Inv) : ∀ (μ : Mem) (x : Int32), Inv μ → StW l G Inv yL_begin cL_begin 4 hh_begin yX4_begin cX4_begin 2 [.int x] μ := h.2.2.2.2.2.1
theorem LawSt.s_pay {l : Launch} {G : WG} {Inv : Mem → Prop} (h : LawSt l G Inv) : ∀ (μ : Mem) (x y : Int32), Inv μ → StW l G Inv yL_pay cL_pay 5 hh_pay yX4_pay cX4_pay 3 [.int x, .int y] μ := h.2.2.2.2.2.2.1
theorem LawSt.s_land {l : Launch} {G : WG} {Inv : Mem → Prop} (h : LawSt l G Inv) : ∀ (μ : Mem) (x y : Int32), Inv μ → StW l G Inv yL_land cL_land 5 hh_land yX4_land cX4_land 4 [.int x, .int y] μ := h.2.2.2.2.2.2.2.1
theorem LawSt.s_lapse {l : Launch} {G : WG} {Inv : Mem → Prop} (h : LawSt l G Inv) : ∀ (μ : Mem) (x y : Int32), Inv μ → StW l G Inv yL_lapse cL_lapse 5 hh_lapse yX4_lapse cX4_lapse 4 [.int x, .int y] μ := h.2.2.2.2.2.2.2.2.1
theorem LawSt.s_pass {l : Launch} {G : WG} {Inv : Mem → Prop} (h : LawSt l G Inv) : ∀ (μ : Mem) (x : Int32), Inv μ → StW l G Inv yL_pass cL_pass 4 hh_pass yX4_pass cX4_pass 2 [.int x] μ := h.2.2.2.2.2.2.2.2.2.1
theorem LawSt.s_append {l : Launch} {G : WG} {Inv : Mem → Prop} (h : LawSt l G Inv) : ∀ (μ : Mem) (x : Int32), Inv μ → StW l G Inv yL_append cL_append 4 hh_append yX4_append cX4_append 2 [.int x] μ := h.2.2.2.2.2.2.2.2.2.2.1
theorem LawSt.s_clearBuffer {l : Launch} {G : WG} {Inv : Mem → Prop} (h : LawSt l G Inv) : ∀ μ : Mem, Inv μ → StE l G Inv yX3_clearBuffer cX3_clearBuffer 2 yX4_clearBuffer cX4_clearBuffer 2 .int (fun r => ∃ v, r = .int v) μ := h.2.2.2.2.2.2.2.2.2.2.2.1
theorem LawSt.s_firstError {l : Launch} {G : WG} {Inv : Mem → Prop} (h : LawSt l G Inv) : ∀ μ : Mem, Inv μ → StE l G Inv yX3_firstError cX3_firstError 1 yX4_firstError cX4_firstError 1 .int (fun r => ∃ v, r = .int v) μ := h.2.2.2.2.2.2.2.2.2.2.2.2.1
theorem LawSt.s_run {l : Launch} {G : WG} {Inv : Mem → Prop} (h : LawSt l G Inv) : ∀ (μ : Mem), Inv μ → StW l G Inv yL_run cL_run 3 hh_run yX4_run cX4_run 3 [] μ := h.2.2.2.2.2.2.2.2.2.2.2.2.2.1
theorem LawSt.s_undo {l : Launch} {G : WG} {Inv : Mem → Prop} (h : LawSt l G Inv) : ∀ (μ : Mem), Inv μ → StW l G Inv yL_undo cL_undo 3 hh_undo yX4_undo cX4_undo 2 [] μ := h.2.2.2.2.2.2.2.2.2.2.2.2.2.2.1
theorem LawSt.s_phase {l : Launch} {G : WG} {Inv : Mem → Prop} (h : LawSt l G Inv) : ∀ (μ : Mem) (x y : Int32), Inv μ → StW l G Inv yL_phase cL_phase 5 hh_phase yX4_phase cX4_phase 3 [.int x, .int y] μ := h.2.2.2.2.2.2.2.2.2.2.2.2.2.2.2.1
theorem LawSt.s_use {l : Launch} {G : WG} {Inv : Mem → Prop} (h : LawSt l G Inv) : ∀ (μ : Mem) (x y z : Int32), Inv μ → StW l G Inv yL_use cL_use 6 hh_use yX4_use cX4_use 4 [.int x, .int y, .int z] μ := h.2.2.2.2.2.2.2.2.2.2.2.2.2.2.2.2.1
theorem LawSt.s_instalment {l : Launch} {G : WG} {Inv : Mem → Prop} (h : LawSt l G Inv) : ∀ (μ : Mem) (x y z : Int32), Inv μ → StW l G Inv yL_instalment cL_instalment 6 hh_instalment yX4_instalment cX4_instalment 4 [.int x, .int y, .int z] μ := h.2.2.2.2.2.2.2.2.2.2.2.2.2.2.2.2.2.1
theorem LawSt.s_count {l : Launch} {G : WG} {Inv : Mem → Prop} (h : LawSt l G Inv) : ∀ (μ : Mem) (x : Int32), Inv μ → StW l G Inv yL_count cL_count 4 hh_count yX4_count cX4_count 2 [.int x] μ := h.2.2.2.2.2.2.2.2.2.2.2.2.2.2.2.2.2.2.1
theorem LawSt.s_setting {l : Launch} {G : WG} {Inv : Mem → Prop} (h : LawSt l G Inv) : ∀ (μ : Mem) (x : Int32), Inv μ → StW l G Inv yL_setting cL_setting 4 hh_setting yX4_setting cX4_setting 2 [.int x] μ := h.2.2.2.2.2.2.2.2.2.2.2.2.2.2.2.2.2.2.2.1
theorem LawSt.s_whyNot {l : Launch} {G : WG} {Inv : Mem → Prop} (h : LawSt l G Inv) : ∀ (μ : Mem) (x y z : Int32), Inv μ → StW l G Inv yL_whyNot cL_whyNot 6 hh_whyNot yX4_whyNot cX4_whyNot 4 [.int x, .int y, .int z] μ := h.2.2.2.2.2.2.2.2.2.2.2.2.2.2.2.2.2.2.2.2.1
theorem LawSt.s_ifBegun {l : Launch} {G : WG} {Inv : Mem → Prop} (h : LawSt l G Inv) : ∀ (μ : Mem) (x y : Int32), Inv μ → StW l G Inv yL_ifBegun cL_ifBegun 5 hh_ifBegun yX4_ifBegun cX4_ifBegun 3 [.int x, .int y] μ := h.2.2.2.2.2.2.2.2.2.2.2.2.2.2.2.2.2.2.2.2.2.1
theorem LawSt.s_breaksIn {l : Launch} {G : WG} {Inv : Mem → Prop} (h : LawSt l G Inv) : ∀ (μ : Mem) (x : Int32), Inv μ → StW l G Inv yL_breaksIn cL_breaksIn 4 hh_breaksIn yX4_breaksIn cX4_breaksIn 2 [.int x] μ := h.2.2.2.2.2.2.2.2.2.2.2.2.2.2.2.2.2.2.2.2.2.2.1
theorem LawSt.s_surchargesIn {l : Launch} {G : WG} {Inv : Mem → Prop} (h : LawSt l G Inv) : ∀ (μ : Mem) (x : Int32), Inv μ → StW l G Inv yL_surchargesIn cL_surchargesIn 4 hh_surchargesIn yX4_surchargesIn cX4_surchargesIn 2 [.int x] μ := h.2.2.2.2.2.2.2.2.2.2.2.2.2.2.2.2.2.2.2.2.2.2.2.1
theorem LawSt.s_mostUrgent {l : Launch} {G : WG} {Inv : Mem → Prop} (h : LawSt l G Inv) : ∀ μ : Mem, Inv μ → StE l G Inv yX3_mostUrgent cX3_mostUrgent 8 yX4_mostUrgent cX4_mostUrgent 1 .int (fun r => ∃ v, r = .int v) μ := h.2.2.2.2.2.2.2.2.2.2.2.2.2.2.2.2.2.2.2.2.2.2.2.2.1
theorem LawSt.s_dueIn {l : Launch} {G : WG} {Inv : Mem → Prop} (h : LawSt l G Inv) : ∀ (μ : Mem) (x y : Int32), Inv μ → StW l G Inv yL_dueIn cL_dueIn 5 hh_dueIn yX4_dueIn cX4_dueIn 3 [.int x, .int y] μ := h.2.2.2.2.2.2.2.2.2.2.2.2.2.2.2.2.2.2.2.2.2.2.2.2.2.1
theorem LawSt.s_settledShare {l : Launch} {G : WG} {Inv : Mem → Prop} (h : LawSt l G Inv) : ∀ μ : Mem, Inv μ → StE l G Inv yX3_settledShare cX3_settledShare 3 yX4_settledShare cX4_settledShare 1 .double (fun r => ∃ v, r = .double v ∧ Op.cmpValue (FP.dcmp v v) .l = 0) μ := h.2.2.2.2.2.2.2.2.2.2.2.2.2.2.2.2.2.2.2.2.2.2.2.2.2.2.1
theorem LawSt.s_digest {l : Launch} {G : WG} {Inv : Mem → Prop} (h : LawSt l G Inv) : ∀ μ : Mem, Inv μ → StE l G Inv yX3_digest cX3_digest 4 yX4_digest cX4_digest 2 .long (fun r => ∃ v, r = .long v) μ := h.2.2.2.2.2.2.2.2.2.2.2.2.2.2.2.2.2.2.2.2.2.2.2.2.2.2.2
theorem L_next {l : Launch} {G : WG} {b0 b L : Nat} {xs : Nat → Int32} {nc ns i : Nat} {Pq : Heap → Prop} (kk : JL l G b0 b L xs nc ns Pq 23 (lvC G b (i + 4)) []) : JL l G b0 b L xs nc ns Pq 1726 (lvC G b i) [] := by
  refine J_iincN (b := 4) dL_law_1726 rfl rfl (by decide) rfl ?_
  refine J_goto (tgt := 23) dL_law_1729 (by decide) ?_
  exact J_lv [0, 1, 2, 3, 4] rfl kk
set_option maxHeartbeats 4000000 in
set_option maxRecDepth 100000 in
theorem L_loop {l : Launch} {G : WG} {b0 b L : Nat} {xs : Nat → Int32} {Inv : Mem → Prop} (hL : L ≤ 2048) (hA : ∀ q, AG G q → AB b0 q) (hSt : LawSt l G Inv) : ∀ (n i nc ns : Nat) (μ : Mem), L ≤ i + 4 * n → i ≤ L → 4 * nc ≤ 1332 + i → 4 * ns ≤ 15128 + 6 * i → Inv μ → JL l G b0 b L xs nc ns (Rep G μ) 23 (lvC G b i) [] := by
  have hrc : 600000 ≤ room_1.cells := Nat.le_of_ble_eq_true rfl
  have hrs : 7000000 ≤ room_1.slots := Nat.le_of_ble_eq_true rfl
  intro n
  induction n with
  | zero =>
    intro i nc ns μ h1 h2 h3 h4 hI
    refine J_iload dL_law_23 rfl ?_
    refine J_aload_n dL_law_25 rfl ?_
    refine L_slen dL_law_26 ?_
    refine J_iconstN 4 dL_law_27 rfl ?_
    refine J_isub dL_law_28 ?_
    refine J_icmp_gt (tgt := 1732) dL_law_29 (by decide) (fun _ => ?_) (fun h => absurd (Int32.lt_iff_toInt_lt.mpr (by rw [nI_subI hL, nI_toInt (by omega)]; omega)) h)
    refine J_iconst (v := 1) dL_law_1732 (by decide) ?_
    exact L_end (by omega) (by omega) dL_law_1733
  | succ n ih =>
    intro i nc ns μ h1 h2 h3 h4 hI
    refine J_iload dL_law_23 rfl ?_
    refine J_aload_n dL_law_25 rfl ?_
    refine L_slen dL_law_26 ?_
    refine J_iconstN 4 dL_law_27 rfl ?_
    refine J_isub dL_law_28 ?_
    refine J_icmp_gt (tgt := 1732) dL_law_29 (by decide) (fun _ => ?_) (fun h => ?_)
    · refine J_iconst (v := 1) dL_law_1732 (by decide) ?_
      exact L_end (by omega) (by omega) dL_law_1733
    · have hi : i + 4 ≤ L := by
        rcases Nat.lt_or_ge L (i + 4) with q | q
        · exact absurd (Int32.lt_iff_toInt_lt.mpr (by rw [nI_subI hL, nI_toInt (by omega)]; omega)) h
        · exact q
      have hn : nc + 1 ≤ room_1.cells ∧ ns + 6 ≤ room_1.slots := ⟨by omega, by omega⟩
      have kk1 : ∀ μ2, Inv μ2 → JL l G b0 b L xs (nc + 1) (ns + 6) (Rep G μ2) 1726 (lvC G b i) [] := fun μ2 h9 => L_next (ih (i + 4) (nc + 1) (ns + 6) μ2 (by omega) (by omega) (by omega) (by omega) h9)
      have kk0 : ∀ μ2, Inv μ2 → JL l G b0 b L xs nc ns (Rep G μ2) 1726 (lvC G b i) [] := fun μ2 h9 => L_next (ih (i + 4) nc ns μ2 (by omega) (by omega) (by omega) (by omega) h9)
      refine J_aload_n dL_law_32 rfl ?_
      refine J_iload dL_law_33 rfl ?_
      refine L_sld (i := i) hL (by omega) dL_law_35 ?_
      refine J_bipush (v := 31) dL_law_36 (by decide) ?_
      refine J_iand dL_law_38 ?_
      obtain ⟨v, hv, ev⟩ := and31 (xs i)
      rw [ev]
      match v, hv with
      | 0, _ =>
        refine J_tableIn (off := 125) (tgt := 164) dL_law_39 (by decide +kernel) (by decide +kernel) rfl (by decide) ?_
        obtain ⟨k, r, μ1, μ2, d2, d3, hd, g1, g2, g3, hr, hI2⟩ := hSt.s_addPhase μ  hI
        exact LC_addPhase hL hA hi hn hd g1 g2 g3 hr (kk1 μ2 hI2)
      | 1, _ =>
        refine J_tableIn (off := 169) (tgt := 208) dL_law_39 (by decide +kernel) (by decide +kernel) rfl (by decide) ?_
        obtain ⟨k, r, μ1, μ2, d2, d3, hd, g1, g2, g3, hr, hI2⟩ := hSt.s_area μ (xs (i + 1)) (xs (i + 2)) (xs (i + 3)) hI
        exact LC_area hL hA hi hn hd g1 g2 g3 hr (kk1 μ2 hI2)
      | 2, _ =>
        refine J_tableIn (off := 249) (tgt := 288) dL_law_39 (by decide +kernel) (by decide +kernel) rfl (by decide) ?_
        obtain ⟨k, r, μ1, μ2, d2, d3, hd, g1, g2, g3, hr, hI2⟩ := hSt.s_exempt μ (xs (i + 1)) (xs (i + 2)) (xs (i + 3)) hI
        exact LC_exempt hL hA hi hn hd g1 g2 g3 hr (kk1 μ2 hI2)
      | 3, _ =>
        refine J_tableIn (off := 329) (tgt := 368) dL_law_39 (by decide +kernel) (by decide +kernel) rfl (by decide) ?_
        obtain ⟨k, r, μ1, μ2, d2, d3, hd, g1, g2, g3, hr, hI2⟩ := hSt.s_rate μ (xs (i + 1)) (xs (i + 2)) hI
        exact LC_rate hL hA hi hn hd g1 g2 g3 hr (kk1 μ2 hI2)
      | 4, _ =>
        refine J_tableIn (off := 397) (tgt := 436) dL_law_39 (by decide +kernel) (by decide +kernel) rfl (by decide) ?_
        obtain ⟨k, r, μ1, μ2, d2, d3, hd, g1, g2, g3, hr, hI2⟩ := hSt.s_set μ (xs (i + 1)) (xs (i + 2)) hI
        exact LC_set hL hA hi hn hd g1 g2 g3 hr (kk1 μ2 hI2)
      | 5, _ =>
        refine J_tableIn (off := 465) (tgt := 504) dL_law_39 (by decide +kernel) (by decide +kernel) rfl (by decide) ?_
        obtain ⟨k, r, μ1, μ2, d2, d3, hd, g1, g2, g3, hr, hI2⟩ := hSt.s_begin μ (xs (i + 1)) hI
        exact LC_begin hL hA hi hn hd g1 g2 g3 hr (kk1 μ2 hI2)
      | 6, _ =>
        refine J_tableIn (off := 521) (tgt := 560) dL_law_39 (by decide +kernel) (by decide +kernel) rfl (by decide) ?_
        obtain ⟨k, r, μ1, μ2, d2, d3, hd, g1, g2, g3, hr, hI2⟩ := hSt.s_pay μ (xs (i + 1)) (xs (i + 2)) hI
        exact LC_pay hL hA hi hn hd g1 g2 g3 hr (kk1 μ2 hI2)
      | 7, _ =>
        refine J_tableIn (off := 589) (tgt := 628) dL_law_39 (by decide +kernel) (by decide +kernel) rfl (by decide) ?_
        obtain ⟨k, r, μ1, μ2, d2, d3, hd, g1, g2, g3, hr, hI2⟩ := hSt.s_land μ (xs (i + 1)) (xs (i + 2)) hI
        exact LC_land hL hA hi hn hd g1 g2 g3 hr (kk1 μ2 hI2)
      | 8, _ =>
        refine J_tableIn (off := 657) (tgt := 696) dL_law_39 (by decide +kernel) (by decide +kernel) rfl (by decide) ?_
        obtain ⟨k, r, μ1, μ2, d2, d3, hd, g1, g2, g3, hr, hI2⟩ := hSt.s_lapse μ (xs (i + 1)) (xs (i + 2)) hI
        exact LC_lapse hL hA hi hn hd g1 g2 g3 hr (kk1 μ2 hI2)
      | 9, _ =>
        refine J_tableIn (off := 725) (tgt := 764) dL_law_39 (by decide +kernel) (by decide +kernel) rfl (by decide) ?_
        obtain ⟨k, r, μ1, μ2, d2, d3, hd, g1, g2, g3, hr, hI2⟩ := hSt.s_pass μ (xs (i + 1)) hI
        exact LC_pass hL hA hi hn hd g1 g2 g3 hr (kk1 μ2 hI2)
      | 10, _ =>
        refine J_tableIn (off := 781) (tgt := 820) dL_law_39 (by decide +kernel) (by decide +kernel) rfl (by decide) ?_
        obtain ⟨k, r, μ1, μ2, d2, d3, hd, g1, g2, g3, hr, hI2⟩ := hSt.s_append μ (xs (i + 1)) hI
        exact LC_append hL hA hi hn hd g1 g2 g3 hr (kk1 μ2 hI2)
      | 11, _ =>
        refine J_tableIn (off := 837) (tgt := 876) dL_law_39 (by decide +kernel) (by decide +kernel) rfl (by decide) ?_
        obtain ⟨r, μ1, μ2, d1, d2, hd, ⟨v, rfl⟩, g1, g2, hI2⟩ := hSt.s_clearBuffer μ hI
        exact LC_clearBuffer hL hA hi hn hd g1 g2 (kk0 μ2 hI2)
      | 12, _ =>
        refine J_tableIn (off := 850) (tgt := 889) dL_law_39 (by decide +kernel) (by decide +kernel) rfl (by decide) ?_
        obtain ⟨r, μ1, μ2, d1, d2, hd, ⟨v, rfl⟩, g1, g2, hI2⟩ := hSt.s_firstError μ hI
        exact LC_firstError hL hA hi hn hd g1 g2 (kk0 μ2 hI2)
      | 13, _ =>
        refine J_tableIn (off := 863) (tgt := 902) dL_law_39 (by decide +kernel) (by decide +kernel) rfl (by decide) ?_
        obtain ⟨k, r, μ1, μ2, d2, d3, hd, g1, g2, g3, hr, hI2⟩ := hSt.s_run μ  hI
        exact LC_run hL hA hi hn hd g1 g2 g3 hr (kk1 μ2 hI2)
      | 14, _ =>
        refine J_tableIn (off := 907) (tgt := 946) dL_law_39 (by decide +kernel) (by decide +kernel) rfl (by decide) ?_
        obtain ⟨k, r, μ1, μ2, d2, d3, hd, g1, g2, g3, hr, hI2⟩ := hSt.s_undo μ  hI
        exact LC_undo hL hA hi hn hd g1 g2 g3 hr (kk1 μ2 hI2)
      | 15, _ =>
        refine J_tableIn (off := 951) (tgt := 990) dL_law_39 (by decide +kernel) (by decide +kernel) rfl (by decide) ?_
        obtain ⟨k, r, μ1, μ2, d2, d3, hd, g1, g2, g3, hr, hI2⟩ := hSt.s_phase μ (xs (i + 1)) (xs (i + 2)) hI
        exact LC_phase hL hA hi hn hd g1 g2 g3 hr (kk1 μ2 hI2)
      | 16, _ =>
        refine J_tableIn (off := 1019) (tgt := 1058) dL_law_39 (by decide +kernel) (by decide +kernel) rfl (by decide) ?_
        obtain ⟨k, r, μ1, μ2, d2, d3, hd, g1, g2, g3, hr, hI2⟩ := hSt.s_use μ (xs (i + 1)) (xs (i + 2)) (xs (i + 3)) hI
        exact LC_use hL hA hi hn hd g1 g2 g3 hr (kk1 μ2 hI2)
      | 17, _ =>
        refine J_tableIn (off := 1099) (tgt := 1138) dL_law_39 (by decide +kernel) (by decide +kernel) rfl (by decide) ?_
        obtain ⟨k, r, μ1, μ2, d2, d3, hd, g1, g2, g3, hr, hI2⟩ := hSt.s_instalment μ (xs (i + 1)) (xs (i + 2)) (xs (i + 3)) hI
        exact LC_instalment hL hA hi hn hd g1 g2 g3 hr (kk1 μ2 hI2)
      | 18, _ =>
        refine J_tableIn (off := 1179) (tgt := 1218) dL_law_39 (by decide +kernel) (by decide +kernel) rfl (by decide) ?_
        obtain ⟨k, r, μ1, μ2, d2, d3, hd, g1, g2, g3, hr, hI2⟩ := hSt.s_count μ (xs (i + 1)) hI
        exact LC_count hL hA hi hn hd g1 g2 g3 hr (kk1 μ2 hI2)
      | 19, _ =>
        refine J_tableIn (off := 1235) (tgt := 1274) dL_law_39 (by decide +kernel) (by decide +kernel) rfl (by decide) ?_
        obtain ⟨k, r, μ1, μ2, d2, d3, hd, g1, g2, g3, hr, hI2⟩ := hSt.s_setting μ (xs (i + 1)) hI
        exact LC_setting hL hA hi hn hd g1 g2 g3 hr (kk1 μ2 hI2)
      | 20, _ =>
        refine J_tableIn (off := 1291) (tgt := 1330) dL_law_39 (by decide +kernel) (by decide +kernel) rfl (by decide) ?_
        obtain ⟨k, r, μ1, μ2, d2, d3, hd, g1, g2, g3, hr, hI2⟩ := hSt.s_whyNot μ (xs (i + 1)) (xs (i + 2)) (xs (i + 3)) hI
        exact LC_whyNot hL hA hi hn hd g1 g2 g3 hr (kk1 μ2 hI2)
      | 21, _ =>
        refine J_tableIn (off := 1371) (tgt := 1410) dL_law_39 (by decide +kernel) (by decide +kernel) rfl (by decide) ?_
        obtain ⟨k, r, μ1, μ2, d2, d3, hd, g1, g2, g3, hr, hI2⟩ := hSt.s_ifBegun μ (xs (i + 1)) (xs (i + 2)) hI
        exact LC_ifBegun hL hA hi hn hd g1 g2 g3 hr (kk1 μ2 hI2)
      | 22, _ =>
        refine J_tableIn (off := 1439) (tgt := 1478) dL_law_39 (by decide +kernel) (by decide +kernel) rfl (by decide) ?_
        obtain ⟨k, r, μ1, μ2, d2, d3, hd, g1, g2, g3, hr, hI2⟩ := hSt.s_breaksIn μ (xs (i + 1)) hI
        exact LC_breaksIn hL hA hi hn hd g1 g2 g3 hr (kk1 μ2 hI2)
      | 23, _ =>
        refine J_tableIn (off := 1495) (tgt := 1534) dL_law_39 (by decide +kernel) (by decide +kernel) rfl (by decide) ?_
        obtain ⟨k, r, μ1, μ2, d2, d3, hd, g1, g2, g3, hr, hI2⟩ := hSt.s_surchargesIn μ (xs (i + 1)) hI
        exact LC_surchargesIn hL hA hi hn hd g1 g2 g3 hr (kk1 μ2 hI2)
      | 24, _ =>
        refine J_tableIn (off := 1551) (tgt := 1590) dL_law_39 (by decide +kernel) (by decide +kernel) rfl (by decide) ?_
        obtain ⟨r, μ1, μ2, d1, d2, hd, ⟨v, rfl⟩, g1, g2, hI2⟩ := hSt.s_mostUrgent μ hI
        exact LC_mostUrgent hL hA hi hn hd g1 g2 (kk0 μ2 hI2)
      | 25, _ =>
        refine J_tableIn (off := 1564) (tgt := 1603) dL_law_39 (by decide +kernel) (by decide +kernel) rfl (by decide) ?_
        obtain ⟨k, r, μ1, μ2, d2, d3, hd, g1, g2, g3, hr, hI2⟩ := hSt.s_dueIn μ (xs (i + 1)) (xs (i + 2)) hI
        exact LC_dueIn hL hA hi hn hd g1 g2 g3 hr (kk1 μ2 hI2)
      | 26, _ =>
        refine J_tableIn (off := 1632) (tgt := 1671) dL_law_39 (by decide +kernel) (by decide +kernel) rfl (by decide) ?_
        obtain ⟨r, μ1, μ2, d1, d2, hd, ⟨v, rfl, hv9⟩, g1, g2, hI2⟩ := hSt.s_settledShare μ hI
        exact LC_settledShare hL hA hi hn hv9 hd g1 g2 (kk0 μ2 hI2)
      | 27, _ =>
        refine J_tableIn (off := 1673) (tgt := 1712) dL_law_39 (by decide +kernel) (by decide +kernel) rfl (by decide) ?_
        obtain ⟨r, μ1, μ2, d1, d2, hd, ⟨v, rfl⟩, g1, g2, hI2⟩ := hSt.s_digest μ hI
        exact LC_digest hL hA hi hn hd g1 g2 (kk0 μ2 hI2)
      | w + 28, hw =>
        refine J_tableOut (tgt := 1726) dL_law_39 (Or.inr ?_) (by decide) (kk0 μ hI)
        rw [nI_toInt (by omega)]
        omega
