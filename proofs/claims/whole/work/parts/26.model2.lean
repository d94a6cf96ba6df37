set_option maxHeartbeats 4000000 in
set_option maxRecDepth 100000 in
theorem C_X4_canPass {l : Launch} {G : WG} {μ : Mem} {z : Zr} (hz : μ.1 16 0 0 = z) {a : Int32} : Ct l G 0 yX4_canPass cX4_canPass 2 (some .boolean) [.ref (adr G 15 0 0), .int (a)] (μ) (some (.int (b2i (mLeft z a)))) (μ) := by
  refine Ct_of (by decide +kernel) (Nat.le_of_ble_eq_true rfl) ?_
  subst hz
  refine K_aload_n dX4_canPass_0 rfl ?_
  refine g_X4_7 dX4_canPass_1  ?_
  refine K_iconstN 4 dX4_canPass_4 rfl ?_
  refine ald16 dX4_canPass_5 (by omega) ?_
  refine K_iload_n dX4_canPass_6 rfl ?_
  refine K_iadd dX4_canPass_7 ?_
  refine K_sipush (v := nI 9999) dX4_canPass_8 (by decide) ?_
  refine K_icmp_gt (tgt := 18) dX4_canPass_11 (by decide) (fun c11 => ?_) (fun c11 => ?_)
  · skip
    refine K_iconstN 0 dX4_canPass_18 rfl ?_
    exact K_zret (by simp [mLeft, c11]; rfl) dX4_canPass_19 ⟨rfl, rfl⟩
  · skip
    refine K_iconstN 1 dX4_canPass_14 rfl ?_
    refine K_goto (tgt := 19) dX4_canPass_15 (by decide) ?_
    exact K_zret (by simp [mLeft, c11]; rfl) dX4_canPass_19 ⟨rfl, rfl⟩

set_option maxHeartbeats 4000000 in
set_option maxRecDepth 100000 in
theorem C_X4_put {l : Launch} {G : WG} {μ : Mem} {z : Zr} {p : Nat} (hp : p < 6) {w : Nat} (hw : w < 37) {v : Int32} : Ct l G 0 yX4_put cX4_put 4 none [.ref (adr G 15 0 0), .int (nI p), .int (nI w), .int (v)] (zmem μ z) none (zmem μ (zput z p w v)) := by
  refine Ct_of (by decide +kernel) (Nat.le_of_ble_eq_true rfl) ?_
  refine K_aload_n dX4_put_0 rfl ?_
  refine g_X4_7 dX4_put_1  ?_
  refine K_bipush (v := nI 10) dX4_put_4 (by decide) ?_
  refine K_bipush (v := nI 37) dX4_put_6 (by decide) ?_
  refine K_iload_n dX4_put_8 rfl ?_
  refine K_imulN dX4_put_9 ?_
  refine K_iaddN dX4_put_10 ?_
  refine K_iload_n dX4_put_11 rfl ?_
  refine K_iaddN dX4_put_12 ?_
  refine K_iload_n dX4_put_13 rfl ?_
  refine ast16 dX4_put_14 (by omega) ?_
  exact K_vret dX4_put_15 ⟨rfl, zmem_put⟩

set_option maxHeartbeats 4000000 in
set_option maxRecDepth 100000 in
theorem C_X4_add {l : Launch} {G : WG} {μ : Mem} {z : Zr} {p : Nat} (hp : p < 6) {w : Nat} (hw : w < 37) {v : Int32} : Ct l G 0 yX4_add cX4_add 4 none [.ref (adr G 15 0 0), .int (nI p), .int (nI w), .int (v)] (zmem μ z) none (zmem μ (zadd z p w v)) := by
  refine Ct_of (by decide +kernel) (Nat.le_of_ble_eq_true rfl) ?_
  refine K_aload_n dX4_add_0 rfl ?_
  refine g_X4_7 dX4_add_1  ?_
  refine K_bipush (v := nI 10) dX4_add_4 (by decide) ?_
  refine K_bipush (v := nI 37) dX4_add_6 (by decide) ?_
  refine K_iload_n dX4_add_8 rfl ?_
  refine K_imulN dX4_add_9 ?_
  refine K_iaddN dX4_add_10 ?_
  refine K_iload_n dX4_add_11 rfl ?_
  refine K_iaddN dX4_add_12 ?_
  refine K_dup2_11 dX4_add_13 rfl rfl ?_
  refine ald16 dX4_add_14 (by omega) ?_
  refine K_top (congrFun zmem_16 _) ?_
  refine K_iload_n dX4_add_15 rfl ?_
  refine K_iadd dX4_add_16 ?_
  refine ast16 dX4_add_17 (by omega) ?_
  exact K_vret dX4_add_18 ⟨rfl, zmem_put⟩

set_option maxHeartbeats 4000000 in
set_option maxRecDepth 100000 in
theorem C_X4_changeArea {l : Launch} {G : WG} {μ : Mem} {z : Zr} {p : Nat} (hp : p < 6) {u : Nat} (hu : u < 4) {a : Int32} : Ct l G 1 yX4_changeArea cX4_changeArea 4 none [.ref (adr G 15 0 0), .int (nI p), .int (nI u), .int (a)] (zmem μ z) none (zmem μ (zArea z p u a)) := by
  refine Ct_of (by decide +kernel) (Nat.le_of_ble_eq_true rfl) ?_
  refine K_aload_n dX4_changeArea_0 rfl ?_
  refine K_iload_n dX4_changeArea_1 rfl ?_
  refine K_iconstN 1 dX4_changeArea_2 rfl ?_
  refine K_iload_n dX4_changeArea_3 rfl ?_
  refine K_iaddN dX4_changeArea_4 ?_
  refine K_iload_n dX4_changeArea_5 rfl ?_
  refine k_X4_put (C_X4_put (by omega) (by omega)) (by decide)  ml_X4_80 (Nat.le_of_ble_eq_true rfl) dX4_changeArea_6 ?_
  refine K_aload_n dX4_changeArea_9 rfl ?_
  refine K_iload_n dX4_changeArea_10 rfl ?_
  refine K_iconstN 5 dX4_changeArea_11 rfl ?_
  refine K_iload_n dX4_changeArea_12 rfl ?_
  refine K_iaddN dX4_changeArea_13 ?_
  refine K_aload_n dX4_changeArea_14 rfl ?_
  refine K_iload_n dX4_changeArea_15 rfl ?_
  refine K_iconstN 5 dX4_changeArea_16 rfl ?_
  refine K_iload_n dX4_changeArea_17 rfl ?_
  refine K_iaddN dX4_changeArea_18 ?_
  refine k_X4_of (C_X4_of zmem_16 (by omega) (by omega)) (by decide)  ml_X4_36 (Nat.le_of_ble_eq_true rfl) dX4_changeArea_19 ?_
  refine K_iload_n dX4_changeArea_22 rfl ?_
  refine K_icmp_ge (tgt := 37) dX4_changeArea_23 (by decide) (fun c23 => ?_) (fun c23 => ?_)
  · skip
    refine K_iload_n dX4_changeArea_37 rfl ?_
    refine k_X4_put (C_X4_put (by omega) (by omega)) (by decide)  ml_X4_80 (Nat.le_of_ble_eq_true rfl) dX4_changeArea_38 ?_
    exact K_vret dX4_changeArea_41 ⟨rfl, by simp [zArea, c23]⟩
  · skip
    refine K_aload_n dX4_changeArea_26 rfl ?_
    refine K_iload_n dX4_changeArea_27 rfl ?_
    refine K_iconstN 5 dX4_changeArea_28 rfl ?_
    refine K_iload_n dX4_changeArea_29 rfl ?_
    refine K_iaddN dX4_changeArea_30 ?_
    refine k_X4_of (C_X4_of zmem_16 (by omega) (by omega)) (by decide)  ml_X4_36 (Nat.le_of_ble_eq_true rfl) dX4_changeArea_31 ?_
    refine K_goto (tgt := 38) dX4_changeArea_34 (by decide) ?_
    refine k_X4_put (C_X4_put (by omega) (by omega)) (by decide)  ml_X4_80 (Nat.le_of_ble_eq_true rfl) dX4_changeArea_38 ?_
    exact K_vret dX4_changeArea_41 ⟨rfl, by simp [zArea, c23]⟩

set_option maxHeartbeats 4000000 in
set_option maxRecDepth 100000 in
theorem C_X4_settle {l : Launch} {G : WG} {μ : Mem} {z : Zr} {p : Nat} (hp : p < 6) {w : Nat} (hw : w < 37) {a : Int32} : Ct l G 1 yX4_settle cX4_settle 5 (some .int) [.ref (adr G 15 0 0), .int (nI p), .int (nI w), .int (a)] (zmem μ z) (some (.int (a - mPart (mo z p w) a))) (zmem μ (zSettle z p w a)) := by
  refine Ct_of (by decide +kernel) (Nat.le_of_ble_eq_true rfl) ?_
  refine K_aload_n dX4_settle_0 rfl ?_
  refine K_iload_n dX4_settle_1 rfl ?_
  refine K_iload_n dX4_settle_2 rfl ?_
  refine k_X4_of (C_X4_of zmem_16 (by omega) (by omega)) (by decide)  ml_X4_36 (Nat.le_of_ble_eq_true rfl) dX4_settle_3 ?_
  refine K_iload_n dX4_settle_6 rfl ?_
  refine K_icmp_ge (tgt := 19) dX4_settle_7 (by decide) (fun c7 => ?_) (fun c7 => ?_)
  · skip
    refine K_iload_n dX4_settle_19 rfl ?_
    refine K_istore dX4_settle_20 (by decide) rfl ?_
    refine K_aload_n dX4_settle_22 rfl ?_
    refine K_iload_n dX4_settle_23 rfl ?_
    refine K_iload_n dX4_settle_24 rfl ?_
    refine K_iload dX4_settle_25 rfl ?_
    refine K_ineg dX4_settle_27 ?_
    refine k_X4_add (C_X4_add (by omega) (by omega)) (by decide)  ml_X4_112 (Nat.le_of_ble_eq_true rfl) dX4_settle_28 ?_
    refine K_iload_n dX4_settle_31 rfl ?_
    refine K_iload dX4_settle_32 rfl ?_
    refine K_isub dX4_settle_34 ?_
    exact K_iret dX4_settle_35 ⟨by simp [mPart, c7], by simp [zSettle, mPart, c7]⟩
  · skip
    refine K_aload_n dX4_settle_10 rfl ?_
    refine K_iload_n dX4_settle_11 rfl ?_
    refine K_iload_n dX4_settle_12 rfl ?_
    refine k_X4_of (C_X4_of zmem_16 (by omega) (by omega)) (by decide)  ml_X4_36 (Nat.le_of_ble_eq_true rfl) dX4_settle_13 ?_
    refine K_goto (tgt := 20) dX4_settle_16 (by decide) ?_
    refine K_istore dX4_settle_20 (by decide) rfl ?_
    refine K_aload_n dX4_settle_22 rfl ?_
    refine K_iload_n dX4_settle_23 rfl ?_
    refine K_iload_n dX4_settle_24 rfl ?_
    refine K_iload dX4_settle_25 rfl ?_
    refine K_ineg dX4_settle_27 ?_
    refine k_X4_add (C_X4_add (by omega) (by omega)) (by decide)  ml_X4_112 (Nat.le_of_ble_eq_true rfl) dX4_settle_28 ?_
    refine K_iload_n dX4_settle_31 rfl ?_
    refine K_iload dX4_settle_32 rfl ?_
    refine K_isub dX4_settle_34 ?_
    exact K_iret dX4_settle_35 ⟨by simp [mPart, c7], by simp [zSettle, mPart, c7]⟩

set_option maxHeartbeats 4000000 in
set_option maxRecDepth 100000 in
theorem C_X4_takes {l : Launch} {G : WG} {μ : Mem} {z : Zr} {n : Nat} (hZ : ZI z n) {p : Nat} (hp : p < 6) {w : Nat} (hw : w < 37) {a : Int32} : Ct l G 2 yX4_takes cX4_takes 6 (some .int) [.ref (adr G 15 0 0), .int (nI p), .int (a), .int (nI w)] (zmem μ z) (some (.int (mTakes z p a))) (zmem μ (zTakes z p a w)) := by
  refine Ct_of (by decide +kernel) (Nat.le_of_ble_eq_true rfl) ?_
  have hm4 := (hZ.2.2 p hp).2
  refine K_iload_n dX4_takes_0 rfl ?_
  refine K_istore dX4_takes_1 (by decide) rfl ?_
  refine K_iconstN 0 dX4_takes_3 rfl ?_
  refine K_istore dX4_takes_4 (by decide) rfl ?_
  refine K_lv [0, 1, 2, 3, 4, 5] rfl ?_
  refine K_for (zp z p) (fun k => [(0, .ref (adr G 15 0 0)), (1, .int (nI p)), (2, .int a), (3, .int (nI w)), (4, .int (takeK z p a k).2), (5, .int (nI k))]) (fun k => zmem μ (takeK z p a k).1) ?_ ?_
  · skip
    refine K_iload dX4_takes_6 rfl ?_
    refine K_aload_n dX4_takes_8 rfl ?_
    refine K_iload_n dX4_takes_9 rfl ?_
    refine K_bipush (v := nI 17) dX4_takes_10 (by decide) ?_
    refine k_X4_of (C_X4_of zmem_16 (by omega) (by omega)) (by decide)  ml_X4_36 (Nat.le_of_ble_eq_true rfl) dX4_takes_12 ?_
    refine K_top (show _ = nI (zp z p) by rw [((takeK_ZI hZ _ (by omega)).1.2.2 p hp).1, (takeK_ZI hZ _ (by omega)).2]) ?_
    refine K_icmpN_ge (by omega) (by omega) (tgt := 38) dX4_takes_15 (by decide) (fun c15 => ?_) (fun c15 => ?_)
    · skip
      refine K_aload_n dX4_takes_38 rfl ?_
      refine K_iload_n dX4_takes_39 rfl ?_
      refine K_bipush (v := nI 30) dX4_takes_40 (by decide) ?_
      refine K_iload dX4_takes_42 rfl ?_
      refine k_X4_settle (C_X4_settle (by omega) (by omega)) (by decide)  ml_X4_115 (Nat.le_of_ble_eq_true rfl) dX4_takes_44 ?_
      refine K_istore dX4_takes_47 (by decide) rfl ?_
      refine K_aload_n dX4_takes_49 rfl ?_
      refine K_iload_n dX4_takes_50 rfl ?_
      refine K_bipush (v := nI 33) dX4_takes_51 (by decide) ?_
      refine K_iload dX4_takes_53 rfl ?_
      refine k_X4_settle (C_X4_settle (by omega) (by omega)) (by decide)  ml_X4_115 (Nat.le_of_ble_eq_true rfl) dX4_takes_55 ?_
      refine K_istore dX4_takes_58 (by decide) rfl ?_
      refine K_aload_n dX4_takes_60 rfl ?_
      refine K_iload_n dX4_takes_61 rfl ?_
      refine K_iload_n dX4_takes_62 rfl ?_
      refine K_iload_n dX4_takes_63 rfl ?_
      refine K_iload dX4_takes_64 rfl ?_
      refine K_isub dX4_takes_66 ?_
      refine k_X4_add (C_X4_add (by omega) (by omega)) (by decide)  ml_X4_112 (Nat.le_of_ble_eq_true rfl) dX4_takes_67 ?_
      refine K_iload_n dX4_takes_70 rfl ?_
      refine K_iload dX4_takes_71 rfl ?_
      refine K_isub dX4_takes_73 ?_
      exact K_iret dX4_takes_74 ⟨by rfl, rfl⟩
    · skip
      exfalso; omega
  · intro k hk_k ih_1
    refine K_iload dX4_takes_6 rfl ?_
    refine K_aload_n dX4_takes_8 rfl ?_
    refine K_iload_n dX4_takes_9 rfl ?_
    refine K_bipush (v := nI 17) dX4_takes_10 (by decide) ?_
    refine k_X4_of (C_X4_of zmem_16 (by omega) (by omega)) (by decide)  ml_X4_36 (Nat.le_of_ble_eq_true rfl) dX4_takes_12 ?_
    refine K_top (show _ = nI (zp z p) by rw [((takeK_ZI hZ _ (by omega)).1.2.2 p hp).1, (takeK_ZI hZ _ (by omega)).2]) ?_
    refine K_icmpN_ge (by omega) (by omega) (tgt := 38) dX4_takes_15 (by decide) (fun c15 => ?_) (fun c15 => ?_)
    · skip
      exfalso; omega
    · skip
      refine K_aload_n dX4_takes_18 rfl ?_
      refine K_iload_n dX4_takes_19 rfl ?_
      refine K_bipush (v := nI 22) dX4_takes_20 (by decide) ?_
      refine K_iload dX4_takes_22 rfl ?_
      refine K_iaddN dX4_takes_24 ?_
      refine K_iload dX4_takes_25 rfl ?_
      refine k_X4_settle (C_X4_settle (by omega) (by omega)) (by decide)  ml_X4_115 (Nat.le_of_ble_eq_true rfl) dX4_takes_27 ?_
      refine K_istore dX4_takes_30 (by decide) rfl ?_
      refine K_iincN (b := 1) dX4_takes_32 rfl rfl (by decide) rfl ?_
      refine K_goto (tgt := 6) dX4_takes_35 (by decide) ?_
      exact K_lv [0, 1, 2, 3, 4, 5] rfl ih_1

set_option maxHeartbeats 4000000 in
set_option maxRecDepth 100000 in
theorem C_X4_begins {l : Launch} {G : WG} {μ : Mem} {z : Zr} {p : Nat} (hp : p < 6) : Ct l G 5 yX4_begins cX4_begins 5 (some .int) [.ref (adr G 15 0 0), .int (nI p)] (zmem μ z) (some (.int (mSum z p))) (zmem μ (zBegins z p)) := by
  refine Ct_of (by decide +kernel) (Nat.le_of_ble_eq_true rfl) ?_
  obtain ⟨hn1, hn4⟩ := partsN_le (mSum z p)
  have hpn : ¬ nI (partsN (mSum z p)) = 0 := nI_ne0 hn1 (Nat.lt_of_le_of_lt hn4 (by omega))
  refine K_aload_n dX4_begins_0 rfl ?_
  refine K_iload_n dX4_begins_1 rfl ?_
  refine k_X4_charge (C_X4_charge zmem_16 (by omega)) (by decide)  ml_X4_57 (Nat.le_of_ble_eq_true rfl) dX4_begins_2 ?_
  refine K_aload_n dX4_begins_5 rfl ?_
  refine K_iload_n dX4_begins_6 rfl ?_
  refine k_X4_relief (C_X4_relief zmem_16 (by omega)) (by decide)  ml_X4_60 (Nat.le_of_ble_eq_true rfl) dX4_begins_7 ?_
  refine K_isub dX4_begins_10 ?_
  refine K_top (show _ = (mSum z p) from rfl) ?_
  refine K_istore_n dX4_begins_11 (by decide) rfl ?_
  refine K_iconstN 0 dX4_begins_12 rfl ?_
  refine K_istore_n dX4_begins_13 (by decide) rfl ?_
  refine K_lv [0, 1, 2, 3] rfl ?_
  refine K_for (4) (fun k => [(0, .ref (adr G 15 0 0)), (1, .int (nI p)), (2, .int (mSum z p)), (3, .int (nI k))]) (fun k => zmem μ (begK z p k)) ?_ ?_
  · skip
    refine K_iload_n dX4_begins_14 rfl ?_
    refine K_iconstN 4 dX4_begins_15 rfl ?_
    refine K_icmpN_ge (by omega) (by omega) (tgt := 68) dX4_begins_16 (by decide) (fun c16 => ?_) (fun c16 => ?_)
    · skip
      refine K_aload_n dX4_begins_68 rfl ?_
      refine K_iload_n dX4_begins_69 rfl ?_
      refine K_iconstN 0 dX4_begins_70 rfl ?_
      refine K_aload_n dX4_begins_71 rfl ?_
      refine g_X4_7 dX4_begins_72  ?_
      refine K_iconstN 4 dX4_begins_75 rfl ?_
      refine ald16 dX4_begins_76 (by omega) ?_
      refine K_top (congrFun zmem_16 _) ?_
      refine k_X4_put (C_X4_put (by omega) (by omega)) (by decide)  ml_X4_80 (Nat.le_of_ble_eq_true rfl) dX4_begins_77 ?_
      refine K_aload_n dX4_begins_80 rfl ?_
      refine K_iload_n dX4_begins_81 rfl ?_
      refine K_bipush (v := nI 17) dX4_begins_82 (by decide) ?_
      refine K_iload_n dX4_begins_84 rfl ?_
      refine k_X4_partsFor (C_X4_partsFor ) (by decide) ml_X4_65 (Nat.le_of_ble_eq_true rfl) dX4_begins_85 ?_
      refine k_X4_put (C_X4_put (by omega) (by omega)) (by decide)  ml_X4_80 (Nat.le_of_ble_eq_true rfl) dX4_begins_88 ?_
      refine K_iconstN 0 dX4_begins_91 rfl ?_
      refine K_istore_n dX4_begins_92 (by decide) rfl ?_
      refine K_lv [0, 1, 2, 3] rfl ?_
      refine K_for (partsN (mSum z p)) (fun k => [(0, .ref (adr G 15 0 0)), (1, .int (nI p)), (2, .int (mSum z p)), (3, .int (nI k))]) (fun k => zmem μ (begP (begH z p (mSum z p)) p (mSum z p) k)) ?_ ?_
      · skip
        refine K_iload_n dX4_begins_93 rfl ?_
        refine K_iload_n dX4_begins_94 rfl ?_
        refine k_X4_partsFor (C_X4_partsFor ) (by decide) ml_X4_65 (Nat.le_of_ble_eq_true rfl) dX4_begins_95 ?_
        refine K_icmpN_ge (by omega) (by omega) (tgt := 180) dX4_begins_98 (by decide) (fun c98 => ?_) (fun c98 => ?_)
        · skip
          refine K_iload_n dX4_begins_180 rfl ?_
          exact K_iret dX4_begins_181 ⟨by rfl, rfl⟩
        · skip
          exfalso; omega
      · intro k hk_k ih_2
        refine K_iload_n dX4_begins_93 rfl ?_
        refine K_iload_n dX4_begins_94 rfl ?_
        refine k_X4_partsFor (C_X4_partsFor ) (by decide) ml_X4_65 (Nat.le_of_ble_eq_true rfl) dX4_begins_95 ?_
        refine K_icmpN_ge (by omega) (by omega) (tgt := 180) dX4_begins_98 (by decide) (fun c98 => ?_) (fun c98 => ?_)
        · skip
          exfalso; omega
        · skip
          refine K_iload_n dX4_begins_101 rfl ?_
          refine K_iload_n dX4_begins_102 rfl ?_
          refine k_X4_partsFor (C_X4_partsFor ) (by decide) ml_X4_65 (Nat.le_of_ble_eq_true rfl) dX4_begins_103 ?_
          refine K_iconstN 1 dX4_begins_106 rfl ?_
          refine K_isubN (by omega) dX4_begins_107 ?_
          refine K_icmpN_ne (by omega) (by omega) (tgt := 118) dX4_begins_108 (by decide) (fun c108 => ?_) (fun c108 => ?_)
          · skip
            refine K_iload_n dX4_begins_118 rfl ?_
            refine K_iload_n dX4_begins_119 rfl ?_
            refine k_X4_partsFor (C_X4_partsFor ) (by decide) ml_X4_65 (Nat.le_of_ble_eq_true rfl) dX4_begins_120 ?_
            refine K_idiv dX4_begins_123 hpn ?_
            refine K_istore dX4_begins_124 (by decide) rfl ?_
            refine K_aload_n dX4_begins_126 rfl ?_
            refine K_iload_n dX4_begins_127 rfl ?_
            refine K_bipush (v := nI 18) dX4_begins_128 (by decide) ?_
            refine K_iload_n dX4_begins_130 rfl ?_
            refine K_iaddN dX4_begins_131 ?_
            refine K_iload dX4_begins_132 rfl ?_
            refine k_X4_put (C_X4_put (by omega) (by omega)) (by decide)  ml_X4_80 (Nat.le_of_ble_eq_true rfl) dX4_begins_134 ?_
            refine K_aload_n dX4_begins_137 rfl ?_
            refine K_iload_n dX4_begins_138 rfl ?_
            refine K_bipush (v := nI 22) dX4_begins_139 (by decide) ?_
            refine K_iload_n dX4_begins_141 rfl ?_
            refine K_iaddN dX4_begins_142 ?_
            refine K_iload dX4_begins_143 rfl ?_
            refine k_X4_put (C_X4_put (by omega) (by omega)) (by decide)  ml_X4_80 (Nat.le_of_ble_eq_true rfl) dX4_begins_145 ?_
            refine K_aload_n dX4_begins_148 rfl ?_
            refine K_iload_n dX4_begins_149 rfl ?_
            refine K_bipush (v := nI 26) dX4_begins_150 (by decide) ?_
            refine K_iload_n dX4_begins_152 rfl ?_
            refine K_iaddN dX4_begins_153 ?_
            refine K_aload_n dX4_begins_154 rfl ?_
            refine g_X4_7 dX4_begins_155  ?_
            refine K_iconstN 4 dX4_begins_158 rfl ?_
            refine ald16 dX4_begins_159 (by omega) ?_
            refine K_top (congrFun zmem_16 _) ?_
            refine K_iload_n dX4_begins_160 rfl ?_
            refine K_iconstN 1 dX4_begins_161 rfl ?_
            refine K_iaddN dX4_begins_162 ?_
            refine K_aload_n dX4_begins_163 rfl ?_
            refine g_X4_7 dX4_begins_164  ?_
            refine K_iconstN 0 dX4_begins_167 rfl ?_
            refine ald16 dX4_begins_168 (by omega) ?_
            refine K_top (congrFun zmem_16 _) ?_
            refine K_imul dX4_begins_169 ?_
            refine K_iadd dX4_begins_170 ?_
            refine k_X4_put (C_X4_put (by omega) (by omega)) (by decide)  ml_X4_80 (Nat.le_of_ble_eq_true rfl) dX4_begins_171 ?_
            refine K_iincN (b := 1) dX4_begins_174 rfl rfl (by decide) rfl ?_
            refine K_goto (tgt := 93) dX4_begins_177 (by decide) ?_
            refine K_mem (show _ = zmem μ (begP (begH z p (mSum z p)) p (mSum z p) (k + 1)) by simp [begP, begV, c108]) ?_
            exact K_lv [0, 1, 2, 3] rfl ih_2
          · skip
            refine K_iload_n dX4_begins_111 rfl ?_
            refine k_X4_lastOf (C_X4_lastOf ) (by decide) ml_X4_103 (Nat.le_of_ble_eq_true rfl) dX4_begins_112 ?_
            refine K_goto (tgt := 124) dX4_begins_115 (by decide) ?_
            refine K_istore dX4_begins_124 (by decide) rfl ?_
            refine K_aload_n dX4_begins_126 rfl ?_
            refine K_iload_n dX4_begins_127 rfl ?_
            refine K_bipush (v := nI 18) dX4_begins_128 (by decide) ?_
            refine K_iload_n dX4_begins_130 rfl ?_
            refine K_iaddN dX4_begins_131 ?_
            refine K_iload dX4_begins_132 rfl ?_
            refine k_X4_put (C_X4_put (by omega) (by omega)) (by decide)  ml_X4_80 (Nat.le_of_ble_eq_true rfl) dX4_begins_134 ?_
            refine K_aload_n dX4_begins_137 rfl ?_
            refine K_iload_n dX4_begins_138 rfl ?_
            refine K_bipush (v := nI 22) dX4_begins_139 (by decide) ?_
            refine K_iload_n dX4_begins_141 rfl ?_
            refine K_iaddN dX4_begins_142 ?_
            refine K_iload dX4_begins_143 rfl ?_
            refine k_X4_put (C_X4_put (by omega) (by omega)) (by decide)  ml_X4_80 (Nat.le_of_ble_eq_true rfl) dX4_begins_145 ?_
            refine K_aload_n dX4_begins_148 rfl ?_
            refine K_iload_n dX4_begins_149 rfl ?_
            refine K_bipush (v := nI 26) dX4_begins_150 (by decide) ?_
            refine K_iload_n dX4_begins_152 rfl ?_
            refine K_iaddN dX4_begins_153 ?_
            refine K_aload_n dX4_begins_154 rfl ?_
            refine g_X4_7 dX4_begins_155  ?_
            refine K_iconstN 4 dX4_begins_158 rfl ?_
            refine ald16 dX4_begins_159 (by omega) ?_
            refine K_top (congrFun zmem_16 _) ?_
            refine K_iload_n dX4_begins_160 rfl ?_
            refine K_iconstN 1 dX4_begins_161 rfl ?_
            refine K_iaddN dX4_begins_162 ?_
            refine K_aload_n dX4_begins_163 rfl ?_
            refine g_X4_7 dX4_begins_164  ?_
            refine K_iconstN 0 dX4_begins_167 rfl ?_
            refine ald16 dX4_begins_168 (by omega) ?_
            refine K_top (congrFun zmem_16 _) ?_
            refine K_imul dX4_begins_169 ?_
            refine K_iadd dX4_begins_170 ?_
            refine k_X4_put (C_X4_put (by omega) (by omega)) (by decide)  ml_X4_80 (Nat.le_of_ble_eq_true rfl) dX4_begins_171 ?_
            refine K_iincN (b := 1) dX4_begins_174 rfl rfl (by decide) rfl ?_
            refine K_goto (tgt := 93) dX4_begins_177 (by decide) ?_
            refine K_mem (show _ = zmem μ (begP (begH z p (mSum z p)) p (mSum z p) (k + 1)) by simp [begP, begV, c108]) ?_
            exact K_lv [0, 1, 2, 3] rfl ih_2
    · skip
      exfalso; omega
  · intro k hk_k ih_1
    refine K_iload_n dX4_begins_14 rfl ?_
    refine K_iconstN 4 dX4_begins_15 rfl ?_
    refine K_icmpN_ge (by omega) (by omega) (tgt := 68) dX4_begins_16 (by decide) (fun c16 => ?_) (fun c16 => ?_)
    · skip
      exfalso; omega
    · skip
      refine K_aload_n dX4_begins_19 rfl ?_
      refine K_iload_n dX4_begins_20 rfl ?_
      refine K_bipush (v := nI 9) dX4_begins_21 (by decide) ?_
      refine K_iload_n dX4_begins_23 rfl ?_
      refine K_iaddN dX4_begins_24 ?_
      refine K_aload_n dX4_begins_25 rfl ?_
      refine g_X4_7 dX4_begins_26  ?_
      refine K_iconstN 5 dX4_begins_29 rfl ?_
      refine K_iload_n dX4_begins_30 rfl ?_
      refine K_iaddN dX4_begins_31 ?_
      refine ald16 dX4_begins_32 (by omega) ?_
      refine K_top (congrFun zmem_16 _) ?_
      refine k_X4_put (C_X4_put (by omega) (by omega)) (by decide)  ml_X4_80 (Nat.le_of_ble_eq_true rfl) dX4_begins_33 ?_
      refine K_aload_n dX4_begins_36 rfl ?_
      refine K_iload_n dX4_begins_37 rfl ?_
      refine K_bipush (v := nI 13) dX4_begins_38 (by decide) ?_
      refine K_iload_n dX4_begins_40 rfl ?_
      refine K_iaddN dX4_begins_41 ?_
      refine K_aload_n dX4_begins_42 rfl ?_
      refine K_iload_n dX4_begins_43 rfl ?_
      refine K_iconstN 5 dX4_begins_44 rfl ?_
      refine K_iload_n dX4_begins_45 rfl ?_
      refine K_iaddN dX4_begins_46 ?_
      refine k_X4_of (C_X4_of zmem_16 (by omega) (by omega)) (by decide)  ml_X4_36 (Nat.le_of_ble_eq_true rfl) dX4_begins_47 ?_
      refine K_aload_n dX4_begins_50 rfl ?_
      refine g_X4_7 dX4_begins_51  ?_
      refine K_iconstN 5 dX4_begins_54 rfl ?_
      refine K_iload_n dX4_begins_55 rfl ?_
      refine K_iaddN dX4_begins_56 ?_
      refine ald16 dX4_begins_57 (by omega) ?_
      refine K_top (congrFun zmem_16 _) ?_
      refine K_imul dX4_begins_58 ?_
      refine k_X4_put (C_X4_put (by omega) (by omega)) (by decide)  ml_X4_80 (Nat.le_of_ble_eq_true rfl) dX4_begins_59 ?_
      refine K_iincN (b := 1) dX4_begins_62 rfl rfl (by decide) rfl ?_
      refine K_goto (tgt := 14) dX4_begins_65 (by decide) ?_
      exact K_lv [0, 1, 2, 3] rfl ih_1

set_option maxHeartbeats 4000000 in
set_option maxRecDepth 100000 in
theorem C_X4_dayPasses {l : Launch} {G : WG} {μ : Mem} {z : Zr} {n : Nat} (hZ : ZI z n) : Ct l G 3 yX4_dayPasses cX4_dayPasses 4 (some .int) [.ref (adr G 15 0 0)] (zmem μ z) (some (.int ((dpK z n).2))) (zmem μ ((dpK z n).1)) := by
  refine Ct_of (by decide +kernel) (Nat.le_of_ble_eq_true rfl) ?_
  have hn6 := hZ.2.1
  refine K_aload_n dX4_dayPasses_0 rfl ?_
  refine g_X4_7 dX4_dayPasses_1  ?_
  refine K_iconstN 4 dX4_dayPasses_4 rfl ?_
  refine K_dup2_11 dX4_dayPasses_5 rfl rfl ?_
  refine ald16 dX4_dayPasses_6 (by omega) ?_
  refine K_top (congrFun zmem_16 _) ?_
  refine K_iconstN 1 dX4_dayPasses_7 rfl ?_
  refine K_iadd dX4_dayPasses_8 ?_
  refine ast16 dX4_dayPasses_9 (by omega) ?_
  refine K_mem (show _ = zmem μ (dpK z 0).1 from zmem_put) ?_
  refine K_iconstN 0 dX4_dayPasses_10 rfl ?_
  refine K_istore_n dX4_dayPasses_11 (by decide) rfl ?_
  refine K_iconstN 0 dX4_dayPasses_12 rfl ?_
  refine K_istore_n dX4_dayPasses_13 (by decide) rfl ?_
  refine K_lv [0, 1, 2] rfl ?_
  refine K_for (n) (fun k => [(0, .ref (adr G 15 0 0)), (1, .int (dpK z k).2), (2, .int (nI k))]) (fun k => zmem μ (dpK z k).1) ?_ ?_
  · skip
    refine K_iload_n dX4_dayPasses_14 rfl ?_
    refine K_aload_n dX4_dayPasses_15 rfl ?_
    refine g_X4_7 dX4_dayPasses_16  ?_
    refine K_bipush (v := nI 9) dX4_dayPasses_19 (by decide) ?_
    refine ald16 dX4_dayPasses_21 (by omega) ?_
    refine K_top (show _ = nI n by rw [zmem_16]; exact (dpK_ZI hZ _).1) ?_
    refine K_icmpN_ge (by omega) (by omega) (tgt := 101) dX4_dayPasses_22 (by decide) (fun c22 => ?_) (fun c22 => ?_)
    · skip
      refine K_iload_n dX4_dayPasses_101 rfl ?_
      exact K_iret dX4_dayPasses_102 ⟨by rfl, rfl⟩
    · skip
      exfalso; omega
  · intro k hk_k ih_1
    refine K_iload_n dX4_dayPasses_14 rfl ?_
    refine K_aload_n dX4_dayPasses_15 rfl ?_
    refine g_X4_7 dX4_dayPasses_16  ?_
    refine K_bipush (v := nI 9) dX4_dayPasses_19 (by decide) ?_
    refine ald16 dX4_dayPasses_21 (by omega) ?_
    refine K_top (show _ = nI n by rw [zmem_16]; exact (dpK_ZI hZ _).1) ?_
    refine K_icmpN_ge (by omega) (by omega) (tgt := 101) dX4_dayPasses_22 (by decide) (fun c22 => ?_) (fun c22 => ?_)
    · skip
      exfalso; omega
    · skip
      refine K_aload_n dX4_dayPasses_25 rfl ?_
      refine K_iload_n dX4_dayPasses_26 rfl ?_
      refine k_X4_canBreak (C_X4_canBreak zmem_16 (by omega) (dpK_ZI hZ k)) (by decide)  ml_X4_135 (Nat.le_of_ble_eq_true rfl) dX4_dayPasses_27 ?_
      refine K_ifb_eq (tgt := 95) dX4_dayPasses_30 (by decide) (fun c30 => ?_) (fun c30 => ?_)
      · skip
        refine K_iincN (b := 1) dX4_dayPasses_95 rfl rfl (by decide) rfl ?_
        refine K_goto (tgt := 14) dX4_dayPasses_98 (by decide) ?_
        refine K_mem (show _ = zmem μ (dpK z (k + 1)).1 by simp [dpK, mSurch, c30]) ?_
        exact K_lv [0, 1, 2] (by simp [lvpick, lkp, lvset, lvdel, Nat.beq, dpK, mSurch, c30]) ih_1
      · skip
        refine K_aload_n dX4_dayPasses_33 rfl ?_
        refine g_X4_7 dX4_dayPasses_34  ?_
        refine K_iconstN 4 dX4_dayPasses_37 rfl ?_
        refine ald16 dX4_dayPasses_38 (by omega) ?_
        refine K_top (congrFun zmem_16 _) ?_
        refine K_aload_n dX4_dayPasses_39 rfl ?_
        refine K_iload_n dX4_dayPasses_40 rfl ?_
        refine k_X4_firstDue (C_X4_firstDue zmem_16 (by omega) (dpK_ZI hZ k)) (by decide)  ml_X4_132 (Nat.le_of_ble_eq_true rfl) dX4_dayPasses_41 ?_
        refine K_icmp_le (tgt := 95) dX4_dayPasses_44 (by decide) (fun c44 => ?_) (fun c44 => ?_)
        · skip
          refine K_iincN (b := 1) dX4_dayPasses_95 rfl rfl (by decide) rfl ?_
          refine K_goto (tgt := 14) dX4_dayPasses_98 (by decide) ?_
          refine K_mem (show _ = zmem μ (dpK z (k + 1)).1 by simp [dpK, mSurch, c30, c44]) ?_
          exact K_lv [0, 1, 2] (by simp [lvpick, lkp, lvset, lvdel, Nat.beq, dpK, mSurch, c30, c44]) ih_1
        · skip
          refine K_aload_n dX4_dayPasses_47 rfl ?_
          refine K_iload_n dX4_dayPasses_48 rfl ?_
          refine k_X4_owed (C_X4_owed zmem_16 (by omega) (dpK_ZI hZ k)) (by decide)  ml_X4_53 (Nat.le_of_ble_eq_true rfl) dX4_dayPasses_49 ?_
          refine K_i2l dX4_dayPasses_52 ?_
          refine K_aload_n dX4_dayPasses_53 rfl ?_
          refine g_X4_7 dX4_dayPasses_54  ?_
          refine K_iconstN 1 dX4_dayPasses_57 rfl ?_
          refine ald16 dX4_dayPasses_58 (by omega) ?_
          refine K_top (congrFun zmem_16 _) ?_
          refine K_i2l dX4_dayPasses_59 ?_
          refine K_lmul dX4_dayPasses_60 ?_
          refine K_ldc2 dX4_dayPasses_61 cst_X4_63 ?_
          refine K_ldiv dX4_dayPasses_64 (by decide) ?_
          refine K_l2i dX4_dayPasses_65 ?_
          refine K_istore_n dX4_dayPasses_66 (by decide) rfl ?_
          refine K_aload_n dX4_dayPasses_67 rfl ?_
          refine K_iload_n dX4_dayPasses_68 rfl ?_
          refine K_bipush (v := nI 36) dX4_dayPasses_69 (by decide) ?_
          refine K_iconstN 1 dX4_dayPasses_71 rfl ?_
          refine k_X4_put (C_X4_put (by omega) (by omega)) (by decide)  ml_X4_80 (Nat.le_of_ble_eq_true rfl) dX4_dayPasses_72 ?_
          refine K_aload_n dX4_dayPasses_75 rfl ?_
          refine K_iload_n dX4_dayPasses_76 rfl ?_
          refine K_bipush (v := nI 32) dX4_dayPasses_77 (by decide) ?_
          refine K_iload_n dX4_dayPasses_79 rfl ?_
          refine k_X4_add (C_X4_add (by omega) (by omega)) (by decide)  ml_X4_112 (Nat.le_of_ble_eq_true rfl) dX4_dayPasses_80 ?_
          refine K_aload_n dX4_dayPasses_83 rfl ?_
          refine K_iload_n dX4_dayPasses_84 rfl ?_
          refine K_bipush (v := nI 33) dX4_dayPasses_85 (by decide) ?_
          refine K_iload_n dX4_dayPasses_87 rfl ?_
          refine k_X4_add (C_X4_add (by omega) (by omega)) (by decide)  ml_X4_112 (Nat.le_of_ble_eq_true rfl) dX4_dayPasses_88 ?_
          refine K_iload_n dX4_dayPasses_91 rfl ?_
          refine K_iload_n dX4_dayPasses_92 rfl ?_
          refine K_iadd dX4_dayPasses_93 ?_
          refine K_istore_n dX4_dayPasses_94 (by decide) rfl ?_
          refine K_iincN (b := 1) dX4_dayPasses_95 rfl rfl (by decide) rfl ?_
          refine K_goto (tgt := 14) dX4_dayPasses_98 (by decide) ?_
          refine K_mem (show _ = zmem μ (dpK z (k + 1)).1 by simp [dpK, mSurch, c30, c44]) ?_
          exact K_lv [0, 1, 2] (by simp [lvpick, lkp, lvset, lvdel, Nat.beq, dpK, mSurch, c30, c44]) ih_1

set_option maxHeartbeats 4000000 in
set_option maxRecDepth 100000 in
theorem C_X4_daysPass {l : Launch} {G : WG} {μ : Mem} {z : Zr} {n : Nat} (hZ : ZI z n) {d : Nat} (hd : d < 2 ^ 31) : Ct l G 4 yX4_daysPass cX4_daysPass 5 (some .int) [.ref (adr G 15 0 0), .int (nI d)] (zmem μ z) (some (.int ((dpsK z n d).2))) (zmem μ ((dpsK z n d).1)) := by
  refine Ct_of (by decide +kernel) (Nat.le_of_ble_eq_true rfl) ?_
  refine K_iconstN 0 dX4_daysPass_0 rfl ?_
  refine K_istore_n dX4_daysPass_1 (by decide) rfl ?_
  refine K_iconstN 0 dX4_daysPass_2 rfl ?_
  refine K_istore_n dX4_daysPass_3 (by decide) rfl ?_
  refine K_lv [0, 1, 2, 3] rfl ?_
  refine K_for (d) (fun k => [(0, .ref (adr G 15 0 0)), (1, .int (nI d)), (2, .int (dpsK z n k).2), (3, .int (nI k))]) (fun k => zmem μ (dpsK z n k).1) ?_ ?_
  · skip
    refine K_iload_n dX4_daysPass_4 rfl ?_
    refine K_iload_n dX4_daysPass_5 rfl ?_
    refine K_icmpN_ge (by omega) (by omega) (tgt := 26) dX4_daysPass_6 (by decide) (fun c6 => ?_) (fun c6 => ?_)
    · skip
      refine K_iload_n dX4_daysPass_26 rfl ?_
      exact K_iret dX4_daysPass_27 ⟨by rfl, rfl⟩
    · skip
      exfalso; omega
  · intro k hk_k ih_1
    refine K_iload_n dX4_daysPass_4 rfl ?_
    refine K_iload_n dX4_daysPass_5 rfl ?_
    refine K_icmpN_ge (by omega) (by omega) (tgt := 26) dX4_daysPass_6 (by decide) (fun c6 => ?_) (fun c6 => ?_)
    · skip
      exfalso; omega
    · skip
      refine K_aload_n dX4_daysPass_9 rfl ?_
      refine k_X4_dayPasses (C_X4_dayPasses (dpsK_ZI hZ k)) (by decide)  ml_X4_138 (Nat.le_of_ble_eq_true rfl) dX4_daysPass_10 ?_
      refine K_istore dX4_daysPass_13 (by decide) rfl ?_
      refine K_iload_n dX4_daysPass_15 rfl ?_
      refine K_iload dX4_daysPass_16 rfl ?_
      refine K_iadd dX4_daysPass_18 ?_
      refine K_istore_n dX4_daysPass_19 (by decide) rfl ?_
      refine K_iincN (b := 1) dX4_daysPass_20 rfl rfl (by decide) rfl ?_
      refine K_goto (tgt := 4) dX4_daysPass_23 (by decide) ?_
      exact K_lv [0, 1, 2, 3] rfl ih_1

set_option maxHeartbeats 4000000 in
set_option maxRecDepth 100000 in
theorem C_X4_save {l : Launch} {G : WG} {μ : Mem} {sc : Nat} (hs : μ.1 15 0 0 1 = nI sc) (hs6 : sc ≤ 6) : Ct l G 0 yX4_save cX4_save 2 none [.ref (adr G 15 0 0)] (μ) none (mSave μ sc) := by
  refine Ct_of (by decide +kernel) (Nat.le_of_ble_eq_true rfl) ?_
  have h5 := svN_le hs6
  refine K_aload_n dX4_save_0 rfl ?_
  refine g_X4_29 dX4_save_1  ?_
  refine K_top hs ?_
  refine K_bipush (v := nI 6) dX4_save_4 (by decide) ?_
  refine K_icmpN_ne (by omega) (by omega) (tgt := 52) dX4_save_6 (by decide) (fun c6 => ?_) (fun c6 => ?_)
  · skip
    refine K_mem (show _ = svM μ sc by first | exact (if_pos c6).symm | exact (if_neg c6).symm) ?_
    refine K_iconstN 0 dX4_save_52 rfl ?_
    refine K_istore_n dX4_save_53 (by decide) rfl ?_
    refine K_lv [0, 1] rfl ?_
    refine K_for (232) (fun k => [(0, .ref (adr G 15 0 0)), (1, .int (nI k))]) (fun k => svK (svM μ sc) (svN sc) k) ?_ ?_
    · skip
      refine K_iload_n dX4_save_54 rfl ?_
      refine K_sipush (v := nI 232) dX4_save_55 (by decide) ?_
      refine K_icmpN_ge (by omega) (by omega) (tgt := 88) dX4_save_58 (by decide) (fun c58 => ?_) (fun c58 => ?_)
      · skip
        refine K_aload_n dX4_save_88 rfl ?_
        refine K_dup dX4_save_89 rfl ?_
        refine g_X4_29 dX4_save_90  ?_
        refine K_top (svK_15 hs) ?_
        refine K_iconstN 1 dX4_save_93 rfl ?_
        refine K_iaddN dX4_save_94 ?_
        refine p_X4_29 dX4_save_95  ?_
        exact K_vret dX4_save_98 ⟨rfl, by rfl⟩
      · skip
        exfalso; omega
    · intro k hk_k ih_1
      refine K_iload_n dX4_save_54 rfl ?_
      refine K_sipush (v := nI 232) dX4_save_55 (by decide) ?_
      refine K_icmpN_ge (by omega) (by omega) (tgt := 88) dX4_save_58 (by decide) (fun c58 => ?_) (fun c58 => ?_)
      · skip
        exfalso; omega
      · skip
        refine K_aload_n dX4_save_61 rfl ?_
        refine g_X4_13 dX4_save_62  ?_
        refine K_sipush (v := nI 232) dX4_save_65 (by decide) ?_
        refine K_aload_n dX4_save_68 rfl ?_
        refine g_X4_29 dX4_save_69  ?_
        refine K_top (svK_15 hs) ?_
        refine K_imulN dX4_save_72 ?_
        refine K_iload_n dX4_save_73 rfl ?_
        refine K_iaddN dX4_save_74 ?_
        refine K_aload_n dX4_save_75 rfl ?_
        refine g_X4_7 dX4_save_76  ?_
        refine K_iload_n dX4_save_79 rfl ?_
        refine ald16 dX4_save_80 (by omega) ?_
        refine ast17 dX4_save_81 (by omega) ?_
        refine K_iincN (b := 1) dX4_save_82 rfl rfl (by decide) rfl ?_
        refine K_goto (tgt := 54) dX4_save_85 (by decide) ?_
        exact K_lv [0, 1] rfl ih_1
  · skip
    refine K_sipush (v := nI 232) dX4_save_9 (by decide) ?_
    refine K_istore_n dX4_save_12 (by decide) rfl ?_
    refine K_lv [0, 1] rfl ?_
    refine K_for (1160) (fun k => [(0, .ref (adr G 15 0 0)), (1, .int (nI (232 + k)))]) (fun k => shK μ k) ?_ ?_
    · skip
      refine K_iload_n dX4_save_13 rfl ?_
      refine K_sipush (v := nI 1392) dX4_save_14 (by decide) ?_
      refine K_icmpN_ge (by omega) (by omega) (tgt := 42) dX4_save_17 (by decide) (fun c17 => ?_) (fun c17 => ?_)
      · skip
        refine K_aload_n dX4_save_42 rfl ?_
        refine K_dup dX4_save_43 rfl ?_
        refine g_X4_29 dX4_save_44  ?_
        refine K_top (show _ = nI sc by rw [shK_tag (by decide)]; exact hs) ?_
        refine K_iconstN 1 dX4_save_47 rfl ?_
        refine K_isubN (by omega) dX4_save_48 ?_
        refine p_X4_29 dX4_save_49  ?_
        refine K_mem (show _ = svM μ sc by first | exact (if_pos c6).symm | exact (if_neg c6).symm) ?_
        refine K_iconstN 0 dX4_save_52 rfl ?_
        refine K_istore_n dX4_save_53 (by decide) rfl ?_
        refine K_lv [0, 1] rfl ?_
        refine K_for (232) (fun k => [(0, .ref (adr G 15 0 0)), (1, .int (nI k))]) (fun k => svK (svM μ sc) (svN sc) k) ?_ ?_
        · skip
          refine K_iload_n dX4_save_54 rfl ?_
          refine K_sipush (v := nI 232) dX4_save_55 (by decide) ?_
          refine K_icmpN_ge (by omega) (by omega) (tgt := 88) dX4_save_58 (by decide) (fun c58 => ?_) (fun c58 => ?_)
          · skip
            refine K_aload_n dX4_save_88 rfl ?_
            refine K_dup dX4_save_89 rfl ?_
            refine g_X4_29 dX4_save_90  ?_
            refine K_top (svK_15 hs) ?_
            refine K_iconstN 1 dX4_save_93 rfl ?_
            refine K_iaddN dX4_save_94 ?_
            refine p_X4_29 dX4_save_95  ?_
            exact K_vret dX4_save_98 ⟨rfl, by rfl⟩
          · skip
            exfalso; omega
        · intro k hk_k ih_3
          refine K_iload_n dX4_save_54 rfl ?_
          refine K_sipush (v := nI 232) dX4_save_55 (by decide) ?_
          refine K_icmpN_ge (by omega) (by omega) (tgt := 88) dX4_save_58 (by decide) (fun c58 => ?_) (fun c58 => ?_)
          · skip
            exfalso; omega
          · skip
            refine K_aload_n dX4_save_61 rfl ?_
            refine g_X4_13 dX4_save_62  ?_
            refine K_sipush (v := nI 232) dX4_save_65 (by decide) ?_
            refine K_aload_n dX4_save_68 rfl ?_
            refine g_X4_29 dX4_save_69  ?_
            refine K_top (svK_15 hs) ?_
            refine K_imulN dX4_save_72 ?_
            refine K_iload_n dX4_save_73 rfl ?_
            refine K_iaddN dX4_save_74 ?_
            refine K_aload_n dX4_save_75 rfl ?_
            refine g_X4_7 dX4_save_76  ?_
            refine K_iload_n dX4_save_79 rfl ?_
            refine ald16 dX4_save_80 (by omega) ?_
            refine ast17 dX4_save_81 (by omega) ?_
            refine K_iincN (b := 1) dX4_save_82 rfl rfl (by decide) rfl ?_
            refine K_goto (tgt := 54) dX4_save_85 (by decide) ?_
            exact K_lv [0, 1] rfl ih_3
      · skip
        exfalso; omega
    · intro k hk_k ih_2
      refine K_iload_n dX4_save_13 rfl ?_
      refine K_sipush (v := nI 1392) dX4_save_14 (by decide) ?_
      refine K_icmpN_ge (by omega) (by omega) (tgt := 42) dX4_save_17 (by decide) (fun c17 => ?_) (fun c17 => ?_)
      · skip
        exfalso; omega
      · skip
        refine K_aload_n dX4_save_20 rfl ?_
        refine g_X4_13 dX4_save_21  ?_
        refine K_iload_n dX4_save_24 rfl ?_
        refine K_sipush (v := nI 232) dX4_save_25 (by decide) ?_
        refine K_isubN (by omega) dX4_save_28 ?_
        refine K_aload_n dX4_save_29 rfl ?_
        refine g_X4_13 dX4_save_30  ?_
        refine K_iload_n dX4_save_33 rfl ?_
        refine ald17 dX4_save_34 (by omega) ?_
        refine ast17 dX4_save_35 (by omega) ?_
        refine K_iincN (b := 1) dX4_save_36 rfl rfl (by decide) rfl ?_
        refine K_goto (tgt := 13) dX4_save_39 (by decide) ?_
        exact K_lv [0, 1] rfl ih_2

set_option maxHeartbeats 4000000 in
set_option maxRecDepth 100000 in
theorem C_X4_keep {l : Launch} {G : WG} {μ : Mem}  : Ct l G 0 yX4_keep cX4_keep 2 none [.ref (adr G 15 0 0)] (μ) none (kpK μ 232) := by
  refine Ct_of (by decide +kernel) (Nat.le_of_ble_eq_true rfl) ?_
  refine K_iconstN 0 dX4_keep_0 rfl ?_
  refine K_istore_n dX4_keep_1 (by decide) rfl ?_
  refine K_lv [0, 1] rfl ?_
  refine K_for (232) (fun k => [(0, .ref (adr G 15 0 0)), (1, .int (nI k))]) (fun k => kpK μ k) ?_ ?_
  · skip
    refine K_iload_n dX4_keep_2 rfl ?_
    refine K_sipush (v := nI 232) dX4_keep_3 (by decide) ?_
    refine K_icmpN_ge (by omega) (by omega) (tgt := 27) dX4_keep_6 (by decide) (fun c6 => ?_) (fun c6 => ?_)
    · skip
      exact K_vret dX4_keep_27 ⟨rfl, by rfl⟩
    · skip
      exfalso; omega
  · intro k hk_k ih_1
    refine K_iload_n dX4_keep_2 rfl ?_
    refine K_sipush (v := nI 232) dX4_keep_3 (by decide) ?_
    refine K_icmpN_ge (by omega) (by omega) (tgt := 27) dX4_keep_6 (by decide) (fun c6 => ?_) (fun c6 => ?_)
    · skip
      exfalso; omega
    · skip
      refine K_aload_n dX4_keep_9 rfl ?_
      refine g_X4_22 dX4_keep_10  ?_
      refine K_iload_n dX4_keep_13 rfl ?_
      refine K_aload_n dX4_keep_14 rfl ?_
      refine g_X4_7 dX4_keep_15  ?_
      refine K_iload_n dX4_keep_18 rfl ?_
      refine ald16 dX4_keep_19 (by omega) ?_
      refine ast20 dX4_keep_20 (by omega) ?_
      refine K_iincN (b := 1) dX4_keep_21 rfl rfl (by decide) rfl ?_
      refine K_goto (tgt := 2) dX4_keep_24 (by decide) ?_
      exact K_lv [0, 1] rfl ih_1

set_option maxHeartbeats 4000000 in
set_option maxRecDepth 100000 in
theorem C_X4_layBack {l : Launch} {G : WG} {μ : Mem}  : Ct l G 0 yX4_layBack cX4_layBack 2 none [.ref (adr G 15 0 0)] (μ) none (lbK μ 232) := by
  refine Ct_of (by decide +kernel) (Nat.le_of_ble_eq_true rfl) ?_
  refine K_iconstN 0 dX4_layBack_0 rfl ?_
  refine K_istore_n dX4_layBack_1 (by decide) rfl ?_
  refine K_lv [0, 1] rfl ?_
  refine K_for (232) (fun k => [(0, .ref (adr G 15 0 0)), (1, .int (nI k))]) (fun k => lbK μ k) ?_ ?_
  · skip
    refine K_iload_n dX4_layBack_2 rfl ?_
    refine K_sipush (v := nI 232) dX4_layBack_3 (by decide) ?_
    refine K_icmpN_ge (by omega) (by omega) (tgt := 27) dX4_layBack_6 (by decide) (fun c6 => ?_) (fun c6 => ?_)
    · skip
      exact K_vret dX4_layBack_27 ⟨rfl, by rfl⟩
    · skip
      exfalso; omega
  · intro k hk_k ih_1
    refine K_iload_n dX4_layBack_2 rfl ?_
    refine K_sipush (v := nI 232) dX4_layBack_3 (by decide) ?_
    refine K_icmpN_ge (by omega) (by omega) (tgt := 27) dX4_layBack_6 (by decide) (fun c6 => ?_) (fun c6 => ?_)
    · skip
      exfalso; omega
    · skip
      refine K_aload_n dX4_layBack_9 rfl ?_
      refine g_X4_7 dX4_layBack_10  ?_
      refine K_iload_n dX4_layBack_13 rfl ?_
      refine K_aload_n dX4_layBack_14 rfl ?_
      refine g_X4_22 dX4_layBack_15  ?_
      refine K_iload_n dX4_layBack_18 rfl ?_
      refine ald20 dX4_layBack_19 (by omega) ?_
      refine ast16 dX4_layBack_20 (by omega) ?_
      refine K_iincN (b := 1) dX4_layBack_21 rfl rfl (by decide) rfl ?_
      refine K_goto (tgt := 2) dX4_layBack_24 (by decide) ?_
      exact K_lv [0, 1] rfl ih_1

set_option maxHeartbeats 4000000 in
set_option maxRecDepth 100000 in
theorem C_X4_surchargesThen {l : Launch} {G : WG} {μ : Mem} {z : Zr} (hz : μ.1 16 0 0 = z) {n : Nat} (hZ : ZI z n) {d : Nat} (hd : d < 2 ^ 31) : Ct l G 5 yX4_surchargesThen cX4_surchargesThen 3 (some .int) [.ref (adr G 15 0 0), .int (nI d)] (μ) (some (.int ((dpsK z n d).2))) (kpK μ 232) := by
  refine Ct_of (by decide +kernel) (Nat.le_of_ble_eq_true rfl) ?_
  subst hz
  refine K_aload_n dX4_surchargesThen_0 rfl ?_
  refine k_X4_keep (C_X4_keep ) (by decide)  ml_X4_221 (Nat.le_of_ble_eq_true rfl) dX4_surchargesThen_1 ?_
  refine K_mem (zself (show (kpK μ 232).1 16 0 0 = μ.1 16 0 0 by rw [kpK_tag (by decide)])).symm ?_
  refine K_aload_n dX4_surchargesThen_4 rfl ?_
  refine K_iload_n dX4_surchargesThen_5 rfl ?_
  refine k_X4_daysPass (C_X4_daysPass hZ hd) (by decide)  ml_X4_145 (Nat.le_of_ble_eq_true rfl) dX4_surchargesThen_6 ?_
  refine K_istore_n dX4_surchargesThen_9 (by decide) rfl ?_
  refine K_aload_n dX4_surchargesThen_10 rfl ?_
  refine k_X4_layBack (C_X4_layBack ) (by decide)  ml_X4_224 (Nat.le_of_ble_eq_true rfl) dX4_surchargesThen_11 ?_
  refine K_iload_n dX4_surchargesThen_14 rfl ?_
  exact K_iret dX4_surchargesThen_15 ⟨by rfl, back_eq rfl (fun j hj => dpsK_far hZ.2.1 hj d)⟩

set_option maxHeartbeats 4000000 in
set_option maxRecDepth 100000 in
theorem C_X4_dueThen {l : Launch} {G : WG} {μ : Mem} {z : Zr} (hz : μ.1 16 0 0 = z) {n : Nat} (hZ : ZI z n) {p : Nat} (hp : p < 6) {d : Nat} (hd : d < 2 ^ 31) : Ct l G 5 yX4_dueThen cX4_dueThen 5 (some .int) [.ref (adr G 15 0 0), .int (nI p), .int (nI d)] (μ) (some (.int (mDueNow (dpsK z n d).1 p))) (kpK μ 232) := by
  refine Ct_of (by decide +kernel) (Nat.le_of_ble_eq_true rfl) ?_
  subst hz
  refine K_aload_n dX4_dueThen_0 rfl ?_
  refine k_X4_keep (C_X4_keep ) (by decide)  ml_X4_221 (Nat.le_of_ble_eq_true rfl) dX4_dueThen_1 ?_
  refine K_mem (zself (show (kpK μ 232).1 16 0 0 = μ.1 16 0 0 by rw [kpK_tag (by decide)])).symm ?_
  refine K_aload_n dX4_dueThen_4 rfl ?_
  refine K_iload_n dX4_dueThen_5 rfl ?_
  refine k_X4_daysPass (C_X4_daysPass hZ hd) (by decide)  ml_X4_145 (Nat.le_of_ble_eq_true rfl) dX4_dueThen_6 ?_
  refine K_istore_n dX4_dueThen_9 (by decide) rfl ?_
  refine K_aload_n dX4_dueThen_10 rfl ?_
  refine K_iload_n dX4_dueThen_11 rfl ?_
  refine k_X4_dueNow (C_X4_dueNow zmem_16 hp (dpsK_ZI hZ d)) (by decide)  ml_X4_188 (Nat.le_of_ble_eq_true rfl) dX4_dueThen_12 ?_
  refine K_istore dX4_dueThen_15 (by decide) rfl ?_
  refine K_aload_n dX4_dueThen_17 rfl ?_
  refine k_X4_layBack (C_X4_layBack ) (by decide)  ml_X4_224 (Nat.le_of_ble_eq_true rfl) dX4_dueThen_18 ?_
  refine K_iload dX4_dueThen_21 rfl ?_
  exact K_iret dX4_dueThen_23 ⟨by rfl, back_eq rfl (fun j hj => dpsK_far hZ.2.1 hj d)⟩
