theorem tb1 {w : Cond} (i : Nat) (h : tables_1_1[i]? = some w) (hg : goodWord w = true) : w ∈ UW := List.mem_filter.mpr ⟨List.mem_append_right _ (show w ∈ tables_1_1 ++ (tables_1_2 ++ (tables_1_3 ++ (tables_1_4 ++ tables_1_5))) from (List.mem_append_left _ (List.mem_of_getElem? h))), hg⟩
theorem tb2 {w : Cond} (i : Nat) (h : tables_1_2[i]? = some w) (hg : goodWord w = true) : w ∈ UW := List.mem_filter.mpr ⟨List.mem_append_right _ (show w ∈ tables_1_1 ++ (tables_1_2 ++ (tables_1_3 ++ (tables_1_4 ++ tables_1_5))) from (List.mem_append_right _ (List.mem_append_left _ (List.mem_of_getElem? h)))), hg⟩
theorem tb3 {w : Cond} (i : Nat) (h : tables_1_3[i]? = some w) (hg : goodWord w = true) : w ∈ UW := List.mem_filter.mpr ⟨List.mem_append_right _ (show w ∈ tables_1_1 ++ (tables_1_2 ++ (tables_1_3 ++ (tables_1_4 ++ tables_1_5))) from (List.mem_append_right _ (List.mem_append_right _ (List.mem_append_left _ (List.mem_of_getElem? h))))), hg⟩
theorem tb4 {w : Cond} (i : Nat) (h : tables_1_4[i]? = some w) (hg : goodWord w = true) : w ∈ UW := List.mem_filter.mpr ⟨List.mem_append_right _ (show w ∈ tables_1_1 ++ (tables_1_2 ++ (tables_1_3 ++ (tables_1_4 ++ tables_1_5))) from (List.mem_append_right _ (List.mem_append_right _ (List.mem_append_right _ (List.mem_append_left _ (List.mem_of_getElem? h)))))), hg⟩
theorem tb5 {w : Cond} (i : Nat) (h : tables_1_5[i]? = some w) (hg : goodWord w = true) : w ∈ UW := List.mem_filter.mpr ⟨List.mem_append_right _ (show w ∈ tables_1_1 ++ (tables_1_2 ++ (tables_1_3 ++ (tables_1_4 ++ tables_1_5))) from (List.mem_append_right _ (List.mem_append_right _ (List.mem_append_right _ (List.mem_append_right _ (List.mem_of_getElem? h)))))), hg⟩
theorem iu_X0 : ∀ k, k < 5 → u_lay RX0 TX0 k ∈ UW
  | 0, _ => tb1 114 (by decide +kernel) rfl
  | 1, _ => tb1 116 (by decide +kernel) rfl
  | 2, _ => tb1 118 (by decide +kernel) rfl
  | 3, _ => tb1 120 (by decide +kernel) rfl
  | 4, _ => tb1 122 (by decide +kernel) rfl
  | n + 5, h => absurd h (by omega)
theorem in_X0 : ∀ w ∈ u_ws RX0 TX0 5, w ∈ UW := fun w hw => by
  obtain ⟨k, hk, rfl⟩ := List.mem_map.mp hw
  exact iu_X0 k (List.mem_range.mp hk)
theorem iu_X1 : ∀ k, k < 7 → u_lay RX1 TX1 k ∈ UW
  | 0, _ => tb1 146 (by decide +kernel) rfl
  | 1, _ => tb1 148 (by decide +kernel) rfl
  | 2, _ => tb1 150 (by decide +kernel) rfl
  | 3, _ => tb1 152 (by decide +kernel) rfl
  | 4, _ => tb1 154 (by decide +kernel) rfl
  | 5, _ => tb1 156 (by decide +kernel) rfl
  | 6, _ => tb1 158 (by decide +kernel) rfl
  | n + 7, h => absurd h (by omega)
theorem in_X1 : ∀ w ∈ u_ws RX1 TX1 7, w ∈ UW := fun w hw => by
  obtain ⟨k, hk, rfl⟩ := List.mem_map.mp hw
  exact iu_X1 k (List.mem_range.mp hk)
theorem iu_X2 : ∀ k, k < 13 → u_lay RX2 TX2 k ∈ UW
  | 0, _ => tb1 76 (by decide +kernel) rfl
  | 1, _ => tb1 78 (by decide +kernel) rfl
  | 2, _ => tb1 80 (by decide +kernel) rfl
  | 3, _ => tb1 82 (by decide +kernel) rfl
  | 4, _ => tb1 84 (by decide +kernel) rfl
  | 5, _ => tb1 86 (by decide +kernel) rfl
  | 6, _ => tb1 88 (by decide +kernel) rfl
  | 7, _ => tb1 90 (by decide +kernel) rfl
  | 8, _ => tb1 92 (by decide +kernel) rfl
  | 9, _ => tb1 94 (by decide +kernel) rfl
  | 10, _ => tb1 96 (by decide +kernel) rfl
  | 11, _ => tb1 98 (by decide +kernel) rfl
  | 12, _ => tb1 100 (by decide +kernel) rfl
  | n + 13, h => absurd h (by omega)
theorem in_X2 : ∀ w ∈ u_ws RX2 TX2 13, w ∈ UW := fun w hw => by
  obtain ⟨k, hk, rfl⟩ := List.mem_map.mp hw
  exact iu_X2 k (List.mem_range.mp hk)
theorem iu_X3 : ∀ k, k < 5 → u_lay RX3 TX3 k ∈ UW
  | 0, _ => tb1 166 (by decide +kernel) rfl
  | 1, _ => tb1 168 (by decide +kernel) rfl
  | 2, _ => tb1 170 (by decide +kernel) rfl
  | 3, _ => tb1 172 (by decide +kernel) rfl
  | 4, _ => tb1 174 (by decide +kernel) rfl
  | n + 5, h => absurd h (by omega)
theorem in_X3 : ∀ w ∈ u_ws RX3 TX3 5, w ∈ UW := fun w hw => by
  obtain ⟨k, hk, rfl⟩ := List.mem_map.mp hw
  exact iu_X3 k (List.mem_range.mp hk)
theorem iu_X4 : ∀ k, k < 12 → u_lay RX4 TX4 k ∈ UW
  | 0, _ => tb4 42 (by decide +kernel) rfl
  | 1, _ => tb4 44 (by decide +kernel) rfl
  | 2, _ => tb4 46 (by decide +kernel) rfl
  | 3, _ => tb4 48 (by decide +kernel) rfl
  | 4, _ => tb4 50 (by decide +kernel) rfl
  | 5, _ => tb4 52 (by decide +kernel) rfl
  | 6, _ => tb4 54 (by decide +kernel) rfl
  | 7, _ => tb4 56 (by decide +kernel) rfl
  | 8, _ => tb4 58 (by decide +kernel) rfl
  | 9, _ => tb4 60 (by decide +kernel) rfl
  | 10, _ => tb4 62 (by decide +kernel) rfl
  | 11, _ => tb4 64 (by decide +kernel) rfl
  | n + 12, h => absurd h (by omega)
theorem in_X4 : ∀ w ∈ u_ws RX4 TX4 12, w ∈ UW := fun w hw => by
  obtain ⟨k, hk, rfl⟩ := List.mem_map.mp hw
  exact iu_X4 k (List.mem_range.mp hk)
theorem dm4 {t i : Nat} (hi : i < 7) (h : 4 ≤ t ∧ t ≤ 7) : dm t i 0 := Or.inl ⟨h.1, h.2, hi, rfl⟩
theorem dm8 {t i p : Nat} (hi : i < 7) (hp : p < 6) (h : 8 ≤ t ∧ t ≤ 14) : dm t i p := Or.inr (Or.inl ⟨h.1, h.2, hi, hp⟩)
theorem dm0 {t : Nat} (h : t ≤ 3 ∨ (15 ≤ t ∧ t ≤ 21)) : dm t 0 0 := Or.inr (Or.inr ⟨h, rfl, rfl⟩)
theorem fl_X2_9 : Cond.fieldLink RX2 9 (TX2 0).1 (TX2 0).2.1 (TX2 0).2.2.1 ∈ UW := tb1 46 (by decide +kernel) rfl
theorem fl_X3_75 : Cond.fieldLink RX3 75 (TX2 0).1 (TX2 0).2.1 (TX2 0).2.2.1 ∈ UW := tb1 47 (by decide +kernel) rfl
theorem fl_X2_15 : Cond.fieldLink RX2 15 (TX2 1).1 (TX2 1).2.1 (TX2 1).2.2.1 ∈ UW := tb1 48 (by decide +kernel) rfl
theorem fl_X3_201 : Cond.fieldLink RX3 201 (TX2 1).1 (TX2 1).2.1 (TX2 1).2.2.1 ∈ UW := tb1 49 (by decide +kernel) rfl
theorem fl_X2_18 : Cond.fieldLink RX2 18 (TX2 2).1 (TX2 2).2.1 (TX2 2).2.2.1 ∈ UW := tb1 50 (by decide +kernel) rfl
theorem fl_X0_47 : Cond.fieldLink RX0 47 (TX2 2).1 (TX2 2).2.1 (TX2 2).2.2.1 ∈ UW := tb1 51 (by decide +kernel) rfl
theorem fl_X3_204 : Cond.fieldLink RX3 204 (TX2 2).1 (TX2 2).2.1 (TX2 2).2.2.1 ∈ UW := tb1 52 (by decide +kernel) rfl
theorem fl_X2_21 : Cond.fieldLink RX2 21 (TX2 3).1 (TX2 3).2.1 (TX2 3).2.2.1 ∈ UW := tb1 53 (by decide +kernel) rfl
theorem fl_X2_24 : Cond.fieldLink RX2 24 (TX2 4).1 (TX2 4).2.1 (TX2 4).2.2.1 ∈ UW := tb1 54 (by decide +kernel) rfl
theorem fl_X3_213 : Cond.fieldLink RX3 213 (TX2 4).1 (TX2 4).2.1 (TX2 4).2.2.1 ∈ UW := tb1 55 (by decide +kernel) rfl
theorem fl_X2_27 : Cond.fieldLink RX2 27 (TX2 5).1 (TX2 5).2.1 (TX2 5).2.2.1 ∈ UW := tb1 56 (by decide +kernel) rfl
theorem fl_X3_216 : Cond.fieldLink RX3 216 (TX2 5).1 (TX2 5).2.1 (TX2 5).2.2.1 ∈ UW := tb1 57 (by decide +kernel) rfl
theorem fl_X2_30 : Cond.fieldLink RX2 30 (TX2 6).1 (TX2 6).2.1 (TX2 6).2.2.1 ∈ UW := tb1 58 (by decide +kernel) rfl
theorem fl_X0_95 : Cond.fieldLink RX0 95 (TX2 6).1 (TX2 6).2.1 (TX2 6).2.2.1 ∈ UW := tb1 59 (by decide +kernel) rfl
theorem fl_X3_155 : Cond.fieldLink RX3 155 (TX2 6).1 (TX2 6).2.1 (TX2 6).2.2.1 ∈ UW := tb1 60 (by decide +kernel) rfl
theorem fl_X2_34 : Cond.fieldLink RX2 34 (TX2 7).1 (TX2 7).2.1 (TX2 7).2.2.1 ∈ UW := tb1 61 (by decide +kernel) rfl
theorem fl_X2_37 : Cond.fieldLink RX2 37 (TX2 8).1 (TX2 8).2.1 (TX2 8).2.2.1 ∈ UW := tb1 62 (by decide +kernel) rfl
theorem fl_X3_189 : Cond.fieldLink RX3 189 (TX2 8).1 (TX2 8).2.1 (TX2 8).2.2.1 ∈ UW := tb1 63 (by decide +kernel) rfl
theorem fl_X2_40 : Cond.fieldLink RX2 40 (TX2 9).1 (TX2 9).2.1 (TX2 9).2.2.1 ∈ UW := tb1 64 (by decide +kernel) rfl
theorem fl_X0_111 : Cond.fieldLink RX0 111 (TX2 9).1 (TX2 9).2.1 (TX2 9).2.2.1 ∈ UW := tb1 65 (by decide +kernel) rfl
theorem fl_X3_173 : Cond.fieldLink RX3 173 (TX2 9).1 (TX2 9).2.1 (TX2 9).2.2.1 ∈ UW := tb1 66 (by decide +kernel) rfl
theorem fl_X2_43 : Cond.fieldLink RX2 43 (TX2 10).1 (TX2 10).2.1 (TX2 10).2.2.1 ∈ UW := tb1 67 (by decide +kernel) rfl
theorem fl_X0_114 : Cond.fieldLink RX0 114 (TX2 10).1 (TX2 10).2.1 (TX2 10).2.2.1 ∈ UW := tb1 68 (by decide +kernel) rfl
theorem fl_X3_176 : Cond.fieldLink RX3 176 (TX2 10).1 (TX2 10).2.1 (TX2 10).2.2.1 ∈ UW := tb1 69 (by decide +kernel) rfl
theorem fl_X2_46 : Cond.fieldLink RX2 46 (TX2 11).1 (TX2 11).2.1 (TX2 11).2.2.1 ∈ UW := tb1 70 (by decide +kernel) rfl
theorem fl_X0_67 : Cond.fieldLink RX0 67 (TX2 11).1 (TX2 11).2.1 (TX2 11).2.2.1 ∈ UW := tb1 71 (by decide +kernel) rfl
theorem fl_X3_179 : Cond.fieldLink RX3 179 (TX2 11).1 (TX2 11).2.1 (TX2 11).2.2.1 ∈ UW := tb1 72 (by decide +kernel) rfl
theorem fl_X2_49 : Cond.fieldLink RX2 49 (TX2 12).1 (TX2 12).2.1 (TX2 12).2.2.1 ∈ UW := tb1 73 (by decide +kernel) rfl
theorem fl_X0_63 : Cond.fieldLink RX0 63 (TX2 12).1 (TX2 12).2.1 (TX2 12).2.2.1 ∈ UW := tb1 74 (by decide +kernel) rfl
theorem fl_X3_185 : Cond.fieldLink RX3 185 (TX2 12).1 (TX2 12).2.1 (TX2 12).2.2.1 ∈ UW := tb1 75 (by decide +kernel) rfl
theorem fl_X0_9 : Cond.fieldLink RX0 9 (TX0 0).1 (TX0 0).2.1 (TX0 0).2.2.1 ∈ UW := tb1 104 (by decide +kernel) rfl
theorem fl_X3_167 : Cond.fieldLink RX3 167 (TX0 0).1 (TX0 0).2.1 (TX0 0).2.2.1 ∈ UW := tb1 105 (by decide +kernel) rfl
theorem fl_X0_15 : Cond.fieldLink RX0 15 (TX0 1).1 (TX0 1).2.1 (TX0 1).2.2.1 ∈ UW := tb1 106 (by decide +kernel) rfl
theorem fl_X3_34 : Cond.fieldLink RX3 34 (TX0 1).1 (TX0 1).2.1 (TX0 1).2.2.1 ∈ UW := tb1 107 (by decide +kernel) rfl
theorem fl_X0_27 : Cond.fieldLink RX0 27 (TX0 2).1 (TX0 2).2.1 (TX0 2).2.2.1 ∈ UW := tb1 108 (by decide +kernel) rfl
theorem fl_X3_222 : Cond.fieldLink RX3 222 (TX0 2).1 (TX0 2).2.1 (TX0 2).2.2.1 ∈ UW := tb1 109 (by decide +kernel) rfl
theorem fl_X0_33 : Cond.fieldLink RX0 33 (TX0 3).1 (TX0 3).2.1 (TX0 3).2.2.1 ∈ UW := tb1 110 (by decide +kernel) rfl
theorem fl_X3_94 : Cond.fieldLink RX3 94 (TX0 3).1 (TX0 3).2.1 (TX0 3).2.2.1 ∈ UW := tb1 111 (by decide +kernel) rfl
theorem fl_X0_38 : Cond.fieldLink RX0 38 (TX0 4).1 (TX0 4).2.1 (TX0 4).2.2.1 ∈ UW := tb1 112 (by decide +kernel) rfl
theorem fl_X3_65 : Cond.fieldLink RX3 65 (TX0 4).1 (TX0 4).2.1 (TX0 4).2.2.1 ∈ UW := tb1 113 (by decide +kernel) rfl
theorem fl_X1_9 : Cond.fieldLink RX1 9 (TX1 0).1 (TX1 0).2.1 (TX1 0).2.2.1 ∈ UW := tb1 132 (by decide +kernel) rfl
theorem fl_X3_271 : Cond.fieldLink RX3 271 (TX1 0).1 (TX1 0).2.1 (TX1 0).2.2.1 ∈ UW := tb1 133 (by decide +kernel) rfl
theorem fl_X1_15 : Cond.fieldLink RX1 15 (TX1 1).1 (TX1 1).2.1 (TX1 1).2.2.1 ∈ UW := tb1 134 (by decide +kernel) rfl
theorem fl_X3_120 : Cond.fieldLink RX3 120 (TX1 1).1 (TX1 1).2.1 (TX1 1).2.2.1 ∈ UW := tb1 135 (by decide +kernel) rfl
theorem fl_X1_19 : Cond.fieldLink RX1 19 (TX1 2).1 (TX1 2).2.1 (TX1 2).2.2.1 ∈ UW := tb1 136 (by decide +kernel) rfl
theorem fl_X3_132 : Cond.fieldLink RX3 132 (TX1 2).1 (TX1 2).2.1 (TX1 2).2.2.1 ∈ UW := tb1 137 (by decide +kernel) rfl
theorem fl_X1_36 : Cond.fieldLink RX1 36 (TX1 3).1 (TX1 3).2.1 (TX1 3).2.2.1 ∈ UW := tb1 138 (by decide +kernel) rfl
theorem fl_X3_303 : Cond.fieldLink RX3 303 (TX1 3).1 (TX1 3).2.1 (TX1 3).2.2.1 ∈ UW := tb1 139 (by decide +kernel) rfl
theorem fl_X1_53 : Cond.fieldLink RX1 53 (TX1 4).1 (TX1 4).2.1 (TX1 4).2.2.1 ∈ UW := tb1 140 (by decide +kernel) rfl
theorem fl_X3_301 : Cond.fieldLink RX3 301 (TX1 4).1 (TX1 4).2.1 (TX1 4).2.2.1 ∈ UW := tb1 141 (by decide +kernel) rfl
theorem fl_X1_56 : Cond.fieldLink RX1 56 (TX1 5).1 (TX1 5).2.1 (TX1 5).2.2.1 ∈ UW := tb1 142 (by decide +kernel) rfl
theorem fl_X3_309 : Cond.fieldLink RX3 309 (TX1 5).1 (TX1 5).2.1 (TX1 5).2.2.1 ∈ UW := tb1 143 (by decide +kernel) rfl
theorem fl_X1_59 : Cond.fieldLink RX1 59 (TX1 6).1 (TX1 6).2.1 (TX1 6).2.2.1 ∈ UW := tb1 144 (by decide +kernel) rfl
theorem fl_X3_311 : Cond.fieldLink RX3 311 (TX1 6).1 (TX1 6).2.1 (TX1 6).2.2.1 ∈ UW := tb1 145 (by decide +kernel) rfl
theorem fl_X3_10 : Cond.fieldLink RX3 10 (TX3 0).1 (TX3 0).2.1 (TX3 0).2.2.1 ∈ UW := tb1 161 (by decide +kernel) rfl
theorem fl_X3_16 : Cond.fieldLink RX3 16 (TX3 1).1 (TX3 1).2.1 (TX3 1).2.2.1 ∈ UW := tb1 162 (by decide +kernel) rfl
theorem fl_X3_20 : Cond.fieldLink RX3 20 (TX3 2).1 (TX3 2).2.1 (TX3 2).2.2.1 ∈ UW := tb1 163 (by decide +kernel) rfl
theorem fl_X3_24 : Cond.fieldLink RX3 24 (TX3 3).1 (TX3 3).2.1 (TX3 3).2.2.1 ∈ UW := tb1 164 (by decide +kernel) rfl
theorem fl_X3_30 : Cond.fieldLink RX3 30 (TX3 4).1 (TX3 4).2.1 (TX3 4).2.2.1 ∈ UW := tb1 165 (by decide +kernel) rfl
theorem fl_X4_7 : Cond.fieldLink RX4 7 (TX4 0).1 (TX4 0).2.1 (TX4 0).2.2.1 ∈ UW := tb4 30 (by decide +kernel) rfl
theorem fl_X4_29 : Cond.fieldLink RX4 29 (TX4 1).1 (TX4 1).2.1 (TX4 1).2.2.1 ∈ UW := tb4 31 (by decide +kernel) rfl
theorem fl_X4_13 : Cond.fieldLink RX4 13 (TX4 2).1 (TX4 2).2.1 (TX4 2).2.2.1 ∈ UW := tb4 32 (by decide +kernel) rfl
theorem fl_X4_148 : Cond.fieldLink RX4 148 (TX4 3).1 (TX4 3).2.1 (TX4 3).2.2.1 ∈ UW := tb4 33 (by decide +kernel) rfl
theorem fl_X4_16 : Cond.fieldLink RX4 16 (TX4 4).1 (TX4 4).2.1 (TX4 4).2.2.1 ∈ UW := tb4 34 (by decide +kernel) rfl
theorem fl_X4_25 : Cond.fieldLink RX4 25 (TX4 5).1 (TX4 5).2.1 (TX4 5).2.2.1 ∈ UW := tb4 35 (by decide +kernel) rfl
theorem fl_X4_19 : Cond.fieldLink RX4 19 (TX4 6).1 (TX4 6).2.1 (TX4 6).2.2.1 ∈ UW := tb4 36 (by decide +kernel) rfl
theorem fl_X4_151 : Cond.fieldLink RX4 151 (TX4 7).1 (TX4 7).2.1 (TX4 7).2.2.1 ∈ UW := tb4 37 (by decide +kernel) rfl
theorem fl_X4_154 : Cond.fieldLink RX4 154 (TX4 8).1 (TX4 8).2.1 (TX4 8).2.2.1 ∈ UW := tb4 38 (by decide +kernel) rfl
theorem fl_X4_157 : Cond.fieldLink RX4 157 (TX4 9).1 (TX4 9).2.1 (TX4 9).2.2.1 ∈ UW := tb4 39 (by decide +kernel) rfl
theorem fl_X4_22 : Cond.fieldLink RX4 22 (TX4 10).1 (TX4 10).2.1 (TX4 10).2.2.1 ∈ UW := tb4 40 (by decide +kernel) rfl
theorem fl_X4_242 : Cond.fieldLink RX4 242 (TX4 11).1 (TX4 11).2.1 (TX4 11).2.2.1 ∈ UW := tb4 41 (by decide +kernel) rfl
theorem mk_X3_clearBuffer : MkV yX3_clearBuffer cX3_clearBuffer 2 (some .int) 0 := ⟨tb1 178 (by decide +kernel) rfl, tb1 179 (by decide +kernel) rfl, tb1 1 (by decide +kernel) rfl, tb1 180 (by decide +kernel) rfl, by decide +kernel, by decide +kernel, by decide +kernel⟩
theorem mk_X3_firstError : MkV yX3_firstError cX3_firstError 1 (some .int) 0 := ⟨tb1 182 (by decide +kernel) rfl, tb1 183 (by decide +kernel) rfl, tb1 1 (by decide +kernel) rfl, tb1 184 (by decide +kernel) rfl, by decide +kernel, by decide +kernel, by decide +kernel⟩
theorem mk_X1_readRow : MkV yX1_readRow cX1_readRow 3 (some .boolean) 0 := ⟨tb1 186 (by decide +kernel) rfl, tb1 187 (by decide +kernel) rfl, tb1 4 (by decide +kernel) rfl, tb1 188 (by decide +kernel) rfl, by decide +kernel, by decide +kernel, by decide +kernel⟩
theorem mk_X1_rewind : MkV yX1_rewind cX1_rewind 1 none 0 := ⟨tb1 190 (by decide +kernel) rfl, tb1 191 (by decide +kernel) rfl, tb1 4 (by decide +kernel) rfl, tb1 192 (by decide +kernel) rfl, by decide +kernel, by decide +kernel, by decide +kernel⟩
theorem mk_X1_readNextOrder : MkV yX1_readNextOrder cX1_readNextOrder 1 (some .boolean) 0 := ⟨tb1 194 (by decide +kernel) rfl, tb1 195 (by decide +kernel) rfl, tb1 4 (by decide +kernel) rfl, tb1 196 (by decide +kernel) rfl, by decide +kernel, by decide +kernel, by decide +kernel⟩
theorem mk_X1_readSign : MkV yX1_readSign cX1_readSign 2 (some .boolean) 1 := ⟨tb1 199 (by decide +kernel) rfl, sel_in (n := 7) 0 (by decide +kernel), tb1 4 (by decide +kernel) rfl, tb1 200 (by decide +kernel) rfl, by decide +kernel, by decide +kernel, by decide +kernel⟩
theorem mk_X1_readOrder : MkV yX1_readOrder cX1_readOrder 1 (some .boolean) 0 := ⟨tb1 203 (by decide +kernel) rfl, sel_in (n := 7) 1 (by decide +kernel), tb1 4 (by decide +kernel) rfl, tb1 204 (by decide +kernel) rfl, by decide +kernel, by decide +kernel, by decide +kernel⟩
theorem mk_X1_readPhase : MkV yX1_readPhase cX1_readPhase 1 (some .boolean) 0 := ⟨tb1 207 (by decide +kernel) rfl, sel_in (n := 7) 2 (by decide +kernel), tb1 4 (by decide +kernel) rfl, tb1 208 (by decide +kernel) rfl, by decide +kernel, by decide +kernel, by decide +kernel⟩
theorem mk_X1_readDigit : MkV yX1_readDigit cX1_readDigit 3 (some .int) 2 := ⟨tb1 211 (by decide +kernel) rfl, sel_in (n := 7) 3 (by decide +kernel), tb1 4 (by decide +kernel) rfl, tb1 212 (by decide +kernel) rfl, by decide +kernel, by decide +kernel, by decide +kernel⟩
theorem mk_X1_isDigit : MkV yX1_isDigit cX1_isDigit 3 (some .boolean) 2 := ⟨tb1 215 (by decide +kernel) rfl, sel_in (n := 7) 4 (by decide +kernel), tb1 4 (by decide +kernel) rfl, tb1 216 (by decide +kernel) rfl, by decide +kernel, by decide +kernel, by decide +kernel⟩
theorem mk_X1_readUse : MkV yX1_readUse cX1_readUse 1 (some .boolean) 0 := ⟨tb1 219 (by decide +kernel) rfl, sel_in (n := 7) 5 (by decide +kernel), tb1 4 (by decide +kernel) rfl, tb1 220 (by decide +kernel) rfl, by decide +kernel, by decide +kernel, by decide +kernel⟩
theorem mk_X1_readNumber : MkV yX1_readNumber cX1_readNumber 4 (some .boolean) 2 := ⟨tb1 223 (by decide +kernel) rfl, sel_in (n := 7) 6 (by decide +kernel), tb1 4 (by decide +kernel) rfl, tb1 224 (by decide +kernel) rfl, by decide +kernel, by decide +kernel, by decide +kernel⟩
theorem mk_X3_mostUrgent : MkV yX3_mostUrgent cX3_mostUrgent 8 (some .int) 0 := ⟨tb1 226 (by decide +kernel) rfl, tb1 227 (by decide +kernel) rfl, tb1 1 (by decide +kernel) rfl, tb1 228 (by decide +kernel) rfl, by decide +kernel, by decide +kernel, by decide +kernel⟩
theorem mk_X0_daysToBreak : MkV yX0_daysToBreak cX0_daysToBreak 3 (some .int) 1 := ⟨tb1 230 (by decide +kernel) rfl, tb1 231 (by decide +kernel) rfl, tb1 2 (by decide +kernel) rfl, tb1 232 (by decide +kernel) rfl, by decide +kernel, by decide +kernel, by decide +kernel⟩
theorem mk_X2_dayOfBreak : MkV yX2_dayOfBreak cX2_dayOfBreak 2 (some .int) 0 := ⟨tb1 234 (by decide +kernel) rfl, tb1 235 (by decide +kernel) rfl, tb1 3 (by decide +kernel) rfl, tb1 236 (by decide +kernel) rfl, by decide +kernel, by decide +kernel, by decide +kernel⟩
theorem mk_X2_instalmentsPaidWhole : MkV yX2_instalmentsPaidWhole cX2_instalmentsPaidWhole 3 (some .int) 0 := ⟨tb1 238 (by decide +kernel) rfl, tb1 239 (by decide +kernel) rfl, tb1 3 (by decide +kernel) rfl, tb2 0 (by decide +kernel) rfl, by decide +kernel, by decide +kernel, by decide +kernel⟩
theorem mk_X2_lastDayOfInstalment : MkV yX2_lastDayOfInstalment cX2_lastDayOfInstalment 2 (some .int) 1 := ⟨tb2 2 (by decide +kernel) rfl, tb2 3 (by decide +kernel) rfl, tb1 3 (by decide +kernel) rfl, tb2 4 (by decide +kernel) rfl, by decide +kernel, by decide +kernel, by decide +kernel⟩
theorem mk_X2_owed : MkV yX2_owed cX2_owed 1 (some .int) 0 := ⟨tb2 6 (by decide +kernel) rfl, tb2 7 (by decide +kernel) rfl, tb1 3 (by decide +kernel) rfl, tb2 8 (by decide +kernel) rfl, by decide +kernel, by decide +kernel, by decide +kernel⟩
theorem mk_X2_hasBegun : MkV yX2_hasBegun cX2_hasBegun 1 (some .boolean) 0 := ⟨tb2 10 (by decide +kernel) rfl, tb2 11 (by decide +kernel) rfl, tb1 3 (by decide +kernel) rfl, tb2 12 (by decide +kernel) rfl, by decide +kernel, by decide +kernel, by decide +kernel⟩
theorem mk_X2_charge : MkV yX2_charge cX2_charge 3 (some .int) 0 := ⟨tb2 14 (by decide +kernel) rfl, tb2 15 (by decide +kernel) rfl, tb1 3 (by decide +kernel) rfl, tb2 16 (by decide +kernel) rfl, by decide +kernel, by decide +kernel, by decide +kernel⟩
theorem mk_X2_relief : MkV yX2_relief cX2_relief 3 (some .int) 0 := ⟨tb2 18 (by decide +kernel) rfl, tb2 19 (by decide +kernel) rfl, tb1 3 (by decide +kernel) rfl, tb2 20 (by decide +kernel) rfl, by decide +kernel, by decide +kernel, by decide +kernel⟩
theorem mk_X3_settledShare : MkV yX3_settledShare cX3_settledShare 3 (some .double) 0 := ⟨tb2 22 (by decide +kernel) rfl, tb2 23 (by decide +kernel) rfl, tb1 1 (by decide +kernel) rfl, tb2 24 (by decide +kernel) rfl, by decide +kernel, by decide +kernel, by decide +kernel⟩
theorem mk_X0_sumOverBegunPhases : MkV yX0_sumOverBegunPhases cX0_sumOverBegunPhases 4 (some .int) 1 := ⟨tb2 26 (by decide +kernel) rfl, tb2 27 (by decide +kernel) rfl, tb1 2 (by decide +kernel) rfl, tb2 28 (by decide +kernel) rfl, by decide +kernel, by decide +kernel, by decide +kernel⟩
theorem mk_X0_numberOf : MkV yX0_numberOf cX0_numberOf 3 (some .int) 2 := ⟨tb2 32 (by decide +kernel) rfl, sel_in (n := 5) 7 (by decide +kernel), tb1 2 (by decide +kernel) rfl, tb2 33 (by decide +kernel) rfl, by decide +kernel, by decide +kernel, by decide +kernel⟩
theorem mk_X2_dueOn : MkV yX2_dueOn cX2_dueOn 4 (some .int) 1 := ⟨tb2 38 (by decide +kernel) rfl, tb2 39 (by decide +kernel) rfl, tb1 3 (by decide +kernel) rfl, tb2 40 (by decide +kernel) rfl, by decide +kernel, by decide +kernel, by decide +kernel⟩
theorem mk_X3_digest : MkV yX3_digest cX3_digest 4 (some .long) 0 := ⟨tb2 43 (by decide +kernel) rfl, tb2 44 (by decide +kernel) rfl, tb1 1 (by decide +kernel) rfl, tb2 45 (by decide +kernel) rfl, by decide +kernel, by decide +kernel, by decide +kernel⟩
theorem mk_X3_count : MkV yX3_count cX3_count 2 (some .int) 1 := ⟨tb2 49 (by decide +kernel) rfl, tb2 50 (by decide +kernel) rfl, tb1 1 (by decide +kernel) rfl, tb2 51 (by decide +kernel) rfl, by decide +kernel, by decide +kernel, by decide +kernel⟩
theorem mk_X3_demandRange : MkS yX3_demandRange cX3_demandRange 3 none 3 := ⟨tb2 53 (by decide +kernel) rfl, tb1 1 (by decide +kernel) rfl, tb2 54 (by decide +kernel) rfl, by decide +kernel, by decide +kernel, by decide +kernel⟩
theorem mk_X3_hashOfPhase : MkV yX3_hashOfPhase cX3_hashOfPhase 8 (some .long) 2 := ⟨tb2 125 (by decide +kernel) rfl, sel_in (n := 5) 9 (by decide +kernel), tb1 1 (by decide +kernel) rfl, tb2 126 (by decide +kernel) rfl, by decide +kernel, by decide +kernel, by decide +kernel⟩
theorem mk_X3_phase : MkV yX3_phase cX3_phase 4 (some .int) 2 := ⟨tb2 128 (by decide +kernel) rfl, tb2 129 (by decide +kernel) rfl, tb1 1 (by decide +kernel) rfl, tb2 130 (by decide +kernel) rfl, by decide +kernel, by decide +kernel, by decide +kernel⟩
theorem mk_X3_demandPhase : MkV yX3_demandPhase cX3_demandPhase 2 none 1 := ⟨tb2 133 (by decide +kernel) rfl, sel_in (n := 5) 10 (by decide +kernel), tb1 1 (by decide +kernel) rfl, tb2 134 (by decide +kernel) rfl, by decide +kernel, by decide +kernel, by decide +kernel⟩
theorem mk_X0_hasPhase : MkV yX0_hasPhase cX0_hasPhase 2 (some .boolean) 1 := ⟨tb2 136 (by decide +kernel) rfl, tb2 137 (by decide +kernel) rfl, tb1 2 (by decide +kernel) rfl, tb2 138 (by decide +kernel) rfl, by decide +kernel, by decide +kernel, by decide +kernel⟩
theorem mk_X2_lapsedSoFar : MkV yX2_lapsedSoFar cX2_lapsedSoFar 3 (some .int) 0 := ⟨tb2 159 (by decide +kernel) rfl, tb2 160 (by decide +kernel) rfl, tb1 3 (by decide +kernel) rfl, tb2 161 (by decide +kernel) rfl, by decide +kernel, by decide +kernel, by decide +kernel⟩
theorem mk_X2_areaOfAllUses : MkV yX2_areaOfAllUses cX2_areaOfAllUses 3 (some .int) 0 := ⟨tb2 164 (by decide +kernel) rfl, tb2 165 (by decide +kernel) rfl, tb1 3 (by decide +kernel) rfl, tb2 166 (by decide +kernel) rfl, by decide +kernel, by decide +kernel, by decide +kernel⟩
theorem mk_X2_roomForLand : MkV yX2_roomForLand cX2_roomForLand 2 (some .int) 1 := ⟨tb2 168 (by decide +kernel) rfl, tb2 169 (by decide +kernel) rfl, tb1 3 (by decide +kernel) rfl, tb2 170 (by decide +kernel) rfl, by decide +kernel, by decide +kernel, by decide +kernel⟩
theorem mk_X3_percentOf : MkS yX3_percentOf cX3_percentOf 2 (some .int) 2 := ⟨tb2 172 (by decide +kernel) rfl, tb1 1 (by decide +kernel) rfl, tb2 173 (by decide +kernel) rfl, by decide +kernel, by decide +kernel, by decide +kernel⟩
theorem mk_X3_use : MkV yX3_use cX3_use 5 (some .int) 3 := ⟨tb2 178 (by decide +kernel) rfl, tb2 179 (by decide +kernel) rfl, tb1 1 (by decide +kernel) rfl, tb2 180 (by decide +kernel) rfl, by decide +kernel, by decide +kernel, by decide +kernel⟩
theorem mk_X3_demandUse : MkS yX3_demandUse cX3_demandUse 1 none 1 := ⟨tb2 182 (by decide +kernel) rfl, tb1 1 (by decide +kernel) rfl, tb2 183 (by decide +kernel) rfl, by decide +kernel, by decide +kernel, by decide +kernel⟩
theorem mk_X2_chargeOfUse : MkV yX2_chargeOfUse cX2_chargeOfUse 2 (some .int) 1 := ⟨tb2 186 (by decide +kernel) rfl, tb2 187 (by decide +kernel) rfl, tb1 3 (by decide +kernel) rfl, tb2 188 (by decide +kernel) rfl, by decide +kernel, by decide +kernel, by decide +kernel⟩
theorem mk_X2_reliefOfUse : MkV yX2_reliefOfUse cX2_reliefOfUse 2 (some .int) 1 := ⟨tb2 190 (by decide +kernel) rfl, tb2 191 (by decide +kernel) rfl, tb1 3 (by decide +kernel) rfl, tb2 192 (by decide +kernel) rfl, by decide +kernel, by decide +kernel, by decide +kernel⟩
theorem mk_X3_whyNot : MkV yX3_whyNot cX3_whyNot 4 (some .int) 3 := ⟨tb2 194 (by decide +kernel) rfl, tb2 195 (by decide +kernel) rfl, tb1 1 (by decide +kernel) rfl, tb2 196 (by decide +kernel) rfl, by decide +kernel, by decide +kernel, by decide +kernel⟩
theorem mk_X0_reasonAgainst : MkV yX0_reasonAgainst cX0_reasonAgainst 7 (some .int) 3 := ⟨tb2 198 (by decide +kernel) rfl, tb2 199 (by decide +kernel) rfl, tb1 2 (by decide +kernel) rfl, tb2 200 (by decide +kernel) rfl, by decide +kernel, by decide +kernel, by decide +kernel⟩
theorem mk_X3_instalment : MkV yX3_instalment cX3_instalment 5 (some .int) 3 := ⟨tb2 205 (by decide +kernel) rfl, tb2 206 (by decide +kernel) rfl, tb1 1 (by decide +kernel) rfl, tb2 207 (by decide +kernel) rfl, by decide +kernel, by decide +kernel, by decide +kernel⟩
theorem mk_X3_ifBegun : MkV yX3_ifBegun cX3_ifBegun 5 (some .int) 2 := ⟨tb2 210 (by decide +kernel) rfl, tb2 211 (by decide +kernel) rfl, tb1 1 (by decide +kernel) rfl, tb2 212 (by decide +kernel) rfl, by decide +kernel, by decide +kernel, by decide +kernel⟩
theorem mk_X3_instalmentsFor : MkS yX3_instalmentsFor cX3_instalmentsFor 1 (some .int) 1 := ⟨tb2 214 (by decide +kernel) rfl, tb1 1 (by decide +kernel) rfl, tb2 215 (by decide +kernel) rfl, by decide +kernel, by decide +kernel, by decide +kernel⟩
theorem mk_X3_partOf : MkS yX3_partOf cX3_partOf 4 (some .int) 3 := ⟨tb2 217 (by decide +kernel) rfl, tb1 1 (by decide +kernel) rfl, tb2 218 (by decide +kernel) rfl, by decide +kernel, by decide +kernel, by decide +kernel⟩
theorem mk_X3_breaksIn : MkV yX3_breaksIn cX3_breaksIn 2 (some .int) 1 := ⟨tb2 220 (by decide +kernel) rfl, tb2 221 (by decide +kernel) rfl, tb1 1 (by decide +kernel) rfl, tb2 222 (by decide +kernel) rfl, by decide +kernel, by decide +kernel, by decide +kernel⟩
theorem mk_X3_dueIn : MkV yX3_dueIn cX3_dueIn 3 (some .int) 2 := ⟨tb2 224 (by decide +kernel) rfl, tb2 225 (by decide +kernel) rfl, tb1 1 (by decide +kernel) rfl, tb2 226 (by decide +kernel) rfl, by decide +kernel, by decide +kernel, by decide +kernel⟩
theorem mk_X0_breaksWithin : MkV yX0_breaksWithin cX0_breaksWithin 4 (some .boolean) 2 := ⟨tb2 228 (by decide +kernel) rfl, tb2 229 (by decide +kernel) rfl, tb1 2 (by decide +kernel) rfl, tb2 230 (by decide +kernel) rfl, by decide +kernel, by decide +kernel, by decide +kernel⟩
theorem mk_X0_surchargeWithin : MkV yX0_surchargeWithin cX0_surchargeWithin 3 (some .int) 2 := ⟨tb2 232 (by decide +kernel) rfl, tb2 233 (by decide +kernel) rfl, tb1 2 (by decide +kernel) rfl, tb2 234 (by decide +kernel) rfl, by decide +kernel, by decide +kernel, by decide +kernel⟩
theorem mk_X3_surchargesIn : MkV yX3_surchargesIn cX3_surchargesIn 4 (some .int) 1 := ⟨tb2 238 (by decide +kernel) rfl, tb2 239 (by decide +kernel) rfl, tb1 1 (by decide +kernel) rfl, tb3 0 (by decide +kernel) rfl, by decide +kernel, by decide +kernel, by decide +kernel⟩
theorem mk_X3_bitsOfShare : MkS yX3_bitsOfShare cX3_bitsOfShare 8 (some .long) 1 := ⟨tb3 4 (by decide +kernel) rfl, tb1 1 (by decide +kernel) rfl, tb3 5 (by decide +kernel) rfl, by decide +kernel, by decide +kernel, by decide +kernel⟩
theorem mk_X3_addPhase : MkV yX3_addPhase cX3_addPhase 1 (some .int) 0 := ⟨tb3 14 (by decide +kernel) rfl, tb3 15 (by decide +kernel) rfl, tb1 1 (by decide +kernel) rfl, tb3 16 (by decide +kernel) rfl, by decide +kernel, by decide +kernel, by decide +kernel⟩
theorem mk_X3_saveState : MkV yX3_saveState cX3_saveState 1 none 0 := ⟨tb3 35 (by decide +kernel) rfl, sel_in (n := 5) 11 (by decide +kernel), tb1 1 (by decide +kernel) rfl, tb3 36 (by decide +kernel) rfl, by decide +kernel, by decide +kernel, by decide +kernel⟩
theorem mk_X0_copyFrom : MkV yX0_copyFrom cX0_copyFrom 3 none 1 := ⟨tb3 38 (by decide +kernel) rfl, tb3 39 (by decide +kernel) rfl, tb1 2 (by decide +kernel) rfl, tb3 40 (by decide +kernel) rfl, by decide +kernel, by decide +kernel, by decide +kernel⟩
theorem mk_X2_copyFrom : MkV yX2_copyFrom cX2_copyFrom 3 none 1 := ⟨tb3 42 (by decide +kernel) rfl, tb3 43 (by decide +kernel) rfl, tb1 3 (by decide +kernel) rfl, tb3 44 (by decide +kernel) rfl, by decide +kernel, by decide +kernel, by decide +kernel⟩
theorem mk_X0_appendPhase : MkV yX0_appendPhase cX0_appendPhase 3 (some .int) 0 := ⟨tb3 46 (by decide +kernel) rfl, tb3 47 (by decide +kernel) rfl, tb1 2 (by decide +kernel) rfl, tb3 48 (by decide +kernel) rfl, by decide +kernel, by decide +kernel, by decide +kernel⟩
theorem mk_X3_area : MkV yX3_area cX3_area 4 (some .int) 3 := ⟨tb3 55 (by decide +kernel) rfl, tb3 56 (by decide +kernel) rfl, tb1 1 (by decide +kernel) rfl, tb3 57 (by decide +kernel) rfl, by decide +kernel, by decide +kernel, by decide +kernel⟩
theorem mk_X3_demandNoReason : MkV yX3_demandNoReason cX3_demandNoReason 4 none 3 := ⟨tb3 60 (by decide +kernel) rfl, sel_in (n := 5) 12 (by decide +kernel), tb1 1 (by decide +kernel) rfl, tb3 61 (by decide +kernel) rfl, by decide +kernel, by decide +kernel, by decide +kernel⟩
theorem mk_X2_changeArea : MkV yX2_changeArea cX2_changeArea 4 (some .int) 2 := ⟨tb3 64 (by decide +kernel) rfl, tb3 65 (by decide +kernel) rfl, tb1 3 (by decide +kernel) rfl, tb3 66 (by decide +kernel) rfl, by decide +kernel, by decide +kernel, by decide +kernel⟩
theorem mk_X3_exempt : MkV yX3_exempt cX3_exempt 4 (some .int) 3 := ⟨tb3 74 (by decide +kernel) rfl, tb3 75 (by decide +kernel) rfl, tb1 1 (by decide +kernel) rfl, tb3 76 (by decide +kernel) rfl, by decide +kernel, by decide +kernel, by decide +kernel⟩
theorem mk_X2_changeExemptArea : MkV yX2_changeExemptArea cX2_changeExemptArea 4 (some .int) 2 := ⟨tb3 78 (by decide +kernel) rfl, tb3 79 (by decide +kernel) rfl, tb1 3 (by decide +kernel) rfl, tb3 80 (by decide +kernel) rfl, by decide +kernel, by decide +kernel, by decide +kernel⟩
theorem mk_X3_rate : MkV yX3_rate cX3_rate 3 (some .int) 2 := ⟨tb3 85 (by decide +kernel) rfl, tb3 86 (by decide +kernel) rfl, tb1 1 (by decide +kernel) rfl, tb3 87 (by decide +kernel) rfl, by decide +kernel, by decide +kernel, by decide +kernel⟩
theorem mk_X0_changeRate : MkV yX0_changeRate cX0_changeRate 5 (some .int) 2 := ⟨tb3 89 (by decide +kernel) rfl, tb3 90 (by decide +kernel) rfl, tb1 2 (by decide +kernel) rfl, tb3 91 (by decide +kernel) rfl, by decide +kernel, by decide +kernel, by decide +kernel⟩
theorem mk_X3_set : MkV yX3_set cX3_set 4 (some .int) 2 := ⟨tb3 96 (by decide +kernel) rfl, tb3 97 (by decide +kernel) rfl, tb1 1 (by decide +kernel) rfl, tb3 98 (by decide +kernel) rfl, by decide +kernel, by decide +kernel, by decide +kernel⟩
theorem mk_X3_demandSetting : MkS yX3_demandSetting cX3_demandSetting 1 none 1 := ⟨tb3 100 (by decide +kernel) rfl, tb1 1 (by decide +kernel) rfl, tb3 101 (by decide +kernel) rfl, by decide +kernel, by decide +kernel, by decide +kernel⟩
theorem mk_X3_begin : MkV yX3_begin cX3_begin 2 (some .int) 1 := ⟨tb3 111 (by decide +kernel) rfl, tb3 112 (by decide +kernel) rfl, tb1 1 (by decide +kernel) rfl, tb3 113 (by decide +kernel) rfl, by decide +kernel, by decide +kernel, by decide +kernel⟩
theorem mk_X0_beginPhase : MkV yX0_beginPhase cX0_beginPhase 2 (some .int) 1 := ⟨tb3 115 (by decide +kernel) rfl, tb3 116 (by decide +kernel) rfl, tb1 2 (by decide +kernel) rfl, tb3 117 (by decide +kernel) rfl, by decide +kernel, by decide +kernel, by decide +kernel⟩
theorem mk_X2_startOn : MkV yX2_startOn cX2_startOn 5 (some .int) 2 := ⟨tb3 119 (by decide +kernel) rfl, tb3 120 (by decide +kernel) rfl, tb1 3 (by decide +kernel) rfl, tb3 121 (by decide +kernel) rfl, by decide +kernel, by decide +kernel, by decide +kernel⟩
theorem mk_X3_pay : MkV yX3_pay cX3_pay 3 (some .int) 2 := ⟨tb3 128 (by decide +kernel) rfl, tb3 129 (by decide +kernel) rfl, tb1 1 (by decide +kernel) rfl, tb3 130 (by decide +kernel) rfl, by decide +kernel, by decide +kernel, by decide +kernel⟩
theorem mk_X2_takeMoney : MkV yX2_takeMoney cX2_takeMoney 3 (some .int) 1 := ⟨tb3 133 (by decide +kernel) rfl, tb3 134 (by decide +kernel) rfl, tb1 3 (by decide +kernel) rfl, tb3 135 (by decide +kernel) rfl, by decide +kernel, by decide +kernel, by decide +kernel⟩
theorem mk_X2_settle : MkV yX2_settle cX2_settle 5 none 1 := ⟨tb3 138 (by decide +kernel) rfl, sel_in (n := 13) 13 (by decide +kernel), tb1 3 (by decide +kernel) rfl, tb3 139 (by decide +kernel) rfl, by decide +kernel, by decide +kernel, by decide +kernel⟩
theorem mk_X3_land : MkV yX3_land cX3_land 3 (some .int) 2 := ⟨tb3 144 (by decide +kernel) rfl, tb3 145 (by decide +kernel) rfl, tb1 1 (by decide +kernel) rfl, tb3 146 (by decide +kernel) rfl, by decide +kernel, by decide +kernel, by decide +kernel⟩
theorem mk_X2_takeLand : MkV yX2_takeLand cX2_takeLand 4 (some .int) 2 := ⟨tb3 148 (by decide +kernel) rfl, tb3 149 (by decide +kernel) rfl, tb1 3 (by decide +kernel) rfl, tb3 150 (by decide +kernel) rfl, by decide +kernel, by decide +kernel, by decide +kernel⟩
theorem mk_X3_lapse : MkV yX3_lapse cX3_lapse 3 (some .int) 2 := ⟨tb3 156 (by decide +kernel) rfl, tb3 157 (by decide +kernel) rfl, tb1 1 (by decide +kernel) rfl, tb3 158 (by decide +kernel) rfl, by decide +kernel, by decide +kernel, by decide +kernel⟩
theorem mk_X2_endRelief : MkV yX2_endRelief cX2_endRelief 3 (some .int) 1 := ⟨tb3 160 (by decide +kernel) rfl, tb3 161 (by decide +kernel) rfl, tb1 3 (by decide +kernel) rfl, tb3 162 (by decide +kernel) rfl, by decide +kernel, by decide +kernel, by decide +kernel⟩
theorem mk_X3_pass : MkV yX3_pass cX3_pass 2 (some .int) 1 := ⟨tb3 168 (by decide +kernel) rfl, tb3 169 (by decide +kernel) rfl, tb1 1 (by decide +kernel) rfl, tb3 170 (by decide +kernel) rfl, by decide +kernel, by decide +kernel, by decide +kernel⟩
theorem mk_X0_hasDaysLeft : MkV yX0_hasDaysLeft cX0_hasDaysLeft 2 (some .boolean) 1 := ⟨tb3 172 (by decide +kernel) rfl, tb3 173 (by decide +kernel) rfl, tb1 2 (by decide +kernel) rfl, tb3 174 (by decide +kernel) rfl, by decide +kernel, by decide +kernel, by decide +kernel⟩
theorem mk_X0_letDaysPass : MkV yX0_letDaysPass cX0_letDaysPass 5 (some .int) 1 := ⟨tb3 177 (by decide +kernel) rfl, tb3 178 (by decide +kernel) rfl, tb1 2 (by decide +kernel) rfl, tb3 179 (by decide +kernel) rfl, by decide +kernel, by decide +kernel, by decide +kernel⟩
theorem mk_X3_append : MkV yX3_append cX3_append 2 (some .int) 1 := ⟨tb3 185 (by decide +kernel) rfl, tb3 186 (by decide +kernel) rfl, tb1 1 (by decide +kernel) rfl, tb3 187 (by decide +kernel) rfl, by decide +kernel, by decide +kernel, by decide +kernel⟩
theorem mk_X1_appendCode : MkV yX1_appendCode cX1_appendCode 2 (some .int) 1 := ⟨tb3 190 (by decide +kernel) rfl, tb3 191 (by decide +kernel) rfl, tb1 4 (by decide +kernel) rfl, tb3 192 (by decide +kernel) rfl, by decide +kernel, by decide +kernel, by decide +kernel⟩
theorem mk_X3_run : MkV yX3_run cX3_run 2 (some .int) 0 := ⟨tb3 197 (by decide +kernel) rfl, tb3 198 (by decide +kernel) rfl, tb1 1 (by decide +kernel) rfl, tb3 199 (by decide +kernel) rfl, by decide +kernel, by decide +kernel, by decide +kernel⟩
theorem mk_X3_carryOutOrder : MkV yX3_carryOutOrder cX3_carryOutOrder 2 (some .boolean) 0 := ⟨tb3 205 (by decide +kernel) rfl, sel_in (n := 5) 14 (by decide +kernel), tb1 1 (by decide +kernel) rfl, tb3 206 (by decide +kernel) rfl, by decide +kernel, by decide +kernel, by decide +kernel⟩
theorem mk_X0_allows : MkV yX0_allows cX0_allows 3 (some .boolean) 2 := ⟨tb3 208 (by decide +kernel) rfl, tb3 209 (by decide +kernel) rfl, tb1 2 (by decide +kernel) rfl, tb3 210 (by decide +kernel) rfl, by decide +kernel, by decide +kernel, by decide +kernel⟩
theorem mk_X3_undo : MkV yX3_undo cX3_undo 1 (some .int) 0 := ⟨tb3 217 (by decide +kernel) rfl, tb3 218 (by decide +kernel) rfl, tb1 1 (by decide +kernel) rfl, tb3 219 (by decide +kernel) rfl, by decide +kernel, by decide +kernel, by decide +kernel⟩
theorem mk_X3_setting : MkV yX3_setting cX3_setting 2 (some .int) 1 := ⟨tb4 1 (by decide +kernel) rfl, tb4 2 (by decide +kernel) rfl, tb1 1 (by decide +kernel) rfl, tb4 3 (by decide +kernel) rfl, by decide +kernel, by decide +kernel, by decide +kernel⟩
theorem mk_X4_thrown : MkV yX4_thrown cX4_thrown 1 (some .int) 0 := ⟨tb4 68 (by decide +kernel) rfl, tb4 69 (by decide +kernel) rfl, tb1 5 (by decide +kernel) rfl, tb4 70 (by decide +kernel) rfl, by decide +kernel, by decide +kernel, by decide +kernel⟩
theorem mk_X4_addPhase : MkV yX4_addPhase cX4_addPhase 3 (some .int) 0 := ⟨tb4 72 (by decide +kernel) rfl, tb4 73 (by decide +kernel) rfl, tb1 5 (by decide +kernel) rfl, tb4 74 (by decide +kernel) rfl, by decide +kernel, by decide +kernel, by decide +kernel⟩
theorem mk_X4_save : MkV yX4_save cX4_save 2 none 0 := ⟨tb4 77 (by decide +kernel) rfl, sel_in (n := 12) 15 (by decide +kernel), tb1 5 (by decide +kernel) rfl, tb4 78 (by decide +kernel) rfl, by decide +kernel, by decide +kernel, by decide +kernel⟩
theorem mk_X4_put : MkV yX4_put cX4_put 4 none 3 := ⟨tb4 81 (by decide +kernel) rfl, sel_in (n := 12) 16 (by decide +kernel), tb1 5 (by decide +kernel) rfl, tb4 82 (by decide +kernel) rfl, by decide +kernel, by decide +kernel, by decide +kernel⟩
theorem mk_X4_area : MkV yX4_area cX4_area 5 (some .int) 3 := ⟨tb4 84 (by decide +kernel) rfl, tb4 85 (by decide +kernel) rfl, tb1 5 (by decide +kernel) rfl, tb4 86 (by decide +kernel) rfl, by decide +kernel, by decide +kernel, by decide +kernel⟩
theorem mk_X4_isPhase : MkV yX4_isPhase cX4_isPhase 2 (some .boolean) 1 := ⟨tb4 89 (by decide +kernel) rfl, sel_in (n := 12) 17 (by decide +kernel), tb1 5 (by decide +kernel) rfl, tb4 90 (by decide +kernel) rfl, by decide +kernel, by decide +kernel, by decide +kernel⟩
theorem mk_X4_within : MkS yX4_within cX4_within 3 (some .boolean) 3 := ⟨tb4 92 (by decide +kernel) rfl, tb1 5 (by decide +kernel) rfl, tb4 93 (by decide +kernel) rfl, by decide +kernel, by decide +kernel, by decide +kernel⟩
theorem mk_X4_isUse : MkS yX4_isUse cX4_isUse 1 (some .boolean) 1 := ⟨tb4 95 (by decide +kernel) rfl, tb1 5 (by decide +kernel) rfl, tb4 96 (by decide +kernel) rfl, by decide +kernel, by decide +kernel, by decide +kernel⟩
theorem mk_X4_isArea : MkS yX4_isArea cX4_isArea 1 (some .boolean) 1 := ⟨tb4 98 (by decide +kernel) rfl, tb1 5 (by decide +kernel) rfl, tb4 99 (by decide +kernel) rfl, by decide +kernel, by decide +kernel, by decide +kernel⟩
theorem mk_X4_hasBegun : MkV yX4_hasBegun cX4_hasBegun 2 (some .boolean) 1 := ⟨tb4 102 (by decide +kernel) rfl, sel_in (n := 12) 18 (by decide +kernel), tb1 5 (by decide +kernel) rfl, tb4 103 (by decide +kernel) rfl, by decide +kernel, by decide +kernel, by decide +kernel⟩
theorem mk_X4_of : MkV yX4_of cX4_of 3 (some .int) 2 := ⟨tb4 106 (by decide +kernel) rfl, sel_in (n := 12) 19 (by decide +kernel), tb1 5 (by decide +kernel) rfl, tb4 107 (by decide +kernel) rfl, by decide +kernel, by decide +kernel, by decide +kernel⟩
theorem mk_X4_changeArea : MkV yX4_changeArea cX4_changeArea 4 none 3 := ⟨tb4 110 (by decide +kernel) rfl, sel_in (n := 12) 20 (by decide +kernel), tb1 5 (by decide +kernel) rfl, tb4 111 (by decide +kernel) rfl, by decide +kernel, by decide +kernel, by decide +kernel⟩
theorem mk_X4_exempt : MkV yX4_exempt cX4_exempt 5 (some .int) 3 := ⟨tb4 113 (by decide +kernel) rfl, tb4 114 (by decide +kernel) rfl, tb1 5 (by decide +kernel) rfl, tb4 115 (by decide +kernel) rfl, by decide +kernel, by decide +kernel, by decide +kernel⟩
theorem mk_X4_rate : MkV yX4_rate cX4_rate 4 (some .int) 2 := ⟨tb4 117 (by decide +kernel) rfl, tb4 118 (by decide +kernel) rfl, tb1 5 (by decide +kernel) rfl, tb4 119 (by decide +kernel) rfl, by decide +kernel, by decide +kernel, by decide +kernel⟩
theorem mk_X4_set : MkV yX4_set cX4_set 4 (some .int) 2 := ⟨tb4 121 (by decide +kernel) rfl, tb4 122 (by decide +kernel) rfl, tb1 5 (by decide +kernel) rfl, tb4 123 (by decide +kernel) rfl, by decide +kernel, by decide +kernel, by decide +kernel⟩
theorem mk_X4_isSetting : MkS yX4_isSetting cX4_isSetting 1 (some .boolean) 1 := ⟨tb4 125 (by decide +kernel) rfl, tb1 5 (by decide +kernel) rfl, tb4 126 (by decide +kernel) rfl, by decide +kernel, by decide +kernel, by decide +kernel⟩
theorem mk_X4_isValue : MkS yX4_isValue cX4_isValue 2 (some .boolean) 2 := ⟨tb4 128 (by decide +kernel) rfl, tb1 5 (by decide +kernel) rfl, tb4 129 (by decide +kernel) rfl, by decide +kernel, by decide +kernel, by decide +kernel⟩
theorem mk_X4_begin : MkV yX4_begin cX4_begin 2 (some .int) 1 := ⟨tb4 131 (by decide +kernel) rfl, tb4 132 (by decide +kernel) rfl, tb1 5 (by decide +kernel) rfl, tb4 133 (by decide +kernel) rfl, by decide +kernel, by decide +kernel, by decide +kernel⟩
theorem mk_X4_whyNoBeginning : MkV yX4_whyNoBeginning cX4_whyNoBeginning 2 (some .int) 1 := ⟨tb4 136 (by decide +kernel) rfl, sel_in (n := 12) 21 (by decide +kernel), tb1 5 (by decide +kernel) rfl, tb4 137 (by decide +kernel) rfl, by decide +kernel, by decide +kernel, by decide +kernel⟩
theorem mk_X4_areaOf : MkV yX4_areaOf cX4_areaOf 4 (some .int) 1 := ⟨tb4 140 (by decide +kernel) rfl, sel_in (n := 12) 22 (by decide +kernel), tb1 5 (by decide +kernel) rfl, tb4 141 (by decide +kernel) rfl, by decide +kernel, by decide +kernel, by decide +kernel⟩
theorem mk_X4_begins : MkV yX4_begins cX4_begins 5 (some .int) 1 := ⟨tb4 144 (by decide +kernel) rfl, sel_in (n := 12) 23 (by decide +kernel), tb1 5 (by decide +kernel) rfl, tb4 145 (by decide +kernel) rfl, by decide +kernel, by decide +kernel, by decide +kernel⟩
theorem mk_X4_charge : MkV yX4_charge cX4_charge 4 (some .int) 1 := ⟨tb4 148 (by decide +kernel) rfl, sel_in (n := 12) 24 (by decide +kernel), tb1 5 (by decide +kernel) rfl, tb4 149 (by decide +kernel) rfl, by decide +kernel, by decide +kernel, by decide +kernel⟩
theorem mk_X4_chargeOf : MkV yX4_chargeOf cX4_chargeOf 3 (some .int) 2 := ⟨tb4 152 (by decide +kernel) rfl, sel_in (n := 12) 25 (by decide +kernel), tb1 5 (by decide +kernel) rfl, tb4 153 (by decide +kernel) rfl, by decide +kernel, by decide +kernel, by decide +kernel⟩
theorem mk_X4_rateOf : MkV yX4_rateOf cX4_rateOf 3 (some .int) 2 := ⟨tb4 156 (by decide +kernel) rfl, sel_in (n := 12) 26 (by decide +kernel), tb1 5 (by decide +kernel) rfl, tb4 157 (by decide +kernel) rfl, by decide +kernel, by decide +kernel, by decide +kernel⟩
theorem mk_X4_relief : MkV yX4_relief cX4_relief 4 (some .int) 1 := ⟨tb4 160 (by decide +kernel) rfl, sel_in (n := 12) 27 (by decide +kernel), tb1 5 (by decide +kernel) rfl, tb4 161 (by decide +kernel) rfl, by decide +kernel, by decide +kernel, by decide +kernel⟩
theorem mk_X4_reliefOf : MkV yX4_reliefOf cX4_reliefOf 3 (some .int) 2 := ⟨tb4 164 (by decide +kernel) rfl, sel_in (n := 12) 28 (by decide +kernel), tb1 5 (by decide +kernel) rfl, tb4 165 (by decide +kernel) rfl, by decide +kernel, by decide +kernel, by decide +kernel⟩
theorem mk_X4_partsFor : MkS yX4_partsFor cX4_partsFor 1 (some .int) 1 := ⟨tb4 167 (by decide +kernel) rfl, tb1 5 (by decide +kernel) rfl, tb4 168 (by decide +kernel) rfl, by decide +kernel, by decide +kernel, by decide +kernel⟩
theorem mk_X4_lastOf : MkS yX4_lastOf cX4_lastOf 1 (some .int) 1 := ⟨tb4 170 (by decide +kernel) rfl, tb1 5 (by decide +kernel) rfl, tb4 171 (by decide +kernel) rfl, by decide +kernel, by decide +kernel, by decide +kernel⟩
theorem mk_X4_pay : MkV yX4_pay cX4_pay 3 (some .int) 2 := ⟨tb4 173 (by decide +kernel) rfl, tb4 174 (by decide +kernel) rfl, tb1 5 (by decide +kernel) rfl, tb4 175 (by decide +kernel) rfl, by decide +kernel, by decide +kernel, by decide +kernel⟩
theorem mk_X4_isMoney : MkS yX4_isMoney cX4_isMoney 1 (some .boolean) 1 := ⟨tb4 177 (by decide +kernel) rfl, tb1 5 (by decide +kernel) rfl, tb4 178 (by decide +kernel) rfl, by decide +kernel, by decide +kernel, by decide +kernel⟩
theorem mk_X4_whyNoPayment : MkV yX4_whyNoPayment cX4_whyNoPayment 2 (some .int) 1 := ⟨tb4 182 (by decide +kernel) rfl, sel_in (n := 12) 29 (by decide +kernel), tb1 5 (by decide +kernel) rfl, tb4 183 (by decide +kernel) rfl, by decide +kernel, by decide +kernel, by decide +kernel⟩
theorem mk_X4_owed : MkV yX4_owed cX4_owed 4 (some .int) 1 := ⟨tb4 186 (by decide +kernel) rfl, sel_in (n := 12) 30 (by decide +kernel), tb1 5 (by decide +kernel) rfl, tb4 187 (by decide +kernel) rfl, by decide +kernel, by decide +kernel, by decide +kernel⟩
theorem mk_X4_takes : MkV yX4_takes cX4_takes 6 (some .int) 3 := ⟨tb4 190 (by decide +kernel) rfl, sel_in (n := 12) 31 (by decide +kernel), tb1 5 (by decide +kernel) rfl, tb4 191 (by decide +kernel) rfl, by decide +kernel, by decide +kernel, by decide +kernel⟩
theorem mk_X4_settle : MkV yX4_settle cX4_settle 5 (some .int) 3 := ⟨tb4 194 (by decide +kernel) rfl, sel_in (n := 12) 32 (by decide +kernel), tb1 5 (by decide +kernel) rfl, tb4 195 (by decide +kernel) rfl, by decide +kernel, by decide +kernel, by decide +kernel⟩
theorem mk_X4_add : MkV yX4_add cX4_add 4 none 3 := ⟨tb4 198 (by decide +kernel) rfl, sel_in (n := 12) 33 (by decide +kernel), tb1 5 (by decide +kernel) rfl, tb4 199 (by decide +kernel) rfl, by decide +kernel, by decide +kernel, by decide +kernel⟩
theorem mk_X4_land : MkV yX4_land cX4_land 4 (some .int) 2 := ⟨tb4 201 (by decide +kernel) rfl, tb4 202 (by decide +kernel) rfl, tb1 5 (by decide +kernel) rfl, tb4 203 (by decide +kernel) rfl, by decide +kernel, by decide +kernel, by decide +kernel⟩
theorem mk_X4_whyNoLand : MkV yX4_whyNoLand cX4_whyNoLand 3 (some .int) 1 := ⟨tb4 206 (by decide +kernel) rfl, sel_in (n := 12) 34 (by decide +kernel), tb1 5 (by decide +kernel) rfl, tb4 207 (by decide +kernel) rfl, by decide +kernel, by decide +kernel, by decide +kernel⟩
theorem mk_X4_roomForLand : MkV yX4_roomForLand cX4_roomForLand 3 (some .int) 1 := ⟨tb4 210 (by decide +kernel) rfl, sel_in (n := 12) 35 (by decide +kernel), tb1 5 (by decide +kernel) rfl, tb4 211 (by decide +kernel) rfl, by decide +kernel, by decide +kernel, by decide +kernel⟩
theorem mk_X4_lapse : MkV yX4_lapse cX4_lapse 4 (some .int) 2 := ⟨tb4 214 (by decide +kernel) rfl, tb4 215 (by decide +kernel) rfl, tb1 5 (by decide +kernel) rfl, tb4 216 (by decide +kernel) rfl, by decide +kernel, by decide +kernel, by decide +kernel⟩
theorem mk_X4_whyNoLapse : MkV yX4_whyNoLapse cX4_whyNoLapse 3 (some .int) 2 := ⟨tb4 219 (by decide +kernel) rfl, sel_in (n := 12) 36 (by decide +kernel), tb1 5 (by decide +kernel) rfl, tb4 220 (by decide +kernel) rfl, by decide +kernel, by decide +kernel, by decide +kernel⟩
theorem mk_X4_pass : MkV yX4_pass cX4_pass 2 (some .int) 1 := ⟨tb4 222 (by decide +kernel) rfl, tb4 223 (by decide +kernel) rfl, tb1 5 (by decide +kernel) rfl, tb4 224 (by decide +kernel) rfl, by decide +kernel, by decide +kernel, by decide +kernel⟩
theorem mk_X4_canPass : MkV yX4_canPass cX4_canPass 2 (some .boolean) 1 := ⟨tb4 227 (by decide +kernel) rfl, sel_in (n := 12) 37 (by decide +kernel), tb1 5 (by decide +kernel) rfl, tb4 228 (by decide +kernel) rfl, by decide +kernel, by decide +kernel, by decide +kernel⟩
theorem mk_X4_daysPass : MkV yX4_daysPass cX4_daysPass 5 (some .int) 1 := ⟨tb4 231 (by decide +kernel) rfl, sel_in (n := 12) 38 (by decide +kernel), tb1 5 (by decide +kernel) rfl, tb4 232 (by decide +kernel) rfl, by decide +kernel, by decide +kernel, by decide +kernel⟩
theorem mk_X4_dayPasses : MkV yX4_dayPasses cX4_dayPasses 4 (some .int) 0 := ⟨tb4 235 (by decide +kernel) rfl, sel_in (n := 12) 39 (by decide +kernel), tb1 5 (by decide +kernel) rfl, tb4 236 (by decide +kernel) rfl, by decide +kernel, by decide +kernel, by decide +kernel⟩
theorem mk_X4_canBreak : MkV yX4_canBreak cX4_canBreak 2 (some .boolean) 1 := ⟨tb4 239 (by decide +kernel) rfl, sel_in (n := 12) 40 (by decide +kernel), tb1 5 (by decide +kernel) rfl, tb5 0 (by decide +kernel) rfl, by decide +kernel, by decide +kernel, by decide +kernel⟩
theorem mk_X4_firstDue : MkV yX4_firstDue cX4_firstDue 3 (some .int) 1 := ⟨tb5 3 (by decide +kernel) rfl, sel_in (n := 12) 41 (by decide +kernel), tb1 5 (by decide +kernel) rfl, tb5 4 (by decide +kernel) rfl, by decide +kernel, by decide +kernel, by decide +kernel⟩
theorem mk_X4_append : MkV yX4_append cX4_append 2 (some .int) 1 := ⟨tb5 6 (by decide +kernel) rfl, tb5 7 (by decide +kernel) rfl, tb1 5 (by decide +kernel) rfl, tb5 8 (by decide +kernel) rfl, by decide +kernel, by decide +kernel, by decide +kernel⟩
theorem mk_X4_clearBuffer : MkV yX4_clearBuffer cX4_clearBuffer 2 (some .int) 0 := ⟨tb5 10 (by decide +kernel) rfl, tb5 11 (by decide +kernel) rfl, tb1 5 (by decide +kernel) rfl, tb5 12 (by decide +kernel) rfl, by decide +kernel, by decide +kernel, by decide +kernel⟩
theorem mk_X4_firstError : MkV yX4_firstError cX4_firstError 1 (some .int) 0 := ⟨tb5 14 (by decide +kernel) rfl, tb5 15 (by decide +kernel) rfl, tb1 5 (by decide +kernel) rfl, tb5 16 (by decide +kernel) rfl, by decide +kernel, by decide +kernel, by decide +kernel⟩
theorem mk_X4_rightUpTo : MkV yX4_rightUpTo cX4_rightUpTo 2 (some .int) 0 := ⟨tb5 19 (by decide +kernel) rfl, sel_in (n := 12) 42 (by decide +kernel), tb1 5 (by decide +kernel) rfl, tb5 20 (by decide +kernel) rfl, by decide +kernel, by decide +kernel, by decide +kernel⟩
theorem mk_X4_takesNext : MkV yX4_takesNext cX4_takesNext 2 (some .boolean) 1 := ⟨tb5 23 (by decide +kernel) rfl, sel_in (n := 12) 43 (by decide +kernel), tb1 5 (by decide +kernel) rfl, tb5 24 (by decide +kernel) rfl, by decide +kernel, by decide +kernel, by decide +kernel⟩
theorem mk_X4_isEnded : MkV yX4_isEnded cX4_isEnded 1 (some .boolean) 0 := ⟨tb5 27 (by decide +kernel) rfl, sel_in (n := 12) 44 (by decide +kernel), tb1 5 (by decide +kernel) rfl, tb5 28 (by decide +kernel) rfl, by decide +kernel, by decide +kernel, by decide +kernel⟩
theorem mk_X4_beginsOrder : MkV yX4_beginsOrder cX4_beginsOrder 2 (some .boolean) 1 := ⟨tb5 31 (by decide +kernel) rfl, sel_in (n := 12) 45 (by decide +kernel), tb1 5 (by decide +kernel) rfl, tb5 32 (by decide +kernel) rfl, by decide +kernel, by decide +kernel, by decide +kernel⟩
theorem mk_X4_takesPhase : MkV yX4_takesPhase cX4_takesPhase 3 (some .boolean) 1 := ⟨tb5 35 (by decide +kernel) rfl, sel_in (n := 12) 46 (by decide +kernel), tb1 5 (by decide +kernel) rfl, tb5 36 (by decide +kernel) rfl, by decide +kernel, by decide +kernel, by decide +kernel⟩
theorem mk_X4_takesUse : MkV yX4_takesUse cX4_takesUse 2 (some .boolean) 1 := ⟨tb5 39 (by decide +kernel) rfl, sel_in (n := 12) 47 (by decide +kernel), tb1 5 (by decide +kernel) rfl, tb5 40 (by decide +kernel) rfl, by decide +kernel, by decide +kernel, by decide +kernel⟩
theorem mk_X4_takesDigit : MkV yX4_takesDigit cX4_takesDigit 6 (some .boolean) 1 := ⟨tb5 43 (by decide +kernel) rfl, sel_in (n := 12) 48 (by decide +kernel), tb1 5 (by decide +kernel) rfl, tb5 44 (by decide +kernel) rfl, by decide +kernel, by decide +kernel, by decide +kernel⟩
theorem mk_X4_run : MkV yX4_run cX4_run 3 (some .int) 0 := ⟨tb5 46 (by decide +kernel) rfl, tb5 47 (by decide +kernel) rfl, tb1 5 (by decide +kernel) rfl, tb5 48 (by decide +kernel) rfl, by decide +kernel, by decide +kernel, by decide +kernel⟩
theorem mk_X4_carries : MkV yX4_carries cX4_carries 7 (some .boolean) 1 := ⟨tb5 51 (by decide +kernel) rfl, sel_in (n := 12) 49 (by decide +kernel), tb1 5 (by decide +kernel) rfl, tb5 52 (by decide +kernel) rfl, by decide +kernel, by decide +kernel, by decide +kernel⟩
theorem mk_X4_canCarry : MkV yX4_canCarry cX4_canCarry 3 (some .boolean) 2 := ⟨tb5 55 (by decide +kernel) rfl, sel_in (n := 12) 50 (by decide +kernel), tb1 5 (by decide +kernel) rfl, tb5 56 (by decide +kernel) rfl, by decide +kernel, by decide +kernel, by decide +kernel⟩
theorem mk_X4_undo : MkV yX4_undo cX4_undo 2 (some .int) 0 := ⟨tb5 58 (by decide +kernel) rfl, tb5 59 (by decide +kernel) rfl, tb1 5 (by decide +kernel) rfl, tb5 60 (by decide +kernel) rfl, by decide +kernel, by decide +kernel, by decide +kernel⟩
theorem mk_X4_phase : MkV yX4_phase cX4_phase 3 (some .int) 2 := ⟨tb5 62 (by decide +kernel) rfl, tb5 63 (by decide +kernel) rfl, tb1 5 (by decide +kernel) rfl, tb5 64 (by decide +kernel) rfl, by decide +kernel, by decide +kernel, by decide +kernel⟩
theorem mk_X4_phaseNow : MkV yX4_phaseNow cX4_phaseNow 3 (some .int) 2 := ⟨tb5 67 (by decide +kernel) rfl, sel_in (n := 12) 51 (by decide +kernel), tb1 5 (by decide +kernel) rfl, tb5 68 (by decide +kernel) rfl, by decide +kernel, by decide +kernel, by decide +kernel⟩
theorem mk_X4_dueNow : MkV yX4_dueNow cX4_dueNow 4 (some .int) 1 := ⟨tb5 71 (by decide +kernel) rfl, sel_in (n := 12) 52 (by decide +kernel), tb1 5 (by decide +kernel) rfl, tb5 72 (by decide +kernel) rfl, by decide +kernel, by decide +kernel, by decide +kernel⟩
theorem mk_X4_paidWhole : MkV yX4_paidWhole cX4_paidWhole 4 (some .int) 1 := ⟨tb5 75 (by decide +kernel) rfl, sel_in (n := 12) 53 (by decide +kernel), tb1 5 (by decide +kernel) rfl, tb5 76 (by decide +kernel) rfl, by decide +kernel, by decide +kernel, by decide +kernel⟩
theorem mk_X4_use : MkV yX4_use cX4_use 4 (some .int) 3 := ⟨tb5 78 (by decide +kernel) rfl, tb5 79 (by decide +kernel) rfl, tb1 5 (by decide +kernel) rfl, tb5 80 (by decide +kernel) rfl, by decide +kernel, by decide +kernel, by decide +kernel⟩
theorem mk_X4_useNow : MkV yX4_useNow cX4_useNow 4 (some .int) 3 := ⟨tb5 83 (by decide +kernel) rfl, sel_in (n := 12) 54 (by decide +kernel), tb1 5 (by decide +kernel) rfl, tb5 84 (by decide +kernel) rfl, by decide +kernel, by decide +kernel, by decide +kernel⟩
theorem mk_X4_instalment : MkV yX4_instalment cX4_instalment 4 (some .int) 3 := ⟨tb5 86 (by decide +kernel) rfl, tb5 87 (by decide +kernel) rfl, tb1 5 (by decide +kernel) rfl, tb5 88 (by decide +kernel) rfl, by decide +kernel, by decide +kernel, by decide +kernel⟩
theorem mk_X4_instalmentNow : MkV yX4_instalmentNow cX4_instalmentNow 4 (some .int) 3 := ⟨tb5 91 (by decide +kernel) rfl, sel_in (n := 12) 55 (by decide +kernel), tb1 5 (by decide +kernel) rfl, tb5 92 (by decide +kernel) rfl, by decide +kernel, by decide +kernel, by decide +kernel⟩
theorem mk_X4_count : MkV yX4_count cX4_count 2 (some .int) 1 := ⟨tb5 94 (by decide +kernel) rfl, tb5 95 (by decide +kernel) rfl, tb1 5 (by decide +kernel) rfl, tb5 96 (by decide +kernel) rfl, by decide +kernel, by decide +kernel, by decide +kernel⟩
theorem mk_X4_counted : MkV yX4_counted cX4_counted 2 (some .int) 1 := ⟨tb5 99 (by decide +kernel) rfl, sel_in (n := 12) 56 (by decide +kernel), tb1 5 (by decide +kernel) rfl, tb5 100 (by decide +kernel) rfl, by decide +kernel, by decide +kernel, by decide +kernel⟩
theorem mk_X4_begunOnes : MkV yX4_begunOnes cX4_begunOnes 3 (some .int) 0 := ⟨tb5 103 (by decide +kernel) rfl, sel_in (n := 12) 57 (by decide +kernel), tb1 5 (by decide +kernel) rfl, tb5 104 (by decide +kernel) rfl, by decide +kernel, by decide +kernel, by decide +kernel⟩
theorem mk_X4_sumOf : MkV yX4_sumOf cX4_sumOf 4 (some .int) 1 := ⟨tb5 107 (by decide +kernel) rfl, sel_in (n := 12) 58 (by decide +kernel), tb1 5 (by decide +kernel) rfl, tb5 108 (by decide +kernel) rfl, by decide +kernel, by decide +kernel, by decide +kernel⟩
theorem mk_X4_setting : MkV yX4_setting cX4_setting 2 (some .int) 1 := ⟨tb5 110 (by decide +kernel) rfl, tb5 111 (by decide +kernel) rfl, tb1 5 (by decide +kernel) rfl, tb5 112 (by decide +kernel) rfl, by decide +kernel, by decide +kernel, by decide +kernel⟩
theorem mk_X4_whyNot : MkV yX4_whyNot cX4_whyNot 4 (some .int) 3 := ⟨tb5 114 (by decide +kernel) rfl, tb5 115 (by decide +kernel) rfl, tb1 5 (by decide +kernel) rfl, tb5 116 (by decide +kernel) rfl, by decide +kernel, by decide +kernel, by decide +kernel⟩
theorem mk_X4_whyNotNow : MkV yX4_whyNotNow cX4_whyNotNow 4 (some .int) 3 := ⟨tb5 119 (by decide +kernel) rfl, sel_in (n := 12) 59 (by decide +kernel), tb1 5 (by decide +kernel) rfl, tb5 120 (by decide +kernel) rfl, by decide +kernel, by decide +kernel, by decide +kernel⟩
theorem mk_X4_ifBegun : MkV yX4_ifBegun cX4_ifBegun 3 (some .int) 2 := ⟨tb5 122 (by decide +kernel) rfl, tb5 123 (by decide +kernel) rfl, tb1 5 (by decide +kernel) rfl, tb5 124 (by decide +kernel) rfl, by decide +kernel, by decide +kernel, by decide +kernel⟩
theorem mk_X4_begunThen : MkV yX4_begunThen cX4_begunThen 4 (some .int) 2 := ⟨tb5 127 (by decide +kernel) rfl, sel_in (n := 12) 60 (by decide +kernel), tb1 5 (by decide +kernel) rfl, tb5 128 (by decide +kernel) rfl, by decide +kernel, by decide +kernel, by decide +kernel⟩
theorem mk_X4_breaksIn : MkV yX4_breaksIn cX4_breaksIn 2 (some .int) 1 := ⟨tb5 130 (by decide +kernel) rfl, tb5 131 (by decide +kernel) rfl, tb1 5 (by decide +kernel) rfl, tb5 132 (by decide +kernel) rfl, by decide +kernel, by decide +kernel, by decide +kernel⟩
theorem mk_X4_breaksNow : MkV yX4_breaksNow cX4_breaksNow 3 (some .int) 1 := ⟨tb5 135 (by decide +kernel) rfl, sel_in (n := 12) 61 (by decide +kernel), tb1 5 (by decide +kernel) rfl, tb5 136 (by decide +kernel) rfl, by decide +kernel, by decide +kernel, by decide +kernel⟩
theorem mk_X4_surchargesIn : MkV yX4_surchargesIn cX4_surchargesIn 2 (some .int) 1 := ⟨tb5 138 (by decide +kernel) rfl, tb5 139 (by decide +kernel) rfl, tb1 5 (by decide +kernel) rfl, tb5 140 (by decide +kernel) rfl, by decide +kernel, by decide +kernel, by decide +kernel⟩
theorem mk_X4_surchargesThen : MkV yX4_surchargesThen cX4_surchargesThen 3 (some .int) 1 := ⟨tb5 143 (by decide +kernel) rfl, sel_in (n := 12) 62 (by decide +kernel), tb1 5 (by decide +kernel) rfl, tb5 144 (by decide +kernel) rfl, by decide +kernel, by decide +kernel, by decide +kernel⟩
theorem mk_X4_keep : MkV yX4_keep cX4_keep 2 none 0 := ⟨tb5 147 (by decide +kernel) rfl, sel_in (n := 12) 63 (by decide +kernel), tb1 5 (by decide +kernel) rfl, tb5 148 (by decide +kernel) rfl, by decide +kernel, by decide +kernel, by decide +kernel⟩
theorem mk_X4_layBack : MkV yX4_layBack cX4_layBack 2 none 0 := ⟨tb5 151 (by decide +kernel) rfl, sel_in (n := 12) 64 (by decide +kernel), tb1 5 (by decide +kernel) rfl, tb5 152 (by decide +kernel) rfl, by decide +kernel, by decide +kernel, by decide +kernel⟩
theorem mk_X4_mostUrgent : MkV yX4_mostUrgent cX4_mostUrgent 1 (some .int) 0 := ⟨tb5 154 (by decide +kernel) rfl, tb5 155 (by decide +kernel) rfl, tb1 5 (by decide +kernel) rfl, tb5 156 (by decide +kernel) rfl, by decide +kernel, by decide +kernel, by decide +kernel⟩
theorem mk_X4_urgentNow : MkV yX4_urgentNow cX4_urgentNow 4 (some .int) 0 := ⟨tb5 159 (by decide +kernel) rfl, sel_in (n := 12) 65 (by decide +kernel), tb1 5 (by decide +kernel) rfl, tb5 160 (by decide +kernel) rfl, by decide +kernel, by decide +kernel, by decide +kernel⟩
theorem mk_X4_dueIn : MkV yX4_dueIn cX4_dueIn 3 (some .int) 2 := ⟨tb5 162 (by decide +kernel) rfl, tb5 163 (by decide +kernel) rfl, tb1 5 (by decide +kernel) rfl, tb5 164 (by decide +kernel) rfl, by decide +kernel, by decide +kernel, by decide +kernel⟩
theorem mk_X4_dueThen : MkV yX4_dueThen cX4_dueThen 5 (some .int) 2 := ⟨tb5 167 (by decide +kernel) rfl, sel_in (n := 12) 66 (by decide +kernel), tb1 5 (by decide +kernel) rfl, tb5 168 (by decide +kernel) rfl, by decide +kernel, by decide +kernel, by decide +kernel⟩
theorem mk_X4_settledShare : MkV yX4_settledShare cX4_settledShare 1 (some .double) 0 := ⟨tb5 170 (by decide +kernel) rfl, tb5 171 (by decide +kernel) rfl, tb1 5 (by decide +kernel) rfl, tb5 172 (by decide +kernel) rfl, by decide +kernel, by decide +kernel, by decide +kernel⟩
theorem mk_X4_share : MkV yX4_share cX4_share 3 (some .double) 0 := ⟨tb5 175 (by decide +kernel) rfl, sel_in (n := 12) 67 (by decide +kernel), tb1 5 (by decide +kernel) rfl, tb5 176 (by decide +kernel) rfl, by decide +kernel, by decide +kernel, by decide +kernel⟩
theorem mk_X4_digest : MkV yX4_digest cX4_digest 2 (some .long) 0 := ⟨tb5 178 (by decide +kernel) rfl, tb5 179 (by decide +kernel) rfl, tb1 5 (by decide +kernel) rfl, tb5 180 (by decide +kernel) rfl, by decide +kernel, by decide +kernel, by decide +kernel⟩
theorem mk_X4_mix : MkV yX4_mix cX4_mix 3 none 1 := ⟨tb5 184 (by decide +kernel) rfl, sel_in (n := 12) 68 (by decide +kernel), tb1 5 (by decide +kernel) rfl, tb5 185 (by decide +kernel) rfl, by decide +kernel, by decide +kernel, by decide +kernel⟩
theorem mk_X4_mixPhase : MkV yX4_mixPhase cX4_mixPhase 4 none 1 := ⟨tb5 189 (by decide +kernel) rfl, sel_in (n := 12) 69 (by decide +kernel), tb1 5 (by decide +kernel) rfl, tb5 190 (by decide +kernel) rfl, by decide +kernel, by decide +kernel, by decide +kernel⟩
theorem ml_L_88 : Cond.methodLink RL 88 yX3_init ∈ UW := tb1 16 (by decide +kernel) rfl
theorem ml_X3_9 : Cond.methodLink RX3 9 yX0_init ∈ UW := tb1 24 (by decide +kernel) rfl
theorem ml_X0_42 : Cond.methodLink RX0 42 yX2_init ∈ UW := tb1 42 (by decide +kernel) rfl
theorem ml_X3_29 : Cond.methodLink RX3 29 yX1_init ∈ UW := tb1 128 (by decide +kernel) rfl
theorem ml_L_134 : Cond.methodLink RL 134 yX3_clearBuffer ∈ UW := tb1 177 (by decide +kernel) rfl
theorem ml_L_138 : Cond.methodLink RL 138 yX3_firstError ∈ UW := tb1 181 (by decide +kernel) rfl
theorem ml_X3_128 : Cond.methodLink RX3 128 yX1_readRow ∈ UW := tb1 185 (by decide +kernel) rfl
theorem ml_X1_22 : Cond.methodLink RX1 22 yX1_rewind ∈ UW := tb1 189 (by decide +kernel) rfl
theorem ml_X1_25 : Cond.methodLink RX1 25 yX1_readNextOrder ∈ UW := tb1 193 (by decide +kernel) rfl
theorem ml_X1_29 : Cond.methodLink RX1 29 yX1_readSign ∈ UW := tb1 197 (by decide +kernel) rfl
theorem ml_X1_33 : Cond.methodLink RX1 33 yX1_readOrder ∈ UW := tb1 201 (by decide +kernel) rfl
theorem ml_X1_39 : Cond.methodLink RX1 39 yX1_readPhase ∈ UW := tb1 205 (by decide +kernel) rfl
theorem ml_X1_49 : Cond.methodLink RX1 49 yX1_readDigit ∈ UW := tb1 209 (by decide +kernel) rfl
theorem ml_X1_62 : Cond.methodLink RX1 62 yX1_isDigit ∈ UW := tb1 213 (by decide +kernel) rfl
theorem ml_X1_42 : Cond.methodLink RX1 42 yX1_readUse ∈ UW := tb1 217 (by decide +kernel) rfl
theorem ml_X1_45 : Cond.methodLink RX1 45 yX1_readNumber ∈ UW := tb1 221 (by decide +kernel) rfl
theorem ml_L_175 : Cond.methodLink RL 175 yX3_mostUrgent ∈ UW := tb1 225 (by decide +kernel) rfl
theorem ml_X3_236 : Cond.methodLink RX3 236 yX0_daysToBreak ∈ UW := tb1 229 (by decide +kernel) rfl
theorem ml_X0_70 : Cond.methodLink RX0 70 yX2_dayOfBreak ∈ UW := tb1 233 (by decide +kernel) rfl
theorem ml_X2_100 : Cond.methodLink RX2 100 yX2_instalmentsPaidWhole ∈ UW := tb1 237 (by decide +kernel) rfl
theorem ml_X2_97 : Cond.methodLink RX2 97 yX2_lastDayOfInstalment ∈ UW := tb2 1 (by decide +kernel) rfl
theorem ml_X3_164 : Cond.methodLink RX3 164 yX2_owed ∈ UW := tb2 5 (by decide +kernel) rfl
theorem ml_X2_87 : Cond.methodLink RX2 87 yX2_hasBegun ∈ UW := tb2 9 (by decide +kernel) rfl
theorem ml_X2_59 : Cond.methodLink RX2 59 yX2_charge ∈ UW := tb2 13 (by decide +kernel) rfl
theorem ml_X2_63 : Cond.methodLink RX2 63 yX2_relief ∈ UW := tb2 17 (by decide +kernel) rfl
theorem ml_L_182 : Cond.methodLink RL 182 yX3_settledShare ∈ UW := tb2 21 (by decide +kernel) rfl
theorem ml_X3_223 : Cond.methodLink RX3 223 yX0_sumOverBegunPhases ∈ UW := tb2 25 (by decide +kernel) rfl
theorem ml_X0_48 : Cond.methodLink RX0 48 yX2_hasBegun ∈ UW := tb2 29 (by decide +kernel) rfl
theorem ml_X0_101 : Cond.methodLink RX0 101 yX0_numberOf ∈ UW := tb2 30 (by decide +kernel) rfl
theorem ml_X0_105 : Cond.methodLink RX0 105 yX2_charge ∈ UW := tb2 34 (by decide +kernel) rfl
theorem ml_X0_108 : Cond.methodLink RX0 108 yX2_relief ∈ UW := tb2 35 (by decide +kernel) rfl
theorem ml_X0_74 : Cond.methodLink RX0 74 yX2_owed ∈ UW := tb2 36 (by decide +kernel) rfl
theorem ml_X0_117 : Cond.methodLink RX0 117 yX2_dueOn ∈ UW := tb2 37 (by decide +kernel) rfl
theorem ml_X2_74 : Cond.methodLink RX2 74 yX2_owed ∈ UW := tb2 41 (by decide +kernel) rfl
theorem ml_L_187 : Cond.methodLink RL 187 yX3_digest ∈ UW := tb2 42 (by decide +kernel) rfl
theorem ml_X3_250 : Cond.methodLink RX3 250 yX3_count ∈ UW := tb2 48 (by decide +kernel) rfl
theorem ml_X3_58 : Cond.methodLink RX3 58 yX3_demandRange ∈ UW := tb2 52 (by decide +kernel) rfl
theorem ml_X3_253 : Cond.methodLink RX3 253 yX3_hashOfPhase ∈ UW := tb2 123 (by decide +kernel) rfl
theorem ml_X3_274 : Cond.methodLink RX3 274 yX3_phase ∈ UW := tb2 127 (by decide +kernel) rfl
theorem ml_X3_51 : Cond.methodLink RX3 51 yX3_demandPhase ∈ UW := tb2 131 (by decide +kernel) rfl
theorem ml_X3_314 : Cond.methodLink RX3 314 yX0_hasPhase ∈ UW := tb2 135 (by decide +kernel) rfl
theorem ml_X3_158 : Cond.methodLink RX3 158 yX2_charge ∈ UW := tb2 155 (by decide +kernel) rfl
theorem ml_X3_161 : Cond.methodLink RX3 161 yX2_relief ∈ UW := tb2 156 (by decide +kernel) rfl
theorem ml_X3_170 : Cond.methodLink RX3 170 yX2_dueOn ∈ UW := tb2 157 (by decide +kernel) rfl
theorem ml_X3_182 : Cond.methodLink RX3 182 yX2_lapsedSoFar ∈ UW := tb2 158 (by decide +kernel) rfl
theorem ml_X3_192 : Cond.methodLink RX3 192 yX2_instalmentsPaidWhole ∈ UW := tb2 162 (by decide +kernel) rfl
theorem ml_X3_195 : Cond.methodLink RX3 195 yX2_areaOfAllUses ∈ UW := tb2 163 (by decide +kernel) rfl
theorem ml_X3_198 : Cond.methodLink RX3 198 yX2_roomForLand ∈ UW := tb2 167 (by decide +kernel) rfl
theorem ml_X2_94 : Cond.methodLink RX2 94 Lib.Math.max.name ∈ UW := tb2 174 (by decide +kernel) rfl
theorem ml_X3_277 : Cond.methodLink RX3 277 yX3_use ∈ UW := tb2 177 (by decide +kernel) rfl
theorem ml_X3_55 : Cond.methodLink RX3 55 yX3_demandUse ∈ UW := tb2 181 (by decide +kernel) rfl
theorem ml_X3_207 : Cond.methodLink RX3 207 yX2_chargeOfUse ∈ UW := tb2 185 (by decide +kernel) rfl
theorem ml_X3_210 : Cond.methodLink RX3 210 yX2_reliefOfUse ∈ UW := tb2 189 (by decide +kernel) rfl
theorem ml_X3_280 : Cond.methodLink RX3 280 yX3_whyNot ∈ UW := tb2 193 (by decide +kernel) rfl
theorem ml_X3_226 : Cond.methodLink RX3 226 yX0_reasonAgainst ∈ UW := tb2 197 (by decide +kernel) rfl
theorem ml_X0_88 : Cond.methodLink RX0 88 yX2_areaOfAllUses ∈ UW := tb2 201 (by decide +kernel) rfl
theorem ml_X0_91 : Cond.methodLink RX0 91 yX2_roomForLand ∈ UW := tb2 202 (by decide +kernel) rfl
theorem ml_X0_98 : Cond.methodLink RX0 98 yX2_reliefOfUse ∈ UW := tb2 203 (by decide +kernel) rfl
theorem ml_X3_283 : Cond.methodLink RX3 283 yX3_instalment ∈ UW := tb2 204 (by decide +kernel) rfl
theorem ml_X3_219 : Cond.methodLink RX3 219 yX2_lastDayOfInstalment ∈ UW := tb2 208 (by decide +kernel) rfl
theorem ml_X3_286 : Cond.methodLink RX3 286 yX3_ifBegun ∈ UW := tb2 209 (by decide +kernel) rfl
theorem ml_X3_230 : Cond.methodLink RX3 230 yX3_instalmentsFor ∈ UW := tb2 213 (by decide +kernel) rfl
theorem ml_X3_233 : Cond.methodLink RX3 233 yX3_partOf ∈ UW := tb2 216 (by decide +kernel) rfl
theorem ml_X3_289 : Cond.methodLink RX3 289 yX3_breaksIn ∈ UW := tb2 219 (by decide +kernel) rfl
theorem ml_X3_292 : Cond.methodLink RX3 292 yX3_dueIn ∈ UW := tb2 223 (by decide +kernel) rfl
theorem ml_X3_242 : Cond.methodLink RX3 242 yX0_breaksWithin ∈ UW := tb2 227 (by decide +kernel) rfl
theorem ml_X3_239 : Cond.methodLink RX3 239 yX0_surchargeWithin ∈ UW := tb2 231 (by decide +kernel) rfl
theorem ml_X0_56 : Cond.methodLink RX0 56 yX0_breaksWithin ∈ UW := tb2 235 (by decide +kernel) rfl
theorem ml_X3_257 : Cond.methodLink RX3 257 yX3_surchargesIn ∈ UW := tb2 237 (by decide +kernel) rfl
theorem ml_X3_260 : Cond.methodLink RX3 260 yX3_mostUrgent ∈ UW := tb3 1 (by decide +kernel) rfl
theorem ml_X3_263 : Cond.methodLink RX3 263 yX3_settledShare ∈ UW := tb3 2 (by decide +kernel) rfl
theorem ml_X3_267 : Cond.methodLink RX3 267 yX3_bitsOfShare ∈ UW := tb3 3 (by decide +kernel) rfl
theorem ml_L_92 : Cond.methodLink RL 92 yL_addPhase ∈ UW := tb3 9 (by decide +kernel) rfl
theorem ml_L_7 : Cond.methodLink RL 7 yX3_addPhase ∈ UW := tb3 13 (by decide +kernel) rfl
theorem ml_X3_44 : Cond.methodLink RX3 44 yX3_saveState ∈ UW := tb3 33 (by decide +kernel) rfl
theorem ml_X3_151 : Cond.methodLink RX3 151 yX0_copyFrom ∈ UW := tb3 37 (by decide +kernel) rfl
theorem ml_X0_43 : Cond.methodLink RX0 43 yX2_copyFrom ∈ UW := tb3 41 (by decide +kernel) rfl
theorem ml_X3_47 : Cond.methodLink RX3 47 yX0_appendPhase ∈ UW := tb3 45 (by decide +kernel) rfl
theorem ml_L_101 : Cond.methodLink RL 101 yL_area ∈ UW := tb3 49 (by decide +kernel) rfl
theorem ml_L_15 : Cond.methodLink RL 15 yX3_area ∈ UW := tb3 54 (by decide +kernel) rfl
theorem ml_X3_62 : Cond.methodLink RX3 62 yX3_demandNoReason ∈ UW := tb3 58 (by decide +kernel) rfl
theorem ml_X3_69 : Cond.methodLink RX3 69 yX2_changeArea ∈ UW := tb3 63 (by decide +kernel) rfl
theorem ml_X2_53 : Cond.methodLink RX2 53 Lib.Math.min.name ∈ UW := tb3 67 (by decide +kernel) rfl
theorem ml_L_105 : Cond.methodLink RL 105 yL_exempt ∈ UW := tb3 70 (by decide +kernel) rfl
theorem ml_L_23 : Cond.methodLink RL 23 yX3_exempt ∈ UW := tb3 73 (by decide +kernel) rfl
theorem ml_X3_79 : Cond.methodLink RX3 79 yX2_changeExemptArea ∈ UW := tb3 77 (by decide +kernel) rfl
theorem ml_L_108 : Cond.methodLink RL 108 yL_rate ∈ UW := tb3 81 (by decide +kernel) rfl
theorem ml_L_26 : Cond.methodLink RL 26 yX3_rate ∈ UW := tb3 84 (by decide +kernel) rfl
theorem ml_X3_82 : Cond.methodLink RX3 82 yX0_changeRate ∈ UW := tb3 88 (by decide +kernel) rfl
theorem ml_L_112 : Cond.methodLink RL 112 yL_set ∈ UW := tb3 92 (by decide +kernel) rfl
theorem ml_L_30 : Cond.methodLink RL 30 yX3_set ∈ UW := tb3 95 (by decide +kernel) rfl
theorem ml_X3_85 : Cond.methodLink RX3 85 yX3_demandSetting ∈ UW := tb3 99 (by decide +kernel) rfl
theorem ml_L_115 : Cond.methodLink RL 115 yL_begin ∈ UW := tb3 107 (by decide +kernel) rfl
theorem ml_L_33 : Cond.methodLink RL 33 yX3_begin ∈ UW := tb3 110 (by decide +kernel) rfl
theorem ml_X3_97 : Cond.methodLink RX3 97 yX0_beginPhase ∈ UW := tb3 114 (by decide +kernel) rfl
theorem ml_X0_52 : Cond.methodLink RX0 52 yX2_startOn ∈ UW := tb3 118 (by decide +kernel) rfl
theorem ml_L_119 : Cond.methodLink RL 119 yL_pay ∈ UW := tb3 124 (by decide +kernel) rfl
theorem ml_L_37 : Cond.methodLink RL 37 yX3_pay ∈ UW := tb3 127 (by decide +kernel) rfl
theorem ml_X3_102 : Cond.methodLink RX3 102 yX2_takeMoney ∈ UW := tb3 132 (by decide +kernel) rfl
theorem ml_X2_77 : Cond.methodLink RX2 77 yX2_settle ∈ UW := tb3 136 (by decide +kernel) rfl
theorem ml_L_122 : Cond.methodLink RL 122 yL_land ∈ UW := tb3 140 (by decide +kernel) rfl
theorem ml_L_40 : Cond.methodLink RL 40 yX3_land ∈ UW := tb3 143 (by decide +kernel) rfl
theorem ml_X3_105 : Cond.methodLink RX3 105 yX2_takeLand ∈ UW := tb3 147 (by decide +kernel) rfl
theorem ml_X2_81 : Cond.methodLink RX2 81 yX2_roomForLand ∈ UW := tb3 151 (by decide +kernel) rfl
theorem ml_L_125 : Cond.methodLink RL 125 yL_lapse ∈ UW := tb3 152 (by decide +kernel) rfl
theorem ml_L_43 : Cond.methodLink RL 43 yX3_lapse ∈ UW := tb3 155 (by decide +kernel) rfl
theorem ml_X3_108 : Cond.methodLink RX3 108 yX2_endRelief ∈ UW := tb3 159 (by decide +kernel) rfl
theorem ml_X2_84 : Cond.methodLink RX2 84 yX2_reliefOfUse ∈ UW := tb3 163 (by decide +kernel) rfl
theorem ml_L_128 : Cond.methodLink RL 128 yL_pass ∈ UW := tb3 164 (by decide +kernel) rfl
theorem ml_L_46 : Cond.methodLink RL 46 yX3_pass ∈ UW := tb3 167 (by decide +kernel) rfl
theorem ml_X3_111 : Cond.methodLink RX3 111 yX0_hasDaysLeft ∈ UW := tb3 171 (by decide +kernel) rfl
theorem ml_X3_117 : Cond.methodLink RX3 117 yX0_letDaysPass ∈ UW := tb3 176 (by decide +kernel) rfl
theorem ml_X0_60 : Cond.methodLink RX0 60 yX0_surchargeWithin ∈ UW := tb3 180 (by decide +kernel) rfl
theorem ml_L_131 : Cond.methodLink RL 131 yL_append ∈ UW := tb3 181 (by decide +kernel) rfl
theorem ml_L_49 : Cond.methodLink RL 49 yX3_append ∈ UW := tb3 184 (by decide +kernel) rfl
theorem ml_X3_125 : Cond.methodLink RX3 125 yX1_appendCode ∈ UW := tb3 189 (by decide +kernel) rfl
theorem ml_L_142 : Cond.methodLink RL 142 yL_run ∈ UW := tb3 193 (by decide +kernel) rfl
theorem ml_L_52 : Cond.methodLink RL 52 yX3_run ∈ UW := tb3 196 (by decide +kernel) rfl
theorem ml_X3_140 : Cond.methodLink RX3 140 yX1_rewind ∈ UW := tb3 201 (by decide +kernel) rfl
theorem ml_X3_143 : Cond.methodLink RX3 143 yX1_readNextOrder ∈ UW := tb3 202 (by decide +kernel) rfl
theorem ml_X3_146 : Cond.methodLink RX3 146 yX3_carryOutOrder ∈ UW := tb3 203 (by decide +kernel) rfl
theorem ml_X3_306 : Cond.methodLink RX3 306 yX0_allows ∈ UW := tb3 207 (by decide +kernel) rfl
theorem ml_X0_80 : Cond.methodLink RX0 80 yX0_hasPhase ∈ UW := tb3 211 (by decide +kernel) rfl
theorem ml_X0_84 : Cond.methodLink RX0 84 yX0_reasonAgainst ∈ UW := tb3 212 (by decide +kernel) rfl
theorem ml_L_145 : Cond.methodLink RL 145 yL_undo ∈ UW := tb3 213 (by decide +kernel) rfl
theorem ml_L_55 : Cond.methodLink RL 55 yX3_undo ∈ UW := tb3 216 (by decide +kernel) rfl
theorem ml_L_148 : Cond.methodLink RL 148 yL_phase ∈ UW := tb3 221 (by decide +kernel) rfl
theorem ml_L_58 : Cond.methodLink RL 58 yX3_phase ∈ UW := tb3 224 (by decide +kernel) rfl
theorem ml_L_151 : Cond.methodLink RL 151 yL_use ∈ UW := tb3 225 (by decide +kernel) rfl
theorem ml_L_61 : Cond.methodLink RL 61 yX3_use ∈ UW := tb3 228 (by decide +kernel) rfl
theorem ml_L_154 : Cond.methodLink RL 154 yL_instalment ∈ UW := tb3 229 (by decide +kernel) rfl
theorem ml_L_64 : Cond.methodLink RL 64 yX3_instalment ∈ UW := tb3 232 (by decide +kernel) rfl
theorem ml_L_157 : Cond.methodLink RL 157 yL_count ∈ UW := tb3 233 (by decide +kernel) rfl
theorem ml_L_67 : Cond.methodLink RL 67 yX3_count ∈ UW := tb3 236 (by decide +kernel) rfl
theorem ml_L_160 : Cond.methodLink RL 160 yL_setting ∈ UW := tb3 237 (by decide +kernel) rfl
theorem ml_L_70 : Cond.methodLink RL 70 yX3_setting ∈ UW := tb4 0 (by decide +kernel) rfl
theorem ml_L_163 : Cond.methodLink RL 163 yL_whyNot ∈ UW := tb4 4 (by decide +kernel) rfl
theorem ml_L_73 : Cond.methodLink RL 73 yX3_whyNot ∈ UW := tb4 7 (by decide +kernel) rfl
theorem ml_L_166 : Cond.methodLink RL 166 yL_ifBegun ∈ UW := tb4 8 (by decide +kernel) rfl
theorem ml_L_76 : Cond.methodLink RL 76 yX3_ifBegun ∈ UW := tb4 11 (by decide +kernel) rfl
theorem ml_L_169 : Cond.methodLink RL 169 yL_breaksIn ∈ UW := tb4 12 (by decide +kernel) rfl
theorem ml_L_79 : Cond.methodLink RL 79 yX3_breaksIn ∈ UW := tb4 15 (by decide +kernel) rfl
theorem ml_L_172 : Cond.methodLink RL 172 yL_surchargesIn ∈ UW := tb4 16 (by decide +kernel) rfl
theorem ml_L_82 : Cond.methodLink RL 82 yX3_surchargesIn ∈ UW := tb4 19 (by decide +kernel) rfl
theorem ml_L_179 : Cond.methodLink RL 179 yL_dueIn ∈ UW := tb4 20 (by decide +kernel) rfl
theorem ml_L_85 : Cond.methodLink RL 85 yX3_dueIn ∈ UW := tb4 23 (by decide +kernel) rfl
theorem ml_L_91 : Cond.methodLink RL 91 yX4_init ∈ UW := tb4 26 (by decide +kernel) rfl
theorem ml_L_98 : Cond.methodLink RL 98 yX4_thrown ∈ UW := tb4 67 (by decide +kernel) rfl
theorem ml_L_97 : Cond.methodLink RL 97 yX4_addPhase ∈ UW := tb4 71 (by decide +kernel) rfl
theorem ml_X4_77 : Cond.methodLink RX4 77 yX4_save ∈ UW := tb4 75 (by decide +kernel) rfl
theorem ml_X4_80 : Cond.methodLink RX4 80 yX4_put ∈ UW := tb4 79 (by decide +kernel) rfl
theorem ml_L_104 : Cond.methodLink RL 104 yX4_area ∈ UW := tb4 83 (by decide +kernel) rfl
theorem ml_X4_84 : Cond.methodLink RX4 84 yX4_isPhase ∈ UW := tb4 87 (by decide +kernel) rfl
theorem ml_X4_32 : Cond.methodLink RX4 32 yX4_within ∈ UW := tb4 91 (by decide +kernel) rfl
theorem ml_X4_87 : Cond.methodLink RX4 87 yX4_isUse ∈ UW := tb4 94 (by decide +kernel) rfl
theorem ml_X4_90 : Cond.methodLink RX4 90 yX4_isArea ∈ UW := tb4 97 (by decide +kernel) rfl
theorem ml_X4_40 : Cond.methodLink RX4 40 yX4_hasBegun ∈ UW := tb4 100 (by decide +kernel) rfl
theorem ml_X4_36 : Cond.methodLink RX4 36 yX4_of ∈ UW := tb4 104 (by decide +kernel) rfl
theorem ml_X4_93 : Cond.methodLink RX4 93 yX4_changeArea ∈ UW := tb4 108 (by decide +kernel) rfl
theorem ml_L_107 : Cond.methodLink RL 107 yX4_exempt ∈ UW := tb4 112 (by decide +kernel) rfl
theorem ml_L_111 : Cond.methodLink RL 111 yX4_rate ∈ UW := tb4 116 (by decide +kernel) rfl
theorem ml_L_114 : Cond.methodLink RL 114 yX4_set ∈ UW := tb4 120 (by decide +kernel) rfl
theorem ml_X4_96 : Cond.methodLink RX4 96 yX4_isSetting ∈ UW := tb4 124 (by decide +kernel) rfl
theorem ml_X4_99 : Cond.methodLink RX4 99 yX4_isValue ∈ UW := tb4 127 (by decide +kernel) rfl
theorem ml_L_118 : Cond.methodLink RL 118 yX4_begin ∈ UW := tb4 130 (by decide +kernel) rfl
theorem ml_X4_106 : Cond.methodLink RX4 106 yX4_whyNoBeginning ∈ UW := tb4 134 (by decide +kernel) rfl
theorem ml_X4_68 : Cond.methodLink RX4 68 yX4_areaOf ∈ UW := tb4 138 (by decide +kernel) rfl
theorem ml_X4_109 : Cond.methodLink RX4 109 yX4_begins ∈ UW := tb4 142 (by decide +kernel) rfl
theorem ml_X4_57 : Cond.methodLink RX4 57 yX4_charge ∈ UW := tb4 146 (by decide +kernel) rfl
theorem ml_X4_47 : Cond.methodLink RX4 47 yX4_chargeOf ∈ UW := tb4 150 (by decide +kernel) rfl
theorem ml_X4_44 : Cond.methodLink RX4 44 yX4_rateOf ∈ UW := tb4 154 (by decide +kernel) rfl
theorem ml_X4_60 : Cond.methodLink RX4 60 yX4_relief ∈ UW := tb4 158 (by decide +kernel) rfl
theorem ml_X4_50 : Cond.methodLink RX4 50 yX4_reliefOf ∈ UW := tb4 162 (by decide +kernel) rfl
theorem ml_X4_65 : Cond.methodLink RX4 65 yX4_partsFor ∈ UW := tb4 166 (by decide +kernel) rfl
theorem ml_X4_103 : Cond.methodLink RX4 103 yX4_lastOf ∈ UW := tb4 169 (by decide +kernel) rfl
theorem ml_L_121 : Cond.methodLink RL 121 yX4_pay ∈ UW := tb4 172 (by decide +kernel) rfl
theorem ml_X4_120 : Cond.methodLink RX4 120 yX4_isMoney ∈ UW := tb4 176 (by decide +kernel) rfl
theorem ml_X4_71 : Cond.methodLink RX4 71 yX4_whyNoPayment ∈ UW := tb4 180 (by decide +kernel) rfl
theorem ml_X4_53 : Cond.methodLink RX4 53 yX4_owed ∈ UW := tb4 184 (by decide +kernel) rfl
theorem ml_X4_123 : Cond.methodLink RX4 123 yX4_takes ∈ UW := tb4 188 (by decide +kernel) rfl
theorem ml_X4_115 : Cond.methodLink RX4 115 yX4_settle ∈ UW := tb4 192 (by decide +kernel) rfl
theorem ml_X4_112 : Cond.methodLink RX4 112 yX4_add ∈ UW := tb4 196 (by decide +kernel) rfl
theorem ml_L_124 : Cond.methodLink RL 124 yX4_land ∈ UW := tb4 200 (by decide +kernel) rfl
theorem ml_X4_126 : Cond.methodLink RX4 126 yX4_whyNoLand ∈ UW := tb4 204 (by decide +kernel) rfl
theorem ml_X4_74 : Cond.methodLink RX4 74 yX4_roomForLand ∈ UW := tb4 208 (by decide +kernel) rfl
theorem ml_L_127 : Cond.methodLink RL 127 yX4_lapse ∈ UW := tb4 213 (by decide +kernel) rfl
theorem ml_X4_129 : Cond.methodLink RX4 129 yX4_whyNoLapse ∈ UW := tb4 217 (by decide +kernel) rfl
theorem ml_L_130 : Cond.methodLink RL 130 yX4_pass ∈ UW := tb4 221 (by decide +kernel) rfl
theorem ml_X4_142 : Cond.methodLink RX4 142 yX4_canPass ∈ UW := tb4 225 (by decide +kernel) rfl
theorem ml_X4_145 : Cond.methodLink RX4 145 yX4_daysPass ∈ UW := tb4 229 (by decide +kernel) rfl
theorem ml_X4_138 : Cond.methodLink RX4 138 yX4_dayPasses ∈ UW := tb4 233 (by decide +kernel) rfl
theorem ml_X4_135 : Cond.methodLink RX4 135 yX4_canBreak ∈ UW := tb4 237 (by decide +kernel) rfl
theorem ml_X4_132 : Cond.methodLink RX4 132 yX4_firstDue ∈ UW := tb5 1 (by decide +kernel) rfl
theorem ml_L_133 : Cond.methodLink RL 133 yX4_append ∈ UW := tb5 5 (by decide +kernel) rfl
theorem ml_L_137 : Cond.methodLink RL 137 yX4_clearBuffer ∈ UW := tb5 9 (by decide +kernel) rfl
theorem ml_L_141 : Cond.methodLink RL 141 yX4_firstError ∈ UW := tb5 13 (by decide +kernel) rfl
theorem ml_X4_179 : Cond.methodLink RX4 179 yX4_rightUpTo ∈ UW := tb5 17 (by decide +kernel) rfl
theorem ml_X4_176 : Cond.methodLink RX4 176 yX4_takesNext ∈ UW := tb5 21 (by decide +kernel) rfl
theorem ml_X4_160 : Cond.methodLink RX4 160 yX4_isEnded ∈ UW := tb5 25 (by decide +kernel) rfl
theorem ml_X4_164 : Cond.methodLink RX4 164 yX4_beginsOrder ∈ UW := tb5 29 (by decide +kernel) rfl
theorem ml_X4_167 : Cond.methodLink RX4 167 yX4_takesPhase ∈ UW := tb5 33 (by decide +kernel) rfl
theorem ml_X4_170 : Cond.methodLink RX4 170 yX4_takesUse ∈ UW := tb5 37 (by decide +kernel) rfl
theorem ml_X4_173 : Cond.methodLink RX4 173 yX4_takesDigit ∈ UW := tb5 41 (by decide +kernel) rfl
theorem ml_L_144 : Cond.methodLink RL 144 yX4_run ∈ UW := tb5 45 (by decide +kernel) rfl
theorem ml_X4_185 : Cond.methodLink RX4 185 yX4_carries ∈ UW := tb5 49 (by decide +kernel) rfl
theorem ml_X4_182 : Cond.methodLink RX4 182 yX4_canCarry ∈ UW := tb5 53 (by decide +kernel) rfl
theorem ml_L_147 : Cond.methodLink RL 147 yX4_undo ∈ UW := tb5 57 (by decide +kernel) rfl
theorem ml_L_150 : Cond.methodLink RL 150 yX4_phase ∈ UW := tb5 61 (by decide +kernel) rfl
theorem ml_X4_194 : Cond.methodLink RX4 194 yX4_phaseNow ∈ UW := tb5 65 (by decide +kernel) rfl
theorem ml_X4_188 : Cond.methodLink RX4 188 yX4_dueNow ∈ UW := tb5 69 (by decide +kernel) rfl
theorem ml_X4_191 : Cond.methodLink RX4 191 yX4_paidWhole ∈ UW := tb5 73 (by decide +kernel) rfl
theorem ml_L_153 : Cond.methodLink RL 153 yX4_use ∈ UW := tb5 77 (by decide +kernel) rfl
theorem ml_X4_197 : Cond.methodLink RX4 197 yX4_useNow ∈ UW := tb5 81 (by decide +kernel) rfl
theorem ml_L_156 : Cond.methodLink RL 156 yX4_instalment ∈ UW := tb5 85 (by decide +kernel) rfl
theorem ml_X4_200 : Cond.methodLink RX4 200 yX4_instalmentNow ∈ UW := tb5 89 (by decide +kernel) rfl
theorem ml_L_159 : Cond.methodLink RL 159 yX4_count ∈ UW := tb5 93 (by decide +kernel) rfl
theorem ml_X4_209 : Cond.methodLink RX4 209 yX4_counted ∈ UW := tb5 97 (by decide +kernel) rfl
theorem ml_X4_203 : Cond.methodLink RX4 203 yX4_begunOnes ∈ UW := tb5 101 (by decide +kernel) rfl
theorem ml_X4_206 : Cond.methodLink RX4 206 yX4_sumOf ∈ UW := tb5 105 (by decide +kernel) rfl
theorem ml_L_162 : Cond.methodLink RL 162 yX4_setting ∈ UW := tb5 109 (by decide +kernel) rfl
theorem ml_L_165 : Cond.methodLink RL 165 yX4_whyNot ∈ UW := tb5 113 (by decide +kernel) rfl
theorem ml_X4_212 : Cond.methodLink RX4 212 yX4_whyNotNow ∈ UW := tb5 117 (by decide +kernel) rfl
theorem ml_L_168 : Cond.methodLink RL 168 yX4_ifBegun ∈ UW := tb5 121 (by decide +kernel) rfl
theorem ml_X4_215 : Cond.methodLink RX4 215 yX4_begunThen ∈ UW := tb5 125 (by decide +kernel) rfl
theorem ml_L_171 : Cond.methodLink RL 171 yX4_breaksIn ∈ UW := tb5 129 (by decide +kernel) rfl
theorem ml_X4_218 : Cond.methodLink RX4 218 yX4_breaksNow ∈ UW := tb5 133 (by decide +kernel) rfl
theorem ml_L_174 : Cond.methodLink RL 174 yX4_surchargesIn ∈ UW := tb5 137 (by decide +kernel) rfl
theorem ml_X4_227 : Cond.methodLink RX4 227 yX4_surchargesThen ∈ UW := tb5 141 (by decide +kernel) rfl
theorem ml_X4_221 : Cond.methodLink RX4 221 yX4_keep ∈ UW := tb5 145 (by decide +kernel) rfl
theorem ml_X4_224 : Cond.methodLink RX4 224 yX4_layBack ∈ UW := tb5 149 (by decide +kernel) rfl
theorem ml_L_178 : Cond.methodLink RL 178 yX4_mostUrgent ∈ UW := tb5 153 (by decide +kernel) rfl
theorem ml_X4_230 : Cond.methodLink RX4 230 yX4_urgentNow ∈ UW := tb5 157 (by decide +kernel) rfl
theorem ml_L_181 : Cond.methodLink RL 181 yX4_dueIn ∈ UW := tb5 161 (by decide +kernel) rfl
theorem ml_X4_233 : Cond.methodLink RX4 233 yX4_dueThen ∈ UW := tb5 165 (by decide +kernel) rfl
theorem ml_L_186 : Cond.methodLink RL 186 yX4_settledShare ∈ UW := tb5 169 (by decide +kernel) rfl
theorem ml_X4_236 : Cond.methodLink RX4 236 yX4_share ∈ UW := tb5 173 (by decide +kernel) rfl
theorem ml_L_191 : Cond.methodLink RL 191 yX4_digest ∈ UW := tb5 177 (by decide +kernel) rfl
theorem ml_X4_246 : Cond.methodLink RX4 246 yX4_mix ∈ UW := tb5 182 (by decide +kernel) rfl
theorem ml_X4_252 : Cond.methodLink RX4 252 yX4_mixPhase ∈ UW := tb5 187 (by decide +kernel) rfl
theorem st_min : Cond.static Lib.Math.min.name ∈ UW := tb3 68 (by decide +kernel) rfl
theorem cd_min : Cond.code Lib.Math.min.name Lib.Math.min.code 2 (some .int) ∈ UW := tb3 69 (by decide +kernel) rfl
theorem st_max : Cond.static Lib.Math.max.name ∈ UW := tb2 175 (by decide +kernel) rfl
theorem cd_max : Cond.code Lib.Math.max.name Lib.Math.max.code 2 (some .int) ∈ UW := tb2 176 (by decide +kernel) rfl
theorem in_math : Cond.initialized "java/lang/Math" ∈ UW := tb1 12 (by decide +kernel) rfl
theorem cst_X3_246 : Cond.constantLong RX3 246 2591 ∈ UW := tb2 46 (by decide +kernel) rfl
theorem cst_X3_248 : Cond.constantLong RX3 248 31 ∈ UW := tb2 47 (by decide +kernel) rfl
theorem cst_X3_295 : Cond.constantLong RX3 295 1023 ∈ UW := tb3 6 (by decide +kernel) rfl
theorem cst_X3_101 : Cond.constant RX3 101 99999 ∈ UW := tb3 131 (by decide +kernel) rfl
theorem cst_X4_119 : Cond.constant RX4 119 99999 ∈ UW := tb4 179 (by decide +kernel) rfl
theorem cst_X4_63 : Cond.constantLong RX4 63 100 ∈ UW := tb4 212 (by decide +kernel) rfl
theorem cst_X4_250 : Cond.constantLong RX4 250 2591 ∈ UW := tb5 181 (by decide +kernel) rfl
theorem cst_X4_240 : Cond.constantLong RX4 240 31 ∈ UW := tb5 186 (by decide +kernel) rfl
