abbrev lvC (G : WG) (b i : Nat) : Lv := [(0, .ref b), (1, .ref (adr G 0 0 0)), (2, .ref (adr G 15 0 0)), (3, .ref (adr G 21 0 0)), (4, .int (nI i))]
theorem mkw_addPhase : Cond.codeWith yL_addPhase cL_addPhase 3 (some .int) hh_addPhase ∈ UW ∧ Cond.static yL_addPhase ∈ UW ∧ Cond.initialized yL_addPhase.cls ∈ UW ∧ yL_addPhase.cls ≠ "java/lang/invoke/MethodHandle" ∧ yL_addPhase.cls ≠ "java/lang/invoke/VarHandle" ∧ (parseMethodDescriptor yL_addPhase.desc).map (fun d => d.parameters.length) = some 2 := ⟨tb_in 491 (by decide +kernel) rfl, tb_in 490 (by decide +kernel) rfl, tb_in 0 (by decide +kernel) rfl, by decide, by decide, by decide +kernel⟩
theorem LC_addPhase {l : Launch} {G : WG} {b0 b L : Nat} {xs : Nat → Int32} {nc ns i : Nat} {μ : Mem} (hL : L ≤ 2048) (hA : ∀ q, AG G q → AB b0 q) (hi : i + 4 ≤ L) (hn : nc + 1 ≤ room_1.cells ∧ ns + 6 ≤ room_1.slots) {d2 d3 : Nat} {k r : Int32} {μ1 μ2 : Mem} (hd : d2 ≤ 11 ∧ d3 ≤ 11) (h1 : CtW l G 11 yL_addPhase cL_addPhase 3 hh_addPhase [.ref (adr G 0 0 0), .ref (adr G 21 0 0)] μ k μ1) (h2 : Ct l G d2 yX4_addPhase cX4_addPhase 3 (some .int) [.ref (adr G 15 0 0)] μ1 (some (.int r)) μ2) (h3 : Ct l G d3 yX4_thrown cX4_thrown 1 (some .int) [.ref (adr G 15 0 0)] μ2 (some (.int k)) μ2) (hr : k = 0 → μ2.2 1 = r.toInt64) (kk : JL l G b0 b L xs (nc + 1) (ns + 6) (Rep G μ2) 1726 (lvC G b i) []) : JL l G b0 b L xs nc ns (Rep G μ) 164 (lvC G b i) [] := by
  refine J_aload_n dL_law_164 rfl ?_
  refine J_aload_n dL_law_165 rfl ?_
  refine L_callW (As := [.ref (adr G 0 0 0), .ref (adr G 21 0 0)]) (rest := []) hA hn h1 mkw_addPhase ml_L_92 (by decide) rfl (Nat.le_of_ble_eq_true rfl) dL_law_166 ?_
  refine J_istore dL_law_169 (by decide) rfl ?_
  refine J_aload_n dL_law_171 rfl ?_
  refine L_callV (As := []) (rest := []) hA hn h2 mk_X4_addPhase ml_L_97 ⟨hd.1, by decide⟩ dm_15 rfl rfl rfl (Nat.le_of_ble_eq_true rfl) dL_law_172 ?_
  refine J_istore dL_law_175 (by decide) rfl ?_
  refine J_aload_n dL_law_177 rfl ?_
  refine L_callV (As := []) (rest := []) hA hn h3 mk_X4_thrown ml_L_98 ⟨hd.2, by decide⟩ dm_15 rfl rfl rfl (Nat.le_of_ble_eq_true rfl) dL_law_178 ?_
  refine J_iload dL_law_181 rfl ?_
  refine J_icmp_eq (tgt := 188) dL_law_183 (by decide) (fun _ => ?_) (fun h => absurd rfl h)
  refine J_iload dL_law_188 rfl ?_
  refine J_if_ne (tgt := 205) dL_law_190 (by decide) (fun _ => ?_) (fun hk => ?_)
  · refine J_goto (tgt := 1726) dL_law_205 (by decide) ?_
    exact J_lv [0, 1, 2, 3, 4] rfl kk
  · refine J_aload_n dL_law_193 rfl ?_
    refine J_iconstN 0 dL_law_194 rfl ?_
    refine L_lald dL_law_195 ?_
    refine J_iload dL_law_196 rfl ?_
    refine J_i2l dL_law_198 ?_
    refine J_lcmp dL_law_199 ?_
    refine J_if_eq (tgt := 205) dL_law_200 (by decide) (fun _ => ?_) (fun h => absurd ((lg_cmp_eq _ _).mpr (hr hk)) h)
    refine J_goto (tgt := 1726) dL_law_205 (by decide) ?_
    exact J_lv [0, 1, 2, 3, 4] rfl kk
theorem mkw_area : Cond.codeWith yL_area cL_area 6 (some .int) hh_area ∈ UW ∧ Cond.static yL_area ∈ UW ∧ Cond.initialized yL_area.cls ∈ UW ∧ yL_area.cls ≠ "java/lang/invoke/MethodHandle" ∧ yL_area.cls ≠ "java/lang/invoke/VarHandle" ∧ (parseMethodDescriptor yL_area.desc).map (fun d => d.parameters.length) = some 5 := ⟨tb_in 531 (by decide +kernel) rfl, tb_in 530 (by decide +kernel) rfl, tb_in 0 (by decide +kernel) rfl, by decide, by decide, by decide +kernel⟩
theorem LC_area {l : Launch} {G : WG} {b0 b L : Nat} {xs : Nat → Int32} {nc ns i : Nat} {μ : Mem} (hL : L ≤ 2048) (hA : ∀ q, AG G q → AB b0 q) (hi : i + 4 ≤ L) (hn : nc + 1 ≤ room_1.cells ∧ ns + 6 ≤ room_1.slots) {d2 d3 : Nat} {k r : Int32} {μ1 μ2 : Mem} (hd : d2 ≤ 11 ∧ d3 ≤ 11) (h1 : CtW l G 11 yL_area cL_area 6 hh_area [.ref (adr G 0 0 0), .int (xs (i + 1)), .int (xs (i + 2)), .int (xs (i + 3)), .ref (adr G 21 0 0)] μ k μ1) (h2 : Ct l G d2 yX4_area cX4_area 5 (some .int) [.ref (adr G 15 0 0), .int (xs (i + 1)), .int (xs (i + 2)), .int (xs (i + 3))] μ1 (some (.int r)) μ2) (h3 : Ct l G d3 yX4_thrown cX4_thrown 1 (some .int) [.ref (adr G 15 0 0)] μ2 (some (.int k)) μ2) (hr : k = 0 → μ2.2 1 = r.toInt64) (kk : JL l G b0 b L xs (nc + 1) (ns + 6) (Rep G μ2) 1726 (lvC G b i) []) : JL l G b0 b L xs nc ns (Rep G μ) 208 (lvC G b i) [] := by
  refine J_aload_n dL_law_208 rfl ?_
  refine J_aload_n dL_law_209 rfl ?_
  refine J_iload dL_law_210 rfl ?_
  refine J_iconstN 1 dL_law_212 rfl ?_
  refine J_iaddN dL_law_213 ?_
  refine L_sld (i := i + 1) hL (by omega) dL_law_214 ?_
  refine J_aload_n dL_law_215 rfl ?_
  refine J_iload dL_law_216 rfl ?_
  refine J_iconstN 2 dL_law_218 rfl ?_
  refine J_iaddN dL_law_219 ?_
  refine L_sld (i := i + 2) hL (by omega) dL_law_220 ?_
  refine J_aload_n dL_law_221 rfl ?_
  refine J_iload dL_law_222 rfl ?_
  refine J_iconstN 3 dL_law_224 rfl ?_
  refine J_iaddN dL_law_225 ?_
  refine L_sld (i := i + 3) hL (by omega) dL_law_226 ?_
  refine J_aload_n dL_law_227 rfl ?_
  refine L_callW (As := [.ref (adr G 0 0 0), .int (xs (i + 1)), .int (xs (i + 2)), .int (xs (i + 3)), .ref (adr G 21 0 0)]) (rest := []) hA hn h1 mkw_area ml_L_101 (by decide) rfl (Nat.le_of_ble_eq_true rfl) dL_law_228 ?_
  refine J_istore dL_law_231 (by decide) rfl ?_
  refine J_aload_n dL_law_233 rfl ?_
  refine J_aload_n dL_law_234 rfl ?_
  refine J_iload dL_law_235 rfl ?_
  refine J_iconstN 1 dL_law_237 rfl ?_
  refine J_iaddN dL_law_238 ?_
  refine L_sld (i := i + 1) hL (by omega) dL_law_239 ?_
  refine J_aload_n dL_law_240 rfl ?_
  refine J_iload dL_law_241 rfl ?_
  refine J_iconstN 2 dL_law_243 rfl ?_
  refine J_iaddN dL_law_244 ?_
  refine L_sld (i := i + 2) hL (by omega) dL_law_245 ?_
  refine J_aload_n dL_law_246 rfl ?_
  refine J_iload dL_law_247 rfl ?_
  refine J_iconstN 3 dL_law_249 rfl ?_
  refine J_iaddN dL_law_250 ?_
  refine L_sld (i := i + 3) hL (by omega) dL_law_251 ?_
  refine L_callV (As := [.int (xs (i + 1)), .int (xs (i + 2)), .int (xs (i + 3))]) (rest := []) hA hn h2 mk_X4_area ml_L_104 ⟨hd.1, by decide⟩ dm_15 rfl rfl rfl (Nat.le_of_ble_eq_true rfl) dL_law_252 ?_
  refine J_istore dL_law_255 (by decide) rfl ?_
  refine J_aload_n dL_law_257 rfl ?_
  refine L_callV (As := []) (rest := []) hA hn h3 mk_X4_thrown ml_L_98 ⟨hd.2, by decide⟩ dm_15 rfl rfl rfl (Nat.le_of_ble_eq_true rfl) dL_law_258 ?_
  refine J_iload dL_law_261 rfl ?_
  refine J_icmp_eq (tgt := 268) dL_law_263 (by decide) (fun _ => ?_) (fun h => absurd rfl h)
  refine J_iload dL_law_268 rfl ?_
  refine J_if_ne (tgt := 285) dL_law_270 (by decide) (fun _ => ?_) (fun hk => ?_)
  · refine J_goto (tgt := 1726) dL_law_285 (by decide) ?_
    exact J_lv [0, 1, 2, 3, 4] rfl kk
  · refine J_aload_n dL_law_273 rfl ?_
    refine J_iconstN 0 dL_law_274 rfl ?_
    refine L_lald dL_law_275 ?_
    refine J_iload dL_law_276 rfl ?_
    refine J_i2l dL_law_278 ?_
    refine J_lcmp dL_law_279 ?_
    refine J_if_eq (tgt := 285) dL_law_280 (by decide) (fun _ => ?_) (fun h => absurd ((lg_cmp_eq _ _).mpr (hr hk)) h)
    refine J_goto (tgt := 1726) dL_law_285 (by decide) ?_
    exact J_lv [0, 1, 2, 3, 4] rfl kk
theorem mkw_exempt : Cond.codeWith yL_exempt cL_exempt 6 (some .int) hh_exempt ∈ UW ∧ Cond.static yL_exempt ∈ UW ∧ Cond.initialized yL_exempt.cls ∈ UW ∧ yL_exempt.cls ≠ "java/lang/invoke/MethodHandle" ∧ yL_exempt.cls ≠ "java/lang/invoke/VarHandle" ∧ (parseMethodDescriptor yL_exempt.desc).map (fun d => d.parameters.length) = some 5 := ⟨tb_in 552 (by decide +kernel) rfl, tb_in 551 (by decide +kernel) rfl, tb_in 0 (by decide +kernel) rfl, by decide, by decide, by decide +kernel⟩
theorem LC_exempt {l : Launch} {G : WG} {b0 b L : Nat} {xs : Nat → Int32} {nc ns i : Nat} {μ : Mem} (hL : L ≤ 2048) (hA : ∀ q, AG G q → AB b0 q) (hi : i + 4 ≤ L) (hn : nc + 1 ≤ room_1.cells ∧ ns + 6 ≤ room_1.slots) {d2 d3 : Nat} {k r : Int32} {μ1 μ2 : Mem} (hd : d2 ≤ 11 ∧ d3 ≤ 11) (h1 : CtW l G 11 yL_exempt cL_exempt 6 hh_exempt [.ref (adr G 0 0 0), .int (xs (i + 1)), .int (xs (i + 2)), .int (xs (i + 3)), .ref (adr G 21 0 0)] μ k μ1) (h2 : Ct l G d2 yX4_exempt cX4_exempt 5 (some .int) [.ref (adr G 15 0 0), .int (xs (i + 1)), .int (xs (i + 2)), .int (xs (i + 3))] μ1 (some (.int r)) μ2) (h3 : Ct l G d3 yX4_thrown cX4_thrown 1 (some .int) [.ref (adr G 15 0 0)] μ2 (some (.int k)) μ2) (hr : k = 0 → μ2.2 1 = r.toInt64) (kk : JL l G b0 b L xs (nc + 1) (ns + 6) (Rep G μ2) 1726 (lvC G b i) []) : JL l G b0 b L xs nc ns (Rep G μ) 288 (lvC G b i) [] := by
  refine J_aload_n dL_law_288 rfl ?_
  refine J_aload_n dL_law_289 rfl ?_
  refine J_iload dL_law_290 rfl ?_
  refine J_iconstN 1 dL_law_292 rfl ?_
  refine J_iaddN dL_law_293 ?_
  refine L_sld (i := i + 1) hL (by omega) dL_law_294 ?_
  refine J_aload_n dL_law_295 rfl ?_
  refine J_iload dL_law_296 rfl ?_
  refine J_iconstN 2 dL_law_298 rfl ?_
  refine J_iaddN dL_law_299 ?_
  refine L_sld (i := i + 2) hL (by omega) dL_law_300 ?_
  refine J_aload_n dL_law_301 rfl ?_
  refine J_iload dL_law_302 rfl ?_
  refine J_iconstN 3 dL_law_304 rfl ?_
  refine J_iaddN dL_law_305 ?_
  refine L_sld (i := i + 3) hL (by omega) dL_law_306 ?_
  refine J_aload_n dL_law_307 rfl ?_
  refine L_callW (As := [.ref (adr G 0 0 0), .int (xs (i + 1)), .int (xs (i + 2)), .int (xs (i + 3)), .ref (adr G 21 0 0)]) (rest := []) hA hn h1 mkw_exempt ml_L_105 (by decide) rfl (Nat.le_of_ble_eq_true rfl) dL_law_308 ?_
  refine J_istore dL_law_311 (by decide) rfl ?_
  refine J_aload_n dL_law_313 rfl ?_
  refine J_aload_n dL_law_314 rfl ?_
  refine J_iload dL_law_315 rfl ?_
  refine J_iconstN 1 dL_law_317 rfl ?_
  refine J_iaddN dL_law_318 ?_
  refine L_sld (i := i + 1) hL (by omega) dL_law_319 ?_
  refine J_aload_n dL_law_320 rfl ?_
  refine J_iload dL_law_321 rfl ?_
  refine J_iconstN 2 dL_law_323 rfl ?_
  refine J_iaddN dL_law_324 ?_
  refine L_sld (i := i + 2) hL (by omega) dL_law_325 ?_
  refine J_aload_n dL_law_326 rfl ?_
  refine J_iload dL_law_327 rfl ?_
  refine J_iconstN 3 dL_law_329 rfl ?_
  refine J_iaddN dL_law_330 ?_
  refine L_sld (i := i + 3) hL (by omega) dL_law_331 ?_
  refine L_callV (As := [.int (xs (i + 1)), .int (xs (i + 2)), .int (xs (i + 3))]) (rest := []) hA hn h2 mk_X4_exempt ml_L_107 ⟨hd.1, by decide⟩ dm_15 rfl rfl rfl (Nat.le_of_ble_eq_true rfl) dL_law_332 ?_
  refine J_istore dL_law_335 (by decide) rfl ?_
  refine J_aload_n dL_law_337 rfl ?_
  refine L_callV (As := []) (rest := []) hA hn h3 mk_X4_thrown ml_L_98 ⟨hd.2, by decide⟩ dm_15 rfl rfl rfl (Nat.le_of_ble_eq_true rfl) dL_law_338 ?_
  refine J_iload dL_law_341 rfl ?_
  refine J_icmp_eq (tgt := 348) dL_law_343 (by decide) (fun _ => ?_) (fun h => absurd rfl h)
  refine J_iload dL_law_348 rfl ?_
  refine J_if_ne (tgt := 365) dL_law_350 (by decide) (fun _ => ?_) (fun hk => ?_)
  · refine J_goto (tgt := 1726) dL_law_365 (by decide) ?_
    exact J_lv [0, 1, 2, 3, 4] rfl kk
  · refine J_aload_n dL_law_353 rfl ?_
    refine J_iconstN 0 dL_law_354 rfl ?_
    refine L_lald dL_law_355 ?_
    refine J_iload dL_law_356 rfl ?_
    refine J_i2l dL_law_358 ?_
    refine J_lcmp dL_law_359 ?_
    refine J_if_eq (tgt := 365) dL_law_360 (by decide) (fun _ => ?_) (fun h => absurd ((lg_cmp_eq _ _).mpr (hr hk)) h)
    refine J_goto (tgt := 1726) dL_law_365 (by decide) ?_
    exact J_lv [0, 1, 2, 3, 4] rfl kk
theorem mkw_rate : Cond.codeWith yL_rate cL_rate 5 (some .int) hh_rate ∈ UW ∧ Cond.static yL_rate ∈ UW ∧ Cond.initialized yL_rate.cls ∈ UW ∧ yL_rate.cls ≠ "java/lang/invoke/MethodHandle" ∧ yL_rate.cls ≠ "java/lang/invoke/VarHandle" ∧ (parseMethodDescriptor yL_rate.desc).map (fun d => d.parameters.length) = some 4 := ⟨tb_in 563 (by decide +kernel) rfl, tb_in 562 (by decide +kernel) rfl, tb_in 0 (by decide +kernel) rfl, by decide, by decide, by decide +kernel⟩
theorem LC_rate {l : Launch} {G : WG} {b0 b L : Nat} {xs : Nat → Int32} {nc ns i : Nat} {μ : Mem} (hL : L ≤ 2048) (hA : ∀ q, AG G q → AB b0 q) (hi : i + 4 ≤ L) (hn : nc + 1 ≤ room_1.cells ∧ ns + 6 ≤ room_1.slots) {d2 d3 : Nat} {k r : Int32} {μ1 μ2 : Mem} (hd : d2 ≤ 11 ∧ d3 ≤ 11) (h1 : CtW l G 11 yL_rate cL_rate 5 hh_rate [.ref (adr G 0 0 0), .int (xs (i + 1)), .int (xs (i + 2)), .ref (adr G 21 0 0)] μ k μ1) (h2 : Ct l G d2 yX4_rate cX4_rate 4 (some .int) [.ref (adr G 15 0 0), .int (xs (i + 1)), .int (xs (i + 2))] μ1 (some (.int r)) μ2) (h3 : Ct l G d3 yX4_thrown cX4_thrown 1 (some .int) [.ref (adr G 15 0 0)] μ2 (some (.int k)) μ2) (hr : k = 0 → μ2.2 1 = r.toInt64) (kk : JL l G b0 b L xs (nc + 1) (ns + 6) (Rep G μ2) 1726 (lvC G b i) []) : JL l G b0 b L xs nc ns (Rep G μ) 368 (lvC G b i) [] := by
  refine J_aload_n dL_law_368 rfl ?_
  refine J_aload_n dL_law_369 rfl ?_
  refine J_iload dL_law_370 rfl ?_
  refine J_iconstN 1 dL_law_372 rfl ?_
  refine J_iaddN dL_law_373 ?_
  refine L_sld (i := i + 1) hL (by omega) dL_law_374 ?_
  refine J_aload_n dL_law_375 rfl ?_
  refine J_iload dL_law_376 rfl ?_
  refine J_iconstN 2 dL_law_378 rfl ?_
  refine J_iaddN dL_law_379 ?_
  refine L_sld (i := i + 2) hL (by omega) dL_law_380 ?_
  refine J_aload_n dL_law_381 rfl ?_
  refine L_callW (As := [.ref (adr G 0 0 0), .int (xs (i + 1)), .int (xs (i + 2)), .ref (adr G 21 0 0)]) (rest := []) hA hn h1 mkw_rate ml_L_108 (by decide) rfl (Nat.le_of_ble_eq_true rfl) dL_law_382 ?_
  refine J_istore dL_law_385 (by decide) rfl ?_
  refine J_aload_n dL_law_387 rfl ?_
  refine J_aload_n dL_law_388 rfl ?_
  refine J_iload dL_law_389 rfl ?_
  refine J_iconstN 1 dL_law_391 rfl ?_
  refine J_iaddN dL_law_392 ?_
  refine L_sld (i := i + 1) hL (by omega) dL_law_393 ?_
  refine J_aload_n dL_law_394 rfl ?_
  refine J_iload dL_law_395 rfl ?_
  refine J_iconstN 2 dL_law_397 rfl ?_
  refine J_iaddN dL_law_398 ?_
  refine L_sld (i := i + 2) hL (by omega) dL_law_399 ?_
  refine L_callV (As := [.int (xs (i + 1)), .int (xs (i + 2))]) (rest := []) hA hn h2 mk_X4_rate ml_L_111 ⟨hd.1, by decide⟩ dm_15 rfl rfl rfl (Nat.le_of_ble_eq_true rfl) dL_law_400 ?_
  refine J_istore dL_law_403 (by decide) rfl ?_
  refine J_aload_n dL_law_405 rfl ?_
  refine L_callV (As := []) (rest := []) hA hn h3 mk_X4_thrown ml_L_98 ⟨hd.2, by decide⟩ dm_15 rfl rfl rfl (Nat.le_of_ble_eq_true rfl) dL_law_406 ?_
  refine J_iload dL_law_409 rfl ?_
  refine J_icmp_eq (tgt := 416) dL_law_411 (by decide) (fun _ => ?_) (fun h => absurd rfl h)
  refine J_iload dL_law_416 rfl ?_
  refine J_if_ne (tgt := 433) dL_law_418 (by decide) (fun _ => ?_) (fun hk => ?_)
  · refine J_goto (tgt := 1726) dL_law_433 (by decide) ?_
    exact J_lv [0, 1, 2, 3, 4] rfl kk
  · refine J_aload_n dL_law_421 rfl ?_
    refine J_iconstN 0 dL_law_422 rfl ?_
    refine L_lald dL_law_423 ?_
    refine J_iload dL_law_424 rfl ?_
    refine J_i2l dL_law_426 ?_
    refine J_lcmp dL_law_427 ?_
    refine J_if_eq (tgt := 433) dL_law_428 (by decide) (fun _ => ?_) (fun h => absurd ((lg_cmp_eq _ _).mpr (hr hk)) h)
    refine J_goto (tgt := 1726) dL_law_433 (by decide) ?_
    exact J_lv [0, 1, 2, 3, 4] rfl kk
theorem mkw_set : Cond.codeWith yL_set cL_set 5 (some .int) hh_set ∈ UW ∧ Cond.static yL_set ∈ UW ∧ Cond.initialized yL_set.cls ∈ UW ∧ yL_set.cls ≠ "java/lang/invoke/MethodHandle" ∧ yL_set.cls ≠ "java/lang/invoke/VarHandle" ∧ (parseMethodDescriptor yL_set.desc).map (fun d => d.parameters.length) = some 4 := ⟨tb_in 574 (by decide +kernel) rfl, tb_in 573 (by decide +kernel) rfl, tb_in 0 (by decide +kernel) rfl, by decide, by decide, by decide +kernel⟩
theorem LC_set {l : Launch} {G : WG} {b0 b L : Nat} {xs : Nat → Int32} {nc ns i : Nat} {μ : Mem} (hL : L ≤ 2048) (hA : ∀ q, AG G q → AB b0 q) (hi : i + 4 ≤ L) (hn : nc + 1 ≤ room_1.cells ∧ ns + 6 ≤ room_1.slots) {d2 d3 : Nat} {k r : Int32} {μ1 μ2 : Mem} (hd : d2 ≤ 11 ∧ d3 ≤ 11) (h1 : CtW l G 11 yL_set cL_set 5 hh_set [.ref (adr G 0 0 0), .int (xs (i + 1)), .int (xs (i + 2)), .ref (adr G 21 0 0)] μ k μ1) (h2 : Ct l G d2 yX4_set cX4_set 4 (some .int) [.ref (adr G 15 0 0), .int (xs (i + 1)), .int (xs (i + 2))] μ1 (some (.int r)) μ2) (h3 : Ct l G d3 yX4_thrown cX4_thrown 1 (some .int) [.ref (adr G 15 0 0)] μ2 (some (.int k)) μ2) (hr : k = 0 → μ2.2 1 = r.toInt64) (kk : JL l G b0 b L xs (nc + 1) (ns + 6) (Rep G μ2) 1726 (lvC G b i) []) : JL l G b0 b L xs nc ns (Rep G μ) 436 (lvC G b i) [] := by
  refine J_aload_n dL_law_436 rfl ?_
  refine J_aload_n dL_law_437 rfl ?_
  refine J_iload dL_law_438 rfl ?_
  refine J_iconstN 1 dL_law_440 rfl ?_
  refine J_iaddN dL_law_441 ?_
  refine L_sld (i := i + 1) hL (by omega) dL_law_442 ?_
  refine J_aload_n dL_law_443 rfl ?_
  refine J_iload dL_law_444 rfl ?_
  refine J_iconstN 2 dL_law_446 rfl ?_
  refine J_iaddN dL_law_447 ?_
  refine L_sld (i := i + 2) hL (by omega) dL_law_448 ?_
  refine J_aload_n dL_law_449 rfl ?_
  refine L_callW (As := [.ref (adr G 0 0 0), .int (xs (i + 1)), .int (xs (i + 2)), .ref (adr G 21 0 0)]) (rest := []) hA hn h1 mkw_set ml_L_112 (by decide) rfl (Nat.le_of_ble_eq_true rfl) dL_law_450 ?_
  refine J_istore dL_law_453 (by decide) rfl ?_
  refine J_aload_n dL_law_455 rfl ?_
  refine J_aload_n dL_law_456 rfl ?_
  refine J_iload dL_law_457 rfl ?_
  refine J_iconstN 1 dL_law_459 rfl ?_
  refine J_iaddN dL_law_460 ?_
  refine L_sld (i := i + 1) hL (by omega) dL_law_461 ?_
  refine J_aload_n dL_law_462 rfl ?_
  refine J_iload dL_law_463 rfl ?_
  refine J_iconstN 2 dL_law_465 rfl ?_
  refine J_iaddN dL_law_466 ?_
  refine L_sld (i := i + 2) hL (by omega) dL_law_467 ?_
  refine L_callV (As := [.int (xs (i + 1)), .int (xs (i + 2))]) (rest := []) hA hn h2 mk_X4_set ml_L_114 ⟨hd.1, by decide⟩ dm_15 rfl rfl rfl (Nat.le_of_ble_eq_true rfl) dL_law_468 ?_
  refine J_istore dL_law_471 (by decide) rfl ?_
  refine J_aload_n dL_law_473 rfl ?_
  refine L_callV (As := []) (rest := []) hA hn h3 mk_X4_thrown ml_L_98 ⟨hd.2, by decide⟩ dm_15 rfl rfl rfl (Nat.le_of_ble_eq_true rfl) dL_law_474 ?_
  refine J_iload dL_law_477 rfl ?_
  refine J_icmp_eq (tgt := 484) dL_law_479 (by decide) (fun _ => ?_) (fun h => absurd rfl h)
  refine J_iload dL_law_484 rfl ?_
  refine J_if_ne (tgt := 501) dL_law_486 (by decide) (fun _ => ?_) (fun hk => ?_)
  · refine J_goto (tgt := 1726) dL_law_501 (by decide) ?_
    exact J_lv [0, 1, 2, 3, 4] rfl kk
  · refine J_aload_n dL_law_489 rfl ?_
    refine J_iconstN 0 dL_law_490 rfl ?_
    refine L_lald dL_law_491 ?_
    refine J_iload dL_law_492 rfl ?_
    refine J_i2l dL_law_494 ?_
    refine J_lcmp dL_law_495 ?_
    refine J_if_eq (tgt := 501) dL_law_496 (by decide) (fun _ => ?_) (fun h => absurd ((lg_cmp_eq _ _).mpr (hr hk)) h)
    refine J_goto (tgt := 1726) dL_law_501 (by decide) ?_
    exact J_lv [0, 1, 2, 3, 4] rfl kk
theorem mkw_begin : Cond.codeWith yL_begin cL_begin 4 (some .int) hh_begin ∈ UW ∧ Cond.static yL_begin ∈ UW ∧ Cond.initialized yL_begin.cls ∈ UW ∧ yL_begin.cls ≠ "java/lang/invoke/MethodHandle" ∧ yL_begin.cls ≠ "java/lang/invoke/VarHandle" ∧ (parseMethodDescriptor yL_begin.desc).map (fun d => d.parameters.length) = some 3 := ⟨tb_in 589 (by decide +kernel) rfl, tb_in 588 (by decide +kernel) rfl, tb_in 0 (by decide +kernel) rfl, by decide, by decide, by decide +kernel⟩
theorem LC_begin {l : Launch} {G : WG} {b0 b L : Nat} {xs : Nat → Int32} {nc ns i : Nat} {μ : Mem} (hL : L ≤ 2048) (hA : ∀ q, AG G q → AB b0 q) (hi : i + 4 ≤ L) (hn : nc + 1 ≤ room_1.cells ∧ ns + 6 ≤ room_1.slots) {d2 d3 : Nat} {k r : Int32} {μ1 μ2 : Mem} (hd : d2 ≤ 11 ∧ d3 ≤ 11) (h1 : CtW l G 11 yL_begin cL_begin 4 hh_begin [.ref (adr G 0 0 0), .int (xs (i + 1)), .ref (adr G 21 0 0)] μ k μ1) (h2 : Ct l G d2 yX4_begin cX4_begin 2 (some .int) [.ref (adr G 15 0 0), .int (xs (i + 1))] μ1 (some (.int r)) μ2) (h3 : Ct l G d3 yX4_thrown cX4_thrown 1 (some .int) [.ref (adr G 15 0 0)] μ2 (some (.int k)) μ2) (hr : k = 0 → μ2.2 1 = r.toInt64) (kk : JL l G b0 b L xs (nc + 1) (ns + 6) (Rep G μ2) 1726 (lvC G b i) []) : JL l G b0 b L xs nc ns (Rep G μ) 504 (lvC G b i) [] := by
  refine J_aload_n dL_law_504 rfl ?_
  refine J_aload_n dL_law_505 rfl ?_
  refine J_iload dL_law_506 rfl ?_
  refine J_iconstN 1 dL_law_508 rfl ?_
  refine J_iaddN dL_law_509 ?_
  refine L_sld (i := i + 1) hL (by omega) dL_law_510 ?_
  refine J_aload_n dL_law_511 rfl ?_
  refine L_callW (As := [.ref (adr G 0 0 0), .int (xs (i + 1)), .ref (adr G 21 0 0)]) (rest := []) hA hn h1 mkw_begin ml_L_115 (by decide) rfl (Nat.le_of_ble_eq_true rfl) dL_law_512 ?_
  refine J_istore dL_law_515 (by decide) rfl ?_
  refine J_aload_n dL_law_517 rfl ?_
  refine J_aload_n dL_law_518 rfl ?_
  refine J_iload dL_law_519 rfl ?_
  refine J_iconstN 1 dL_law_521 rfl ?_
  refine J_iaddN dL_law_522 ?_
  refine L_sld (i := i + 1) hL (by omega) dL_law_523 ?_
  refine L_callV (As := [.int (xs (i + 1))]) (rest := []) hA hn h2 mk_X4_begin ml_L_118 ⟨hd.1, by decide⟩ dm_15 rfl rfl rfl (Nat.le_of_ble_eq_true rfl) dL_law_524 ?_
  refine J_istore dL_law_527 (by decide) rfl ?_
  refine J_aload_n dL_law_529 rfl ?_
  refine L_callV (As := []) (rest := []) hA hn h3 mk_X4_thrown ml_L_98 ⟨hd.2, by decide⟩ dm_15 rfl rfl rfl (Nat.le_of_ble_eq_true rfl) dL_law_530 ?_
  refine J_iload dL_law_533 rfl ?_
  refine J_icmp_eq (tgt := 540) dL_law_535 (by decide) (fun _ => ?_) (fun h => absurd rfl h)
  refine J_iload dL_law_540 rfl ?_
  refine J_if_ne (tgt := 557) dL_law_542 (by decide) (fun _ => ?_) (fun hk => ?_)
  · refine J_goto (tgt := 1726) dL_law_557 (by decide) ?_
    exact J_lv [0, 1, 2, 3, 4] rfl kk
  · refine J_aload_n dL_law_545 rfl ?_
    refine J_iconstN 0 dL_law_546 rfl ?_
    refine L_lald dL_law_547 ?_
    refine J_iload dL_law_548 rfl ?_
    refine J_i2l dL_law_550 ?_
    refine J_lcmp dL_law_551 ?_
    refine J_if_eq (tgt := 557) dL_law_552 (by decide) (fun _ => ?_) (fun h => absurd ((lg_cmp_eq _ _).mpr (hr hk)) h)
    refine J_goto (tgt := 1726) dL_law_557 (by decide) ?_
    exact J_lv [0, 1, 2, 3, 4] rfl kk
theorem mkw_pay : Cond.codeWith yL_pay cL_pay 5 (some .int) hh_pay ∈ UW ∧ Cond.static yL_pay ∈ UW ∧ Cond.initialized yL_pay.cls ∈ UW ∧ yL_pay.cls ≠ "java/lang/invoke/MethodHandle" ∧ yL_pay.cls ≠ "java/lang/invoke/VarHandle" ∧ (parseMethodDescriptor yL_pay.desc).map (fun d => d.parameters.length) = some 4 := ⟨tb_in 606 (by decide +kernel) rfl, tb_in 605 (by decide +kernel) rfl, tb_in 0 (by decide +kernel) rfl, by decide, by decide, by decide +kernel⟩
theorem LC_pay {l : Launch} {G : WG} {b0 b L : Nat} {xs : Nat → Int32} {nc ns i : Nat} {μ : Mem} (hL : L ≤ 2048) (hA : ∀ q, AG G q → AB b0 q) (hi : i + 4 ≤ L) (hn : nc + 1 ≤ room_1.cells ∧ ns + 6 ≤ room_1.slots) {d2 d3 : Nat} {k r : Int32} {μ1 μ2 : Mem} (hd : d2 ≤ 11 ∧ d3 ≤ 11) (h1 : CtW l G 11 yL_pay cL_pay 5 hh_pay [.ref (adr G 0 0 0), .int (xs (i + 1)), .int (xs (i + 2)), .ref (adr G 21 0 0)] μ k μ1) (h2 : Ct l G d2 yX4_pay cX4_pay 3 (some .int) [.ref (adr G 15 0 0), .int (xs (i + 1)), .int (xs (i + 2))] μ1 (some (.int r)) μ2) (h3 : Ct l G d3 yX4_thrown cX4_thrown 1 (some .int) [.ref (adr G 15 0 0)] μ2 (some (.int k)) μ2) (hr : k = 0 → μ2.2 1 = r.toInt64) (kk : JL l G b0 b L xs (nc + 1) (ns + 6) (Rep G μ2) 1726 (lvC G b i) []) : JL l G b0 b L xs nc ns (Rep G μ) 560 (lvC G b i) [] := by
  refine J_aload_n dL_law_560 rfl ?_
  refine J_aload_n dL_law_561 rfl ?_
  refine J_iload dL_law_562 rfl ?_
  refine J_iconstN 1 dL_law_564 rfl ?_
  refine J_iaddN dL_law_565 ?_
  refine L_sld (i := i + 1) hL (by omega) dL_law_566 ?_
  refine J_aload_n dL_law_567 rfl ?_
  refine J_iload dL_law_568 rfl ?_
  refine J_iconstN 2 dL_law_570 rfl ?_
  refine J_iaddN dL_law_571 ?_
  refine L_sld (i := i + 2) hL (by omega) dL_law_572 ?_
  refine J_aload_n dL_law_573 rfl ?_
  refine L_callW (As := [.ref (adr G 0 0 0), .int (xs (i + 1)), .int (xs (i + 2)), .ref (adr G 21 0 0)]) (rest := []) hA hn h1 mkw_pay ml_L_119 (by decide) rfl (Nat.le_of_ble_eq_true rfl) dL_law_574 ?_
  refine J_istore dL_law_577 (by decide) rfl ?_
  refine J_aload_n dL_law_579 rfl ?_
  refine J_aload_n dL_law_580 rfl ?_
  refine J_iload dL_law_581 rfl ?_
  refine J_iconstN 1 dL_law_583 rfl ?_
  refine J_iaddN dL_law_584 ?_
  refine L_sld (i := i + 1) hL (by omega) dL_law_585 ?_
  refine J_aload_n dL_law_586 rfl ?_
  refine J_iload dL_law_587 rfl ?_
  refine J_iconstN 2 dL_law_589 rfl ?_
  refine J_iaddN dL_law_590 ?_
  refine L_sld (i := i + 2) hL (by omega) dL_law_591 ?_
  refine L_callV (As := [.int (xs (i + 1)), .int (xs (i + 2))]) (rest := []) hA hn h2 mk_X4_pay ml_L_121 ⟨hd.1, by decide⟩ dm_15 rfl rfl rfl (Nat.le_of_ble_eq_true rfl) dL_law_592 ?_
  refine J_istore dL_law_595 (by decide) rfl ?_
  refine J_aload_n dL_law_597 rfl ?_
  refine L_callV (As := []) (rest := []) hA hn h3 mk_X4_thrown ml_L_98 ⟨hd.2, by decide⟩ dm_15 rfl rfl rfl (Nat.le_of_ble_eq_true rfl) dL_law_598 ?_
  refine J_iload dL_law_601 rfl ?_
  refine J_icmp_eq (tgt := 608) dL_law_603 (by decide) (fun _ => ?_) (fun h => absurd rfl h)
  refine J_iload dL_law_608 rfl ?_
  refine J_if_ne (tgt := 625) dL_law_610 (by decide) (fun _ => ?_) (fun hk => ?_)
  · refine J_goto (tgt := 1726) dL_law_625 (by decide) ?_
    exact J_lv [0, 1, 2, 3, 4] rfl kk
  · refine J_aload_n dL_law_613 rfl ?_
    refine J_iconstN 0 dL_law_614 rfl ?_
    refine L_lald dL_law_615 ?_
    refine J_iload dL_law_616 rfl ?_
    refine J_i2l dL_law_618 ?_
    refine J_lcmp dL_law_619 ?_
    refine J_if_eq (tgt := 625) dL_law_620 (by decide) (fun _ => ?_) (fun h => absurd ((lg_cmp_eq _ _).mpr (hr hk)) h)
    refine J_goto (tgt := 1726) dL_law_625 (by decide) ?_
    exact J_lv [0, 1, 2, 3, 4] rfl kk
theorem mkw_land : Cond.codeWith yL_land cL_land 5 (some .int) hh_land ∈ UW ∧ Cond.static yL_land ∈ UW ∧ Cond.initialized yL_land.cls ∈ UW ∧ yL_land.cls ≠ "java/lang/invoke/MethodHandle" ∧ yL_land.cls ≠ "java/lang/invoke/VarHandle" ∧ (parseMethodDescriptor yL_land.desc).map (fun d => d.parameters.length) = some 4 := ⟨tb_in 622 (by decide +kernel) rfl, tb_in 621 (by decide +kernel) rfl, tb_in 0 (by decide +kernel) rfl, by decide, by decide, by decide +kernel⟩
theorem LC_land {l : Launch} {G : WG} {b0 b L : Nat} {xs : Nat → Int32} {nc ns i : Nat} {μ : Mem} (hL : L ≤ 2048) (hA : ∀ q, AG G q → AB b0 q) (hi : i + 4 ≤ L) (hn : nc + 1 ≤ room_1.cells ∧ ns + 6 ≤ room_1.slots) {d2 d3 : Nat} {k r : Int32} {μ1 μ2 : Mem} (hd : d2 ≤ 11 ∧ d3 ≤ 11) (h1 : CtW l G 11 yL_land cL_land 5 hh_land [.ref (adr G 0 0 0), .int (xs (i + 1)), .int (xs (i + 2)), .ref (adr G 21 0 0)] μ k μ1) (h2 : Ct l G d2 yX4_land cX4_land 4 (some .int) [.ref (adr G 15 0 0), .int (xs (i + 1)), .int (xs (i + 2))] μ1 (some (.int r)) μ2) (h3 : Ct l G d3 yX4_thrown cX4_thrown 1 (some .int) [.ref (adr G 15 0 0)] μ2 (some (.int k)) μ2) (hr : k = 0 → μ2.2 1 = r.toInt64) (kk : JL l G b0 b L xs (nc + 1) (ns + 6) (Rep G μ2) 1726 (lvC G b i) []) : JL l G b0 b L xs nc ns (Rep G μ) 628 (lvC G b i) [] := by
  refine J_aload_n dL_law_628 rfl ?_
  refine J_aload_n dL_law_629 rfl ?_
  refine J_iload dL_law_630 rfl ?_
  refine J_iconstN 1 dL_law_632 rfl ?_
  refine J_iaddN dL_law_633 ?_
  refine L_sld (i := i + 1) hL (by omega) dL_law_634 ?_
  refine J_aload_n dL_law_635 rfl ?_
  refine J_iload dL_law_636 rfl ?_
  refine J_iconstN 2 dL_law_638 rfl ?_
  refine J_iaddN dL_law_639 ?_
  refine L_sld (i := i + 2) hL (by omega) dL_law_640 ?_
  refine J_aload_n dL_law_641 rfl ?_
  refine L_callW (As := [.ref (adr G 0 0 0), .int (xs (i + 1)), .int (xs (i + 2)), .ref (adr G 21 0 0)]) (rest := []) hA hn h1 mkw_land ml_L_122 (by decide) rfl (Nat.le_of_ble_eq_true rfl) dL_law_642 ?_
  refine J_istore dL_law_645 (by decide) rfl ?_
  refine J_aload_n dL_law_647 rfl ?_
  refine J_aload_n dL_law_648 rfl ?_
  refine J_iload dL_law_649 rfl ?_
  refine J_iconstN 1 dL_law_651 rfl ?_
  refine J_iaddN dL_law_652 ?_
  refine L_sld (i := i + 1) hL (by omega) dL_law_653 ?_
  refine J_aload_n dL_law_654 rfl ?_
  refine J_iload dL_law_655 rfl ?_
  refine J_iconstN 2 dL_law_657 rfl ?_
  refine J_iaddN dL_law_658 ?_
  refine L_sld (i := i + 2) hL (by omega) dL_law_659 ?_
  refine L_callV (As := [.int (xs (i + 1)), .int (xs (i + 2))]) (rest := []) hA hn h2 mk_X4_land ml_L_124 ⟨hd.1, by decide⟩ dm_15 rfl rfl rfl (Nat.le_of_ble_eq_true rfl) dL_law_660 ?_
  refine J_istore dL_law_663 (by decide) rfl ?_
  refine J_aload_n dL_law_665 rfl ?_
  refine L_callV (As := []) (rest := []) hA hn h3 mk_X4_thrown ml_L_98 ⟨hd.2, by decide⟩ dm_15 rfl rfl rfl (Nat.le_of_ble_eq_true rfl) dL_law_666 ?_
  refine J_iload dL_law_669 rfl ?_
  refine J_icmp_eq (tgt := 676) dL_law_671 (by decide) (fun _ => ?_) (fun h => absurd rfl h)
  refine J_iload dL_law_676 rfl ?_
  refine J_if_ne (tgt := 693) dL_law_678 (by decide) (fun _ => ?_) (fun hk => ?_)
  · refine J_goto (tgt := 1726) dL_law_693 (by decide) ?_
    exact J_lv [0, 1, 2, 3, 4] rfl kk
  · refine J_aload_n dL_law_681 rfl ?_
    refine J_iconstN 0 dL_law_682 rfl ?_
    refine L_lald dL_law_683 ?_
    refine J_iload dL_law_684 rfl ?_
    refine J_i2l dL_law_686 ?_
    refine J_lcmp dL_law_687 ?_
    refine J_if_eq (tgt := 693) dL_law_688 (by decide) (fun _ => ?_) (fun h => absurd ((lg_cmp_eq _ _).mpr (hr hk)) h)
    refine J_goto (tgt := 1726) dL_law_693 (by decide) ?_
    exact J_lv [0, 1, 2, 3, 4] rfl kk
theorem mkw_lapse : Cond.codeWith yL_lapse cL_lapse 5 (some .int) hh_lapse ∈ UW ∧ Cond.static yL_lapse ∈ UW ∧ Cond.initialized yL_lapse.cls ∈ UW ∧ yL_lapse.cls ≠ "java/lang/invoke/MethodHandle" ∧ yL_lapse.cls ≠ "java/lang/invoke/VarHandle" ∧ (parseMethodDescriptor yL_lapse.desc).map (fun d => d.parameters.length) = some 4 := ⟨tb_in 634 (by decide +kernel) rfl, tb_in 633 (by decide +kernel) rfl, tb_in 0 (by decide +kernel) rfl, by decide, by decide, by decide +kernel⟩
theorem LC_lapse {l : Launch} {G : WG} {b0 b L : Nat} {xs : Nat → Int32} {nc ns i : Nat} {μ : Mem} (hL : L ≤ 2048) (hA : ∀ q, AG G q → AB b0 q) (hi : i + 4 ≤ L) (hn : nc + 1 ≤ room_1.cells ∧ ns + 6 ≤ room_1.slots) {d2 d3 : Nat} {k r : Int32} {μ1 μ2 : Mem} (hd : d2 ≤ 11 ∧ d3 ≤ 11) (h1 : CtW l G 11 yL_lapse cL_lapse 5 hh_lapse [.ref (adr G 0 0 0), .int (xs (i + 1)), .int (xs (i + 2)), .ref (adr G 21 0 0)] μ k μ1) (h2 : Ct l G d2 yX4_lapse cX4_lapse 4 (some .int) [.ref (adr G 15 0 0), .int (xs (i + 1)), .int (xs (i + 2))] μ1 (some (.int r)) μ2) (h3 : Ct l G d3 yX4_thrown cX4_thrown 1 (some .int) [.ref (adr G 15 0 0)] μ2 (some (.int k)) μ2) (hr : k = 0 → μ2.2 1 = r.toInt64) (kk : JL l G b0 b L xs (nc + 1) (ns + 6) (Rep G μ2) 1726 (lvC G b i) []) : JL l G b0 b L xs nc ns (Rep G μ) 696 (lvC G b i) [] := by
  refine J_aload_n dL_law_696 rfl ?_
  refine J_aload_n dL_law_697 rfl ?_
  refine J_iload dL_law_698 rfl ?_
  refine J_iconstN 1 dL_law_700 rfl ?_
  refine J_iaddN dL_law_701 ?_
  refine L_sld (i := i + 1) hL (by omega) dL_law_702 ?_
  refine J_aload_n dL_law_703 rfl ?_
  refine J_iload dL_law_704 rfl ?_
  refine J_iconstN 2 dL_law_706 rfl ?_
  refine J_iaddN dL_law_707 ?_
  refine L_sld (i := i + 2) hL (by omega) dL_law_708 ?_
  refine J_aload_n dL_law_709 rfl ?_
  refine L_callW (As := [.ref (adr G 0 0 0), .int (xs (i + 1)), .int (xs (i + 2)), .ref (adr G 21 0 0)]) (rest := []) hA hn h1 mkw_lapse ml_L_125 (by decide) rfl (Nat.le_of_ble_eq_true rfl) dL_law_710 ?_
  refine J_istore dL_law_713 (by decide) rfl ?_
  refine J_aload_n dL_law_715 rfl ?_
  refine J_aload_n dL_law_716 rfl ?_
  refine J_iload dL_law_717 rfl ?_
  refine J_iconstN 1 dL_law_719 rfl ?_
  refine J_iaddN dL_law_720 ?_
  refine L_sld (i := i + 1) hL (by omega) dL_law_721 ?_
  refine J_aload_n dL_law_722 rfl ?_
  refine J_iload dL_law_723 rfl ?_
  refine J_iconstN 2 dL_law_725 rfl ?_
  refine J_iaddN dL_law_726 ?_
  refine L_sld (i := i + 2) hL (by omega) dL_law_727 ?_
  refine L_callV (As := [.int (xs (i + 1)), .int (xs (i + 2))]) (rest := []) hA hn h2 mk_X4_lapse ml_L_127 ⟨hd.1, by decide⟩ dm_15 rfl rfl rfl (Nat.le_of_ble_eq_true rfl) dL_law_728 ?_
  refine J_istore dL_law_731 (by decide) rfl ?_
  refine J_aload_n dL_law_733 rfl ?_
  refine L_callV (As := []) (rest := []) hA hn h3 mk_X4_thrown ml_L_98 ⟨hd.2, by decide⟩ dm_15 rfl rfl rfl (Nat.le_of_ble_eq_true rfl) dL_law_734 ?_
  refine J_iload dL_law_737 rfl ?_
  refine J_icmp_eq (tgt := 744) dL_law_739 (by decide) (fun _ => ?_) (fun h => absurd rfl h)
  refine J_iload dL_law_744 rfl ?_
  refine J_if_ne (tgt := 761) dL_law_746 (by decide) (fun _ => ?_) (fun hk => ?_)
  · refine J_goto (tgt := 1726) dL_law_761 (by decide) ?_
    exact J_lv [0, 1, 2, 3, 4] rfl kk
  · refine J_aload_n dL_law_749 rfl ?_
    refine J_iconstN 0 dL_law_750 rfl ?_
    refine L_lald dL_law_751 ?_
    refine J_iload dL_law_752 rfl ?_
    refine J_i2l dL_law_754 ?_
    refine J_lcmp dL_law_755 ?_
    refine J_if_eq (tgt := 761) dL_law_756 (by decide) (fun _ => ?_) (fun h => absurd ((lg_cmp_eq _ _).mpr (hr hk)) h)
    refine J_goto (tgt := 1726) dL_law_761 (by decide) ?_
    exact J_lv [0, 1, 2, 3, 4] rfl kk
theorem mkw_pass : Cond.codeWith yL_pass cL_pass 4 (some .int) hh_pass ∈ UW ∧ Cond.static yL_pass ∈ UW ∧ Cond.initialized yL_pass.cls ∈ UW ∧ yL_pass.cls ≠ "java/lang/invoke/MethodHandle" ∧ yL_pass.cls ≠ "java/lang/invoke/VarHandle" ∧ (parseMethodDescriptor yL_pass.desc).map (fun d => d.parameters.length) = some 3 := ⟨tb_in 646 (by decide +kernel) rfl, tb_in 645 (by decide +kernel) rfl, tb_in 0 (by decide +kernel) rfl, by decide, by decide, by decide +kernel⟩
theorem LC_pass {l : Launch} {G : WG} {b0 b L : Nat} {xs : Nat → Int32} {nc ns i : Nat} {μ : Mem} (hL : L ≤ 2048) (hA : ∀ q, AG G q → AB b0 q) (hi : i + 4 ≤ L) (hn : nc + 1 ≤ room_1.cells ∧ ns + 6 ≤ room_1.slots) {d2 d3 : Nat} {k r : Int32} {μ1 μ2 : Mem} (hd : d2 ≤ 11 ∧ d3 ≤ 11) (h1 : CtW l G 11 yL_pass cL_pass 4 hh_pass [.ref (adr G 0 0 0), .int (xs (i + 1)), .ref (adr G 21 0 0)] μ k μ1) (h2 : Ct l G d2 yX4_pass cX4_pass 2 (some .int) [.ref (adr G 15 0 0), .int (xs (i + 1))] μ1 (some (.int r)) μ2) (h3 : Ct l G d3 yX4_thrown cX4_thrown 1 (some .int) [.ref (adr G 15 0 0)] μ2 (some (.int k)) μ2) (hr : k = 0 → μ2.2 1 = r.toInt64) (kk : JL l G b0 b L xs (nc + 1) (ns + 6) (Rep G μ2) 1726 (lvC G b i) []) : JL l G b0 b L xs nc ns (Rep G μ) 764 (lvC G b i) [] := by
  refine J_aload_n dL_law_764 rfl ?_
  refine J_aload_n dL_law_765 rfl ?_
  refine J_iload dL_law_766 rfl ?_
  refine J_iconstN 1 dL_law_768 rfl ?_
  refine J_iaddN dL_law_769 ?_
  refine L_sld (i := i + 1) hL (by omega) dL_law_770 ?_
  refine J_aload_n dL_law_771 rfl ?_
  refine L_callW (As := [.ref (adr G 0 0 0), .int (xs (i + 1)), .ref (adr G 21 0 0)]) (rest := []) hA hn h1 mkw_pass ml_L_128 (by decide) rfl (Nat.le_of_ble_eq_true rfl) dL_law_772 ?_
  refine J_istore dL_law_775 (by decide) rfl ?_
  refine J_aload_n dL_law_777 rfl ?_
  refine J_aload_n dL_law_778 rfl ?_
  refine J_iload dL_law_779 rfl ?_
  refine J_iconstN 1 dL_law_781 rfl ?_
  refine J_iaddN dL_law_782 ?_
  refine L_sld (i := i + 1) hL (by omega) dL_law_783 ?_
  refine L_callV (As := [.int (xs (i + 1))]) (rest := []) hA hn h2 mk_X4_pass ml_L_130 ⟨hd.1, by decide⟩ dm_15 rfl rfl rfl (Nat.le_of_ble_eq_true rfl) dL_law_784 ?_
  refine J_istore dL_law_787 (by decide) rfl ?_
  refine J_aload_n dL_law_789 rfl ?_
  refine L_callV (As := []) (rest := []) hA hn h3 mk_X4_thrown ml_L_98 ⟨hd.2, by decide⟩ dm_15 rfl rfl rfl (Nat.le_of_ble_eq_true rfl) dL_law_790 ?_
  refine J_iload dL_law_793 rfl ?_
  refine J_icmp_eq (tgt := 800) dL_law_795 (by decide) (fun _ => ?_) (fun h => absurd rfl h)
  refine J_iload dL_law_800 rfl ?_
  refine J_if_ne (tgt := 817) dL_law_802 (by decide) (fun _ => ?_) (fun hk => ?_)
  · refine J_goto (tgt := 1726) dL_law_817 (by decide) ?_
    exact J_lv [0, 1, 2, 3, 4] rfl kk
  · refine J_aload_n dL_law_805 rfl ?_
    refine J_iconstN 0 dL_law_806 rfl ?_
    refine L_lald dL_law_807 ?_
    refine J_iload dL_law_808 rfl ?_
    refine J_i2l dL_law_810 ?_
    refine J_lcmp dL_law_811 ?_
    refine J_if_eq (tgt := 817) dL_law_812 (by decide) (fun _ => ?_) (fun h => absurd ((lg_cmp_eq _ _).mpr (hr hk)) h)
    refine J_goto (tgt := 1726) dL_law_817 (by decide) ?_
    exact J_lv [0, 1, 2, 3, 4] rfl kk
theorem mkw_append : Cond.codeWith yL_append cL_append 4 (some .int) hh_append ∈ UW ∧ Cond.static yL_append ∈ UW ∧ Cond.initialized yL_append.cls ∈ UW ∧ yL_append.cls ≠ "java/lang/invoke/MethodHandle" ∧ yL_append.cls ≠ "java/lang/invoke/VarHandle" ∧ (parseMethodDescriptor yL_append.desc).map (fun d => d.parameters.length) = some 3 := ⟨tb_in 663 (by decide +kernel) rfl, tb_in 662 (by decide +kernel) rfl, tb_in 0 (by decide +kernel) rfl, by decide, by decide, by decide +kernel⟩
theorem LC_append {l : Launch} {G : WG} {b0 b L : Nat} {xs : Nat → Int32} {nc ns i : Nat} {μ : Mem} (hL : L ≤ 2048) (hA : ∀ q, AG G q → AB b0 q) (hi : i + 4 ≤ L) (hn : nc + 1 ≤ room_1.cells ∧ ns + 6 ≤ room_1.slots) {d2 d3 : Nat} {k r : Int32} {μ1 μ2 : Mem} (hd : d2 ≤ 11 ∧ d3 ≤ 11) (h1 : CtW l G 11 yL_append cL_append 4 hh_append [.ref (adr G 0 0 0), .int (xs (i + 1)), .ref (adr G 21 0 0)] μ k μ1) (h2 : Ct l G d2 yX4_append cX4_append 2 (some .int) [.ref (adr G 15 0 0), .int (xs (i + 1))] μ1 (some (.int r)) μ2) (h3 : Ct l G d3 yX4_thrown cX4_thrown 1 (some .int) [.ref (adr G 15 0 0)] μ2 (some (.int k)) μ2) (hr : k = 0 → μ2.2 1 = r.toInt64) (kk : JL l G b0 b L xs (nc + 1) (ns + 6) (Rep G μ2) 1726 (lvC G b i) []) : JL l G b0 b L xs nc ns (Rep G μ) 820 (lvC G b i) [] := by
  refine J_aload_n dL_law_820 rfl ?_
  refine J_aload_n dL_law_821 rfl ?_
  refine J_iload dL_law_822 rfl ?_
  refine J_iconstN 1 dL_law_824 rfl ?_
  refine J_iaddN dL_law_825 ?_
  refine L_sld (i := i + 1) hL (by omega) dL_law_826 ?_
  refine J_aload_n dL_law_827 rfl ?_
  refine L_callW (As := [.ref (adr G 0 0 0), .int (xs (i + 1)), .ref (adr G 21 0 0)]) (rest := []) hA hn h1 mkw_append ml_L_131 (by decide) rfl (Nat.le_of_ble_eq_true rfl) dL_law_828 ?_
  refine J_istore dL_law_831 (by decide) rfl ?_
  refine J_aload_n dL_law_833 rfl ?_
  refine J_aload_n dL_law_834 rfl ?_
  refine J_iload dL_law_835 rfl ?_
  refine J_iconstN 1 dL_law_837 rfl ?_
  refine J_iaddN dL_law_838 ?_
  refine L_sld (i := i + 1) hL (by omega) dL_law_839 ?_
  refine L_callV (As := [.int (xs (i + 1))]) (rest := []) hA hn h2 mk_X4_append ml_L_133 ⟨hd.1, by decide⟩ dm_15 rfl rfl rfl (Nat.le_of_ble_eq_true rfl) dL_law_840 ?_
  refine J_istore dL_law_843 (by decide) rfl ?_
  refine J_aload_n dL_law_845 rfl ?_
  refine L_callV (As := []) (rest := []) hA hn h3 mk_X4_thrown ml_L_98 ⟨hd.2, by decide⟩ dm_15 rfl rfl rfl (Nat.le_of_ble_eq_true rfl) dL_law_846 ?_
  refine J_iload dL_law_849 rfl ?_
  refine J_icmp_eq (tgt := 856) dL_law_851 (by decide) (fun _ => ?_) (fun h => absurd rfl h)
  refine J_iload dL_law_856 rfl ?_
  refine J_if_ne (tgt := 873) dL_law_858 (by decide) (fun _ => ?_) (fun hk => ?_)
  · refine J_goto (tgt := 1726) dL_law_873 (by decide) ?_
    exact J_lv [0, 1, 2, 3, 4] rfl kk
  · refine J_aload_n dL_law_861 rfl ?_
    refine J_iconstN 0 dL_law_862 rfl ?_
    refine L_lald dL_law_863 ?_
    refine J_iload dL_law_864 rfl ?_
    refine J_i2l dL_law_866 ?_
    refine J_lcmp dL_law_867 ?_
    refine J_if_eq (tgt := 873) dL_law_868 (by decide) (fun _ => ?_) (fun h => absurd ((lg_cmp_eq _ _).mpr (hr hk)) h)
    refine J_goto (tgt := 1726) dL_law_873 (by decide) ?_
    exact J_lv [0, 1, 2, 3, 4] rfl kk
theorem LC_clearBuffer {l : Launch} {G : WG} {b0 b L : Nat} {xs : Nat → Int32} {nc ns i : Nat} {μ : Mem} (hL : L ≤ 2048) (hA : ∀ q, AG G q → AB b0 q) (hi : i + 4 ≤ L) (hn : nc + 1 ≤ room_1.cells ∧ ns + 6 ≤ room_1.slots) {d1 d2 : Nat} {r : Int32} {μ1 μ2 : Mem} (hd : d1 ≤ 11 ∧ d2 ≤ 11) (h1 : Ct l G d1 yX3_clearBuffer cX3_clearBuffer 2 (some .int) [.ref (adr G 0 0 0)] μ (some (.int r)) μ1) (h2 : Ct l G d2 yX4_clearBuffer cX4_clearBuffer 2 (some .int) [.ref (adr G 15 0 0)] μ1 (some (.int r)) μ2) (kk : JL l G b0 b L xs nc ns (Rep G μ2) 1726 (lvC G b i) []) : JL l G b0 b L xs nc ns (Rep G μ) 876 (lvC G b i) [] := by
  refine J_aload_n dL_law_876 rfl ?_
  refine L_callV (As := []) (rest := []) hA (by omega) h1 mk_X3_clearBuffer ml_L_134 ⟨hd.1, by decide⟩ dm_0 rfl rfl rfl (Nat.le_of_ble_eq_true rfl) dL_law_877 ?_
  refine J_aload_n dL_law_880 rfl ?_
  refine L_callV (As := []) (rest := [.int r]) hA (by omega) h2 mk_X4_clearBuffer ml_L_137 ⟨hd.2, by decide⟩ dm_15 rfl rfl rfl (Nat.le_of_ble_eq_true rfl) dL_law_881 ?_
  refine J_icmp_eq (tgt := 1726) dL_law_884 (by decide) (fun _ => kk) (fun h => absurd rfl h)
theorem LC_firstError {l : Launch} {G : WG} {b0 b L : Nat} {xs : Nat → Int32} {nc ns i : Nat} {μ : Mem} (hL : L ≤ 2048) (hA : ∀ q, AG G q → AB b0 q) (hi : i + 4 ≤ L) (hn : nc + 1 ≤ room_1.cells ∧ ns + 6 ≤ room_1.slots) {d1 d2 : Nat} {r : Int32} {μ1 μ2 : Mem} (hd : d1 ≤ 11 ∧ d2 ≤ 11) (h1 : Ct l G d1 yX3_firstError cX3_firstError 1 (some .int) [.ref (adr G 0 0 0)] μ (some (.int r)) μ1) (h2 : Ct l G d2 yX4_firstError cX4_firstError 1 (some .int) [.ref (adr G 15 0 0)] μ1 (some (.int r)) μ2) (kk : JL l G b0 b L xs nc ns (Rep G μ2) 1726 (lvC G b i) []) : JL l G b0 b L xs nc ns (Rep G μ) 889 (lvC G b i) [] := by
  refine J_aload_n dL_law_889 rfl ?_
  refine L_callV (As := []) (rest := []) hA (by omega) h1 mk_X3_firstError ml_L_138 ⟨hd.1, by decide⟩ dm_0 rfl rfl rfl (Nat.le_of_ble_eq_true rfl) dL_law_890 ?_
  refine J_aload_n dL_law_893 rfl ?_
  refine L_callV (As := []) (rest := [.int r]) hA (by omega) h2 mk_X4_firstError ml_L_141 ⟨hd.2, by decide⟩ dm_15 rfl rfl rfl (Nat.le_of_ble_eq_true rfl) dL_law_894 ?_
  refine J_icmp_eq (tgt := 1726) dL_law_897 (by decide) (fun _ => kk) (fun h => absurd rfl h)
theorem mkw_run : Cond.codeWith yL_run cL_run 3 (some .int) hh_run ∈ UW ∧ Cond.static yL_run ∈ UW ∧ Cond.initialized yL_run.cls ∈ UW ∧ yL_run.cls ≠ "java/lang/invoke/MethodHandle" ∧ yL_run.cls ≠ "java/lang/invoke/VarHandle" ∧ (parseMethodDescriptor yL_run.desc).map (fun d => d.parameters.length) = some 2 := ⟨tb_in 675 (by decide +kernel) rfl, tb_in 674 (by decide +kernel) rfl, tb_in 0 (by decide +kernel) rfl, by decide, by decide, by decide +kernel⟩
theorem LC_run {l : Launch} {G : WG} {b0 b L : Nat} {xs : Nat → Int32} {nc ns i : Nat} {μ : Mem} (hL : L ≤ 2048) (hA : ∀ q, AG G q → AB b0 q) (hi : i + 4 ≤ L) (hn : nc + 1 ≤ room_1.cells ∧ ns + 6 ≤ room_1.slots) {d2 d3 : Nat} {k r : Int32} {μ1 μ2 : Mem} (hd : d2 ≤ 11 ∧ d3 ≤ 11) (h1 : CtW l G 11 yL_run cL_run 3 hh_run [.ref (adr G 0 0 0), .ref (adr G 21 0 0)] μ k μ1) (h2 : Ct l G d2 yX4_run cX4_run 3 (some .int) [.ref (adr G 15 0 0)] μ1 (some (.int r)) μ2) (h3 : Ct l G d3 yX4_thrown cX4_thrown 1 (some .int) [.ref (adr G 15 0 0)] μ2 (some (.int k)) μ2) (hr : k = 0 → μ2.2 1 = r.toInt64) (kk : JL l G b0 b L xs (nc + 1) (ns + 6) (Rep G μ2) 1726 (lvC G b i) []) : JL l G b0 b L xs nc ns (Rep G μ) 902 (lvC G b i) [] := by
  refine J_aload_n dL_law_902 rfl ?_
  refine J_aload_n dL_law_903 rfl ?_
  refine L_callW (As := [.ref (adr G 0 0 0), .ref (adr G 21 0 0)]) (rest := []) hA hn h1 mkw_run ml_L_142 (by decide) rfl (Nat.le_of_ble_eq_true rfl) dL_law_904 ?_
  refine J_istore dL_law_907 (by decide) rfl ?_
  refine J_aload_n dL_law_909 rfl ?_
  refine L_callV (As := []) (rest := []) hA hn h2 mk_X4_run ml_L_144 ⟨hd.1, by decide⟩ dm_15 rfl rfl rfl (Nat.le_of_ble_eq_true rfl) dL_law_910 ?_
  refine J_istore dL_law_913 (by decide) rfl ?_
  refine J_aload_n dL_law_915 rfl ?_
  refine L_callV (As := []) (rest := []) hA hn h3 mk_X4_thrown ml_L_98 ⟨hd.2, by decide⟩ dm_15 rfl rfl rfl (Nat.le_of_ble_eq_true rfl) dL_law_916 ?_
  refine J_iload dL_law_919 rfl ?_
  refine J_icmp_eq (tgt := 926) dL_law_921 (by decide) (fun _ => ?_) (fun h => absurd rfl h)
  refine J_iload dL_law_926 rfl ?_
  refine J_if_ne (tgt := 943) dL_law_928 (by decide) (fun _ => ?_) (fun hk => ?_)
  · refine J_goto (tgt := 1726) dL_law_943 (by decide) ?_
    exact J_lv [0, 1, 2, 3, 4] rfl kk
  · refine J_aload_n dL_law_931 rfl ?_
    refine J_iconstN 0 dL_law_932 rfl ?_
    refine L_lald dL_law_933 ?_
    refine J_iload dL_law_934 rfl ?_
    refine J_i2l dL_law_936 ?_
    refine J_lcmp dL_law_937 ?_
    refine J_if_eq (tgt := 943) dL_law_938 (by decide) (fun _ => ?_) (fun h => absurd ((lg_cmp_eq _ _).mpr (hr hk)) h)
    refine J_goto (tgt := 1726) dL_law_943 (by decide) ?_
    exact J_lv [0, 1, 2, 3, 4] rfl kk
theorem mkw_undo : Cond.codeWith yL_undo cL_undo 3 (some .int) hh_undo ∈ UW ∧ Cond.static yL_undo ∈ UW ∧ Cond.initialized yL_undo.cls ∈ UW ∧ yL_undo.cls ≠ "java/lang/invoke/MethodHandle" ∧ yL_undo.cls ≠ "java/lang/invoke/VarHandle" ∧ (parseMethodDescriptor yL_undo.desc).map (fun d => d.parameters.length) = some 2 := ⟨tb_in 695 (by decide +kernel) rfl, tb_in 694 (by decide +kernel) rfl, tb_in 0 (by decide +kernel) rfl, by decide, by decide, by decide +kernel⟩
theorem LC_undo {l : Launch} {G : WG} {b0 b L : Nat} {xs : Nat → Int32} {nc ns i : Nat} {μ : Mem} (hL : L ≤ 2048) (hA : ∀ q, AG G q → AB b0 q) (hi : i + 4 ≤ L) (hn : nc + 1 ≤ room_1.cells ∧ ns + 6 ≤ room_1.slots) {d2 d3 : Nat} {k r : Int32} {μ1 μ2 : Mem} (hd : d2 ≤ 11 ∧ d3 ≤ 11) (h1 : CtW l G 11 yL_undo cL_undo 3 hh_undo [.ref (adr G 0 0 0), .ref (adr G 21 0 0)] μ k μ1) (h2 : Ct l G d2 yX4_undo cX4_undo 2 (some .int) [.ref (adr G 15 0 0)] μ1 (some (.int r)) μ2) (h3 : Ct l G d3 yX4_thrown cX4_thrown 1 (some .int) [.ref (adr G 15 0 0)] μ2 (some (.int k)) μ2) (hr : k = 0 → μ2.2 1 = r.toInt64) (kk : JL l G b0 b L xs (nc + 1) (ns + 6) (Rep G μ2) 1726 (lvC G b i) []) : JL l G b0 b L xs nc ns (Rep G μ) 946 (lvC G b i) [] := by
  refine J_aload_n dL_law_946 rfl ?_
  refine J_aload_n dL_law_947 rfl ?_
  refine L_callW (As := [.ref (adr G 0 0 0), .ref (adr G 21 0 0)]) (rest := []) hA hn h1 mkw_undo ml_L_145 (by decide) rfl (Nat.le_of_ble_eq_true rfl) dL_law_948 ?_
  refine J_istore dL_law_951 (by decide) rfl ?_
  refine J_aload_n dL_law_953 rfl ?_
  refine L_callV (As := []) (rest := []) hA hn h2 mk_X4_undo ml_L_147 ⟨hd.1, by decide⟩ dm_15 rfl rfl rfl (Nat.le_of_ble_eq_true rfl) dL_law_954 ?_
  refine J_istore dL_law_957 (by decide) rfl ?_
  refine J_aload_n dL_law_959 rfl ?_
  refine L_callV (As := []) (rest := []) hA hn h3 mk_X4_thrown ml_L_98 ⟨hd.2, by decide⟩ dm_15 rfl rfl rfl (Nat.le_of_ble_eq_true rfl) dL_law_960 ?_
  refine J_iload dL_law_963 rfl ?_
  refine J_icmp_eq (tgt := 970) dL_law_965 (by decide) (fun _ => ?_) (fun h => absurd rfl h)
  refine J_iload dL_law_970 rfl ?_
  refine J_if_ne (tgt := 987) dL_law_972 (by decide) (fun _ => ?_) (fun hk => ?_)
  · refine J_goto (tgt := 1726) dL_law_987 (by decide) ?_
    exact J_lv [0, 1, 2, 3, 4] rfl kk
  · refine J_aload_n dL_law_975 rfl ?_
    refine J_iconstN 0 dL_law_976 rfl ?_
    refine L_lald dL_law_977 ?_
    refine J_iload dL_law_978 rfl ?_
    refine J_i2l dL_law_980 ?_
    refine J_lcmp dL_law_981 ?_
    refine J_if_eq (tgt := 987) dL_law_982 (by decide) (fun _ => ?_) (fun h => absurd ((lg_cmp_eq _ _).mpr (hr hk)) h)
    refine J_goto (tgt := 1726) dL_law_987 (by decide) ?_
    exact J_lv [0, 1, 2, 3, 4] rfl kk
theorem mkw_phase : Cond.codeWith yL_phase cL_phase 5 (some .int) hh_phase ∈ UW ∧ Cond.static yL_phase ∈ UW ∧ Cond.initialized yL_phase.cls ∈ UW ∧ yL_phase.cls ≠ "java/lang/invoke/MethodHandle" ∧ yL_phase.cls ≠ "java/lang/invoke/VarHandle" ∧ (parseMethodDescriptor yL_phase.desc).map (fun d => d.parameters.length) = some 4 := ⟨tb_in 703 (by decide +kernel) rfl, tb_in 702 (by decide +kernel) rfl, tb_in 0 (by decide +kernel) rfl, by decide, by decide, by decide +kernel⟩
theorem LC_phase {l : Launch} {G : WG} {b0 b L : Nat} {xs : Nat → Int32} {nc ns i : Nat} {μ : Mem} (hL : L ≤ 2048) (hA : ∀ q, AG G q → AB b0 q) (hi : i + 4 ≤ L) (hn : nc + 1 ≤ room_1.cells ∧ ns + 6 ≤ room_1.slots) {d2 d3 : Nat} {k r : Int32} {μ1 μ2 : Mem} (hd : d2 ≤ 11 ∧ d3 ≤ 11) (h1 : CtW l G 11 yL_phase cL_phase 5 hh_phase [.ref (adr G 0 0 0), .int (xs (i + 1)), .int (xs (i + 2)), .ref (adr G 21 0 0)] μ k μ1) (h2 : Ct l G d2 yX4_phase cX4_phase 3 (some .int) [.ref (adr G 15 0 0), .int (xs (i + 1)), .int (xs (i + 2))] μ1 (some (.int r)) μ2) (h3 : Ct l G d3 yX4_thrown cX4_thrown 1 (some .int) [.ref (adr G 15 0 0)] μ2 (some (.int k)) μ2) (hr : k = 0 → μ2.2 1 = r.toInt64) (kk : JL l G b0 b L xs (nc + 1) (ns + 6) (Rep G μ2) 1726 (lvC G b i) []) : JL l G b0 b L xs nc ns (Rep G μ) 990 (lvC G b i) [] := by
  refine J_aload_n dL_law_990 rfl ?_
  refine J_aload_n dL_law_991 rfl ?_
  refine J_iload dL_law_992 rfl ?_
  refine J_iconstN 1 dL_law_994 rfl ?_
  refine J_iaddN dL_law_995 ?_
  refine L_sld (i := i + 1) hL (by omega) dL_law_996 ?_
  refine J_aload_n dL_law_997 rfl ?_
  refine J_iload dL_law_998 rfl ?_
  refine J_iconstN 2 dL_law_1000 rfl ?_
  refine J_iaddN dL_law_1001 ?_
  refine L_sld (i := i + 2) hL (by omega) dL_law_1002 ?_
  refine J_aload_n dL_law_1003 rfl ?_
  refine L_callW (As := [.ref (adr G 0 0 0), .int (xs (i + 1)), .int (xs (i + 2)), .ref (adr G 21 0 0)]) (rest := []) hA hn h1 mkw_phase ml_L_148 (by decide) rfl (Nat.le_of_ble_eq_true rfl) dL_law_1004 ?_
  refine J_istore dL_law_1007 (by decide) rfl ?_
  refine J_aload_n dL_law_1009 rfl ?_
  refine J_aload_n dL_law_1010 rfl ?_
  refine J_iload dL_law_1011 rfl ?_
  refine J_iconstN 1 dL_law_1013 rfl ?_
  refine J_iaddN dL_law_1014 ?_
  refine L_sld (i := i + 1) hL (by omega) dL_law_1015 ?_
  refine J_aload_n dL_law_1016 rfl ?_
  refine J_iload dL_law_1017 rfl ?_
  refine J_iconstN 2 dL_law_1019 rfl ?_
  refine J_iaddN dL_law_1020 ?_
  refine L_sld (i := i + 2) hL (by omega) dL_law_1021 ?_
  refine L_callV (As := [.int (xs (i + 1)), .int (xs (i + 2))]) (rest := []) hA hn h2 mk_X4_phase ml_L_150 ⟨hd.1, by decide⟩ dm_15 rfl rfl rfl (Nat.le_of_ble_eq_true rfl) dL_law_1022 ?_
  refine J_istore dL_law_1025 (by decide) rfl ?_
  refine J_aload_n dL_law_1027 rfl ?_
  refine L_callV (As := []) (rest := []) hA hn h3 mk_X4_thrown ml_L_98 ⟨hd.2, by decide⟩ dm_15 rfl rfl rfl (Nat.le_of_ble_eq_true rfl) dL_law_1028 ?_
  refine J_iload dL_law_1031 rfl ?_
  refine J_icmp_eq (tgt := 1038) dL_law_1033 (by decide) (fun _ => ?_) (fun h => absurd rfl h)
  refine J_iload dL_law_1038 rfl ?_
  refine J_if_ne (tgt := 1055) dL_law_1040 (by decide) (fun _ => ?_) (fun hk => ?_)
  · refine J_goto (tgt := 1726) dL_law_1055 (by decide) ?_
    exact J_lv [0, 1, 2, 3, 4] rfl kk
  · refine J_aload_n dL_law_1043 rfl ?_
    refine J_iconstN 0 dL_law_1044 rfl ?_
    refine L_lald dL_law_1045 ?_
    refine J_iload dL_law_1046 rfl ?_
    refine J_i2l dL_law_1048 ?_
    refine J_lcmp dL_law_1049 ?_
    refine J_if_eq (tgt := 1055) dL_law_1050 (by decide) (fun _ => ?_) (fun h => absurd ((lg_cmp_eq _ _).mpr (hr hk)) h)
    refine J_goto (tgt := 1726) dL_law_1055 (by decide) ?_
    exact J_lv [0, 1, 2, 3, 4] rfl kk
theorem mkw_use : Cond.codeWith yL_use cL_use 6 (some .int) hh_use ∈ UW ∧ Cond.static yL_use ∈ UW ∧ Cond.initialized yL_use.cls ∈ UW ∧ yL_use.cls ≠ "java/lang/invoke/MethodHandle" ∧ yL_use.cls ≠ "java/lang/invoke/VarHandle" ∧ (parseMethodDescriptor yL_use.desc).map (fun d => d.parameters.length) = some 5 := ⟨tb_in 707 (by decide +kernel) rfl, tb_in 706 (by decide +kernel) rfl, tb_in 0 (by decide +kernel) rfl, by decide, by decide, by decide +kernel⟩
theorem LC_use {l : Launch} {G : WG} {b0 b L : Nat} {xs : Nat → Int32} {nc ns i : Nat} {μ : Mem} (hL : L ≤ 2048) (hA : ∀ q, AG G q → AB b0 q) (hi : i + 4 ≤ L) (hn : nc + 1 ≤ room_1.cells ∧ ns + 6 ≤ room_1.slots) {d2 d3 : Nat} {k r : Int32} {μ1 μ2 : Mem} (hd : d2 ≤ 11 ∧ d3 ≤ 11) (h1 : CtW l G 11 yL_use cL_use 6 hh_use [.ref (adr G 0 0 0), .int (xs (i + 1)), .int (xs (i + 2)), .int (xs (i + 3)), .ref (adr G 21 0 0)] μ k μ1) (h2 : Ct l G d2 yX4_use cX4_use 4 (some .int) [.ref (adr G 15 0 0), .int (xs (i + 1)), .int (xs (i + 2)), .int (xs (i + 3))] μ1 (some (.int r)) μ2) (h3 : Ct l G d3 yX4_thrown cX4_thrown 1 (some .int) [.ref (adr G 15 0 0)] μ2 (some (.int k)) μ2) (hr : k = 0 → μ2.2 1 = r.toInt64) (kk : JL l G b0 b L xs (nc + 1) (ns + 6) (Rep G μ2) 1726 (lvC G b i) []) : JL l G b0 b L xs nc ns (Rep G μ) 1058 (lvC G b i) [] := by
  refine J_aload_n dL_law_1058 rfl ?_
  refine J_aload_n dL_law_1059 rfl ?_
  refine J_iload dL_law_1060 rfl ?_
  refine J_iconstN 1 dL_law_1062 rfl ?_
  refine J_iaddN dL_law_1063 ?_
  refine L_sld (i := i + 1) hL (by omega) dL_law_1064 ?_
  refine J_aload_n dL_law_1065 rfl ?_
  refine J_iload dL_law_1066 rfl ?_
  refine J_iconstN 2 dL_law_1068 rfl ?_
  refine J_iaddN dL_law_1069 ?_
  refine L_sld (i := i + 2) hL (by omega) dL_law_1070 ?_
  refine J_aload_n dL_law_1071 rfl ?_
  refine J_iload dL_law_1072 rfl ?_
  refine J_iconstN 3 dL_law_1074 rfl ?_
  refine J_iaddN dL_law_1075 ?_
  refine L_sld (i := i + 3) hL (by omega) dL_law_1076 ?_
  refine J_aload_n dL_law_1077 rfl ?_
  refine L_callW (As := [.ref (adr G 0 0 0), .int (xs (i + 1)), .int (xs (i + 2)), .int (xs (i + 3)), .ref (adr G 21 0 0)]) (rest := []) hA hn h1 mkw_use ml_L_151 (by decide) rfl (Nat.le_of_ble_eq_true rfl) dL_law_1078 ?_
  refine J_istore dL_law_1081 (by decide) rfl ?_
  refine J_aload_n dL_law_1083 rfl ?_
  refine J_aload_n dL_law_1084 rfl ?_
  refine J_iload dL_law_1085 rfl ?_
  refine J_iconstN 1 dL_law_1087 rfl ?_
  refine J_iaddN dL_law_1088 ?_
  refine L_sld (i := i + 1) hL (by omega) dL_law_1089 ?_
  refine J_aload_n dL_law_1090 rfl ?_
  refine J_iload dL_law_1091 rfl ?_
  refine J_iconstN 2 dL_law_1093 rfl ?_
  refine J_iaddN dL_law_1094 ?_
  refine L_sld (i := i + 2) hL (by omega) dL_law_1095 ?_
  refine J_aload_n dL_law_1096 rfl ?_
  refine J_iload dL_law_1097 rfl ?_
  refine J_iconstN 3 dL_law_1099 rfl ?_
  refine J_iaddN dL_law_1100 ?_
  refine L_sld (i := i + 3) hL (by omega) dL_law_1101 ?_
  refine L_callV (As := [.int (xs (i + 1)), .int (xs (i + 2)), .int (xs (i + 3))]) (rest := []) hA hn h2 mk_X4_use ml_L_153 ⟨hd.1, by decide⟩ dm_15 rfl rfl rfl (Nat.le_of_ble_eq_true rfl) dL_law_1102 ?_
  refine J_istore dL_law_1105 (by decide) rfl ?_
  refine J_aload_n dL_law_1107 rfl ?_
  refine L_callV (As := []) (rest := []) hA hn h3 mk_X4_thrown ml_L_98 ⟨hd.2, by decide⟩ dm_15 rfl rfl rfl (Nat.le_of_ble_eq_true rfl) dL_law_1108 ?_
  refine J_iload dL_law_1111 rfl ?_
  refine J_icmp_eq (tgt := 1118) dL_law_1113 (by decide) (fun _ => ?_) (fun h => absurd rfl h)
  refine J_iload dL_law_1118 rfl ?_
  refine J_if_ne (tgt := 1135) dL_law_1120 (by decide) (fun _ => ?_) (fun hk => ?_)
  · refine J_goto (tgt := 1726) dL_law_1135 (by decide) ?_
    exact J_lv [0, 1, 2, 3, 4] rfl kk
  · refine J_aload_n dL_law_1123 rfl ?_
    refine J_iconstN 0 dL_law_1124 rfl ?_
    refine L_lald dL_law_1125 ?_
    refine J_iload dL_law_1126 rfl ?_
    refine J_i2l dL_law_1128 ?_
    refine J_lcmp dL_law_1129 ?_
    refine J_if_eq (tgt := 1135) dL_law_1130 (by decide) (fun _ => ?_) (fun h => absurd ((lg_cmp_eq _ _).mpr (hr hk)) h)
    refine J_goto (tgt := 1726) dL_law_1135 (by decide) ?_
    exact J_lv [0, 1, 2, 3, 4] rfl kk
theorem mkw_instalment : Cond.codeWith yL_instalment cL_instalment 6 (some .int) hh_instalment ∈ UW ∧ Cond.static yL_instalment ∈ UW ∧ Cond.initialized yL_instalment.cls ∈ UW ∧ yL_instalment.cls ≠ "java/lang/invoke/MethodHandle" ∧ yL_instalment.cls ≠ "java/lang/invoke/VarHandle" ∧ (parseMethodDescriptor yL_instalment.desc).map (fun d => d.parameters.length) = some 5 := ⟨tb_in 711 (by decide +kernel) rfl, tb_in 710 (by decide +kernel) rfl, tb_in 0 (by decide +kernel) rfl, by decide, by decide, by decide +kernel⟩
theorem LC_instalment {l : Launch} {G : WG} {b0 b L : Nat} {xs : Nat → Int32} {nc ns i : Nat} {μ : Mem} (hL : L ≤ 2048) (hA : ∀ q, AG G q → AB b0 q) (hi : i + 4 ≤ L) (hn : nc + 1 ≤ room_1.cells ∧ ns + 6 ≤ room_1.slots) {d2 d3 : Nat} {k r : Int32} {μ1 μ2 : Mem} (hd : d2 ≤ 11 ∧ d3 ≤ 11) (h1 : CtW l G 11 yL_instalment cL_instalment 6 hh_instalment [.ref (adr G 0 0 0), .int (xs (i + 1)), .int (xs (i + 2)), .int (xs (i + 3)), .ref (adr G 21 0 0)] μ k μ1) (h2 : Ct l G d2 yX4_instalment cX4_instalment 4 (some .int) [.ref (adr G 15 0 0), .int (xs (i + 1)), .int (xs (i + 2)), .int (xs (i + 3))] μ1 (some (.int r)) μ2) (h3 : Ct l G d3 yX4_thrown cX4_thrown 1 (some .int) [.ref (adr G 15 0 0)] μ2 (some (.int k)) μ2) (hr : k = 0 → μ2.2 1 = r.toInt64) (kk : JL l G b0 b L xs (nc + 1) (ns + 6) (Rep G μ2) 1726 (lvC G b i) []) : JL l G b0 b L xs nc ns (Rep G μ) 1138 (lvC G b i) [] := by
  refine J_aload_n dL_law_1138 rfl ?_
  refine J_aload_n dL_law_1139 rfl ?_
  refine J_iload dL_law_1140 rfl ?_
  refine J_iconstN 1 dL_law_1142 rfl ?_
  refine J_iaddN dL_law_1143 ?_
  refine L_sld (i := i + 1) hL (by omega) dL_law_1144 ?_
  refine J_aload_n dL_law_1145 rfl ?_
  refine J_iload dL_law_1146 rfl ?_
  refine J_iconstN 2 dL_law_1148 rfl ?_
  refine J_iaddN dL_law_1149 ?_
  refine L_sld (i := i + 2) hL (by omega) dL_law_1150 ?_
  refine J_aload_n dL_law_1151 rfl ?_
  refine J_iload dL_law_1152 rfl ?_
  refine J_iconstN 3 dL_law_1154 rfl ?_
  refine J_iaddN dL_law_1155 ?_
  refine L_sld (i := i + 3) hL (by omega) dL_law_1156 ?_
  refine J_aload_n dL_law_1157 rfl ?_
  refine L_callW (As := [.ref (adr G 0 0 0), .int (xs (i + 1)), .int (xs (i + 2)), .int (xs (i + 3)), .ref (adr G 21 0 0)]) (rest := []) hA hn h1 mkw_instalment ml_L_154 (by decide) rfl (Nat.le_of_ble_eq_true rfl) dL_law_1158 ?_
  refine J_istore dL_law_1161 (by decide) rfl ?_
  refine J_aload_n dL_law_1163 rfl ?_
  refine J_aload_n dL_law_1164 rfl ?_
  refine J_iload dL_law_1165 rfl ?_
  refine J_iconstN 1 dL_law_1167 rfl ?_
  refine J_iaddN dL_law_1168 ?_
  refine L_sld (i := i + 1) hL (by omega) dL_law_1169 ?_
  refine J_aload_n dL_law_1170 rfl ?_
  refine J_iload dL_law_1171 rfl ?_
  refine J_iconstN 2 dL_law_1173 rfl ?_
  refine J_iaddN dL_law_1174 ?_
  refine L_sld (i := i + 2) hL (by omega) dL_law_1175 ?_
  refine J_aload_n dL_law_1176 rfl ?_
  refine J_iload dL_law_1177 rfl ?_
  refine J_iconstN 3 dL_law_1179 rfl ?_
  refine J_iaddN dL_law_1180 ?_
  refine L_sld (i := i + 3) hL (by omega) dL_law_1181 ?_
  refine L_callV (As := [.int (xs (i + 1)), .int (xs (i + 2)), .int (xs (i + 3))]) (rest := []) hA hn h2 mk_X4_instalment ml_L_156 ⟨hd.1, by decide⟩ dm_15 rfl rfl rfl (Nat.le_of_ble_eq_true rfl) dL_law_1182 ?_
  refine J_istore dL_law_1185 (by decide) rfl ?_
  refine J_aload_n dL_law_1187 rfl ?_
  refine L_callV (As := []) (rest := []) hA hn h3 mk_X4_thrown ml_L_98 ⟨hd.2, by decide⟩ dm_15 rfl rfl rfl (Nat.le_of_ble_eq_true rfl) dL_law_1188 ?_
  refine J_iload dL_law_1191 rfl ?_
  refine J_icmp_eq (tgt := 1198) dL_law_1193 (by decide) (fun _ => ?_) (fun h => absurd rfl h)
  refine J_iload dL_law_1198 rfl ?_
  refine J_if_ne (tgt := 1215) dL_law_1200 (by decide) (fun _ => ?_) (fun hk => ?_)
  · refine J_goto (tgt := 1726) dL_law_1215 (by decide) ?_
    exact J_lv [0, 1, 2, 3, 4] rfl kk
  · refine J_aload_n dL_law_1203 rfl ?_
    refine J_iconstN 0 dL_law_1204 rfl ?_
    refine L_lald dL_law_1205 ?_
    refine J_iload dL_law_1206 rfl ?_
    refine J_i2l dL_law_1208 ?_
    refine J_lcmp dL_law_1209 ?_
    refine J_if_eq (tgt := 1215) dL_law_1210 (by decide) (fun _ => ?_) (fun h => absurd ((lg_cmp_eq _ _).mpr (hr hk)) h)
    refine J_goto (tgt := 1726) dL_law_1215 (by decide) ?_
    exact J_lv [0, 1, 2, 3, 4] rfl kk
theorem mkw_count : Cond.codeWith yL_count cL_count 4 (some .int) hh_count ∈ UW ∧ Cond.static yL_count ∈ UW ∧ Cond.initialized yL_count.cls ∈ UW ∧ yL_count.cls ≠ "java/lang/invoke/MethodHandle" ∧ yL_count.cls ≠ "java/lang/invoke/VarHandle" ∧ (parseMethodDescriptor yL_count.desc).map (fun d => d.parameters.length) = some 3 := ⟨tb_in 715 (by decide +kernel) rfl, tb_in 714 (by decide +kernel) rfl, tb_in 0 (by decide +kernel) rfl, by decide, by decide, by decide +kernel⟩
theorem LC_count {l : Launch} {G : WG} {b0 b L : Nat} {xs : Nat → Int32} {nc ns i : Nat} {μ : Mem} (hL : L ≤ 2048) (hA : ∀ q, AG G q → AB b0 q) (hi : i + 4 ≤ L) (hn : nc + 1 ≤ room_1.cells ∧ ns + 6 ≤ room_1.slots) {d2 d3 : Nat} {k r : Int32} {μ1 μ2 : Mem} (hd : d2 ≤ 11 ∧ d3 ≤ 11) (h1 : CtW l G 11 yL_count cL_count 4 hh_count [.ref (adr G 0 0 0), .int (xs (i + 1)), .ref (adr G 21 0 0)] μ k μ1) (h2 : Ct l G d2 yX4_count cX4_count 2 (some .int) [.ref (adr G 15 0 0), .int (xs (i + 1))] μ1 (some (.int r)) μ2) (h3 : Ct l G d3 yX4_thrown cX4_thrown 1 (some .int) [.ref (adr G 15 0 0)] μ2 (some (.int k)) μ2) (hr : k = 0 → μ2.2 1 = r.toInt64) (kk : JL l G b0 b L xs (nc + 1) (ns + 6) (Rep G μ2) 1726 (lvC G b i) []) : JL l G b0 b L xs nc ns (Rep G μ) 1218 (lvC G b i) [] := by
  refine J_aload_n dL_law_1218 rfl ?_
  refine J_aload_n dL_law_1219 rfl ?_
  refine J_iload dL_law_1220 rfl ?_
  refine J_iconstN 1 dL_law_1222 rfl ?_
  refine J_iaddN dL_law_1223 ?_
  refine L_sld (i := i + 1) hL (by omega) dL_law_1224 ?_
  refine J_aload_n dL_law_1225 rfl ?_
  refine L_callW (As := [.ref (adr G 0 0 0), .int (xs (i + 1)), .ref (adr G 21 0 0)]) (rest := []) hA hn h1 mkw_count ml_L_157 (by decide) rfl (Nat.le_of_ble_eq_true rfl) dL_law_1226 ?_
  refine J_istore dL_law_1229 (by decide) rfl ?_
  refine J_aload_n dL_law_1231 rfl ?_
  refine J_aload_n dL_law_1232 rfl ?_
  refine J_iload dL_law_1233 rfl ?_
  refine J_iconstN 1 dL_law_1235 rfl ?_
  refine J_iaddN dL_law_1236 ?_
  refine L_sld (i := i + 1) hL (by omega) dL_law_1237 ?_
  refine L_callV (As := [.int (xs (i + 1))]) (rest := []) hA hn h2 mk_X4_count ml_L_159 ⟨hd.1, by decide⟩ dm_15 rfl rfl rfl (Nat.le_of_ble_eq_true rfl) dL_law_1238 ?_
  refine J_istore dL_law_1241 (by decide) rfl ?_
  refine J_aload_n dL_law_1243 rfl ?_
  refine L_callV (As := []) (rest := []) hA hn h3 mk_X4_thrown ml_L_98 ⟨hd.2, by decide⟩ dm_15 rfl rfl rfl (Nat.le_of_ble_eq_true rfl) dL_law_1244 ?_
  refine J_iload dL_law_1247 rfl ?_
  refine J_icmp_eq (tgt := 1254) dL_law_1249 (by decide) (fun _ => ?_) (fun h => absurd rfl h)
  refine J_iload dL_law_1254 rfl ?_
  refine J_if_ne (tgt := 1271) dL_law_1256 (by decide) (fun _ => ?_) (fun hk => ?_)
  · refine J_goto (tgt := 1726) dL_law_1271 (by decide) ?_
    exact J_lv [0, 1, 2, 3, 4] rfl kk
  · refine J_aload_n dL_law_1259 rfl ?_
    refine J_iconstN 0 dL_law_1260 rfl ?_
    refine L_lald dL_law_1261 ?_
    refine J_iload dL_law_1262 rfl ?_
    refine J_i2l dL_law_1264 ?_
    refine J_lcmp dL_law_1265 ?_
    refine J_if_eq (tgt := 1271) dL_law_1266 (by decide) (fun _ => ?_) (fun h => absurd ((lg_cmp_eq _ _).mpr (hr hk)) h)
    refine J_goto (tgt := 1726) dL_law_1271 (by decide) ?_
    exact J_lv [0, 1, 2, 3, 4] rfl kk
theorem mkw_setting : Cond.codeWith yL_setting cL_setting 4 (some .int) hh_setting ∈ UW ∧ Cond.static yL_setting ∈ UW ∧ Cond.initialized yL_setting.cls ∈ UW ∧ yL_setting.cls ≠ "java/lang/invoke/MethodHandle" ∧ yL_setting.cls ≠ "java/lang/invoke/VarHandle" ∧ (parseMethodDescriptor yL_setting.desc).map (fun d => d.parameters.length) = some 3 := ⟨tb_in 719 (by decide +kernel) rfl, tb_in 718 (by decide +kernel) rfl, tb_in 0 (by decide +kernel) rfl, by decide, by decide, by decide +kernel⟩
theorem LC_setting {l : Launch} {G : WG} {b0 b L : Nat} {xs : Nat → Int32} {nc ns i : Nat} {μ : Mem} (hL : L ≤ 2048) (hA : ∀ q, AG G q → AB b0 q) (hi : i + 4 ≤ L) (hn : nc + 1 ≤ room_1.cells ∧ ns + 6 ≤ room_1.slots) {d2 d3 : Nat} {k r : Int32} {μ1 μ2 : Mem} (hd : d2 ≤ 11 ∧ d3 ≤ 11) (h1 : CtW l G 11 yL_setting cL_setting 4 hh_setting [.ref (adr G 0 0 0), .int (xs (i + 1)), .ref (adr G 21 0 0)] μ k μ1) (h2 : Ct l G d2 yX4_setting cX4_setting 2 (some .int) [.ref (adr G 15 0 0), .int (xs (i + 1))] μ1 (some (.int r)) μ2) (h3 : Ct l G d3 yX4_thrown cX4_thrown 1 (some .int) [.ref (adr G 15 0 0)] μ2 (some (.int k)) μ2) (hr : k = 0 → μ2.2 1 = r.toInt64) (kk : JL l G b0 b L xs (nc + 1) (ns + 6) (Rep G μ2) 1726 (lvC G b i) []) : JL l G b0 b L xs nc ns (Rep G μ) 1274 (lvC G b i) [] := by
  refine J_aload_n dL_law_1274 rfl ?_
  refine J_aload_n dL_law_1275 rfl ?_
  refine J_iload dL_law_1276 rfl ?_
  refine J_iconstN 1 dL_law_1278 rfl ?_
  refine J_iaddN dL_law_1279 ?_
  refine L_sld (i := i + 1) hL (by omega) dL_law_1280 ?_
  refine J_aload_n dL_law_1281 rfl ?_
  refine L_callW (As := [.ref (adr G 0 0 0), .int (xs (i + 1)), .ref (adr G 21 0 0)]) (rest := []) hA hn h1 mkw_setting ml_L_160 (by decide) rfl (Nat.le_of_ble_eq_true rfl) dL_law_1282 ?_
  refine J_istore dL_law_1285 (by decide) rfl ?_
  refine J_aload_n dL_law_1287 rfl ?_
  refine J_aload_n dL_law_1288 rfl ?_
  refine J_iload dL_law_1289 rfl ?_
  refine J_iconstN 1 dL_law_1291 rfl ?_
  refine J_iaddN dL_law_1292 ?_
  refine L_sld (i := i + 1) hL (by omega) dL_law_1293 ?_
  refine L_callV (As := [.int (xs (i + 1))]) (rest := []) hA hn h2 mk_X4_setting ml_L_162 ⟨hd.1, by decide⟩ dm_15 rfl rfl rfl (Nat.le_of_ble_eq_true rfl) dL_law_1294 ?_
  refine J_istore dL_law_1297 (by decide) rfl ?_
  refine J_aload_n dL_law_1299 rfl ?_
  refine L_callV (As := []) (rest := []) hA hn h3 mk_X4_thrown ml_L_98 ⟨hd.2, by decide⟩ dm_15 rfl rfl rfl (Nat.le_of_ble_eq_true rfl) dL_law_1300 ?_
  refine J_iload dL_law_1303 rfl ?_
  refine J_icmp_eq (tgt := 1310) dL_law_1305 (by decide) (fun _ => ?_) (fun h => absurd rfl h)
  refine J_iload dL_law_1310 rfl ?_
  refine J_if_ne (tgt := 1327) dL_law_1312 (by decide) (fun _ => ?_) (fun hk => ?_)
  · refine J_goto (tgt := 1726) dL_law_1327 (by decide) ?_
    exact J_lv [0, 1, 2, 3, 4] rfl kk
  · refine J_aload_n dL_law_1315 rfl ?_
    refine J_iconstN 0 dL_law_1316 rfl ?_
    refine L_lald dL_law_1317 ?_
    refine J_iload dL_law_1318 rfl ?_
    refine J_i2l dL_law_1320 ?_
    refine J_lcmp dL_law_1321 ?_
    refine J_if_eq (tgt := 1327) dL_law_1322 (by decide) (fun _ => ?_) (fun h => absurd ((lg_cmp_eq _ _).mpr (hr hk)) h)
    refine J_goto (tgt := 1726) dL_law_1327 (by decide) ?_
    exact J_lv [0, 1, 2, 3, 4] rfl kk
theorem mkw_whyNot : Cond.codeWith yL_whyNot cL_whyNot 6 (some .int) hh_whyNot ∈ UW ∧ Cond.static yL_whyNot ∈ UW ∧ Cond.initialized yL_whyNot.cls ∈ UW ∧ yL_whyNot.cls ≠ "java/lang/invoke/MethodHandle" ∧ yL_whyNot.cls ≠ "java/lang/invoke/VarHandle" ∧ (parseMethodDescriptor yL_whyNot.desc).map (fun d => d.parameters.length) = some 5 := ⟨tb_in 726 (by decide +kernel) rfl, tb_in 725 (by decide +kernel) rfl, tb_in 0 (by decide +kernel) rfl, by decide, by decide, by decide +kernel⟩
theorem LC_whyNot {l : Launch} {G : WG} {b0 b L : Nat} {xs : Nat → Int32} {nc ns i : Nat} {μ : Mem} (hL : L ≤ 2048) (hA : ∀ q, AG G q → AB b0 q) (hi : i + 4 ≤ L) (hn : nc + 1 ≤ room_1.cells ∧ ns + 6 ≤ room_1.slots) {d2 d3 : Nat} {k r : Int32} {μ1 μ2 : Mem} (hd : d2 ≤ 11 ∧ d3 ≤ 11) (h1 : CtW l G 11 yL_whyNot cL_whyNot 6 hh_whyNot [.ref (adr G 0 0 0), .int (xs (i + 1)), .int (xs (i + 2)), .int (xs (i + 3)), .ref (adr G 21 0 0)] μ k μ1) (h2 : Ct l G d2 yX4_whyNot cX4_whyNot 4 (some .int) [.ref (adr G 15 0 0), .int (xs (i + 1)), .int (xs (i + 2)), .int (xs (i + 3))] μ1 (some (.int r)) μ2) (h3 : Ct l G d3 yX4_thrown cX4_thrown 1 (some .int) [.ref (adr G 15 0 0)] μ2 (some (.int k)) μ2) (hr : k = 0 → μ2.2 1 = r.toInt64) (kk : JL l G b0 b L xs (nc + 1) (ns + 6) (Rep G μ2) 1726 (lvC G b i) []) : JL l G b0 b L xs nc ns (Rep G μ) 1330 (lvC G b i) [] := by
  refine J_aload_n dL_law_1330 rfl ?_
  refine J_aload_n dL_law_1331 rfl ?_
  refine J_iload dL_law_1332 rfl ?_
  refine J_iconstN 1 dL_law_1334 rfl ?_
  refine J_iaddN dL_law_1335 ?_
  refine L_sld (i := i + 1) hL (by omega) dL_law_1336 ?_
  refine J_aload_n dL_law_1337 rfl ?_
  refine J_iload dL_law_1338 rfl ?_
  refine J_iconstN 2 dL_law_1340 rfl ?_
  refine J_iaddN dL_law_1341 ?_
  refine L_sld (i := i + 2) hL (by omega) dL_law_1342 ?_
  refine J_aload_n dL_law_1343 rfl ?_
  refine J_iload dL_law_1344 rfl ?_
  refine J_iconstN 3 dL_law_1346 rfl ?_
  refine J_iaddN dL_law_1347 ?_
  refine L_sld (i := i + 3) hL (by omega) dL_law_1348 ?_
  refine J_aload_n dL_law_1349 rfl ?_
  refine L_callW (As := [.ref (adr G 0 0 0), .int (xs (i + 1)), .int (xs (i + 2)), .int (xs (i + 3)), .ref (adr G 21 0 0)]) (rest := []) hA hn h1 mkw_whyNot ml_L_163 (by decide) rfl (Nat.le_of_ble_eq_true rfl) dL_law_1350 ?_
  refine J_istore dL_law_1353 (by decide) rfl ?_
  refine J_aload_n dL_law_1355 rfl ?_
  refine J_aload_n dL_law_1356 rfl ?_
  refine J_iload dL_law_1357 rfl ?_
  refine J_iconstN 1 dL_law_1359 rfl ?_
  refine J_iaddN dL_law_1360 ?_
  refine L_sld (i := i + 1) hL (by omega) dL_law_1361 ?_
  refine J_aload_n dL_law_1362 rfl ?_
  refine J_iload dL_law_1363 rfl ?_
  refine J_iconstN 2 dL_law_1365 rfl ?_
  refine J_iaddN dL_law_1366 ?_
  refine L_sld (i := i + 2) hL (by omega) dL_law_1367 ?_
  refine J_aload_n dL_law_1368 rfl ?_
  refine J_iload dL_law_1369 rfl ?_
  refine J_iconstN 3 dL_law_1371 rfl ?_
  refine J_iaddN dL_law_1372 ?_
  refine L_sld (i := i + 3) hL (by omega) dL_law_1373 ?_
  refine L_callV (As := [.int (xs (i + 1)), .int (xs (i + 2)), .int (xs (i + 3))]) (rest := []) hA hn h2 mk_X4_whyNot ml_L_165 ⟨hd.1, by decide⟩ dm_15 rfl rfl rfl (Nat.le_of_ble_eq_true rfl) dL_law_1374 ?_
  refine J_istore dL_law_1377 (by decide) rfl ?_
  refine J_aload_n dL_law_1379 rfl ?_
  refine L_callV (As := []) (rest := []) hA hn h3 mk_X4_thrown ml_L_98 ⟨hd.2, by decide⟩ dm_15 rfl rfl rfl (Nat.le_of_ble_eq_true rfl) dL_law_1380 ?_
  refine J_iload dL_law_1383 rfl ?_
  refine J_icmp_eq (tgt := 1390) dL_law_1385 (by decide) (fun _ => ?_) (fun h => absurd rfl h)
  refine J_iload dL_law_1390 rfl ?_
  refine J_if_ne (tgt := 1407) dL_law_1392 (by decide) (fun _ => ?_) (fun hk => ?_)
  · refine J_goto (tgt := 1726) dL_law_1407 (by decide) ?_
    exact J_lv [0, 1, 2, 3, 4] rfl kk
  · refine J_aload_n dL_law_1395 rfl ?_
    refine J_iconstN 0 dL_law_1396 rfl ?_
    refine L_lald dL_law_1397 ?_
    refine J_iload dL_law_1398 rfl ?_
    refine J_i2l dL_law_1400 ?_
    refine J_lcmp dL_law_1401 ?_
    refine J_if_eq (tgt := 1407) dL_law_1402 (by decide) (fun _ => ?_) (fun h => absurd ((lg_cmp_eq _ _).mpr (hr hk)) h)
    refine J_goto (tgt := 1726) dL_law_1407 (by decide) ?_
    exact J_lv [0, 1, 2, 3, 4] rfl kk
theorem mkw_ifBegun : Cond.codeWith yL_ifBegun cL_ifBegun 5 (some .int) hh_ifBegun ∈ UW ∧ Cond.static yL_ifBegun ∈ UW ∧ Cond.initialized yL_ifBegun.cls ∈ UW ∧ yL_ifBegun.cls ≠ "java/lang/invoke/MethodHandle" ∧ yL_ifBegun.cls ≠ "java/lang/invoke/VarHandle" ∧ (parseMethodDescriptor yL_ifBegun.desc).map (fun d => d.parameters.length) = some 4 := ⟨tb_in 730 (by decide +kernel) rfl, tb_in 729 (by decide +kernel) rfl, tb_in 0 (by decide +kernel) rfl, by decide, by decide, by decide +kernel⟩
theorem LC_ifBegun {l : Launch} {G : WG} {b0 b L : Nat} {xs : Nat → Int32} {nc ns i : Nat} {μ : Mem} (hL : L ≤ 2048) (hA : ∀ q, AG G q → AB b0 q) (hi : i + 4 ≤ L) (hn : nc + 1 ≤ room_1.cells ∧ ns + 6 ≤ room_1.slots) {d2 d3 : Nat} {k r : Int32} {μ1 μ2 : Mem} (hd : d2 ≤ 11 ∧ d3 ≤ 11) (h1 : CtW l G 11 yL_ifBegun cL_ifBegun 5 hh_ifBegun [.ref (adr G 0 0 0), .int (xs (i + 1)), .int (xs (i + 2)), .ref (adr G 21 0 0)] μ k μ1) (h2 : Ct l G d2 yX4_ifBegun cX4_ifBegun 3 (some .int) [.ref (adr G 15 0 0), .int (xs (i + 1)), .int (xs (i + 2))] μ1 (some (.int r)) μ2) (h3 : Ct l G d3 yX4_thrown cX4_thrown 1 (some .int) [.ref (adr G 15 0 0)] μ2 (some (.int k)) μ2) (hr : k = 0 → μ2.2 1 = r.toInt64) (kk : JL l G b0 b L xs (nc + 1) (ns + 6) (Rep G μ2) 1726 (lvC G b i) []) : JL l G b0 b L xs nc ns (Rep G μ) 1410 (lvC G b i) [] := by
  refine J_aload_n dL_law_1410 rfl ?_
  refine J_aload_n dL_law_1411 rfl ?_
  refine J_iload dL_law_1412 rfl ?_
  refine J_iconstN 1 dL_law_1414 rfl ?_
  refine J_iaddN dL_law_1415 ?_
  refine L_sld (i := i + 1) hL (by omega) dL_law_1416 ?_
  refine J_aload_n dL_law_1417 rfl ?_
  refine J_iload dL_law_1418 rfl ?_
  refine J_iconstN 2 dL_law_1420 rfl ?_
  refine J_iaddN dL_law_1421 ?_
  refine L_sld (i := i + 2) hL (by omega) dL_law_1422 ?_
  refine J_aload_n dL_law_1423 rfl ?_
  refine L_callW (As := [.ref (adr G 0 0 0), .int (xs (i + 1)), .int (xs (i + 2)), .ref (adr G 21 0 0)]) (rest := []) hA hn h1 mkw_ifBegun ml_L_166 (by decide) rfl (Nat.le_of_ble_eq_true rfl) dL_law_1424 ?_
  refine J_istore dL_law_1427 (by decide) rfl ?_
  refine J_aload_n dL_law_1429 rfl ?_
  refine J_aload_n dL_law_1430 rfl ?_
  refine J_iload dL_law_1431 rfl ?_
  refine J_iconstN 1 dL_law_1433 rfl ?_
  refine J_iaddN dL_law_1434 ?_
  refine L_sld (i := i + 1) hL (by omega) dL_law_1435 ?_
  refine J_aload_n dL_law_1436 rfl ?_
  refine J_iload dL_law_1437 rfl ?_
  refine J_iconstN 2 dL_law_1439 rfl ?_
  refine J_iaddN dL_law_1440 ?_
  refine L_sld (i := i + 2) hL (by omega) dL_law_1441 ?_
  refine L_callV (As := [.int (xs (i + 1)), .int (xs (i + 2))]) (rest := []) hA hn h2 mk_X4_ifBegun ml_L_168 ⟨hd.1, by decide⟩ dm_15 rfl rfl rfl (Nat.le_of_ble_eq_true rfl) dL_law_1442 ?_
  refine J_istore dL_law_1445 (by decide) rfl ?_
  refine J_aload_n dL_law_1447 rfl ?_
  refine L_callV (As := []) (rest := []) hA hn h3 mk_X4_thrown ml_L_98 ⟨hd.2, by decide⟩ dm_15 rfl rfl rfl (Nat.le_of_ble_eq_true rfl) dL_law_1448 ?_
  refine J_iload dL_law_1451 rfl ?_
  refine J_icmp_eq (tgt := 1458) dL_law_1453 (by decide) (fun _ => ?_) (fun h => absurd rfl h)
  refine J_iload dL_law_1458 rfl ?_
  refine J_if_ne (tgt := 1475) dL_law_1460 (by decide) (fun _ => ?_) (fun hk => ?_)
  · refine J_goto (tgt := 1726) dL_law_1475 (by decide) ?_
    exact J_lv [0, 1, 2, 3, 4] rfl kk
  · refine J_aload_n dL_law_1463 rfl ?_
    refine J_iconstN 0 dL_law_1464 rfl ?_
    refine L_lald dL_law_1465 ?_
    refine J_iload dL_law_1466 rfl ?_
    refine J_i2l dL_law_1468 ?_
    refine J_lcmp dL_law_1469 ?_
    refine J_if_eq (tgt := 1475) dL_law_1470 (by decide) (fun _ => ?_) (fun h => absurd ((lg_cmp_eq _ _).mpr (hr hk)) h)
    refine J_goto (tgt := 1726) dL_law_1475 (by decide) ?_
    exact J_lv [0, 1, 2, 3, 4] rfl kk
theorem mkw_breaksIn : Cond.codeWith yL_breaksIn cL_breaksIn 4 (some .int) hh_breaksIn ∈ UW ∧ Cond.static yL_breaksIn ∈ UW ∧ Cond.initialized yL_breaksIn.cls ∈ UW ∧ yL_breaksIn.cls ≠ "java/lang/invoke/MethodHandle" ∧ yL_breaksIn.cls ≠ "java/lang/invoke/VarHandle" ∧ (parseMethodDescriptor yL_breaksIn.desc).map (fun d => d.parameters.length) = some 3 := ⟨tb_in 734 (by decide +kernel) rfl, tb_in 733 (by decide +kernel) rfl, tb_in 0 (by decide +kernel) rfl, by decide, by decide, by decide +kernel⟩
theorem LC_breaksIn {l : Launch} {G : WG} {b0 b L : Nat} {xs : Nat → Int32} {nc ns i : Nat} {μ : Mem} (hL : L ≤ 2048) (hA : ∀ q, AG G q → AB b0 q) (hi : i + 4 ≤ L) (hn : nc + 1 ≤ room_1.cells ∧ ns + 6 ≤ room_1.slots) {d2 d3 : Nat} {k r : Int32} {μ1 μ2 : Mem} (hd : d2 ≤ 11 ∧ d3 ≤ 11) (h1 : CtW l G 11 yL_breaksIn cL_breaksIn 4 hh_breaksIn [.ref (adr G 0 0 0), .int (xs (i + 1)), .ref (adr G 21 0 0)] μ k μ1) (h2 : Ct l G d2 yX4_breaksIn cX4_breaksIn 2 (some .int) [.ref (adr G 15 0 0), .int (xs (i + 1))] μ1 (some (.int r)) μ2) (h3 : Ct l G d3 yX4_thrown cX4_thrown 1 (some .int) [.ref (adr G 15 0 0)] μ2 (some (.int k)) μ2) (hr : k = 0 → μ2.2 1 = r.toInt64) (kk : JL l G b0 b L xs (nc + 1) (ns + 6) (Rep G μ2) 1726 (lvC G b i) []) : JL l G b0 b L xs nc ns (Rep G μ) 1478 (lvC G b i) [] := by
  refine J_aload_n dL_law_1478 rfl ?_
  refine J_aload_n dL_law_1479 rfl ?_
  refine J_iload dL_law_1480 rfl ?_
  refine J_iconstN 1 dL_law_1482 rfl ?_
  refine J_iaddN dL_law_1483 ?_
  refine L_sld (i := i + 1) hL (by omega) dL_law_1484 ?_
  refine J_aload_n dL_law_1485 rfl ?_
  refine L_callW (As := [.ref (adr G 0 0 0), .int (xs (i + 1)), .ref (adr G 21 0 0)]) (rest := []) hA hn h1 mkw_breaksIn ml_L_169 (by decide) rfl (Nat.le_of_ble_eq_true rfl) dL_law_1486 ?_
  refine J_istore dL_law_1489 (by decide) rfl ?_
  refine J_aload_n dL_law_1491 rfl ?_
  refine J_aload_n dL_law_1492 rfl ?_
  refine J_iload dL_law_1493 rfl ?_
  refine J_iconstN 1 dL_law_1495 rfl ?_
  refine J_iaddN dL_law_1496 ?_
  refine L_sld (i := i + 1) hL (by omega) dL_law_1497 ?_
  refine L_callV (As := [.int (xs (i + 1))]) (rest := []) hA hn h2 mk_X4_breaksIn ml_L_171 ⟨hd.1, by decide⟩ dm_15 rfl rfl rfl (Nat.le_of_ble_eq_true rfl) dL_law_1498 ?_
  refine J_istore dL_law_1501 (by decide) rfl ?_
  refine J_aload_n dL_law_1503 rfl ?_
  refine L_callV (As := []) (rest := []) hA hn h3 mk_X4_thrown ml_L_98 ⟨hd.2, by decide⟩ dm_15 rfl rfl rfl (Nat.le_of_ble_eq_true rfl) dL_law_1504 ?_
  refine J_iload dL_law_1507 rfl ?_
  refine J_icmp_eq (tgt := 1514) dL_law_1509 (by decide) (fun _ => ?_) (fun h => absurd rfl h)
  refine J_iload dL_law_1514 rfl ?_
  refine J_if_ne (tgt := 1531) dL_law_1516 (by decide) (fun _ => ?_) (fun hk => ?_)
  · refine J_goto (tgt := 1726) dL_law_1531 (by decide) ?_
    exact J_lv [0, 1, 2, 3, 4] rfl kk
  · refine J_aload_n dL_law_1519 rfl ?_
    refine J_iconstN 0 dL_law_1520 rfl ?_
    refine L_lald dL_law_1521 ?_
    refine J_iload dL_law_1522 rfl ?_
    refine J_i2l dL_law_1524 ?_
    refine J_lcmp dL_law_1525 ?_
    refine J_if_eq (tgt := 1531) dL_law_1526 (by decide) (fun _ => ?_) (fun h => absurd ((lg_cmp_eq _ _).mpr (hr hk)) h)
    refine J_goto (tgt := 1726) dL_law_1531 (by decide) ?_
    exact J_lv [0, 1, 2, 3, 4] rfl kk
theorem mkw_surchargesIn : Cond.codeWith yL_surchargesIn cL_surchargesIn 4 (some .int) hh_surchargesIn ∈ UW ∧ Cond.static yL_surchargesIn ∈ UW ∧ Cond.initialized yL_surchargesIn.cls ∈ UW ∧ yL_surchargesIn.cls ≠ "java/lang/invoke/MethodHandle" ∧ yL_surchargesIn.cls ≠ "java/lang/invoke/VarHandle" ∧ (parseMethodDescriptor yL_surchargesIn.desc).map (fun d => d.parameters.length) = some 3 := ⟨tb_in 738 (by decide +kernel) rfl, tb_in 737 (by decide +kernel) rfl, tb_in 0 (by decide +kernel) rfl, by decide, by decide, by decide +kernel⟩
theorem LC_surchargesIn {l : Launch} {G : WG} {b0 b L : Nat} {xs : Nat → Int32} {nc ns i : Nat} {μ : Mem} (hL : L ≤ 2048) (hA : ∀ q, AG G q → AB b0 q) (hi : i + 4 ≤ L) (hn : nc + 1 ≤ room_1.cells ∧ ns + 6 ≤ room_1.slots) {d2 d3 : Nat} {k r : Int32} {μ1 μ2 : Mem} (hd : d2 ≤ 11 ∧ d3 ≤ 11) (h1 : CtW l G 11 yL_surchargesIn cL_surchargesIn 4 hh_surchargesIn [.ref (adr G 0 0 0), .int (xs (i + 1)), .ref (adr G 21 0 0)] μ k μ1) (h2 : Ct l G d2 yX4_surchargesIn cX4_surchargesIn 2 (some .int) [.ref (adr G 15 0 0), .int (xs (i + 1))] μ1 (some (.int r)) μ2) (h3 : Ct l G d3 yX4_thrown cX4_thrown 1 (some .int) [.ref (adr G 15 0 0)] μ2 (some (.int k)) μ2) (hr : k = 0 → μ2.2 1 = r.toInt64) (kk : JL l G b0 b L xs (nc + 1) (ns + 6) (Rep G μ2) 1726 (lvC G b i) []) : JL l G b0 b L xs nc ns (Rep G μ) 1534 (lvC G b i) [] := by
  refine J_aload_n dL_law_1534 rfl ?_
  refine J_aload_n dL_law_1535 rfl ?_
  refine J_iload dL_law_1536 rfl ?_
  refine J_iconstN 1 dL_law_1538 rfl ?_
  refine J_iaddN dL_law_1539 ?_
  refine L_sld (i := i + 1) hL (by omega) dL_law_1540 ?_
  refine J_aload_n dL_law_1541 rfl ?_
  refine L_callW (As := [.ref (adr G 0 0 0), .int (xs (i + 1)), .ref (adr G 21 0 0)]) (rest := []) hA hn h1 mkw_surchargesIn ml_L_172 (by decide) rfl (Nat.le_of_ble_eq_true rfl) dL_law_1542 ?_
  refine J_istore dL_law_1545 (by decide) rfl ?_
  refine J_aload_n dL_law_1547 rfl ?_
  refine J_aload_n dL_law_1548 rfl ?_
  refine J_iload dL_law_1549 rfl ?_
  refine J_iconstN 1 dL_law_1551 rfl ?_
  refine J_iaddN dL_law_1552 ?_
  refine L_sld (i := i + 1) hL (by omega) dL_law_1553 ?_
  refine L_callV (As := [.int (xs (i + 1))]) (rest := []) hA hn h2 mk_X4_surchargesIn ml_L_174 ⟨hd.1, by decide⟩ dm_15 rfl rfl rfl (Nat.le_of_ble_eq_true rfl) dL_law_1554 ?_
  refine J_istore dL_law_1557 (by decide) rfl ?_
  refine J_aload_n dL_law_1559 rfl ?_
  refine L_callV (As := []) (rest := []) hA hn h3 mk_X4_thrown ml_L_98 ⟨hd.2, by decide⟩ dm_15 rfl rfl rfl (Nat.le_of_ble_eq_true rfl) dL_law_1560 ?_
  refine J_iload dL_law_1563 rfl ?_
  refine J_icmp_eq (tgt := 1570) dL_law_1565 (by decide) (fun _ => ?_) (fun h => absurd rfl h)
  refine J_iload dL_law_1570 rfl ?_
  refine J_if_ne (tgt := 1587) dL_law_1572 (by decide) (fun _ => ?_) (fun hk => ?_)
  · refine J_goto (tgt := 1726) dL_law_1587 (by decide) ?_
    exact J_lv [0, 1, 2, 3, 4] rfl kk
  · refine J_aload_n dL_law_1575 rfl ?_
    refine J_iconstN 0 dL_law_1576 rfl ?_
    refine L_lald dL_law_1577 ?_
    refine J_iload dL_law_1578 rfl ?_
    refine J_i2l dL_law_1580 ?_
    refine J_lcmp dL_law_1581 ?_
    refine J_if_eq (tgt := 1587) dL_law_1582 (by decide) (fun _ => ?_) (fun h => absurd ((lg_cmp_eq _ _).mpr (hr hk)) h)
    refine J_goto (tgt := 1726) dL_law_1587 (by decide) ?_
    exact J_lv [0, 1, 2, 3, 4] rfl kk
theorem LC_mostUrgent {l : Launch} {G : WG} {b0 b L : Nat} {xs : Nat → Int32} {nc ns i : Nat} {μ : Mem} (hL : L ≤ 2048) (hA : ∀ q, AG G q → AB b0 q) (hi : i + 4 ≤ L) (hn : nc + 1 ≤ room_1.cells ∧ ns + 6 ≤ room_1.slots) {d1 d2 : Nat} {r : Int32} {μ1 μ2 : Mem} (hd : d1 ≤ 11 ∧ d2 ≤ 11) (h1 : Ct l G d1 yX3_mostUrgent cX3_mostUrgent 8 (some .int) [.ref (adr G 0 0 0)] μ (some (.int r)) μ1) (h2 : Ct l G d2 yX4_mostUrgent cX4_mostUrgent 1 (some .int) [.ref (adr G 15 0 0)] μ1 (some (.int r)) μ2) (kk : JL l G b0 b L xs nc ns (Rep G μ2) 1726 (lvC G b i) []) : JL l G b0 b L xs nc ns (Rep G μ) 1590 (lvC G b i) [] := by
  refine J_aload_n dL_law_1590 rfl ?_
  refine L_callV (As := []) (rest := []) hA (by omega) h1 mk_X3_mostUrgent ml_L_175 ⟨hd.1, by decide⟩ dm_0 rfl rfl rfl (Nat.le_of_ble_eq_true rfl) dL_law_1591 ?_
  refine J_aload_n dL_law_1594 rfl ?_
  refine L_callV (As := []) (rest := [.int r]) hA (by omega) h2 mk_X4_mostUrgent ml_L_178 ⟨hd.2, by decide⟩ dm_15 rfl rfl rfl (Nat.le_of_ble_eq_true rfl) dL_law_1595 ?_
  refine J_icmp_eq (tgt := 1726) dL_law_1598 (by decide) (fun _ => kk) (fun h => absurd rfl h)
theorem mkw_dueIn : Cond.codeWith yL_dueIn cL_dueIn 5 (some .int) hh_dueIn ∈ UW ∧ Cond.static yL_dueIn ∈ UW ∧ Cond.initialized yL_dueIn.cls ∈ UW ∧ yL_dueIn.cls ≠ "java/lang/invoke/MethodHandle" ∧ yL_dueIn.cls ≠ "java/lang/invoke/VarHandle" ∧ (parseMethodDescriptor yL_dueIn.desc).map (fun d => d.parameters.length) = some 4 := ⟨tb_in 742 (by decide +kernel) rfl, tb_in 741 (by decide +kernel) rfl, tb_in 0 (by decide +kernel) rfl, by decide, by decide, by decide +kernel⟩
theorem LC_dueIn {l : Launch} {G : WG} {b0 b L : Nat} {xs : Nat → Int32} {nc ns i : Nat} {μ : Mem} (hL : L ≤ 2048) (hA : ∀ q, AG G q → AB b0 q) (hi : i + 4 ≤ L) (hn : nc + 1 ≤ room_1.cells ∧ ns + 6 ≤ room_1.slots) {d2 d3 : Nat} {k r : Int32} {μ1 μ2 : Mem} (hd : d2 ≤ 11 ∧ d3 ≤ 11) (h1 : CtW l G 11 yL_dueIn cL_dueIn 5 hh_dueIn [.ref (adr G 0 0 0), .int (xs (i + 1)), .int (xs (i + 2)), .ref (adr G 21 0 0)] μ k μ1) (h2 : Ct l G d2 yX4_dueIn cX4_dueIn 3 (some .int) [.ref (adr G 15 0 0), .int (xs (i + 1)), .int (xs (i + 2))] μ1 (some (.int r)) μ2) (h3 : Ct l G d3 yX4_thrown cX4_thrown 1 (some .int) [.ref (adr G 15 0 0)] μ2 (some (.int k)) μ2) (hr : k = 0 → μ2.2 1 = r.toInt64) (kk : JL l G b0 b L xs (nc + 1) (ns + 6) (Rep G μ2) 1726 (lvC G b i) []) : JL l G b0 b L xs nc ns (Rep G μ) 1603 (lvC G b i) [] := by
  refine J_aload_n dL_law_1603 rfl ?_
  refine J_aload_n dL_law_1604 rfl ?_
  refine J_iload dL_law_1605 rfl ?_
  refine J_iconstN 1 dL_law_1607 rfl ?_
  refine J_iaddN dL_law_1608 ?_
  refine L_sld (i := i + 1) hL (by omega) dL_law_1609 ?_
  refine J_aload_n dL_law_1610 rfl ?_
  refine J_iload dL_law_1611 rfl ?_
  refine J_iconstN 2 dL_law_1613 rfl ?_
  refine J_iaddN dL_law_1614 ?_
  refine L_sld (i := i + 2) hL (by omega) dL_law_1615 ?_
  refine J_aload_n dL_law_1616 rfl ?_
  refine L_callW (As := [.ref (adr G 0 0 0), .int (xs (i + 1)), .int (xs (i + 2)), .ref (adr G 21 0 0)]) (rest := []) hA hn h1 mkw_dueIn ml_L_179 (by decide) rfl (Nat.le_of_ble_eq_true rfl) dL_law_1617 ?_
  refine J_istore dL_law_1620 (by decide) rfl ?_
  refine J_aload_n dL_law_1622 rfl ?_
  refine J_aload_n dL_law_1623 rfl ?_
  refine J_iload dL_law_1624 rfl ?_
  refine J_iconstN 1 dL_law_1626 rfl ?_
  refine J_iaddN dL_law_1627 ?_
  refine L_sld (i := i + 1) hL (by omega) dL_law_1628 ?_
  refine J_aload_n dL_law_1629 rfl ?_
  refine J_iload dL_law_1630 rfl ?_
  refine J_iconstN 2 dL_law_1632 rfl ?_
  refine J_iaddN dL_law_1633 ?_
  refine L_sld (i := i + 2) hL (by omega) dL_law_1634 ?_
  refine L_callV (As := [.int (xs (i + 1)), .int (xs (i + 2))]) (rest := []) hA hn h2 mk_X4_dueIn ml_L_181 ⟨hd.1, by decide⟩ dm_15 rfl rfl rfl (Nat.le_of_ble_eq_true rfl) dL_law_1635 ?_
  refine J_istore dL_law_1638 (by decide) rfl ?_
  refine J_aload_n dL_law_1640 rfl ?_
  refine L_callV (As := []) (rest := []) hA hn h3 mk_X4_thrown ml_L_98 ⟨hd.2, by decide⟩ dm_15 rfl rfl rfl (Nat.le_of_ble_eq_true rfl) dL_law_1641 ?_
  refine J_iload dL_law_1644 rfl ?_
  refine J_icmp_eq (tgt := 1651) dL_law_1646 (by decide) (fun _ => ?_) (fun h => absurd rfl h)
  refine J_iload dL_law_1651 rfl ?_
  refine J_if_ne (tgt := 1668) dL_law_1653 (by decide) (fun _ => ?_) (fun hk => ?_)
  · refine J_goto (tgt := 1726) dL_law_1668 (by decide) ?_
    exact J_lv [0, 1, 2, 3, 4] rfl kk
  · refine J_aload_n dL_law_1656 rfl ?_
    refine J_iconstN 0 dL_law_1657 rfl ?_
    refine L_lald dL_law_1658 ?_
    refine J_iload dL_law_1659 rfl ?_
    refine J_i2l dL_law_1661 ?_
    refine J_lcmp dL_law_1662 ?_
    refine J_if_eq (tgt := 1668) dL_law_1663 (by decide) (fun _ => ?_) (fun h => absurd ((lg_cmp_eq _ _).mpr (hr hk)) h)
    refine J_goto (tgt := 1726) dL_law_1668 (by decide) ?_
    exact J_lv [0, 1, 2, 3, 4] rfl kk
theorem LC_settledShare {l : Launch} {G : WG} {b0 b L : Nat} {xs : Nat → Int32} {nc ns i : Nat} {μ : Mem} (hL : L ≤ 2048) (hA : ∀ q, AG G q → AB b0 q) (hi : i + 4 ≤ L) (hn : nc + 1 ≤ room_1.cells ∧ ns + 6 ≤ room_1.slots) {d1 d2 : Nat} {r : UInt64} {μ1 μ2 : Mem} (hr : Op.cmpValue (FP.dcmp r r) .l = 0) (hd : d1 ≤ 11 ∧ d2 ≤ 11) (h1 : Ct l G d1 yX3_settledShare cX3_settledShare 3 (some .double) [.ref (adr G 0 0 0)] μ (some (.double r)) μ1) (h2 : Ct l G d2 yX4_settledShare cX4_settledShare 1 (some .double) [.ref (adr G 15 0 0)] μ1 (some (.double r)) μ2) (kk : JL l G b0 b L xs nc ns (Rep G μ2) 1726 (lvC G b i) []) : JL l G b0 b L xs nc ns (Rep G μ) 1671 (lvC G b i) [] := by
  refine J_aload_n dL_law_1671 rfl ?_
  refine L_callV (As := []) (rest := []) hA (by omega) h1 mk_X3_settledShare ml_L_182 ⟨hd.1, by decide⟩ dm_0 rfl rfl rfl (Nat.le_of_ble_eq_true rfl) dL_law_1672 ?_
  refine J_dstore dL_law_1675 (by decide) rfl ?_
  refine J_aload_n dL_law_1677 rfl ?_
  refine L_callV (As := []) (rest := []) hA (by omega) h2 mk_X4_settledShare ml_L_186 ⟨hd.2, by decide⟩ dm_15 rfl rfl rfl (Nat.le_of_ble_eq_true rfl) dL_law_1678 ?_
  refine J_dstore dL_law_1681 (by decide) rfl ?_
  refine J_dload dL_law_1683 rfl ?_
  refine J_dload dL_law_1685 rfl ?_
  refine L_dcmp dL_law_1687 ?_
  refine J_if_eq (tgt := 1709) dL_law_1688 (by decide) (fun _ => ?_) (fun h => absurd hr h)
  refine J_goto (tgt := 1726) dL_law_1709 (by decide) ?_
  exact J_lv [0, 1, 2, 3, 4] rfl kk
theorem LC_digest {l : Launch} {G : WG} {b0 b L : Nat} {xs : Nat → Int32} {nc ns i : Nat} {μ : Mem} (hL : L ≤ 2048) (hA : ∀ q, AG G q → AB b0 q) (hi : i + 4 ≤ L) (hn : nc + 1 ≤ room_1.cells ∧ ns + 6 ≤ room_1.slots) {d1 d2 : Nat} {r : Int64} {μ1 μ2 : Mem} (hd : d1 ≤ 11 ∧ d2 ≤ 11) (h1 : Ct l G d1 yX3_digest cX3_digest 4 (some .long) [.ref (adr G 0 0 0)] μ (some (.long r)) μ1) (h2 : Ct l G d2 yX4_digest cX4_digest 2 (some .long) [.ref (adr G 15 0 0)] μ1 (some (.long r)) μ2) (kk : JL l G b0 b L xs nc ns (Rep G μ2) 1726 (lvC G b i) []) : JL l G b0 b L xs nc ns (Rep G μ) 1712 (lvC G b i) [] := by
  refine J_aload_n dL_law_1712 rfl ?_
  refine L_callV (As := []) (rest := []) hA (by omega) h1 mk_X3_digest ml_L_187 ⟨hd.1, by decide⟩ dm_0 rfl rfl rfl (Nat.le_of_ble_eq_true rfl) dL_law_1713 ?_
  refine J_aload_n dL_law_1716 rfl ?_
  refine L_callV (As := []) (rest := [.long r]) hA (by omega) h2 mk_X4_digest ml_L_191 ⟨hd.2, by decide⟩ dm_15 rfl rfl rfl (Nat.le_of_ble_eq_true rfl) dL_law_1717 ?_
  refine J_lcmp dL_law_1720 ?_
  refine J_if_eq (tgt := 1726) dL_law_1721 (by decide) (fun _ => kk) (fun h => absurd ((lg_cmp_eq r r).mpr rfl) h)
