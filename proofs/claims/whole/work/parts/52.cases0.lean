theorem lg_cmp_self (x : Int64) : lg_cmp x x = 0 := by
  unfold lg_cmp
  simp
theorem case_wrestler {K : Cx} {I : ClassId × ClassId × ClassId × ClassId × ClassId} {g h : Nat → Nat} {b L kc ns : Nat} {xs : Nat → Int32} {k : Nat} {X M : St} (C : NC K 4 cL_law RL room_1 (tyG (g, I))) (S : SC K b L xs) (hcs : kc ≤ room_1.cells ∧ ns ≤ room_1.slots) (hR : Rel k X M) (hk : k < 512) (hi : 6 * k + 6 ≤ L) (hL : L ≤ 3072) (fin : ∀ X1 M1 : St, Rel (k + 1) X1 M1 → WN K 4 kc ns (xw (g, I) X1 ++ mw (h, I) M1) 1185 [(0, .ref b), (1, .ref (g 0)), (2, .ref (h 0)), (3, .int (nI (6 * k)))] []) : WN K 4 kc ns (xw (g, I) X ++ mw (h, I) M) 192 [(0, .ref b), (1, .ref (g 0)), (2, .ref (h 0)), (3, .int (nI (6 * k)))] [] := by
  obtain ⟨PX, PM, hX, hM, hf⟩ := law_wrestler hR (xs (6 * k + 1)) (xs (6 * k + 2)) (xs (6 * k + 3)) (g, I) (h, I)
  refine n_aload_n C (pc := 192) dL_law_192 1 rfl rfl ?_
  refine n_arg C S (pc := 193) (j := 1) (by decide) (by omega) hL dL_law_193 dL_law_194 dL_law_195 dL_law_196 dL_law_197 ?_
  refine n_arg C S (pc := 198) (j := 2) (by decide) (by omega) hL dL_law_198 dL_law_199 dL_law_200 dL_law_201 dL_law_202 ?_
  refine n_arg C S (pc := 203) (j := 3) (by decide) (by omega) hL dL_law_203 dL_law_204 dL_law_205 dL_law_206 dL_law_207 ?_
  refine n_callVi C (pc := 208) (wf := xw (g, I)) (xw_adr _) [.int (xs (6 * k + 1)), .int (xs (6 * k + 2)), .int (xs (6 * k + 3))] hX (xe_0 (g, I) X) rfl ml_L_13 co_X8_wrestler im_X8_wrestler se_X8_wrestler in_X8 hy_X8_wrestler (Nat.le_of_ble_eq_true rfl) (Nat.le_of_ble_eq_true rfl) (Nat.le_of_ble_eq_true rfl) hcs dL_law_208 rfl (fun r X1 p1 => ?_)
  refine n_swap ?_
  refine n_aload_n C (pc := 211) dL_law_211 2 rfl rfl ?_
  refine n_arg C S (pc := 212) (j := 1) (by decide) (by omega) hL dL_law_212 dL_law_213 dL_law_214 dL_law_215 dL_law_216 ?_
  refine n_arg C S (pc := 217) (j := 2) (by decide) (by omega) hL dL_law_217 dL_law_218 dL_law_219 dL_law_220 dL_law_221 ?_
  refine n_arg C S (pc := 222) (j := 3) (by decide) (by omega) hL dL_law_222 dL_law_223 dL_law_224 dL_law_225 dL_law_226 ?_
  refine n_callVi C (pc := 227) (wf := mw (h, I)) (mw_adr _) [.int (xs (6 * k + 1)), .int (xs (6 * k + 2)), .int (xs (6 * k + 3))] hM (me_0 (h, I) M) rfl ml_L_17 co_X9_wrestler im_X9_wrestler se_X9_wrestler in_X9 hy_X9_wrestler (Nat.le_of_ble_eq_true rfl) (Nat.le_of_ble_eq_true rfl) (Nat.le_of_ble_eq_true rfl) hcs dL_law_227 rfl (fun r2 M1 p2 => ?_)
  refine n_swap ?_
  obtain ⟨e, hR1⟩ := hf r X1 r2 M1 p1 p2
  exact n_icmp_eq C (pc := 230) (tgt := 1185) dL_law_230 (by decide) (fun _ => fin X1 M1 hR1) (fun q => absurd e q)
theorem case_leave {K : Cx} {I : ClassId × ClassId × ClassId × ClassId × ClassId} {g h : Nat → Nat} {b L kc ns : Nat} {xs : Nat → Int32} {k : Nat} {X M : St} (C : NC K 4 cL_law RL room_1 (tyG (g, I))) (S : SC K b L xs) (hcs : kc ≤ room_1.cells ∧ ns ≤ room_1.slots) (hR : Rel k X M) (hk : k < 512) (hi : 6 * k + 6 ≤ L) (hL : L ≤ 3072) (fin : ∀ X1 M1 : St, Rel (k + 1) X1 M1 → WN K 4 kc ns (xw (g, I) X1 ++ mw (h, I) M1) 1185 [(0, .ref b), (1, .ref (g 0)), (2, .ref (h 0)), (3, .int (nI (6 * k)))] []) : WN K 4 kc ns (xw (g, I) X ++ mw (h, I) M) 235 [(0, .ref b), (1, .ref (g 0)), (2, .ref (h 0)), (3, .int (nI (6 * k)))] [] := by
  obtain ⟨PX, PM, hX, hM, hf⟩ := law_leave hR (xs (6 * k + 1)) (g, I) (h, I)
  refine n_aload_n C (pc := 235) dL_law_235 1 rfl rfl ?_
  refine n_arg C S (pc := 236) (j := 1) (by decide) (by omega) hL dL_law_236 dL_law_237 dL_law_238 dL_law_239 dL_law_240 ?_
  refine n_callVi C (pc := 241) (wf := xw (g, I)) (xw_adr _) [.int (xs (6 * k + 1))] hX (xe_0 (g, I) X) rfl ml_L_18 co_X8_leave im_X8_leave se_X8_leave in_X8 hy_X8_leave (Nat.le_of_ble_eq_true rfl) (Nat.le_of_ble_eq_true rfl) (Nat.le_of_ble_eq_true rfl) hcs dL_law_241 rfl (fun r X1 p1 => ?_)
  refine n_swap ?_
  refine n_aload_n C (pc := 244) dL_law_244 2 rfl rfl ?_
  refine n_arg C S (pc := 245) (j := 1) (by decide) (by omega) hL dL_law_245 dL_law_246 dL_law_247 dL_law_248 dL_law_249 ?_
  refine n_callVi C (pc := 250) (wf := mw (h, I)) (mw_adr _) [.int (xs (6 * k + 1))] hM (me_0 (h, I) M) rfl ml_L_22 co_X9_leave im_X9_leave se_X9_leave in_X9 hy_X9_leave (Nat.le_of_ble_eq_true rfl) (Nat.le_of_ble_eq_true rfl) (Nat.le_of_ble_eq_true rfl) hcs dL_law_250 rfl (fun r2 M1 p2 => ?_)
  refine n_swap ?_
  obtain ⟨e, hR1⟩ := hf r X1 r2 M1 p1 p2
  exact n_icmp_eq C (pc := 253) (tgt := 1185) dL_law_253 (by decide) (fun _ => fin X1 M1 hR1) (fun q => absurd e q)
theorem case_told {K : Cx} {I : ClassId × ClassId × ClassId × ClassId × ClassId} {g h : Nat → Nat} {b L kc ns : Nat} {xs : Nat → Int32} {k : Nat} {X M : St} (C : NC K 4 cL_law RL room_1 (tyG (g, I))) (S : SC K b L xs) (hcs : kc ≤ room_1.cells ∧ ns ≤ room_1.slots) (hR : Rel k X M) (hk : k < 512) (hi : 6 * k + 6 ≤ L) (hL : L ≤ 3072) (fin : ∀ X1 M1 : St, Rel (k + 1) X1 M1 → WN K 4 kc ns (xw (g, I) X1 ++ mw (h, I) M1) 1185 [(0, .ref b), (1, .ref (g 0)), (2, .ref (h 0)), (3, .int (nI (6 * k)))] []) : WN K 4 kc ns (xw (g, I) X ++ mw (h, I) M) 258 [(0, .ref b), (1, .ref (g 0)), (2, .ref (h 0)), (3, .int (nI (6 * k)))] [] := by
  obtain ⟨PX, PM, hX, hM, hf⟩ := law_told hR (xs (6 * k + 1)) (xs (6 * k + 2)) (g, I) (h, I)
  refine n_aload_n C (pc := 258) dL_law_258 1 rfl rfl ?_
  refine n_arg C S (pc := 259) (j := 1) (by decide) (by omega) hL dL_law_259 dL_law_260 dL_law_261 dL_law_262 dL_law_263 ?_
  refine n_arg C S (pc := 264) (j := 2) (by decide) (by omega) hL dL_law_264 dL_law_265 dL_law_266 dL_law_267 dL_law_268 ?_
  refine n_callVi C (pc := 269) (wf := xw (g, I)) (xw_adr _) [.int (xs (6 * k + 1)), .int (xs (6 * k + 2))] hX (xe_0 (g, I) X) rfl ml_L_23 co_X8_told im_X8_told se_X8_told in_X8 hy_X8_told (Nat.le_of_ble_eq_true rfl) (Nat.le_of_ble_eq_true rfl) (Nat.le_of_ble_eq_true rfl) hcs dL_law_269 rfl (fun r X1 p1 => ?_)
  refine n_swap ?_
  refine n_aload_n C (pc := 272) dL_law_272 2 rfl rfl ?_
  refine n_arg C S (pc := 273) (j := 1) (by decide) (by omega) hL dL_law_273 dL_law_274 dL_law_275 dL_law_276 dL_law_277 ?_
  refine n_arg C S (pc := 278) (j := 2) (by decide) (by omega) hL dL_law_278 dL_law_279 dL_law_280 dL_law_281 dL_law_282 ?_
  refine n_callVi C (pc := 283) (wf := mw (h, I)) (mw_adr _) [.int (xs (6 * k + 1)), .int (xs (6 * k + 2))] hM (me_0 (h, I) M) rfl ml_L_27 co_X9_told im_X9_told se_X9_told in_X9 hy_X9_told (Nat.le_of_ble_eq_true rfl) (Nat.le_of_ble_eq_true rfl) (Nat.le_of_ble_eq_true rfl) hcs dL_law_283 rfl (fun r2 M1 p2 => ?_)
  refine n_swap ?_
  obtain ⟨e, hR1⟩ := hf r X1 r2 M1 p1 p2
  exact n_icmp_eq C (pc := 286) (tgt := 1185) dL_law_286 (by decide) (fun _ => fin X1 M1 hR1) (fun q => absurd e q)
theorem case_is {K : Cx} {I : ClassId × ClassId × ClassId × ClassId × ClassId} {g h : Nat → Nat} {b L kc ns : Nat} {xs : Nat → Int32} {k : Nat} {X M : St} (C : NC K 4 cL_law RL room_1 (tyG (g, I))) (S : SC K b L xs) (hcs : kc ≤ room_1.cells ∧ ns ≤ room_1.slots) (hR : Rel k X M) (hk : k < 512) (hi : 6 * k + 6 ≤ L) (hL : L ≤ 3072) (fin : ∀ X1 M1 : St, Rel (k + 1) X1 M1 → WN K 4 kc ns (xw (g, I) X1 ++ mw (h, I) M1) 1185 [(0, .ref b), (1, .ref (g 0)), (2, .ref (h 0)), (3, .int (nI (6 * k)))] []) : WN K 4 kc ns (xw (g, I) X ++ mw (h, I) M) 291 [(0, .ref b), (1, .ref (g 0)), (2, .ref (h 0)), (3, .int (nI (6 * k)))] [] := by
  obtain ⟨PX, PM, hX, hM, hf⟩ := law_is hR (xs (6 * k + 1)) (xs (6 * k + 2)) (g, I) (h, I)
  refine n_aload_n C (pc := 291) dL_law_291 1 rfl rfl ?_
  refine n_arg C S (pc := 292) (j := 1) (by decide) (by omega) hL dL_law_292 dL_law_293 dL_law_294 dL_law_295 dL_law_296 ?_
  refine n_arg C S (pc := 297) (j := 2) (by decide) (by omega) hL dL_law_297 dL_law_298 dL_law_299 dL_law_300 dL_law_301 ?_
  refine n_callVi C (pc := 302) (wf := xw (g, I)) (xw_adr _) [.int (xs (6 * k + 1)), .int (xs (6 * k + 2))] hX (xe_0 (g, I) X) rfl ml_L_28 co_X8_is im_X8_is se_X8_is in_X8 hy_X8_is (Nat.le_of_ble_eq_true rfl) (Nat.le_of_ble_eq_true rfl) (Nat.le_of_ble_eq_true rfl) hcs dL_law_302 rfl (fun r X1 p1 => ?_)
  refine n_swap ?_
  refine n_aload_n C (pc := 305) dL_law_305 2 rfl rfl ?_
  refine n_arg C S (pc := 306) (j := 1) (by decide) (by omega) hL dL_law_306 dL_law_307 dL_law_308 dL_law_309 dL_law_310 ?_
  refine n_arg C S (pc := 311) (j := 2) (by decide) (by omega) hL dL_law_311 dL_law_312 dL_law_313 dL_law_314 dL_law_315 ?_
  refine n_callVi C (pc := 316) (wf := mw (h, I)) (mw_adr _) [.int (xs (6 * k + 1)), .int (xs (6 * k + 2))] hM (me_0 (h, I) M) rfl ml_L_31 co_X9_is im_X9_is se_X9_is in_X9 hy_X9_is (Nat.le_of_ble_eq_true rfl) (Nat.le_of_ble_eq_true rfl) (Nat.le_of_ble_eq_true rfl) hcs dL_law_316 rfl (fun r2 M1 p2 => ?_)
  refine n_swap ?_
  obtain ⟨e, hR1⟩ := hf r X1 r2 M1 p1 p2
  exact n_icmp_eq C (pc := 319) (tgt := 1185) dL_law_319 (by decide) (fun _ => fin X1 M1 hR1) (fun q => absurd e q)
theorem case_on {K : Cx} {I : ClassId × ClassId × ClassId × ClassId × ClassId} {g h : Nat → Nat} {b L kc ns : Nat} {xs : Nat → Int32} {k : Nat} {X M : St} (C : NC K 4 cL_law RL room_1 (tyG (g, I))) (S : SC K b L xs) (hcs : kc ≤ room_1.cells ∧ ns ≤ room_1.slots) (hR : Rel k X M) (hk : k < 512) (hi : 6 * k + 6 ≤ L) (hL : L ≤ 3072) (fin : ∀ X1 M1 : St, Rel (k + 1) X1 M1 → WN K 4 kc ns (xw (g, I) X1 ++ mw (h, I) M1) 1185 [(0, .ref b), (1, .ref (g 0)), (2, .ref (h 0)), (3, .int (nI (6 * k)))] []) : WN K 4 kc ns (xw (g, I) X ++ mw (h, I) M) 324 [(0, .ref b), (1, .ref (g 0)), (2, .ref (h 0)), (3, .int (nI (6 * k)))] [] := by
  obtain ⟨PX, PM, hX, hM, hf⟩ := law_on hR (xs (6 * k + 1)) (g, I) (h, I)
  refine n_aload_n C (pc := 324) dL_law_324 1 rfl rfl ?_
  refine n_arg C S (pc := 325) (j := 1) (by decide) (by omega) hL dL_law_325 dL_law_326 dL_law_327 dL_law_328 dL_law_329 ?_
  refine n_callVi C (pc := 330) (wf := xw (g, I)) (xw_adr _) [.int (xs (6 * k + 1))] hX (xe_0 (g, I) X) rfl ml_L_32 co_X8_on im_X8_on se_X8_on in_X8 hy_X8_on (Nat.le_of_ble_eq_true rfl) (Nat.le_of_ble_eq_true rfl) (Nat.le_of_ble_eq_true rfl) hcs dL_law_330 rfl (fun r X1 p1 => ?_)
  refine n_swap ?_
  refine n_aload_n C (pc := 333) dL_law_333 2 rfl rfl ?_
  refine n_arg C S (pc := 334) (j := 1) (by decide) (by omega) hL dL_law_334 dL_law_335 dL_law_336 dL_law_337 dL_law_338 ?_
  refine n_callVi C (pc := 339) (wf := mw (h, I)) (mw_adr _) [.int (xs (6 * k + 1))] hM (me_0 (h, I) M) rfl ml_L_35 co_X9_on im_X9_on se_X9_on in_X9 hy_X9_on (Nat.le_of_ble_eq_true rfl) (Nat.le_of_ble_eq_true rfl) (Nat.le_of_ble_eq_true rfl) hcs dL_law_339 rfl (fun r2 M1 p2 => ?_)
  refine n_swap ?_
  obtain ⟨e, hR1⟩ := hf r X1 r2 M1 p1 p2
  exact n_icmp_eq C (pc := 342) (tgt := 1185) dL_law_342 (by decide) (fun _ => fin X1 M1 hR1) (fun q => absurd e q)
theorem case_mark {K : Cx} {I : ClassId × ClassId × ClassId × ClassId × ClassId} {g h : Nat → Nat} {b L kc ns : Nat} {xs : Nat → Int32} {k : Nat} {X M : St} (C : NC K 4 cL_law RL room_1 (tyG (g, I))) (S : SC K b L xs) (hcs : kc ≤ room_1.cells ∧ ns ≤ room_1.slots) (hR : Rel k X M) (hk : k < 512) (hi : 6 * k + 6 ≤ L) (hL : L ≤ 3072) (fin : ∀ X1 M1 : St, Rel (k + 1) X1 M1 → WN K 4 kc ns (xw (g, I) X1 ++ mw (h, I) M1) 1185 [(0, .ref b), (1, .ref (g 0)), (2, .ref (h 0)), (3, .int (nI (6 * k)))] []) : WN K 4 kc ns (xw (g, I) X ++ mw (h, I) M) 347 [(0, .ref b), (1, .ref (g 0)), (2, .ref (h 0)), (3, .int (nI (6 * k)))] [] := by
  obtain ⟨PX, PM, hX, hM, hf⟩ := law_mark hR (xs (6 * k + 1)) (xs (6 * k + 2)) (g, I) (h, I)
  refine n_aload_n C (pc := 347) dL_law_347 1 rfl rfl ?_
  refine n_arg C S (pc := 348) (j := 1) (by decide) (by omega) hL dL_law_348 dL_law_349 dL_law_350 dL_law_351 dL_law_352 ?_
  refine n_arg C S (pc := 353) (j := 2) (by decide) (by omega) hL dL_law_353 dL_law_354 dL_law_355 dL_law_356 dL_law_357 ?_
  refine n_callVi C (pc := 358) (wf := xw (g, I)) (xw_adr _) [.int (xs (6 * k + 1)), .int (xs (6 * k + 2))] hX (xe_0 (g, I) X) rfl ml_L_36 co_X8_mark im_X8_mark se_X8_mark in_X8 hy_X8_mark (Nat.le_of_ble_eq_true rfl) (Nat.le_of_ble_eq_true rfl) (Nat.le_of_ble_eq_true rfl) hcs dL_law_358 rfl (fun r X1 p1 => ?_)
  refine n_swap ?_
  refine n_aload_n C (pc := 361) dL_law_361 2 rfl rfl ?_
  refine n_arg C S (pc := 362) (j := 1) (by decide) (by omega) hL dL_law_362 dL_law_363 dL_law_364 dL_law_365 dL_law_366 ?_
  refine n_arg C S (pc := 367) (j := 2) (by decide) (by omega) hL dL_law_367 dL_law_368 dL_law_369 dL_law_370 dL_law_371 ?_
  refine n_callVi C (pc := 372) (wf := mw (h, I)) (mw_adr _) [.int (xs (6 * k + 1)), .int (xs (6 * k + 2))] hM (me_0 (h, I) M) rfl ml_L_39 co_X9_mark im_X9_mark se_X9_mark in_X9 hy_X9_mark (Nat.le_of_ble_eq_true rfl) (Nat.le_of_ble_eq_true rfl) (Nat.le_of_ble_eq_true rfl) hcs dL_law_372 rfl (fun r2 M1 p2 => ?_)
  refine n_swap ?_
  obtain ⟨e, hR1⟩ := hf r X1 r2 M1 p1 p2
  exact n_icmp_eq C (pc := 375) (tgt := 1185) dL_law_375 (by decide) (fun _ => fin X1 M1 hR1) (fun q => absurd e q)
theorem case_mean {K : Cx} {I : ClassId × ClassId × ClassId × ClassId × ClassId} {g h : Nat → Nat} {b L kc ns : Nat} {xs : Nat → Int32} {k : Nat} {X M : St} (C : NC K 4 cL_law RL room_1 (tyG (g, I))) (S : SC K b L xs) (hcs : kc ≤ room_1.cells ∧ ns ≤ room_1.slots) (hR : Rel k X M) (hk : k < 512) (hi : 6 * k + 6 ≤ L) (hL : L ≤ 3072) (fin : ∀ X1 M1 : St, Rel (k + 1) X1 M1 → WN K 4 kc ns (xw (g, I) X1 ++ mw (h, I) M1) 1185 [(0, .ref b), (1, .ref (g 0)), (2, .ref (h 0)), (3, .int (nI (6 * k)))] []) : WN K 4 kc ns (xw (g, I) X ++ mw (h, I) M) 380 [(0, .ref b), (1, .ref (g 0)), (2, .ref (h 0)), (3, .int (nI (6 * k)))] [] := by
  obtain ⟨PX, PM, hX, hM, hf⟩ := law_mean hR (xs (6 * k + 1)) (g, I) (h, I)
  refine n_aload_n C (pc := 380) dL_law_380 1 rfl rfl ?_
  refine n_arg C S (pc := 381) (j := 1) (by decide) (by omega) hL dL_law_381 dL_law_382 dL_law_383 dL_law_384 dL_law_385 ?_
  refine n_callVi C (pc := 386) (wf := xw (g, I)) (xw_adr _) [.int (xs (6 * k + 1))] hX (xe_0 (g, I) X) rfl ml_L_40 co_X8_mean im_X8_mean se_X8_mean in_X8 hy_X8_mean (Nat.le_of_ble_eq_true rfl) (Nat.le_of_ble_eq_true rfl) (Nat.le_of_ble_eq_true rfl) hcs dL_law_386 rfl (fun r X1 p1 => ?_)
  refine n_swap ?_
  refine n_aload_n C (pc := 389) dL_law_389 2 rfl rfl ?_
  refine n_arg C S (pc := 390) (j := 1) (by decide) (by omega) hL dL_law_390 dL_law_391 dL_law_392 dL_law_393 dL_law_394 ?_
  refine n_callVi C (pc := 395) (wf := mw (h, I)) (mw_adr _) [.int (xs (6 * k + 1))] hM (me_0 (h, I) M) rfl ml_L_43 co_X9_mean im_X9_mean se_X9_mean in_X9 hy_X9_mean (Nat.le_of_ble_eq_true rfl) (Nat.le_of_ble_eq_true rfl) (Nat.le_of_ble_eq_true rfl) hcs dL_law_395 rfl (fun r2 M1 p2 => ?_)
  refine n_swap ?_
  obtain ⟨e, hR1⟩ := hf r X1 r2 M1 p1 p2
  exact n_icmp_eq C (pc := 398) (tgt := 1185) dL_law_398 (by decide) (fun _ => fin X1 M1 hR1) (fun q => absurd e q)
theorem case_sheet {K : Cx} {I : ClassId × ClassId × ClassId × ClassId × ClassId} {g h : Nat → Nat} {b L kc ns : Nat} {xs : Nat → Int32} {k : Nat} {X M : St} (C : NC K 4 cL_law RL room_1 (tyG (g, I))) (S : SC K b L xs) (hcs : kc ≤ room_1.cells ∧ ns ≤ room_1.slots) (hR : Rel k X M) (hk : k < 512) (hi : 6 * k + 6 ≤ L) (hL : L ≤ 3072) (fin : ∀ X1 M1 : St, Rel (k + 1) X1 M1 → WN K 4 kc ns (xw (g, I) X1 ++ mw (h, I) M1) 1185 [(0, .ref b), (1, .ref (g 0)), (2, .ref (h 0)), (3, .int (nI (6 * k)))] []) : WN K 4 kc ns (xw (g, I) X ++ mw (h, I) M) 403 [(0, .ref b), (1, .ref (g 0)), (2, .ref (h 0)), (3, .int (nI (6 * k)))] [] := by
  obtain ⟨PX, PM, hX, hM, hf⟩ := law_sheet hR (xs (6 * k + 1)) (xs (6 * k + 2)) (g, I) (h, I)
  refine n_aload_n C (pc := 403) dL_law_403 1 rfl rfl ?_
  refine n_arg C S (pc := 404) (j := 1) (by decide) (by omega) hL dL_law_404 dL_law_405 dL_law_406 dL_law_407 dL_law_408 ?_
  refine n_arg C S (pc := 409) (j := 2) (by decide) (by omega) hL dL_law_409 dL_law_410 dL_law_411 dL_law_412 dL_law_413 ?_
  refine n_callVi C (pc := 414) (wf := xw (g, I)) (xw_adr _) [.int (xs (6 * k + 1)), .int (xs (6 * k + 2))] hX (xe_0 (g, I) X) rfl ml_L_44 co_X8_sheet im_X8_sheet se_X8_sheet in_X8 hy_X8_sheet (Nat.le_of_ble_eq_true rfl) (Nat.le_of_ble_eq_true rfl) (Nat.le_of_ble_eq_true rfl) hcs dL_law_414 rfl (fun r X1 p1 => ?_)
  refine n_swap ?_
  refine n_aload_n C (pc := 417) dL_law_417 2 rfl rfl ?_
  refine n_arg C S (pc := 418) (j := 1) (by decide) (by omega) hL dL_law_418 dL_law_419 dL_law_420 dL_law_421 dL_law_422 ?_
  refine n_arg C S (pc := 423) (j := 2) (by decide) (by omega) hL dL_law_423 dL_law_424 dL_law_425 dL_law_426 dL_law_427 ?_
  refine n_callVi C (pc := 428) (wf := mw (h, I)) (mw_adr _) [.int (xs (6 * k + 1)), .int (xs (6 * k + 2))] hM (me_0 (h, I) M) rfl ml_L_47 co_X9_sheet im_X9_sheet se_X9_sheet in_X9 hy_X9_sheet (Nat.le_of_ble_eq_true rfl) (Nat.le_of_ble_eq_true rfl) (Nat.le_of_ble_eq_true rfl) hcs dL_law_428 rfl (fun r2 M1 p2 => ?_)
  refine n_swap ?_
  obtain ⟨e, hR1⟩ := hf r X1 r2 M1 p1 p2
  exact n_icmp_eq C (pc := 431) (tgt := 1185) dL_law_431 (by decide) (fun _ => fin X1 M1 hR1) (fun q => absurd e q)
theorem case_lay {K : Cx} {I : ClassId × ClassId × ClassId × ClassId × ClassId} {g h : Nat → Nat} {b L kc ns : Nat} {xs : Nat → Int32} {k : Nat} {X M : St} (C : NC K 4 cL_law RL room_1 (tyG (g, I))) (S : SC K b L xs) (hcs : kc ≤ room_1.cells ∧ ns ≤ room_1.slots) (hR : Rel k X M) (hk : k < 512) (hi : 6 * k + 6 ≤ L) (hL : L ≤ 3072) (fin : ∀ X1 M1 : St, Rel (k + 1) X1 M1 → WN K 4 kc ns (xw (g, I) X1 ++ mw (h, I) M1) 1185 [(0, .ref b), (1, .ref (g 0)), (2, .ref (h 0)), (3, .int (nI (6 * k)))] []) : WN K 4 kc ns (xw (g, I) X ++ mw (h, I) M) 436 [(0, .ref b), (1, .ref (g 0)), (2, .ref (h 0)), (3, .int (nI (6 * k)))] [] := by
  obtain ⟨PX, PM, hX, hM, hf⟩ := law_lay hR (xs (6 * k + 1)) (xs (6 * k + 2)) (xs (6 * k + 3)) (g, I) (h, I)
  refine n_aload_n C (pc := 436) dL_law_436 1 rfl rfl ?_
  refine n_arg C S (pc := 437) (j := 1) (by decide) (by omega) hL dL_law_437 dL_law_438 dL_law_439 dL_law_440 dL_law_441 ?_
  refine n_arg C S (pc := 442) (j := 2) (by decide) (by omega) hL dL_law_442 dL_law_443 dL_law_444 dL_law_445 dL_law_446 ?_
  refine n_arg C S (pc := 447) (j := 3) (by decide) (by omega) hL dL_law_447 dL_law_448 dL_law_449 dL_law_450 dL_law_451 ?_
  refine n_callVi C (pc := 452) (wf := xw (g, I)) (xw_adr _) [.int (xs (6 * k + 1)), .int (xs (6 * k + 2)), .int (xs (6 * k + 3))] hX (xe_0 (g, I) X) rfl ml_L_48 co_X8_lay im_X8_lay se_X8_lay in_X8 hy_X8_lay (Nat.le_of_ble_eq_true rfl) (Nat.le_of_ble_eq_true rfl) (Nat.le_of_ble_eq_true rfl) hcs dL_law_452 rfl (fun r X1 p1 => ?_)
  refine n_swap ?_
  refine n_aload_n C (pc := 455) dL_law_455 2 rfl rfl ?_
  refine n_arg C S (pc := 456) (j := 1) (by decide) (by omega) hL dL_law_456 dL_law_457 dL_law_458 dL_law_459 dL_law_460 ?_
  refine n_arg C S (pc := 461) (j := 2) (by decide) (by omega) hL dL_law_461 dL_law_462 dL_law_463 dL_law_464 dL_law_465 ?_
  refine n_arg C S (pc := 466) (j := 3) (by decide) (by omega) hL dL_law_466 dL_law_467 dL_law_468 dL_law_469 dL_law_470 ?_
  refine n_callVi C (pc := 471) (wf := mw (h, I)) (mw_adr _) [.int (xs (6 * k + 1)), .int (xs (6 * k + 2)), .int (xs (6 * k + 3))] hM (me_0 (h, I) M) rfl ml_L_51 co_X9_lay im_X9_lay se_X9_lay in_X9 hy_X9_lay (Nat.le_of_ble_eq_true rfl) (Nat.le_of_ble_eq_true rfl) (Nat.le_of_ble_eq_true rfl) hcs dL_law_471 rfl (fun r2 M1 p2 => ?_)
  refine n_swap ?_
  obtain ⟨e, hR1⟩ := hf r X1 r2 M1 p1 p2
  exact n_icmp_eq C (pc := 474) (tgt := 1185) dL_law_474 (by decide) (fun _ => fin X1 M1 hR1) (fun q => absurd e q)
theorem case_tear {K : Cx} {I : ClassId × ClassId × ClassId × ClassId × ClassId} {g h : Nat → Nat} {b L kc ns : Nat} {xs : Nat → Int32} {k : Nat} {X M : St} (C : NC K 4 cL_law RL room_1 (tyG (g, I))) (S : SC K b L xs) (hcs : kc ≤ room_1.cells ∧ ns ≤ room_1.slots) (hR : Rel k X M) (hk : k < 512) (hi : 6 * k + 6 ≤ L) (hL : L ≤ 3072) (fin : ∀ X1 M1 : St, Rel (k + 1) X1 M1 → WN K 4 kc ns (xw (g, I) X1 ++ mw (h, I) M1) 1185 [(0, .ref b), (1, .ref (g 0)), (2, .ref (h 0)), (3, .int (nI (6 * k)))] []) : WN K 4 kc ns (xw (g, I) X ++ mw (h, I) M) 479 [(0, .ref b), (1, .ref (g 0)), (2, .ref (h 0)), (3, .int (nI (6 * k)))] [] := by
  obtain ⟨PX, PM, hX, hM, hf⟩ := law_tear hR (xs (6 * k + 1)) (g, I) (h, I)
  refine n_aload_n C (pc := 479) dL_law_479 1 rfl rfl ?_
  refine n_arg C S (pc := 480) (j := 1) (by decide) (by omega) hL dL_law_480 dL_law_481 dL_law_482 dL_law_483 dL_law_484 ?_
  refine n_callVi C (pc := 485) (wf := xw (g, I)) (xw_adr _) [.int (xs (6 * k + 1))] hX (xe_0 (g, I) X) rfl ml_L_52 co_X8_tear im_X8_tear se_X8_tear in_X8 hy_X8_tear (Nat.le_of_ble_eq_true rfl) (Nat.le_of_ble_eq_true rfl) (Nat.le_of_ble_eq_true rfl) hcs dL_law_485 rfl (fun r X1 p1 => ?_)
  refine n_swap ?_
  refine n_aload_n C (pc := 488) dL_law_488 2 rfl rfl ?_
  refine n_arg C S (pc := 489) (j := 1) (by decide) (by omega) hL dL_law_489 dL_law_490 dL_law_491 dL_law_492 dL_law_493 ?_
  refine n_callVi C (pc := 494) (wf := mw (h, I)) (mw_adr _) [.int (xs (6 * k + 1))] hM (me_0 (h, I) M) rfl ml_L_55 co_X9_tear im_X9_tear se_X9_tear in_X9 hy_X9_tear (Nat.le_of_ble_eq_true rfl) (Nat.le_of_ble_eq_true rfl) (Nat.le_of_ble_eq_true rfl) hcs dL_law_494 rfl (fun r2 M1 p2 => ?_)
  refine n_swap ?_
  obtain ⟨e, hR1⟩ := hf r X1 r2 M1 p1 p2
  exact n_icmp_eq C (pc := 497) (tgt := 1185) dL_law_497 (by decide) (fun _ => fin X1 M1 hR1) (fun q => absurd e q)
theorem case_copy {K : Cx} {I : ClassId × ClassId × ClassId × ClassId × ClassId} {g h : Nat → Nat} {b L kc ns : Nat} {xs : Nat → Int32} {k : Nat} {X M : St} (C : NC K 4 cL_law RL room_1 (tyG (g, I))) (S : SC K b L xs) (hcs : kc ≤ room_1.cells ∧ ns ≤ room_1.slots) (hR : Rel k X M) (hk : k < 512) (hi : 6 * k + 6 ≤ L) (hL : L ≤ 3072) (fin : ∀ X1 M1 : St, Rel (k + 1) X1 M1 → WN K 4 kc ns (xw (g, I) X1 ++ mw (h, I) M1) 1185 [(0, .ref b), (1, .ref (g 0)), (2, .ref (h 0)), (3, .int (nI (6 * k)))] []) : WN K 4 kc ns (xw (g, I) X ++ mw (h, I) M) 502 [(0, .ref b), (1, .ref (g 0)), (2, .ref (h 0)), (3, .int (nI (6 * k)))] [] := by
  obtain ⟨PX, PM, hX, hM, hf⟩ := law_copy hR (xs (6 * k + 1)) (xs (6 * k + 2)) (xs (6 * k + 3)) (xs (6 * k + 4)) (xs (6 * k + 5)) (g, I) (h, I)
  refine n_aload_n C (pc := 502) dL_law_502 1 rfl rfl ?_
  refine n_arg C S (pc := 503) (j := 1) (by decide) (by omega) hL dL_law_503 dL_law_504 dL_law_505 dL_law_506 dL_law_507 ?_
  refine n_arg C S (pc := 508) (j := 2) (by decide) (by omega) hL dL_law_508 dL_law_509 dL_law_510 dL_law_511 dL_law_512 ?_
  refine n_arg C S (pc := 513) (j := 3) (by decide) (by omega) hL dL_law_513 dL_law_514 dL_law_515 dL_law_516 dL_law_517 ?_
  refine n_arg C S (pc := 518) (j := 4) (by decide) (by omega) hL dL_law_518 dL_law_519 dL_law_520 dL_law_521 dL_law_522 ?_
  refine n_arg C S (pc := 523) (j := 5) (by decide) (by omega) hL dL_law_523 dL_law_524 dL_law_525 dL_law_526 dL_law_527 ?_
  refine n_callVi C (pc := 528) (wf := xw (g, I)) (xw_adr _) [.int (xs (6 * k + 1)), .int (xs (6 * k + 2)), .int (xs (6 * k + 3)), .int (xs (6 * k + 4)), .int (xs (6 * k + 5))] hX (xe_0 (g, I) X) rfl ml_L_56 co_X8_copy im_X8_copy se_X8_copy in_X8 hy_X8_copy (Nat.le_of_ble_eq_true rfl) (Nat.le_of_ble_eq_true rfl) (Nat.le_of_ble_eq_true rfl) hcs dL_law_528 rfl (fun r X1 p1 => ?_)
  refine n_swap ?_
  refine n_aload_n C (pc := 531) dL_law_531 2 rfl rfl ?_
  refine n_arg C S (pc := 532) (j := 1) (by decide) (by omega) hL dL_law_532 dL_law_533 dL_law_534 dL_law_535 dL_law_536 ?_
  refine n_arg C S (pc := 537) (j := 2) (by decide) (by omega) hL dL_law_537 dL_law_538 dL_law_539 dL_law_540 dL_law_541 ?_
  refine n_arg C S (pc := 542) (j := 3) (by decide) (by omega) hL dL_law_542 dL_law_543 dL_law_544 dL_law_545 dL_law_546 ?_
  refine n_arg C S (pc := 547) (j := 4) (by decide) (by omega) hL dL_law_547 dL_law_548 dL_law_549 dL_law_550 dL_law_551 ?_
  refine n_arg C S (pc := 552) (j := 5) (by decide) (by omega) hL dL_law_552 dL_law_553 dL_law_554 dL_law_555 dL_law_556 ?_
  refine n_callVi C (pc := 557) (wf := mw (h, I)) (mw_adr _) [.int (xs (6 * k + 1)), .int (xs (6 * k + 2)), .int (xs (6 * k + 3)), .int (xs (6 * k + 4)), .int (xs (6 * k + 5))] hM (me_0 (h, I) M) rfl ml_L_60 co_X9_copy im_X9_copy se_X9_copy in_X9 hy_X9_copy (Nat.le_of_ble_eq_true rfl) (Nat.le_of_ble_eq_true rfl) (Nat.le_of_ble_eq_true rfl) hcs dL_law_557 rfl (fun r2 M1 p2 => ?_)
  refine n_swap ?_
  obtain ⟨e, hR1⟩ := hf r X1 r2 M1 p1 p2
  exact n_icmp_eq C (pc := 560) (tgt := 1185) dL_law_560 (by decide) (fun _ => fin X1 M1 hR1) (fun q => absurd e q)
theorem case_prices {K : Cx} {I : ClassId × ClassId × ClassId × ClassId × ClassId} {g h : Nat → Nat} {b L kc ns : Nat} {xs : Nat → Int32} {k : Nat} {X M : St} (C : NC K 4 cL_law RL room_1 (tyG (g, I))) (S : SC K b L xs) (hcs : kc ≤ room_1.cells ∧ ns ≤ room_1.slots) (hR : Rel k X M) (hk : k < 512) (hi : 6 * k + 6 ≤ L) (hL : L ≤ 3072) (fin : ∀ X1 M1 : St, Rel (k + 1) X1 M1 → WN K 4 kc ns (xw (g, I) X1 ++ mw (h, I) M1) 1185 [(0, .ref b), (1, .ref (g 0)), (2, .ref (h 0)), (3, .int (nI (6 * k)))] []) : WN K 4 kc ns (xw (g, I) X ++ mw (h, I) M) 565 [(0, .ref b), (1, .ref (g 0)), (2, .ref (h 0)), (3, .int (nI (6 * k)))] [] := by
  obtain ⟨PX, PM, hX, hM, hf⟩ := law_prices hR (xs (6 * k + 1)) (g, I) (h, I)
  refine n_aload_n C (pc := 565) dL_law_565 1 rfl rfl ?_
  refine n_arg C S (pc := 566) (j := 1) (by decide) (by omega) hL dL_law_566 dL_law_567 dL_law_568 dL_law_569 dL_law_570 ?_
  refine n_callVi C (pc := 571) (wf := xw (g, I)) (xw_adr _) [.int (xs (6 * k + 1))] hX (xe_0 (g, I) X) rfl ml_L_61 co_X8_prices im_X8_prices se_X8_prices in_X8 hy_X8_prices (Nat.le_of_ble_eq_true rfl) (Nat.le_of_ble_eq_true rfl) (Nat.le_of_ble_eq_true rfl) hcs dL_law_571 rfl (fun r X1 p1 => ?_)
  refine n_swap ?_
  refine n_aload_n C (pc := 574) dL_law_574 2 rfl rfl ?_
  refine n_arg C S (pc := 575) (j := 1) (by decide) (by omega) hL dL_law_575 dL_law_576 dL_law_577 dL_law_578 dL_law_579 ?_
  refine n_callVi C (pc := 580) (wf := mw (h, I)) (mw_adr _) [.int (xs (6 * k + 1))] hM (me_0 (h, I) M) rfl ml_L_64 co_X9_prices im_X9_prices se_X9_prices in_X9 hy_X9_prices (Nat.le_of_ble_eq_true rfl) (Nat.le_of_ble_eq_true rfl) (Nat.le_of_ble_eq_true rfl) hcs dL_law_580 rfl (fun r2 M1 p2 => ?_)
  refine n_swap ?_
  obtain ⟨e, hR1⟩ := hf r X1 r2 M1 p1 p2
  exact n_icmp_eq C (pc := 583) (tgt := 1185) dL_law_583 (by decide) (fun _ => fin X1 M1 hR1) (fun q => absurd e q)
