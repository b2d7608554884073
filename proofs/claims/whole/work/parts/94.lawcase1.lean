section LC
variable {X : VX} {D : va_G} {Y : Nat → ClassId} {Q : State → Prop} {AA : Nat → Prop} {a a2 : Nat → Nat} {b M i : Nat} {xs : Nat → Int32} {q pg : Nat → Int32} {gS gU : Nat → Option Nat} {rd : RdT} {ft : FtT} {S : Nat → StT} {U : Nat → UnT} {I : Nat → Int32} {A : Nat → Nat → Int32} {F : Nat → Int64} {L : Nat → Nat → Int64}
theorem law_storm (C : Cx X D Y cL_law 4 RL lw_tbl ret room_1) (hA : ∀ q, (xS X).heap.size ≤ q → AA q) (hX : va_X b M xs (xS X) (xS X).heap) (hbl : b < (xS X).heap.size) (hbA : ¬ AA b) (hL : M ≤ 2560) (hi : i + 5 ≤ M) (hR : Rel a q pg gS gU S U I A) (kk : LK X D Y Q AA a a2 b i) : VW X D 4 Q (KM AA X) (65, 481) (wOff Y a q pg gS gU rd ft S U ++ wM Y a2 I A F L) [(0, .ref b), (1, .ref (a 0)), (2, .ref (a2 0)), (3, .int (nI i))] 235 [] := by
  obtain ⟨g, hw, hC, hM⟩ := hR
  obtain ⟨r, h5, h6⟩ := sim_storm (rd := rd) (ft := ft) (F := F) (L := L) hC hM hw (xs (i + 1)) (xs (i + 2))
  refine V_aload_n (pc := 235) C dL_law_235 rfl 1 rfl ?_
  refine V_arg (pc := 236) (k := 1) C hX hbl hbA hL (by omega) iN1 rfl rfl dL_law_236 dL_law_237 dL_law_238 dL_law_239 dL_law_240 ?_
  refine V_arg (pc := 241) (k := 2) C hX hbl hbA hL (by omega) iN2 rfl rfl dL_law_241 dL_law_242 dL_law_243 dL_law_244 dL_law_245 ?_
  refine V_callLR (pc := 246) (rest := []) (st2 := [.int r]) C (X5_storm_ok h5) gL_X5_storm rfl ⟨rfl, hdX5_storm⟩ ⟨Nat.le_of_ble_eq_true rfl, Nat.le_of_ble_eq_true rfl⟩ ⟨Nat.le_of_ble_eq_true rfl, Nat.le_of_ble_eq_true rfl⟩ 5 rfl rfl rfl (Nat.le_of_ble_eq_true rfl) dL_law_246 rfl ?_
  refine V_aload_n (pc := 249) C dL_law_249 rfl 2 rfl ?_
  refine V_arg (pc := 250) (k := 1) C hX hbl hbA hL (by omega) iN1 rfl rfl dL_law_250 dL_law_251 dL_law_252 dL_law_253 dL_law_254 ?_
  refine V_arg (pc := 255) (k := 2) C hX hbl hbA hL (by omega) iN2 rfl rfl dL_law_255 dL_law_256 dL_law_257 dL_law_258 dL_law_259 ?_
  refine V_callRR (pc := 260) (rest := [.int r]) (st2 := [.int r, .int r]) C (X6_storm_ok h6) gL_X6_storm rfl ⟨rfl, hdX6_storm⟩ ⟨Nat.le_of_ble_eq_true rfl, Nat.le_of_ble_eq_true rfl⟩ ⟨Nat.le_of_ble_eq_true rfl, Nat.le_of_ble_eq_true rfl⟩ 6 rfl rfl rfl (Nat.le_of_ble_eq_true rfl) dL_law_260 rfl ?_
  refine V_icmp_eq (pc := 263) C 761 dL_law_263 rfl (fun _ => ?_) (fun c => absurd rfl c)
  exact kk _ _ _ _ _ _ _ _ _ _ _ _ ⟨g, hw, hC, hM⟩
theorem law_divided (C : Cx X D Y cL_law 4 RL lw_tbl ret room_1) (hA : ∀ q, (xS X).heap.size ≤ q → AA q) (hX : va_X b M xs (xS X) (xS X).heap) (hbl : b < (xS X).heap.size) (hbA : ¬ AA b) (hL : M ≤ 2560) (hi : i + 5 ≤ M) (hR : Rel a q pg gS gU S U I A) (kk : LK X D Y Q AA a a2 b i) : VW X D 4 Q (KM AA X) (65, 481) (wOff Y a q pg gS gU rd ft S U ++ wM Y a2 I A F L) [(0, .ref b), (1, .ref (a 0)), (2, .ref (a2 0)), (3, .int (nI i))] 268 [] := by
  obtain ⟨g, hw, hC, hM⟩ := hR
  obtain ⟨r, p0, p1, h5, h6⟩ := sim_divided (rd := rd) (ft := ft) (F := F) (L := L) hC hM hw (xs (i + 1)) (xs (i + 2))
  refine V_aload_n (pc := 268) C dL_law_268 rfl 1 rfl ?_
  refine V_arg (pc := 269) (k := 1) C hX hbl hbA hL (by omega) iN1 rfl rfl dL_law_269 dL_law_270 dL_law_271 dL_law_272 dL_law_273 ?_
  refine V_arg (pc := 274) (k := 2) C hX hbl hbA hL (by omega) iN2 rfl rfl dL_law_274 dL_law_275 dL_law_276 dL_law_277 dL_law_278 ?_
  refine V_callLR (pc := 279) (rest := []) (st2 := [.int r]) C (X5_divided_ok h5) gL_X5_divided rfl ⟨rfl, hdX5_divided⟩ ⟨Nat.le_of_ble_eq_true rfl, Nat.le_of_ble_eq_true rfl⟩ ⟨Nat.le_of_ble_eq_true rfl, Nat.le_of_ble_eq_true rfl⟩ 5 rfl rfl rfl (Nat.le_of_ble_eq_true rfl) dL_law_279 rfl ?_
  refine V_aload_n (pc := 282) C dL_law_282 rfl 2 rfl ?_
  refine V_arg (pc := 283) (k := 1) C hX hbl hbA hL (by omega) iN1 rfl rfl dL_law_283 dL_law_284 dL_law_285 dL_law_286 dL_law_287 ?_
  refine V_arg (pc := 288) (k := 2) C hX hbl hbA hL (by omega) iN2 rfl rfl dL_law_288 dL_law_289 dL_law_290 dL_law_291 dL_law_292 ?_
  refine V_callRW (pc := 293) (rest := [.int r]) (st2 := [.int r, .int r]) C hA (X6_divided_ok h6) gL_X6_divided rfl ⟨rfl, hdX6_divided⟩ ⟨Nat.le_of_ble_eq_true rfl, Nat.le_of_ble_eq_true rfl⟩ ⟨Nat.le_of_ble_eq_true rfl, Nat.le_of_ble_eq_true rfl⟩ 6 rfl rfl rfl (Nat.le_of_ble_eq_true rfl) dL_law_293 rfl ?_
  refine V_icmp_eq (pc := 296) C 761 dL_law_296 rfl (fun _ => ?_) (fun c => absurd rfl c)
  exact kk _ _ _ _ _ _ _ _ _ _ _ _ ⟨g, hw, hC, hM⟩
theorem law_unit (C : Cx X D Y cL_law 4 RL lw_tbl ret room_1) (hA : ∀ q, (xS X).heap.size ≤ q → AA q) (hX : va_X b M xs (xS X) (xS X).heap) (hbl : b < (xS X).heap.size) (hbA : ¬ AA b) (hL : M ≤ 2560) (hi : i + 5 ≤ M) (hR : Rel a q pg gS gU S U I A) (kk : LK X D Y Q AA a a2 b i) : VW X D 4 Q (KM AA X) (65, 481) (wOff Y a q pg gS gU rd ft S U ++ wM Y a2 I A F L) [(0, .ref b), (1, .ref (a 0)), (2, .ref (a2 0)), (3, .int (nI i))] 301 [] := by
  obtain ⟨g, hw, hC, hM⟩ := hR
  obtain ⟨r, h5, h6⟩ := sim_unit (rd := rd) (ft := ft) (F := F) (L := L) hC hM hw (xs (i + 1)) (xs (i + 2))
  refine V_aload_n (pc := 301) C dL_law_301 rfl 1 rfl ?_
  refine V_arg (pc := 302) (k := 1) C hX hbl hbA hL (by omega) iN1 rfl rfl dL_law_302 dL_law_303 dL_law_304 dL_law_305 dL_law_306 ?_
  refine V_arg (pc := 307) (k := 2) C hX hbl hbA hL (by omega) iN2 rfl rfl dL_law_307 dL_law_308 dL_law_309 dL_law_310 dL_law_311 ?_
  refine V_callLR (pc := 312) (rest := []) (st2 := [.int r]) C (X5_unit_ok h5) gL_X5_unit rfl ⟨rfl, hdX5_unit⟩ ⟨Nat.le_of_ble_eq_true rfl, Nat.le_of_ble_eq_true rfl⟩ ⟨Nat.le_of_ble_eq_true rfl, Nat.le_of_ble_eq_true rfl⟩ 5 rfl rfl rfl (Nat.le_of_ble_eq_true rfl) dL_law_312 rfl ?_
  refine V_aload_n (pc := 315) C dL_law_315 rfl 2 rfl ?_
  refine V_arg (pc := 316) (k := 1) C hX hbl hbA hL (by omega) iN1 rfl rfl dL_law_316 dL_law_317 dL_law_318 dL_law_319 dL_law_320 ?_
  refine V_arg (pc := 321) (k := 2) C hX hbl hbA hL (by omega) iN2 rfl rfl dL_law_321 dL_law_322 dL_law_323 dL_law_324 dL_law_325 ?_
  refine V_callRR (pc := 326) (rest := [.int r]) (st2 := [.int r, .int r]) C (X6_unit_ok h6) gL_X6_unit rfl ⟨rfl, hdX6_unit⟩ ⟨Nat.le_of_ble_eq_true rfl, Nat.le_of_ble_eq_true rfl⟩ ⟨Nat.le_of_ble_eq_true rfl, Nat.le_of_ble_eq_true rfl⟩ 6 rfl rfl rfl (Nat.le_of_ble_eq_true rfl) dL_law_326 rfl ?_
  refine V_icmp_eq (pc := 329) C 761 dL_law_329 rfl (fun _ => ?_) (fun c => absurd rfl c)
  exact kk _ _ _ _ _ _ _ _ _ _ _ _ ⟨g, hw, hC, hM⟩
theorem law_made (C : Cx X D Y cL_law 4 RL lw_tbl ret room_1) (hA : ∀ q, (xS X).heap.size ≤ q → AA q) (hX : va_X b M xs (xS X) (xS X).heap) (hbl : b < (xS X).heap.size) (hbA : ¬ AA b) (hL : M ≤ 2560) (hi : i + 5 ≤ M) (hR : Rel a q pg gS gU S U I A) (kk : LK X D Y Q AA a a2 b i) : VW X D 4 Q (KM AA X) (65, 481) (wOff Y a q pg gS gU rd ft S U ++ wM Y a2 I A F L) [(0, .ref b), (1, .ref (a 0)), (2, .ref (a2 0)), (3, .int (nI i))] 334 [] := by
  obtain ⟨g, hw, hC, hM⟩ := hR
  obtain ⟨r, h5, h6⟩ := sim_made (rd := rd) (ft := ft) (F := F) (L := L) hC hM hw (xs (i + 1)) (xs (i + 2)) (xs (i + 3))
  refine V_aload_n (pc := 334) C dL_law_334 rfl 1 rfl ?_
  refine V_arg (pc := 335) (k := 1) C hX hbl hbA hL (by omega) iN1 rfl rfl dL_law_335 dL_law_336 dL_law_337 dL_law_338 dL_law_339 ?_
  refine V_arg (pc := 340) (k := 2) C hX hbl hbA hL (by omega) iN2 rfl rfl dL_law_340 dL_law_341 dL_law_342 dL_law_343 dL_law_344 ?_
  refine V_arg (pc := 345) (k := 3) C hX hbl hbA hL (by omega) iN3 rfl rfl dL_law_345 dL_law_346 dL_law_347 dL_law_348 dL_law_349 ?_
  refine V_callLR (pc := 350) (rest := []) (st2 := [.int r]) C (X5_made_ok h5) gL_X5_made rfl ⟨rfl, hdX5_made⟩ ⟨Nat.le_of_ble_eq_true rfl, Nat.le_of_ble_eq_true rfl⟩ ⟨Nat.le_of_ble_eq_true rfl, Nat.le_of_ble_eq_true rfl⟩ 5 rfl rfl rfl (Nat.le_of_ble_eq_true rfl) dL_law_350 rfl ?_
  refine V_aload_n (pc := 353) C dL_law_353 rfl 2 rfl ?_
  refine V_arg (pc := 354) (k := 1) C hX hbl hbA hL (by omega) iN1 rfl rfl dL_law_354 dL_law_355 dL_law_356 dL_law_357 dL_law_358 ?_
  refine V_arg (pc := 359) (k := 2) C hX hbl hbA hL (by omega) iN2 rfl rfl dL_law_359 dL_law_360 dL_law_361 dL_law_362 dL_law_363 ?_
  refine V_arg (pc := 364) (k := 3) C hX hbl hbA hL (by omega) iN3 rfl rfl dL_law_364 dL_law_365 dL_law_366 dL_law_367 dL_law_368 ?_
  refine V_callRR (pc := 369) (rest := [.int r]) (st2 := [.int r, .int r]) C (X6_made_ok h6) gL_X6_made rfl ⟨rfl, hdX6_made⟩ ⟨Nat.le_of_ble_eq_true rfl, Nat.le_of_ble_eq_true rfl⟩ ⟨Nat.le_of_ble_eq_true rfl, Nat.le_of_ble_eq_true rfl⟩ 6 rfl rfl rfl (Nat.le_of_ble_eq_true rfl) dL_law_369 rfl ?_
  refine V_icmp_eq (pc := 372) C 761 dL_law_372 rfl (fun _ => ?_) (fun c => absurd rfl c)
  exact kk _ _ _ _ _ _ _ _ _ _ _ _ ⟨g, hw, hC, hM⟩
theorem law_missed (C : Cx X D Y cL_law 4 RL lw_tbl ret room_1) (hA : ∀ q, (xS X).heap.size ≤ q → AA q) (hX : va_X b M xs (xS X) (xS X).heap) (hbl : b < (xS X).heap.size) (hbA : ¬ AA b) (hL : M ≤ 2560) (hi : i + 5 ≤ M) (hR : Rel a q pg gS gU S U I A) (kk : LK X D Y Q AA a a2 b i) : VW X D 4 Q (KM AA X) (65, 481) (wOff Y a q pg gS gU rd ft S U ++ wM Y a2 I A F L) [(0, .ref b), (1, .ref (a 0)), (2, .ref (a2 0)), (3, .int (nI i))] 377 [] := by
  obtain ⟨g, hw, hC, hM⟩ := hR
  obtain ⟨r, h5, h6⟩ := sim_missed (rd := rd) (ft := ft) (F := F) (L := L) hC hM hw (xs (i + 1)) (xs (i + 2))
  refine V_aload_n (pc := 377) C dL_law_377 rfl 1 rfl ?_
  refine V_arg (pc := 378) (k := 1) C hX hbl hbA hL (by omega) iN1 rfl rfl dL_law_378 dL_law_379 dL_law_380 dL_law_381 dL_law_382 ?_
  refine V_arg (pc := 383) (k := 2) C hX hbl hbA hL (by omega) iN2 rfl rfl dL_law_383 dL_law_384 dL_law_385 dL_law_386 dL_law_387 ?_
  refine V_callLR (pc := 388) (rest := []) (st2 := [.int r]) C (X5_missed_ok h5) gL_X5_missed rfl ⟨rfl, hdX5_missed⟩ ⟨Nat.le_of_ble_eq_true rfl, Nat.le_of_ble_eq_true rfl⟩ ⟨Nat.le_of_ble_eq_true rfl, Nat.le_of_ble_eq_true rfl⟩ 5 rfl rfl rfl (Nat.le_of_ble_eq_true rfl) dL_law_388 rfl ?_
  refine V_aload_n (pc := 391) C dL_law_391 rfl 2 rfl ?_
  refine V_arg (pc := 392) (k := 1) C hX hbl hbA hL (by omega) iN1 rfl rfl dL_law_392 dL_law_393 dL_law_394 dL_law_395 dL_law_396 ?_
  refine V_arg (pc := 397) (k := 2) C hX hbl hbA hL (by omega) iN2 rfl rfl dL_law_397 dL_law_398 dL_law_399 dL_law_400 dL_law_401 ?_
  refine V_callRR (pc := 402) (rest := [.int r]) (st2 := [.int r, .int r]) C (X6_missed_ok h6) gL_X6_missed rfl ⟨rfl, hdX6_missed⟩ ⟨Nat.le_of_ble_eq_true rfl, Nat.le_of_ble_eq_true rfl⟩ ⟨Nat.le_of_ble_eq_true rfl, Nat.le_of_ble_eq_true rfl⟩ 6 rfl rfl rfl (Nat.le_of_ble_eq_true rfl) dL_law_402 rfl ?_
  refine V_icmp_eq (pc := 405) C 761 dL_law_405 rfl (fun _ => ?_) (fun c => absurd rfl c)
  exact kk _ _ _ _ _ _ _ _ _ _ _ _ ⟨g, hw, hC, hM⟩
end LC
