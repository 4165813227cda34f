section CPV
variable {p : Program} {l : Launch} {e : Env} {s : State} {m : MethodId} {below : List Frame} {meth : Method} {c : Code} {b L : Nat} {xs : Nat → Int32} {w : cpW} {A : Nat → Prop}
set_option maxRecDepth 100000 in
set_option maxHeartbeats 4000000 in
theorem law_case0 (C : cpCL p s m meth c b L xs w A) {Rl : cpS → Prop} (hQ : cpQ_feed Rl) {i : Nat} (hi : i + 5 < L) {S : cpS} (hRl : Rl S) (cont : ∀ S2, Rl S2 → cpJL p l e s m below meth c b w A 1880 [some (.ref b), some (.ref (w.2.1 0)), some (.ref (w.2.1 150)), some (.int (nI i))] [] S2) : cpJL p l e s m below meth c b w A 236 [some (.ref b), some (.ref (w.2.1 0)), some (.ref (w.2.1 150)), some (.int (nI i))] [] S := by
  obtain ⟨r, S1, S2, h1, h2, hR2⟩ := hQ (xs (i + 1)) (xs (i + 2)) (xs (i + 3)) (xs (i + 4)) (xs (i + 5)) S hRl
  refine cl_aload C (i := 1) dL_law_236 rfl rfl ?_
  refine cl_arg C (j := 1) (by omega) rfl rfl (by decide) dL_law_237 dL_law_238 dL_law_239 dL_law_240 dL_law_241 ?_
  refine cl_arg C (j := 2) (by omega) rfl rfl (by decide) dL_law_242 dL_law_243 dL_law_244 dL_law_245 dL_law_246 ?_
  refine cl_arg C (j := 3) (by omega) rfl rfl (by decide) dL_law_247 dL_law_248 dL_law_249 dL_law_250 dL_law_251 ?_
  refine cl_arg C (j := 4) (by omega) rfl rfl (by decide) dL_law_252 dL_law_253 dL_law_254 dL_law_255 dL_law_256 ?_
  refine cl_arg C (j := 5) (by omega) rfl rfl (by decide) dL_law_257 dL_law_258 dL_law_259 dL_law_260 dL_law_261 ?_
  refine cl_calli C (As := [.int (xs (i + 1)), .int (xs (i + 2)), .int (xs (i + 3)), .int (xs (i + 4)), .int (xs (i + 5))]) (rest := []) qX11_feed mw_9_5 o_0 rfl rfl rfl (Nat.le_of_ble_eq_true rfl) (by decide) dL_law_262 (m_X11_feed l w A (xs (i + 1)) (xs (i + 2)) (xs (i + 3)) (xs (i + 4)) (xs (i + 5)) S (r, S1) h1) ?_
  refine cl_aload C (i := 2) dL_law_265 rfl rfl ?_
  refine cl_arg C (j := 1) (by omega) rfl rfl (by decide) dL_law_266 dL_law_267 dL_law_268 dL_law_269 dL_law_270 ?_
  refine cl_arg C (j := 2) (by omega) rfl rfl (by decide) dL_law_271 dL_law_272 dL_law_273 dL_law_274 dL_law_275 ?_
  refine cl_arg C (j := 3) (by omega) rfl rfl (by decide) dL_law_276 dL_law_277 dL_law_278 dL_law_279 dL_law_280 ?_
  refine cl_arg C (j := 4) (by omega) rfl rfl (by decide) dL_law_281 dL_law_282 dL_law_283 dL_law_284 dL_law_285 ?_
  refine cl_arg C (j := 5) (by omega) rfl rfl (by decide) dL_law_286 dL_law_287 dL_law_288 dL_law_289 dL_law_290 ?_
  refine cl_calli C (As := [.int (xs (i + 1)), .int (xs (i + 2)), .int (xs (i + 3)), .int (xs (i + 4)), .int (xs (i + 5))]) (rest := [.int r]) qX12_feed mw_9_15 o_150 rfl rfl rfl (Nat.le_of_ble_eq_true rfl) (by decide) dL_law_291 (m_X12_feed l w A (xs (i + 1)) (xs (i + 2)) (xs (i + 3)) (xs (i + 4)) (xs (i + 5)) S1 (r, S2) h2) ?_
  refine cl_eq C (tgt := 1880) dL_law_294 rfl ?_
  exact cont S2 hR2
set_option maxRecDepth 100000 in
set_option maxHeartbeats 4000000 in
theorem law_case1 (C : cpCL p s m meth c b L xs w A) {Rl : cpS → Prop} (hQ : cpQ_valley Rl) {i : Nat} (hi : i + 5 < L) {S : cpS} (hRl : Rl S) (cont : ∀ S2, Rl S2 → cpJL p l e s m below meth c b w A 1880 [some (.ref b), some (.ref (w.2.1 0)), some (.ref (w.2.1 150)), some (.int (nI i))] [] S2) : cpJL p l e s m below meth c b w A 299 [some (.ref b), some (.ref (w.2.1 0)), some (.ref (w.2.1 150)), some (.int (nI i))] [] S := by
  obtain ⟨r, S1, S2, h1, h2, hR2⟩ := hQ (xs (i + 1)) S hRl
  refine cl_aload C (i := 1) dL_law_299 rfl rfl ?_
  refine cl_arg C (j := 1) (by omega) rfl rfl (by decide) dL_law_300 dL_law_301 dL_law_302 dL_law_303 dL_law_304 ?_
  refine cl_calli C (As := [.int (xs (i + 1))]) (rest := []) qX11_valley mw_9_21 o_0 rfl rfl rfl (Nat.le_of_ble_eq_true rfl) (by decide) dL_law_305 (m_X11_valley l w A (xs (i + 1)) S (r, S1) h1) ?_
  refine cl_aload C (i := 2) dL_law_308 rfl rfl ?_
  refine cl_arg C (j := 1) (by omega) rfl rfl (by decide) dL_law_309 dL_law_310 dL_law_311 dL_law_312 dL_law_313 ?_
  refine cl_calli C (As := [.int (xs (i + 1))]) (rest := [.int r]) qX12_valley mw_23_5 o_150 rfl rfl rfl (Nat.le_of_ble_eq_true rfl) (by decide) dL_law_314 (m_X12_valley l w A (xs (i + 1)) S1 (r, S2) h2) ?_
  refine cl_eq C (tgt := 1880) dL_law_317 rfl ?_
  exact cont S2 hR2
set_option maxRecDepth 100000 in
set_option maxHeartbeats 4000000 in
theorem law_case2 (C : cpCL p s m meth c b L xs w A) {Rl : cpS → Prop} (hQ : cpQ_fault Rl) {i : Nat} (hi : i + 5 < L) {S : cpS} (hRl : Rl S) (cont : ∀ S2, Rl S2 → cpJL p l e s m below meth c b w A 1880 [some (.ref b), some (.ref (w.2.1 0)), some (.ref (w.2.1 150)), some (.int (nI i))] [] S2) : cpJL p l e s m below meth c b w A 322 [some (.ref b), some (.ref (w.2.1 0)), some (.ref (w.2.1 150)), some (.int (nI i))] [] S := by
  obtain ⟨r, S1, S2, h1, h2, hR2⟩ := hQ (xs (i + 1)) S hRl
  refine cl_aload C (i := 1) dL_law_322 rfl rfl ?_
  refine cl_arg C (j := 1) (by omega) rfl rfl (by decide) dL_law_323 dL_law_324 dL_law_325 dL_law_326 dL_law_327 ?_
  refine cl_calli C (As := [.int (xs (i + 1))]) (rest := []) qX11_fault mw_28_13 o_0 rfl rfl rfl (Nat.le_of_ble_eq_true rfl) (by decide) dL_law_328 (m_X11_fault l w A (xs (i + 1)) S (r, S1) h1) ?_
  refine cl_aload C (i := 2) dL_law_331 rfl rfl ?_
  refine cl_arg C (j := 1) (by omega) rfl rfl (by decide) dL_law_332 dL_law_333 dL_law_334 dL_law_335 dL_law_336 ?_
  refine cl_calli C (As := [.int (xs (i + 1))]) (rest := [.int r]) qX12_fault mw_28_18 o_150 rfl rfl rfl (Nat.le_of_ble_eq_true rfl) (by decide) dL_law_337 (m_X12_fault l w A (xs (i + 1)) S1 (r, S2) h2) ?_
  refine cl_eq C (tgt := 1880) dL_law_340 rfl ?_
  exact cont S2 hR2
set_option maxRecDepth 100000 in
set_option maxHeartbeats 4000000 in
theorem law_case3 (C : cpCL p s m meth c b L xs w A) {Rl : cpS → Prop} (hQ : cpQ_person Rl) {i : Nat} (hi : i + 5 < L) {S : cpS} (hRl : Rl S) (cont : ∀ S2, Rl S2 → cpJL p l e s m below meth c b w A 1880 [some (.ref b), some (.ref (w.2.1 0)), some (.ref (w.2.1 150)), some (.int (nI i))] [] S2) : cpJL p l e s m below meth c b w A 345 [some (.ref b), some (.ref (w.2.1 0)), some (.ref (w.2.1 150)), some (.int (nI i))] [] S := by
  obtain ⟨r, S1, S2, h1, h2, hR2⟩ := hQ (xs (i + 1)) (xs (i + 2)) S hRl
  refine cl_aload C (i := 1) dL_law_345 rfl rfl ?_
  refine cl_arg C (j := 1) (by omega) rfl rfl (by decide) dL_law_346 dL_law_347 dL_law_348 dL_law_349 dL_law_350 ?_
  refine cl_arg C (j := 2) (by omega) rfl rfl (by decide) dL_law_351 dL_law_352 dL_law_353 dL_law_354 dL_law_355 ?_
  refine cl_calli C (As := [.int (xs (i + 1)), .int (xs (i + 2))]) (rest := []) qX11_person mw_28_22 o_0 rfl rfl rfl (Nat.le_of_ble_eq_true rfl) (by decide) dL_law_356 (m_X11_person l w A (xs (i + 1)) (xs (i + 2)) S (r, S1) h1) ?_
  refine cl_aload C (i := 2) dL_law_359 rfl rfl ?_
  refine cl_arg C (j := 1) (by omega) rfl rfl (by decide) dL_law_360 dL_law_361 dL_law_362 dL_law_363 dL_law_364 ?_
  refine cl_arg C (j := 2) (by omega) rfl rfl (by decide) dL_law_365 dL_law_366 dL_law_367 dL_law_368 dL_law_369 ?_
  refine cl_calli C (As := [.int (xs (i + 1)), .int (xs (i + 2))]) (rest := [.int r]) qX12_person mw_29_9 o_150 rfl rfl rfl (Nat.le_of_ble_eq_true rfl) (by decide) dL_law_370 (m_X12_person l w A (xs (i + 1)) (xs (i + 2)) S1 (r, S2) h2) ?_
  refine cl_eq C (tgt := 1880) dL_law_373 rfl ?_
  exact cont S2 hR2
set_option maxRecDepth 100000 in
set_option maxHeartbeats 4000000 in
theorem law_case4 (C : cpCL p s m meth c b L xs w A) {Rl : cpS → Prop} (hQ : cpQ_coin Rl) {i : Nat} (hi : i + 5 < L) {S : cpS} (hRl : Rl S) (cont : ∀ S2, Rl S2 → cpJL p l e s m below meth c b w A 1880 [some (.ref b), some (.ref (w.2.1 0)), some (.ref (w.2.1 150)), some (.int (nI i))] [] S2) : cpJL p l e s m below meth c b w A 378 [some (.ref b), some (.ref (w.2.1 0)), some (.ref (w.2.1 150)), some (.int (nI i))] [] S := by
  obtain ⟨r, S1, S2, h1, h2, hR2⟩ := hQ (xs (i + 1)) (xs (i + 2)) S hRl
  refine cl_aload C (i := 1) dL_law_378 rfl rfl ?_
  refine cl_arg C (j := 1) (by omega) rfl rfl (by decide) dL_law_379 dL_law_380 dL_law_381 dL_law_382 dL_law_383 ?_
  refine cl_arg C (j := 2) (by omega) rfl rfl (by decide) dL_law_384 dL_law_385 dL_law_386 dL_law_387 dL_law_388 ?_
  refine cl_calli C (As := [.int (xs (i + 1)), .int (xs (i + 2))]) (rest := []) qX11_coin mw_29_17 o_0 rfl rfl rfl (Nat.le_of_ble_eq_true rfl) (by decide) dL_law_389 (m_X11_coin l w A (xs (i + 1)) (xs (i + 2)) S (r, S1) h1) ?_
  refine cl_aload C (i := 2) dL_law_392 rfl rfl ?_
  refine cl_arg C (j := 1) (by omega) rfl rfl (by decide) dL_law_393 dL_law_394 dL_law_395 dL_law_396 dL_law_397 ?_
  refine cl_arg C (j := 2) (by omega) rfl rfl (by decide) dL_law_398 dL_law_399 dL_law_400 dL_law_401 dL_law_402 ?_
  refine cl_calli C (As := [.int (xs (i + 1)), .int (xs (i + 2))]) (rest := [.int r]) qX12_coin mw_30_5 o_150 rfl rfl rfl (Nat.le_of_ble_eq_true rfl) (by decide) dL_law_403 (m_X12_coin l w A (xs (i + 1)) (xs (i + 2)) S1 (r, S2) h2) ?_
  refine cl_eq C (tgt := 1880) dL_law_406 rfl ?_
  exact cont S2 hR2
set_option maxRecDepth 100000 in
set_option maxHeartbeats 4000000 in
theorem law_case5 (C : cpCL p s m meth c b L xs w A) {Rl : cpS → Prop} (hQ : cpQ_road Rl) {i : Nat} (hi : i + 5 < L) {S : cpS} (hRl : Rl S) (cont : ∀ S2, Rl S2 → cpJL p l e s m below meth c b w A 1880 [some (.ref b), some (.ref (w.2.1 0)), some (.ref (w.2.1 150)), some (.int (nI i))] [] S2) : cpJL p l e s m below meth c b w A 411 [some (.ref b), some (.ref (w.2.1 0)), some (.ref (w.2.1 150)), some (.int (nI i))] [] S := by
  obtain ⟨r, S1, S2, h1, h2, hR2⟩ := hQ (xs (i + 1)) (xs (i + 2)) S hRl
  refine cl_aload C (i := 1) dL_law_411 rfl rfl ?_
  refine cl_arg C (j := 1) (by omega) rfl rfl (by decide) dL_law_412 dL_law_413 dL_law_414 dL_law_415 dL_law_416 ?_
  refine cl_arg C (j := 2) (by omega) rfl rfl (by decide) dL_law_417 dL_law_418 dL_law_419 dL_law_420 dL_law_421 ?_
  refine cl_calli C (As := [.int (xs (i + 1)), .int (xs (i + 2))]) (rest := []) qX11_road mw_30_13 o_0 rfl rfl rfl (Nat.le_of_ble_eq_true rfl) (by decide) dL_law_422 (m_X11_road l w A (xs (i + 1)) (xs (i + 2)) S (r, S1) h1) ?_
  refine cl_aload C (i := 2) dL_law_425 rfl rfl ?_
  refine cl_arg C (j := 1) (by omega) rfl rfl (by decide) dL_law_426 dL_law_427 dL_law_428 dL_law_429 dL_law_430 ?_
  refine cl_arg C (j := 2) (by omega) rfl rfl (by decide) dL_law_431 dL_law_432 dL_law_433 dL_law_434 dL_law_435 ?_
  refine cl_calli C (As := [.int (xs (i + 1)), .int (xs (i + 2))]) (rest := [.int r]) qX12_road mw_30_21 o_150 rfl rfl rfl (Nat.le_of_ble_eq_true rfl) (by decide) dL_law_436 (m_X12_road l w A (xs (i + 1)) (xs (i + 2)) S1 (r, S2) h2) ?_
  refine cl_eq C (tgt := 1880) dL_law_439 rfl ?_
  exact cont S2 hR2
set_option maxRecDepth 100000 in
set_option maxHeartbeats 4000000 in
theorem law_case6 (C : cpCL p s m meth c b L xs w A) {Rl : cpS → Prop} (hQ : cpQ_far Rl) {i : Nat} (hi : i + 5 < L) {S : cpS} (hRl : Rl S) (cont : ∀ S2, Rl S2 → cpJL p l e s m below meth c b w A 1880 [some (.ref b), some (.ref (w.2.1 0)), some (.ref (w.2.1 150)), some (.int (nI i))] [] S2) : cpJL p l e s m below meth c b w A 444 [some (.ref b), some (.ref (w.2.1 0)), some (.ref (w.2.1 150)), some (.int (nI i))] [] S := by
  obtain ⟨r, S1, S2, h1, h2, hR2⟩ := hQ (xs (i + 1)) (xs (i + 2)) S hRl
  refine cl_aload C (i := 1) dL_law_444 rfl rfl ?_
  refine cl_arg C (j := 1) (by omega) rfl rfl (by decide) dL_law_445 dL_law_446 dL_law_447 dL_law_448 dL_law_449 ?_
  refine cl_arg C (j := 2) (by omega) rfl rfl (by decide) dL_law_450 dL_law_451 dL_law_452 dL_law_453 dL_law_454 ?_
  refine cl_calli C (As := [.int (xs (i + 1)), .int (xs (i + 2))]) (rest := []) qX11_far mw_31_6 o_0 rfl rfl rfl (Nat.le_of_ble_eq_true rfl) (by decide) dL_law_455 (m_X11_far l w A (xs (i + 1)) (xs (i + 2)) S (r, S1) h1) ?_
  refine cl_aload C (i := 2) dL_law_458 rfl rfl ?_
  refine cl_arg C (j := 1) (by omega) rfl rfl (by decide) dL_law_459 dL_law_460 dL_law_461 dL_law_462 dL_law_463 ?_
  refine cl_arg C (j := 2) (by omega) rfl rfl (by decide) dL_law_464 dL_law_465 dL_law_466 dL_law_467 dL_law_468 ?_
  refine cl_calli C (As := [.int (xs (i + 1)), .int (xs (i + 2))]) (rest := [.int r]) qX12_far mw_31_15 o_150 rfl rfl rfl (Nat.le_of_ble_eq_true rfl) (by decide) dL_law_469 (m_X12_far l w A (xs (i + 1)) (xs (i + 2)) S1 (r, S2) h2) ?_
  refine cl_eq C (tgt := 1880) dL_law_472 rfl ?_
  exact cont S2 hR2
set_option maxRecDepth 100000 in
set_option maxHeartbeats 4000000 in
theorem law_case7 (C : cpCL p s m meth c b L xs w A) {Rl : cpS → Prop} (hQ : cpQ_why Rl) {i : Nat} (hi : i + 5 < L) {S : cpS} (hRl : Rl S) (cont : ∀ S2, Rl S2 → cpJL p l e s m below meth c b w A 1880 [some (.ref b), some (.ref (w.2.1 0)), some (.ref (w.2.1 150)), some (.int (nI i))] [] S2) : cpJL p l e s m below meth c b w A 477 [some (.ref b), some (.ref (w.2.1 0)), some (.ref (w.2.1 150)), some (.int (nI i))] [] S := by
  obtain ⟨r, S1, S2, h1, h2, hR2⟩ := hQ (xs (i + 1)) (xs (i + 2)) (xs (i + 3)) (xs (i + 4)) S hRl
  refine cl_aload C (i := 1) dL_law_477 rfl rfl ?_
  refine cl_arg C (j := 1) (by omega) rfl rfl (by decide) dL_law_478 dL_law_479 dL_law_480 dL_law_481 dL_law_482 ?_
  refine cl_arg C (j := 2) (by omega) rfl rfl (by decide) dL_law_483 dL_law_484 dL_law_485 dL_law_486 dL_law_487 ?_
  refine cl_arg C (j := 3) (by omega) rfl rfl (by decide) dL_law_488 dL_law_489 dL_law_490 dL_law_491 dL_law_492 ?_
  refine cl_arg C (j := 4) (by omega) rfl rfl (by decide) dL_law_493 dL_law_494 dL_law_495 dL_law_496 dL_law_497 ?_
  refine cl_calli C (As := [.int (xs (i + 1)), .int (xs (i + 2)), .int (xs (i + 3)), .int (xs (i + 4))]) (rest := []) qX11_why mw_32_11 o_0 rfl rfl rfl (Nat.le_of_ble_eq_true rfl) (by decide) dL_law_498 (m_X11_why l w A (xs (i + 1)) (xs (i + 2)) (xs (i + 3)) (xs (i + 4)) S (r, S1) h1) ?_
  refine cl_aload C (i := 2) dL_law_501 rfl rfl ?_
  refine cl_arg C (j := 1) (by omega) rfl rfl (by decide) dL_law_502 dL_law_503 dL_law_504 dL_law_505 dL_law_506 ?_
  refine cl_arg C (j := 2) (by omega) rfl rfl (by decide) dL_law_507 dL_law_508 dL_law_509 dL_law_510 dL_law_511 ?_
  refine cl_arg C (j := 3) (by omega) rfl rfl (by decide) dL_law_512 dL_law_513 dL_law_514 dL_law_515 dL_law_516 ?_
  refine cl_arg C (j := 4) (by omega) rfl rfl (by decide) dL_law_517 dL_law_518 dL_law_519 dL_law_520 dL_law_521 ?_
  refine cl_calli C (As := [.int (xs (i + 1)), .int (xs (i + 2)), .int (xs (i + 3)), .int (xs (i + 4))]) (rest := [.int r]) qX12_why mw_35_8 o_150 rfl rfl rfl (Nat.le_of_ble_eq_true rfl) (by decide) dL_law_522 (m_X12_why l w A (xs (i + 1)) (xs (i + 2)) (xs (i + 3)) (xs (i + 4)) S1 (r, S2) h2) ?_
  refine cl_eq C (tgt := 1880) dL_law_525 rfl ?_
  exact cont S2 hR2
set_option maxRecDepth 100000 in
set_option maxHeartbeats 4000000 in
theorem law_case8 (C : cpCL p s m meth c b L xs w A) {Rl : cpS → Prop} (hQ : cpQ_worn Rl) {i : Nat} (hi : i + 5 < L) {S : cpS} (hRl : Rl S) (cont : ∀ S2, Rl S2 → cpJL p l e s m below meth c b w A 1880 [some (.ref b), some (.ref (w.2.1 0)), some (.ref (w.2.1 150)), some (.int (nI i))] [] S2) : cpJL p l e s m below meth c b w A 530 [some (.ref b), some (.ref (w.2.1 0)), some (.ref (w.2.1 150)), some (.int (nI i))] [] S := by
  obtain ⟨r, S1, S2, h1, h2, hR2⟩ := hQ (xs (i + 1)) (xs (i + 2)) (xs (i + 3)) (xs (i + 4)) S hRl
  refine cl_aload C (i := 1) dL_law_530 rfl rfl ?_
  refine cl_arg C (j := 1) (by omega) rfl rfl (by decide) dL_law_531 dL_law_532 dL_law_533 dL_law_534 dL_law_535 ?_
  refine cl_arg C (j := 2) (by omega) rfl rfl (by decide) dL_law_536 dL_law_537 dL_law_538 dL_law_539 dL_law_540 ?_
  refine cl_arg C (j := 3) (by omega) rfl rfl (by decide) dL_law_541 dL_law_542 dL_law_543 dL_law_544 dL_law_545 ?_
  refine cl_arg C (j := 4) (by omega) rfl rfl (by decide) dL_law_546 dL_law_547 dL_law_548 dL_law_549 dL_law_550 ?_
  refine cl_calli C (As := [.int (xs (i + 1)), .int (xs (i + 2)), .int (xs (i + 3)), .int (xs (i + 4))]) (rest := []) qX11_worn mw_37_9 o_0 rfl rfl rfl (Nat.le_of_ble_eq_true rfl) (by decide) dL_law_551 (m_X11_worn l w A (xs (i + 1)) (xs (i + 2)) (xs (i + 3)) (xs (i + 4)) S (r, S1) h1) ?_
  refine cl_aload C (i := 2) dL_law_554 rfl rfl ?_
  refine cl_arg C (j := 1) (by omega) rfl rfl (by decide) dL_law_555 dL_law_556 dL_law_557 dL_law_558 dL_law_559 ?_
  refine cl_arg C (j := 2) (by omega) rfl rfl (by decide) dL_law_560 dL_law_561 dL_law_562 dL_law_563 dL_law_564 ?_
  refine cl_arg C (j := 3) (by omega) rfl rfl (by decide) dL_law_565 dL_law_566 dL_law_567 dL_law_568 dL_law_569 ?_
  refine cl_arg C (j := 4) (by omega) rfl rfl (by decide) dL_law_570 dL_law_571 dL_law_572 dL_law_573 dL_law_574 ?_
  refine cl_calli C (As := [.int (xs (i + 1)), .int (xs (i + 2)), .int (xs (i + 3)), .int (xs (i + 4))]) (rest := [.int r]) qX12_worn mw_37_13 o_150 rfl rfl rfl (Nat.le_of_ble_eq_true rfl) (by decide) dL_law_575 (m_X12_worn l w A (xs (i + 1)) (xs (i + 2)) (xs (i + 3)) (xs (i + 4)) S1 (r, S2) h2) ?_
  refine cl_eq C (tgt := 1880) dL_law_578 rfl ?_
  exact cont S2 hR2
set_option maxRecDepth 100000 in
set_option maxHeartbeats 4000000 in
theorem law_case9 (C : cpCL p s m meth c b L xs w A) {Rl : cpS → Prop} (hQ : cpQ_bearers Rl) {i : Nat} (hi : i + 5 < L) {S : cpS} (hRl : Rl S) (cont : ∀ S2, Rl S2 → cpJL p l e s m below meth c b w A 1880 [some (.ref b), some (.ref (w.2.1 0)), some (.ref (w.2.1 150)), some (.int (nI i))] [] S2) : cpJL p l e s m below meth c b w A 583 [some (.ref b), some (.ref (w.2.1 0)), some (.ref (w.2.1 150)), some (.int (nI i))] [] S := by
  obtain ⟨r, S1, S2, h1, h2, hR2⟩ := hQ (xs (i + 1)) (xs (i + 2)) S hRl
  refine cl_aload C (i := 1) dL_law_583 rfl rfl ?_
  refine cl_arg C (j := 1) (by omega) rfl rfl (by decide) dL_law_584 dL_law_585 dL_law_586 dL_law_587 dL_law_588 ?_
  refine cl_arg C (j := 2) (by omega) rfl rfl (by decide) dL_law_589 dL_law_590 dL_law_591 dL_law_592 dL_law_593 ?_
  refine cl_calli C (As := [.int (xs (i + 1)), .int (xs (i + 2))]) (rest := []) qX11_bearers mw_38_1 o_0 rfl rfl rfl (Nat.le_of_ble_eq_true rfl) (by decide) dL_law_594 (m_X11_bearers l w A (xs (i + 1)) (xs (i + 2)) S (r, S1) h1) ?_
  refine cl_aload C (i := 2) dL_law_597 rfl rfl ?_
  refine cl_arg C (j := 1) (by omega) rfl rfl (by decide) dL_law_598 dL_law_599 dL_law_600 dL_law_601 dL_law_602 ?_
  refine cl_arg C (j := 2) (by omega) rfl rfl (by decide) dL_law_603 dL_law_604 dL_law_605 dL_law_606 dL_law_607 ?_
  refine cl_calli C (As := [.int (xs (i + 1)), .int (xs (i + 2))]) (rest := [.int r]) qX12_bearers mw_38_11 o_150 rfl rfl rfl (Nat.le_of_ble_eq_true rfl) (by decide) dL_law_608 (m_X12_bearers l w A (xs (i + 1)) (xs (i + 2)) S1 (r, S2) h2) ?_
  refine cl_eq C (tgt := 1880) dL_law_611 rfl ?_
  exact cont S2 hR2
set_option maxRecDepth 100000 in
set_option maxHeartbeats 4000000 in
theorem law_case10 (C : cpCL p s m meth c b L xs w A) {Rl : cpS → Prop} (hQ : cpQ_carry Rl) {i : Nat} (hi : i + 5 < L) {S : cpS} (hRl : Rl S) (cont : ∀ S2, Rl S2 → cpJL p l e s m below meth c b w A 1880 [some (.ref b), some (.ref (w.2.1 0)), some (.ref (w.2.1 150)), some (.int (nI i))] [] S2) : cpJL p l e s m below meth c b w A 616 [some (.ref b), some (.ref (w.2.1 0)), some (.ref (w.2.1 150)), some (.int (nI i))] [] S := by
  obtain ⟨r, S1, S2, h1, h2, hR2⟩ := hQ (xs (i + 1)) (xs (i + 2)) (xs (i + 3)) (xs (i + 4)) S hRl
  refine cl_aload C (i := 1) dL_law_616 rfl rfl ?_
  refine cl_arg C (j := 1) (by omega) rfl rfl (by decide) dL_law_617 dL_law_618 dL_law_619 dL_law_620 dL_law_621 ?_
  refine cl_arg C (j := 2) (by omega) rfl rfl (by decide) dL_law_622 dL_law_623 dL_law_624 dL_law_625 dL_law_626 ?_
  refine cl_arg C (j := 3) (by omega) rfl rfl (by decide) dL_law_627 dL_law_628 dL_law_629 dL_law_630 dL_law_631 ?_
  refine cl_arg C (j := 4) (by omega) rfl rfl (by decide) dL_law_632 dL_law_633 dL_law_634 dL_law_635 dL_law_636 ?_
  refine cl_calli C (As := [.int (xs (i + 1)), .int (xs (i + 2)), .int (xs (i + 3)), .int (xs (i + 4))]) (rest := []) qX11_carry mw_38_19 o_0 rfl rfl rfl (Nat.le_of_ble_eq_true rfl) (by decide) dL_law_637 (m_X11_carry l w A (xs (i + 1)) (xs (i + 2)) (xs (i + 3)) (xs (i + 4)) S (r, S1) h1) ?_
  refine cl_aload C (i := 2) dL_law_640 rfl rfl ?_
  refine cl_arg C (j := 1) (by omega) rfl rfl (by decide) dL_law_641 dL_law_642 dL_law_643 dL_law_644 dL_law_645 ?_
  refine cl_arg C (j := 2) (by omega) rfl rfl (by decide) dL_law_646 dL_law_647 dL_law_648 dL_law_649 dL_law_650 ?_
  refine cl_arg C (j := 3) (by omega) rfl rfl (by decide) dL_law_651 dL_law_652 dL_law_653 dL_law_654 dL_law_655 ?_
  refine cl_arg C (j := 4) (by omega) rfl rfl (by decide) dL_law_656 dL_law_657 dL_law_658 dL_law_659 dL_law_660 ?_
  refine cl_calli C (As := [.int (xs (i + 1)), .int (xs (i + 2)), .int (xs (i + 3)), .int (xs (i + 4))]) (rest := [.int r]) qX12_carry mw_39_13 o_150 rfl rfl rfl (Nat.le_of_ble_eq_true rfl) (by decide) dL_law_661 (m_X12_carry l w A (xs (i + 1)) (xs (i + 2)) (xs (i + 3)) (xs (i + 4)) S1 (r, S2) h2) ?_
  refine cl_eq C (tgt := 1880) dL_law_664 rfl ?_
  exact cont S2 hR2
set_option maxRecDepth 100000 in
set_option maxHeartbeats 4000000 in
theorem law_case11 (C : cpCL p s m meth c b L xs w A) {Rl : cpS → Prop} (hQ : cpQ_quarrel Rl) {i : Nat} (hi : i + 5 < L) {S : cpS} (hRl : Rl S) (cont : ∀ S2, Rl S2 → cpJL p l e s m below meth c b w A 1880 [some (.ref b), some (.ref (w.2.1 0)), some (.ref (w.2.1 150)), some (.int (nI i))] [] S2) : cpJL p l e s m below meth c b w A 669 [some (.ref b), some (.ref (w.2.1 0)), some (.ref (w.2.1 150)), some (.int (nI i))] [] S := by
  obtain ⟨r, S1, S2, h1, h2, hR2⟩ := hQ (xs (i + 1)) (xs (i + 2)) S hRl
  refine cl_aload C (i := 1) dL_law_669 rfl rfl ?_
  refine cl_arg C (j := 1) (by omega) rfl rfl (by decide) dL_law_670 dL_law_671 dL_law_672 dL_law_673 dL_law_674 ?_
  refine cl_arg C (j := 2) (by omega) rfl rfl (by decide) dL_law_675 dL_law_676 dL_law_677 dL_law_678 dL_law_679 ?_
  refine cl_calli C (As := [.int (xs (i + 1)), .int (xs (i + 2))]) (rest := []) qX11_quarrel mw_40_5 o_0 rfl rfl rfl (Nat.le_of_ble_eq_true rfl) (by decide) dL_law_680 (m_X11_quarrel l w A (xs (i + 1)) (xs (i + 2)) S (r, S1) h1) ?_
  refine cl_aload C (i := 2) dL_law_683 rfl rfl ?_
  refine cl_arg C (j := 1) (by omega) rfl rfl (by decide) dL_law_684 dL_law_685 dL_law_686 dL_law_687 dL_law_688 ?_
  refine cl_arg C (j := 2) (by omega) rfl rfl (by decide) dL_law_689 dL_law_690 dL_law_691 dL_law_692 dL_law_693 ?_
  refine cl_calli C (As := [.int (xs (i + 1)), .int (xs (i + 2))]) (rest := [.int r]) qX12_quarrel mw_40_16 o_150 rfl rfl rfl (Nat.le_of_ble_eq_true rfl) (by decide) dL_law_694 (m_X12_quarrel l w A (xs (i + 1)) (xs (i + 2)) S1 (r, S2) h2) ?_
  refine cl_eq C (tgt := 1880) dL_law_697 rfl ?_
  exact cont S2 hR2
set_option maxRecDepth 100000 in
set_option maxHeartbeats 4000000 in
theorem law_case12 (C : cpCL p s m meth c b L xs w A) {Rl : cpS → Prop} (hQ : cpQ_hour Rl) {i : Nat} (hi : i + 5 < L) {S : cpS} (hRl : Rl S) (cont : ∀ S2, Rl S2 → cpJL p l e s m below meth c b w A 1880 [some (.ref b), some (.ref (w.2.1 0)), some (.ref (w.2.1 150)), some (.int (nI i))] [] S2) : cpJL p l e s m below meth c b w A 702 [some (.ref b), some (.ref (w.2.1 0)), some (.ref (w.2.1 150)), some (.int (nI i))] [] S := by
  obtain ⟨r, S1, S2, h1, h2, hR2⟩ := hQ (xs (i + 1)) S hRl
  refine cl_aload C (i := 1) dL_law_702 rfl rfl ?_
  refine cl_arg C (j := 1) (by omega) rfl rfl (by decide) dL_law_703 dL_law_704 dL_law_705 dL_law_706 dL_law_707 ?_
  refine cl_calli C (As := [.int (xs (i + 1))]) (rest := []) qX11_hour mw_41_4 o_0 rfl rfl rfl (Nat.le_of_ble_eq_true rfl) (by decide) dL_law_708 (m_X11_hour l w A (xs (i + 1)) S (r, S1) h1) ?_
  refine cl_aload C (i := 2) dL_law_711 rfl rfl ?_
  refine cl_arg C (j := 1) (by omega) rfl rfl (by decide) dL_law_712 dL_law_713 dL_law_714 dL_law_715 dL_law_716 ?_
  refine cl_calli C (As := [.int (xs (i + 1))]) (rest := [.int r]) qX12_hour mw_41_13 o_150 rfl rfl rfl (Nat.le_of_ble_eq_true rfl) (by decide) dL_law_717 (m_X12_hour l w A (xs (i + 1)) S1 (r, S2) h2) ?_
  refine cl_eq C (tgt := 1880) dL_law_720 rfl ?_
  exact cont S2 hR2
set_option maxRecDepth 100000 in
set_option maxHeartbeats 4000000 in
theorem law_case13 (C : cpCL p s m meth c b L xs w A) {Rl : cpS → Prop} (hQ : cpQ_undo Rl) {i : Nat} (hi : i + 5 < L) {S : cpS} (hRl : Rl S) (cont : ∀ S2, Rl S2 → cpJL p l e s m below meth c b w A 1880 [some (.ref b), some (.ref (w.2.1 0)), some (.ref (w.2.1 150)), some (.int (nI i))] [] S2) : cpJL p l e s m below meth c b w A 725 [some (.ref b), some (.ref (w.2.1 0)), some (.ref (w.2.1 150)), some (.int (nI i))] [] S := by
  obtain ⟨r, S1, S2, h1, h2, hR2⟩ := hQ (xs (i + 1)) S hRl
  refine cl_aload C (i := 1) dL_law_725 rfl rfl ?_
  refine cl_arg C (j := 1) (by omega) rfl rfl (by decide) dL_law_726 dL_law_727 dL_law_728 dL_law_729 dL_law_730 ?_
  refine cl_calli C (As := [.int (xs (i + 1))]) (rest := []) qX11_undo mw_41_18 o_0 rfl rfl rfl (Nat.le_of_ble_eq_true rfl) (by decide) dL_law_731 (m_X11_undo l w A (xs (i + 1)) S (r, S1) h1) ?_
  refine cl_aload C (i := 2) dL_law_734 rfl rfl ?_
  refine cl_arg C (j := 1) (by omega) rfl rfl (by decide) dL_law_735 dL_law_736 dL_law_737 dL_law_738 dL_law_739 ?_
  refine cl_calli C (As := [.int (xs (i + 1))]) (rest := [.int r]) qX12_undo mw_42_7 o_150 rfl rfl rfl (Nat.le_of_ble_eq_true rfl) (by decide) dL_law_740 (m_X12_undo l w A (xs (i + 1)) S1 (r, S2) h2) ?_
  refine cl_eq C (tgt := 1880) dL_law_743 rfl ?_
  exact cont S2 hR2
set_option maxRecDepth 100000 in
set_option maxHeartbeats 4000000 in
theorem law_case14 (C : cpCL p s m meth c b L xs w A) {Rl : cpS → Prop} (hQ : cpQ_judge Rl) {i : Nat} (hi : i + 5 < L) {S : cpS} (hRl : Rl S) (cont : ∀ S2, Rl S2 → cpJL p l e s m below meth c b w A 1880 [some (.ref b), some (.ref (w.2.1 0)), some (.ref (w.2.1 150)), some (.int (nI i))] [] S2) : cpJL p l e s m below meth c b w A 748 [some (.ref b), some (.ref (w.2.1 0)), some (.ref (w.2.1 150)), some (.int (nI i))] [] S := by
  obtain ⟨r, S1, S2, h1, h2, hR2⟩ := hQ (xs (i + 1)) (xs (i + 2)) S hRl
  refine cl_aload C (i := 1) dL_law_748 rfl rfl ?_
  refine cl_arg C (j := 1) (by omega) rfl rfl (by decide) dL_law_749 dL_law_750 dL_law_751 dL_law_752 dL_law_753 ?_
  refine cl_arg C (j := 2) (by omega) rfl rfl (by decide) dL_law_754 dL_law_755 dL_law_756 dL_law_757 dL_law_758 ?_
  refine cl_calli C (As := [.int (xs (i + 1)), .int (xs (i + 2))]) (rest := []) qX11_judge mw_42_12 o_0 rfl rfl rfl (Nat.le_of_ble_eq_true rfl) (by decide) dL_law_759 (m_X11_judge l w A (xs (i + 1)) (xs (i + 2)) S (r, S1) h1) ?_
  refine cl_aload C (i := 2) dL_law_762 rfl rfl ?_
  refine cl_arg C (j := 1) (by omega) rfl rfl (by decide) dL_law_763 dL_law_764 dL_law_765 dL_law_766 dL_law_767 ?_
  refine cl_arg C (j := 2) (by omega) rfl rfl (by decide) dL_law_768 dL_law_769 dL_law_770 dL_law_771 dL_law_772 ?_
  refine cl_calli C (As := [.int (xs (i + 1)), .int (xs (i + 2))]) (rest := [.int r]) qX12_judge mw_44_4 o_150 rfl rfl rfl (Nat.le_of_ble_eq_true rfl) (by decide) dL_law_773 (m_X12_judge l w A (xs (i + 1)) (xs (i + 2)) S1 (r, S2) h2) ?_
  refine cl_eq C (tgt := 1880) dL_law_776 rfl ?_
  exact cont S2 hR2
set_option maxRecDepth 100000 in
set_option maxHeartbeats 4000000 in
theorem law_case15 (C : cpCL p s m meth c b L xs w A) {Rl : cpS → Prop} (hQ : cpQ_perform Rl) {i : Nat} (hi : i + 5 < L) {S : cpS} (hRl : Rl S) (cont : ∀ S2, Rl S2 → cpJL p l e s m below meth c b w A 1880 [some (.ref b), some (.ref (w.2.1 0)), some (.ref (w.2.1 150)), some (.int (nI i))] [] S2) : cpJL p l e s m below meth c b w A 781 [some (.ref b), some (.ref (w.2.1 0)), some (.ref (w.2.1 150)), some (.int (nI i))] [] S := by
  obtain ⟨r, S1, S2, h1, h2, hR2⟩ := hQ (xs (i + 1)) S hRl
  refine cl_aload C (i := 1) dL_law_781 rfl rfl ?_
  refine cl_arg C (j := 1) (by omega) rfl rfl (by decide) dL_law_782 dL_law_783 dL_law_784 dL_law_785 dL_law_786 ?_
  refine cl_calli C (As := [.int (xs (i + 1))]) (rest := []) qX11_perform mw_45_19 o_0 rfl rfl rfl (Nat.le_of_ble_eq_true rfl) (by decide) dL_law_787 (m_X11_perform l w A (xs (i + 1)) S (r, S1) h1) ?_
  refine cl_aload C (i := 2) dL_law_790 rfl rfl ?_
  refine cl_arg C (j := 1) (by omega) rfl rfl (by decide) dL_law_791 dL_law_792 dL_law_793 dL_law_794 dL_law_795 ?_
  refine cl_calli C (As := [.int (xs (i + 1))]) (rest := [.int r]) qX12_perform mw_45_23 o_150 rfl rfl rfl (Nat.le_of_ble_eq_true rfl) (by decide) dL_law_796 (m_X12_perform l w A (xs (i + 1)) S1 (r, S2) h2) ?_
  refine cl_eq C (tgt := 1880) dL_law_799 rfl ?_
  exact cont S2 hR2
set_option maxRecDepth 100000 in
set_option maxHeartbeats 4000000 in
theorem law_case16 (C : cpCL p s m meth c b L xs w A) {Rl : cpS → Prop} (hQ : cpQ_year Rl) {i : Nat} (hi : i + 5 < L) {S : cpS} (hRl : Rl S) (cont : ∀ S2, Rl S2 → cpJL p l e s m below meth c b w A 1880 [some (.ref b), some (.ref (w.2.1 0)), some (.ref (w.2.1 150)), some (.int (nI i))] [] S2) : cpJL p l e s m below meth c b w A 804 [some (.ref b), some (.ref (w.2.1 0)), some (.ref (w.2.1 150)), some (.int (nI i))] [] S := by
  obtain ⟨r, S1, S2, h1, h2, hR2⟩ := hQ (xs (i + 1)) (xs (i + 2)) S hRl
  refine cl_aload C (i := 1) dL_law_804 rfl rfl ?_
  refine cl_arg C (j := 1) (by omega) rfl rfl (by decide) dL_law_805 dL_law_806 dL_law_807 dL_law_808 dL_law_809 ?_
  refine cl_arg C (j := 2) (by omega) rfl rfl (by decide) dL_law_810 dL_law_811 dL_law_812 dL_law_813 dL_law_814 ?_
  refine cl_calli C (As := [.int (xs (i + 1)), .int (xs (i + 2))]) (rest := []) qX11_year mw_46_3 o_0 rfl rfl rfl (Nat.le_of_ble_eq_true rfl) (by decide) dL_law_815 (m_X11_year l w A (xs (i + 1)) (xs (i + 2)) S (r, S1) h1) ?_
  refine cl_aload C (i := 2) dL_law_818 rfl rfl ?_
  refine cl_arg C (j := 1) (by omega) rfl rfl (by decide) dL_law_819 dL_law_820 dL_law_821 dL_law_822 dL_law_823 ?_
  refine cl_arg C (j := 2) (by omega) rfl rfl (by decide) dL_law_824 dL_law_825 dL_law_826 dL_law_827 dL_law_828 ?_
  refine cl_calli C (As := [.int (xs (i + 1)), .int (xs (i + 2))]) (rest := [.int r]) qX12_year mw_46_20 o_150 rfl rfl rfl (Nat.le_of_ble_eq_true rfl) (by decide) dL_law_829 (m_X12_year l w A (xs (i + 1)) (xs (i + 2)) S1 (r, S2) h2) ?_
  refine cl_eq C (tgt := 1880) dL_law_832 rfl ?_
  exact cont S2 hR2
set_option maxRecDepth 100000 in
set_option maxHeartbeats 4000000 in
theorem law_case17 (C : cpCL p s m meth c b L xs w A) {Rl : cpS → Prop} (hQ : cpQ_soonest Rl) {i : Nat} (hi : i + 5 < L) {S : cpS} (hRl : Rl S) (cont : ∀ S2, Rl S2 → cpJL p l e s m below meth c b w A 1880 [some (.ref b), some (.ref (w.2.1 0)), some (.ref (w.2.1 150)), some (.int (nI i))] [] S2) : cpJL p l e s m below meth c b w A 837 [some (.ref b), some (.ref (w.2.1 0)), some (.ref (w.2.1 150)), some (.int (nI i))] [] S := by
  obtain ⟨r, S1, S2, h1, h2, hR2⟩ := hQ (xs (i + 1)) (xs (i + 2)) S hRl
  refine cl_aload C (i := 1) dL_law_837 rfl rfl ?_
  refine cl_arg C (j := 1) (by omega) rfl rfl (by decide) dL_law_838 dL_law_839 dL_law_840 dL_law_841 dL_law_842 ?_
  refine cl_arg C (j := 2) (by omega) rfl rfl (by decide) dL_law_843 dL_law_844 dL_law_845 dL_law_846 dL_law_847 ?_
  refine cl_calli C (As := [.int (xs (i + 1)), .int (xs (i + 2))]) (rest := []) qX11_soonest mw_47_11 o_0 rfl rfl rfl (Nat.le_of_ble_eq_true rfl) (by decide) dL_law_848 (m_X11_soonest l w A (xs (i + 1)) (xs (i + 2)) S (r, S1) h1) ?_
  refine cl_aload C (i := 2) dL_law_851 rfl rfl ?_
  refine cl_arg C (j := 1) (by omega) rfl rfl (by decide) dL_law_852 dL_law_853 dL_law_854 dL_law_855 dL_law_856 ?_
  refine cl_arg C (j := 2) (by omega) rfl rfl (by decide) dL_law_857 dL_law_858 dL_law_859 dL_law_860 dL_law_861 ?_
  refine cl_calli C (As := [.int (xs (i + 1)), .int (xs (i + 2))]) (rest := [.int r]) qX12_soonest mw_49_2 o_150 rfl rfl rfl (Nat.le_of_ble_eq_true rfl) (by decide) dL_law_862 (m_X12_soonest l w A (xs (i + 1)) (xs (i + 2)) S1 (r, S2) h2) ?_
  refine cl_eq C (tgt := 1880) dL_law_865 rfl ?_
  exact cont S2 hR2
set_option maxRecDepth 100000 in
set_option maxHeartbeats 4000000 in
theorem law_case18 (C : cpCL p s m meth c b L xs w A) {Rl : cpS → Prop} (hQ : cpQ_way Rl) {i : Nat} (hi : i + 5 < L) {S : cpS} (hRl : Rl S) (cont : ∀ S2, Rl S2 → cpJL p l e s m below meth c b w A 1880 [some (.ref b), some (.ref (w.2.1 0)), some (.ref (w.2.1 150)), some (.int (nI i))] [] S2) : cpJL p l e s m below meth c b w A 870 [some (.ref b), some (.ref (w.2.1 0)), some (.ref (w.2.1 150)), some (.int (nI i))] [] S := by
  obtain ⟨r, S1, S2, h1, h2, hR2⟩ := hQ (xs (i + 1)) (xs (i + 2)) (xs (i + 3)) S hRl
  refine cl_aload C (i := 1) dL_law_870 rfl rfl ?_
  refine cl_arg C (j := 1) (by omega) rfl rfl (by decide) dL_law_871 dL_law_872 dL_law_873 dL_law_874 dL_law_875 ?_
  refine cl_arg C (j := 2) (by omega) rfl rfl (by decide) dL_law_876 dL_law_877 dL_law_878 dL_law_879 dL_law_880 ?_
  refine cl_arg C (j := 3) (by omega) rfl rfl (by decide) dL_law_881 dL_law_882 dL_law_883 dL_law_884 dL_law_885 ?_
  refine cl_calli C (As := [.int (xs (i + 1)), .int (xs (i + 2)), .int (xs (i + 3))]) (rest := []) qX11_way mw_49_22 o_0 rfl rfl rfl (Nat.le_of_ble_eq_true rfl) (by decide) dL_law_886 (m_X11_way l w A (xs (i + 1)) (xs (i + 2)) (xs (i + 3)) S (r, S1) h1) ?_
  refine cl_aload C (i := 2) dL_law_889 rfl rfl ?_
  refine cl_arg C (j := 1) (by omega) rfl rfl (by decide) dL_law_890 dL_law_891 dL_law_892 dL_law_893 dL_law_894 ?_
  refine cl_arg C (j := 2) (by omega) rfl rfl (by decide) dL_law_895 dL_law_896 dL_law_897 dL_law_898 dL_law_899 ?_
  refine cl_arg C (j := 3) (by omega) rfl rfl (by decide) dL_law_900 dL_law_901 dL_law_902 dL_law_903 dL_law_904 ?_
  refine cl_calli C (As := [.int (xs (i + 1)), .int (xs (i + 2)), .int (xs (i + 3))]) (rest := [.int r]) qX12_way mw_50_10 o_150 rfl rfl rfl (Nat.le_of_ble_eq_true rfl) (by decide) dL_law_905 (m_X12_way l w A (xs (i + 1)) (xs (i + 2)) (xs (i + 3)) S1 (r, S2) h2) ?_
  refine cl_eq C (tgt := 1880) dL_law_908 rfl ?_
  exact cont S2 hR2
set_option maxRecDepth 100000 in
set_option maxHeartbeats 4000000 in
theorem law_case19 (C : cpCL p s m meth c b L xs w A) {Rl : cpS → Prop} (hQ : cpQ_rows Rl) {i : Nat} (hi : i + 5 < L) {S : cpS} (hRl : Rl S) (cont : ∀ S2, Rl S2 → cpJL p l e s m below meth c b w A 1880 [some (.ref b), some (.ref (w.2.1 0)), some (.ref (w.2.1 150)), some (.int (nI i))] [] S2) : cpJL p l e s m below meth c b w A 913 [some (.ref b), some (.ref (w.2.1 0)), some (.ref (w.2.1 150)), some (.int (nI i))] [] S := by
  obtain ⟨r, S1, S2, h1, h2, hR2⟩ := hQ (xs (i + 1)) (xs (i + 2)) (xs (i + 3)) S hRl
  refine cl_aload C (i := 1) dL_law_913 rfl rfl ?_
  refine cl_arg C (j := 1) (by omega) rfl rfl (by decide) dL_law_914 dL_law_915 dL_law_916 dL_law_917 dL_law_918 ?_
  refine cl_arg C (j := 2) (by omega) rfl rfl (by decide) dL_law_919 dL_law_920 dL_law_921 dL_law_922 dL_law_923 ?_
  refine cl_arg C (j := 3) (by omega) rfl rfl (by decide) dL_law_924 dL_law_925 dL_law_926 dL_law_927 dL_law_928 ?_
  refine cl_calll C (As := [.int (xs (i + 1)), .int (xs (i + 2)), .int (xs (i + 3))]) (rest := []) qX11_rows mw_51_1 o_0 rfl rfl rfl (Nat.le_of_ble_eq_true rfl) (by decide) dL_law_929 (m_X11_rows l w A (xs (i + 1)) (xs (i + 2)) (xs (i + 3)) S (r, S1) h1) ?_
  refine cl_aload C (i := 2) dL_law_932 rfl rfl ?_
  refine cl_arg C (j := 1) (by omega) rfl rfl (by decide) dL_law_933 dL_law_934 dL_law_935 dL_law_936 dL_law_937 ?_
  refine cl_arg C (j := 2) (by omega) rfl rfl (by decide) dL_law_938 dL_law_939 dL_law_940 dL_law_941 dL_law_942 ?_
  refine cl_arg C (j := 3) (by omega) rfl rfl (by decide) dL_law_943 dL_law_944 dL_law_945 dL_law_946 dL_law_947 ?_
  refine cl_calll C (As := [.int (xs (i + 1)), .int (xs (i + 2)), .int (xs (i + 3))]) (rest := [.long r]) qX12_rows mw_51_15 o_150 rfl rfl rfl (Nat.le_of_ble_eq_true rfl) (by decide) dL_law_948 (m_X12_rows l w A (xs (i + 1)) (xs (i + 2)) (xs (i + 3)) S1 (r, S2) h2) ?_
  refine cl_leq C (tgt := 1880) dL_law_951 dL_law_952 rfl ?_
  exact cont S2 hR2
set_option maxRecDepth 100000 in
set_option maxHeartbeats 4000000 in
theorem law_case20 (C : cpCL p s m meth c b L xs w A) {Rl : cpS → Prop} (hQ : cpQ_reach Rl) {i : Nat} (hi : i + 5 < L) {S : cpS} (hRl : Rl S) (cont : ∀ S2, Rl S2 → cpJL p l e s m below meth c b w A 1880 [some (.ref b), some (.ref (w.2.1 0)), some (.ref (w.2.1 150)), some (.int (nI i))] [] S2) : cpJL p l e s m below meth c b w A 957 [some (.ref b), some (.ref (w.2.1 0)), some (.ref (w.2.1 150)), some (.int (nI i))] [] S := by
  obtain ⟨r, S1, S2, h1, h2, hR2⟩ := hQ (xs (i + 1)) S hRl
  refine cl_aload C (i := 1) dL_law_957 rfl rfl ?_
  refine cl_arg C (j := 1) (by omega) rfl rfl (by decide) dL_law_958 dL_law_959 dL_law_960 dL_law_961 dL_law_962 ?_
  refine cl_calli C (As := [.int (xs (i + 1))]) (rest := []) qX11_reach mw_51_22 o_0 rfl rfl rfl (Nat.le_of_ble_eq_true rfl) (by decide) dL_law_963 (m_X11_reach l w A (xs (i + 1)) S (r, S1) h1) ?_
  refine cl_aload C (i := 2) dL_law_966 rfl rfl ?_
  refine cl_arg C (j := 1) (by omega) rfl rfl (by decide) dL_law_967 dL_law_968 dL_law_969 dL_law_970 dL_law_971 ?_
  refine cl_calli C (As := [.int (xs (i + 1))]) (rest := [.int r]) qX12_reach mw_52_10 o_150 rfl rfl rfl (Nat.le_of_ble_eq_true rfl) (by decide) dL_law_972 (m_X12_reach l w A (xs (i + 1)) S1 (r, S2) h2) ?_
  refine cl_eq C (tgt := 1880) dL_law_975 rfl ?_
  exact cont S2 hR2
set_option maxRecDepth 100000 in
set_option maxHeartbeats 4000000 in
theorem law_case21 (C : cpCL p s m meth c b L xs w A) {Rl : cpS → Prop} (hQ : cpQ_pays Rl) {i : Nat} (hi : i + 5 < L) {S : cpS} (hRl : Rl S) (cont : ∀ S2, Rl S2 → cpJL p l e s m below meth c b w A 1880 [some (.ref b), some (.ref (w.2.1 0)), some (.ref (w.2.1 150)), some (.int (nI i))] [] S2) : cpJL p l e s m below meth c b w A 980 [some (.ref b), some (.ref (w.2.1 0)), some (.ref (w.2.1 150)), some (.int (nI i))] [] S := by
  obtain ⟨r, S1, S2, h1, h2, hR2⟩ := hQ (xs (i + 1)) (xs (i + 2)) (xs (i + 3)) S hRl
  refine cl_aload C (i := 1) dL_law_980 rfl rfl ?_
  refine cl_arg C (j := 1) (by omega) rfl rfl (by decide) dL_law_981 dL_law_982 dL_law_983 dL_law_984 dL_law_985 ?_
  refine cl_arg C (j := 2) (by omega) rfl rfl (by decide) dL_law_986 dL_law_987 dL_law_988 dL_law_989 dL_law_990 ?_
  refine cl_arg C (j := 3) (by omega) rfl rfl (by decide) dL_law_991 dL_law_992 dL_law_993 dL_law_994 dL_law_995 ?_
  refine cl_calli C (As := [.int (xs (i + 1)), .int (xs (i + 2)), .int (xs (i + 3))]) (rest := []) qX11_pays mw_52_14 o_0 rfl rfl rfl (Nat.le_of_ble_eq_true rfl) (by decide) dL_law_996 (m_X11_pays l w A (xs (i + 1)) (xs (i + 2)) (xs (i + 3)) S (r, S1) h1) ?_
  refine cl_aload C (i := 2) dL_law_999 rfl rfl ?_
  refine cl_arg C (j := 1) (by omega) rfl rfl (by decide) dL_law_1000 dL_law_1001 dL_law_1002 dL_law_1003 dL_law_1004 ?_
  refine cl_arg C (j := 2) (by omega) rfl rfl (by decide) dL_law_1005 dL_law_1006 dL_law_1007 dL_law_1008 dL_law_1009 ?_
  refine cl_arg C (j := 3) (by omega) rfl rfl (by decide) dL_law_1010 dL_law_1011 dL_law_1012 dL_law_1013 dL_law_1014 ?_
  refine cl_calli C (As := [.int (xs (i + 1)), .int (xs (i + 2)), .int (xs (i + 3))]) (rest := [.int r]) qX12_pays mw_53_16 o_150 rfl rfl rfl (Nat.le_of_ble_eq_true rfl) (by decide) dL_law_1015 (m_X12_pays l w A (xs (i + 1)) (xs (i + 2)) (xs (i + 3)) S1 (r, S2) h2) ?_
  refine cl_eq C (tgt := 1880) dL_law_1018 rfl ?_
  exact cont S2 hR2
set_option maxRecDepth 100000 in
set_option maxHeartbeats 4000000 in
theorem law_case22 (C : cpCL p s m meth c b L xs w A) {Rl : cpS → Prop} (hQ : cpQ_pairs Rl) {i : Nat} (hi : i + 5 < L) {S : cpS} (hRl : Rl S) (cont : ∀ S2, Rl S2 → cpJL p l e s m below meth c b w A 1880 [some (.ref b), some (.ref (w.2.1 0)), some (.ref (w.2.1 150)), some (.int (nI i))] [] S2) : cpJL p l e s m below meth c b w A 1023 [some (.ref b), some (.ref (w.2.1 0)), some (.ref (w.2.1 150)), some (.int (nI i))] [] S := by
  obtain ⟨r, S1, S2, h1, h2, hR2⟩ := hQ (xs (i + 1)) S hRl
  refine cl_aload C (i := 1) dL_law_1023 rfl rfl ?_
  refine cl_arg C (j := 1) (by omega) rfl rfl (by decide) dL_law_1024 dL_law_1025 dL_law_1026 dL_law_1027 dL_law_1028 ?_
  refine cl_calli C (As := [.int (xs (i + 1))]) (rest := []) qX11_pairs mw_54_1 o_0 rfl rfl rfl (Nat.le_of_ble_eq_true rfl) (by decide) dL_law_1029 (m_X11_pairs l w A (xs (i + 1)) S (r, S1) h1) ?_
  refine cl_aload C (i := 2) dL_law_1032 rfl rfl ?_
  refine cl_arg C (j := 1) (by omega) rfl rfl (by decide) dL_law_1033 dL_law_1034 dL_law_1035 dL_law_1036 dL_law_1037 ?_
  refine cl_calli C (As := [.int (xs (i + 1))]) (rest := [.int r]) qX12_pairs mw_55_15 o_150 rfl rfl rfl (Nat.le_of_ble_eq_true rfl) (by decide) dL_law_1038 (m_X12_pairs l w A (xs (i + 1)) S1 (r, S2) h2) ?_
  refine cl_eq C (tgt := 1880) dL_law_1041 rfl ?_
  exact cont S2 hR2
set_option maxRecDepth 100000 in
set_option maxHeartbeats 4000000 in
theorem law_case23 (C : cpCL p s m meth c b L xs w A) {Rl : cpS → Prop} (hQ : cpQ_with Rl) {i : Nat} (hi : i + 5 < L) {S : cpS} (hRl : Rl S) (cont : ∀ S2, Rl S2 → cpJL p l e s m below meth c b w A 1880 [some (.ref b), some (.ref (w.2.1 0)), some (.ref (w.2.1 150)), some (.int (nI i))] [] S2) : cpJL p l e s m below meth c b w A 1046 [some (.ref b), some (.ref (w.2.1 0)), some (.ref (w.2.1 150)), some (.int (nI i))] [] S := by
  obtain ⟨r, S1, S2, h1, h2, hR2⟩ := hQ (xs (i + 1)) (xs (i + 2)) S hRl
  refine cl_aload C (i := 1) dL_law_1046 rfl rfl ?_
  refine cl_arg C (j := 1) (by omega) rfl rfl (by decide) dL_law_1047 dL_law_1048 dL_law_1049 dL_law_1050 dL_law_1051 ?_
  refine cl_arg C (j := 2) (by omega) rfl rfl (by decide) dL_law_1052 dL_law_1053 dL_law_1054 dL_law_1055 dL_law_1056 ?_
  refine cl_calli C (As := [.int (xs (i + 1)), .int (xs (i + 2))]) (rest := []) qX11_with mw_56_11 o_0 rfl rfl rfl (Nat.le_of_ble_eq_true rfl) (by decide) dL_law_1057 (m_X11_with l w A (xs (i + 1)) (xs (i + 2)) S (r, S1) h1) ?_
  refine cl_aload C (i := 2) dL_law_1060 rfl rfl ?_
  refine cl_arg C (j := 1) (by omega) rfl rfl (by decide) dL_law_1061 dL_law_1062 dL_law_1063 dL_law_1064 dL_law_1065 ?_
  refine cl_arg C (j := 2) (by omega) rfl rfl (by decide) dL_law_1066 dL_law_1067 dL_law_1068 dL_law_1069 dL_law_1070 ?_
  refine cl_calli C (As := [.int (xs (i + 1)), .int (xs (i + 2))]) (rest := [.int r]) qX12_with mw_56_16 o_150 rfl rfl rfl (Nat.le_of_ble_eq_true rfl) (by decide) dL_law_1071 (m_X12_with l w A (xs (i + 1)) (xs (i + 2)) S1 (r, S2) h2) ?_
  refine cl_eq C (tgt := 1880) dL_law_1074 rfl ?_
  exact cont S2 hR2
set_option maxRecDepth 100000 in
set_option maxHeartbeats 4000000 in
theorem law_case24 (C : cpCL p s m meth c b L xs w A) {Rl : cpS → Prop} (hQ : cpQ_lifters Rl) {i : Nat} (hi : i + 5 < L) {S : cpS} (hRl : Rl S) (cont : ∀ S2, Rl S2 → cpJL p l e s m below meth c b w A 1880 [some (.ref b), some (.ref (w.2.1 0)), some (.ref (w.2.1 150)), some (.int (nI i))] [] S2) : cpJL p l e s m below meth c b w A 1079 [some (.ref b), some (.ref (w.2.1 0)), some (.ref (w.2.1 150)), some (.int (nI i))] [] S := by
  obtain ⟨r, S1, S2, h1, h2, hR2⟩ := hQ (xs (i + 1)) (xs (i + 2)) S hRl
  refine cl_aload C (i := 1) dL_law_1079 rfl rfl ?_
  refine cl_arg C (j := 1) (by omega) rfl rfl (by decide) dL_law_1080 dL_law_1081 dL_law_1082 dL_law_1083 dL_law_1084 ?_
  refine cl_arg C (j := 2) (by omega) rfl rfl (by decide) dL_law_1085 dL_law_1086 dL_law_1087 dL_law_1088 dL_law_1089 ?_
  refine cl_calli C (As := [.int (xs (i + 1)), .int (xs (i + 2))]) (rest := []) qX11_lifters mw_57_0 o_0 rfl rfl rfl (Nat.le_of_ble_eq_true rfl) (by decide) dL_law_1090 (m_X11_lifters l w A (xs (i + 1)) (xs (i + 2)) S (r, S1) h1) ?_
  refine cl_aload C (i := 2) dL_law_1093 rfl rfl ?_
  refine cl_arg C (j := 1) (by omega) rfl rfl (by decide) dL_law_1094 dL_law_1095 dL_law_1096 dL_law_1097 dL_law_1098 ?_
  refine cl_arg C (j := 2) (by omega) rfl rfl (by decide) dL_law_1099 dL_law_1100 dL_law_1101 dL_law_1102 dL_law_1103 ?_
  refine cl_calli C (As := [.int (xs (i + 1)), .int (xs (i + 2))]) (rest := [.int r]) qX12_lifters mw_57_23 o_150 rfl rfl rfl (Nat.le_of_ble_eq_true rfl) (by decide) dL_law_1104 (m_X12_lifters l w A (xs (i + 1)) (xs (i + 2)) S1 (r, S2) h2) ?_
  refine cl_eq C (tgt := 1880) dL_law_1107 rfl ?_
  exact cont S2 hR2
set_option maxRecDepth 100000 in
set_option maxHeartbeats 4000000 in
theorem law_case25 (C : cpCL p s m meth c b L xs w A) {Rl : cpS → Prop} (hQ : cpQ_guards Rl) {i : Nat} (hi : i + 5 < L) {S : cpS} (hRl : Rl S) (cont : ∀ S2, Rl S2 → cpJL p l e s m below meth c b w A 1880 [some (.ref b), some (.ref (w.2.1 0)), some (.ref (w.2.1 150)), some (.int (nI i))] [] S2) : cpJL p l e s m below meth c b w A 1112 [some (.ref b), some (.ref (w.2.1 0)), some (.ref (w.2.1 150)), some (.int (nI i))] [] S := by
  obtain ⟨r, S1, S2, h1, h2, hR2⟩ := hQ (xs (i + 1)) (xs (i + 2)) (xs (i + 3)) S hRl
  refine cl_aload C (i := 1) dL_law_1112 rfl rfl ?_
  refine cl_arg C (j := 1) (by omega) rfl rfl (by decide) dL_law_1113 dL_law_1114 dL_law_1115 dL_law_1116 dL_law_1117 ?_
  refine cl_arg C (j := 2) (by omega) rfl rfl (by decide) dL_law_1118 dL_law_1119 dL_law_1120 dL_law_1121 dL_law_1122 ?_
  refine cl_arg C (j := 3) (by omega) rfl rfl (by decide) dL_law_1123 dL_law_1124 dL_law_1125 dL_law_1126 dL_law_1127 ?_
  refine cl_calli C (As := [.int (xs (i + 1)), .int (xs (i + 2)), .int (xs (i + 3))]) (rest := []) qX11_guards mw_58_6 o_0 rfl rfl rfl (Nat.le_of_ble_eq_true rfl) (by decide) dL_law_1128 (m_X11_guards l w A (xs (i + 1)) (xs (i + 2)) (xs (i + 3)) S (r, S1) h1) ?_
  refine cl_aload C (i := 2) dL_law_1131 rfl rfl ?_
  refine cl_arg C (j := 1) (by omega) rfl rfl (by decide) dL_law_1132 dL_law_1133 dL_law_1134 dL_law_1135 dL_law_1136 ?_
  refine cl_arg C (j := 2) (by omega) rfl rfl (by decide) dL_law_1137 dL_law_1138 dL_law_1139 dL_law_1140 dL_law_1141 ?_
  refine cl_arg C (j := 3) (by omega) rfl rfl (by decide) dL_law_1142 dL_law_1143 dL_law_1144 dL_law_1145 dL_law_1146 ?_
  refine cl_calli C (As := [.int (xs (i + 1)), .int (xs (i + 2)), .int (xs (i + 3))]) (rest := [.int r]) qX12_guards mw_58_23 o_150 rfl rfl rfl (Nat.le_of_ble_eq_true rfl) (by decide) dL_law_1147 (m_X12_guards l w A (xs (i + 1)) (xs (i + 2)) (xs (i + 3)) S1 (r, S2) h2) ?_
  refine cl_eq C (tgt := 1880) dL_law_1150 rfl ?_
  exact cont S2 hR2
set_option maxRecDepth 100000 in
set_option maxHeartbeats 4000000 in
theorem law_case26 (C : cpCL p s m meth c b L xs w A) {Rl : cpS → Prop} (hQ : cpQ_rests Rl) {i : Nat} (hi : i + 5 < L) {S : cpS} (hRl : Rl S) (cont : ∀ S2, Rl S2 → cpJL p l e s m below meth c b w A 1880 [some (.ref b), some (.ref (w.2.1 0)), some (.ref (w.2.1 150)), some (.int (nI i))] [] S2) : cpJL p l e s m below meth c b w A 1155 [some (.ref b), some (.ref (w.2.1 0)), some (.ref (w.2.1 150)), some (.int (nI i))] [] S := by
  obtain ⟨r, S1, S2, h1, h2, hR2⟩ := hQ (xs (i + 1)) (xs (i + 2)) S hRl
  refine cl_aload C (i := 1) dL_law_1155 rfl rfl ?_
  refine cl_arg C (j := 1) (by omega) rfl rfl (by decide) dL_law_1156 dL_law_1157 dL_law_1158 dL_law_1159 dL_law_1160 ?_
  refine cl_arg C (j := 2) (by omega) rfl rfl (by decide) dL_law_1161 dL_law_1162 dL_law_1163 dL_law_1164 dL_law_1165 ?_
  refine cl_calli C (As := [.int (xs (i + 1)), .int (xs (i + 2))]) (rest := []) qX11_rests mw_59_7 o_0 rfl rfl rfl (Nat.le_of_ble_eq_true rfl) (by decide) dL_law_1166 (m_X11_rests l w A (xs (i + 1)) (xs (i + 2)) S (r, S1) h1) ?_
  refine cl_aload C (i := 2) dL_law_1169 rfl rfl ?_
  refine cl_arg C (j := 1) (by omega) rfl rfl (by decide) dL_law_1170 dL_law_1171 dL_law_1172 dL_law_1173 dL_law_1174 ?_
  refine cl_arg C (j := 2) (by omega) rfl rfl (by decide) dL_law_1175 dL_law_1176 dL_law_1177 dL_law_1178 dL_law_1179 ?_
  refine cl_calli C (As := [.int (xs (i + 1)), .int (xs (i + 2))]) (rest := [.int r]) qX12_rests mw_60_7 o_150 rfl rfl rfl (Nat.le_of_ble_eq_true rfl) (by decide) dL_law_1180 (m_X12_rests l w A (xs (i + 1)) (xs (i + 2)) S1 (r, S2) h2) ?_
  refine cl_eq C (tgt := 1880) dL_law_1183 rfl ?_
  exact cont S2 hR2
set_option maxRecDepth 100000 in
set_option maxHeartbeats 4000000 in
theorem law_case27 (C : cpCL p s m meth c b L xs w A) {Rl : cpS → Prop} (hQ : cpQ_lifting Rl) {i : Nat} (hi : i + 5 < L) {S : cpS} (hRl : Rl S) (cont : ∀ S2, Rl S2 → cpJL p l e s m below meth c b w A 1880 [some (.ref b), some (.ref (w.2.1 0)), some (.ref (w.2.1 150)), some (.int (nI i))] [] S2) : cpJL p l e s m below meth c b w A 1188 [some (.ref b), some (.ref (w.2.1 0)), some (.ref (w.2.1 150)), some (.int (nI i))] [] S := by
  obtain ⟨r, S1, S2, h1, h2, hR2⟩ := hQ (xs (i + 1)) (xs (i + 2)) (xs (i + 3)) S hRl
  refine cl_aload C (i := 1) dL_law_1188 rfl rfl ?_
  refine cl_arg C (j := 1) (by omega) rfl rfl (by decide) dL_law_1189 dL_law_1190 dL_law_1191 dL_law_1192 dL_law_1193 ?_
  refine cl_arg C (j := 2) (by omega) rfl rfl (by decide) dL_law_1194 dL_law_1195 dL_law_1196 dL_law_1197 dL_law_1198 ?_
  refine cl_arg C (j := 3) (by omega) rfl rfl (by decide) dL_law_1199 dL_law_1200 dL_law_1201 dL_law_1202 dL_law_1203 ?_
  refine cl_calli C (As := [.int (xs (i + 1)), .int (xs (i + 2)), .int (xs (i + 3))]) (rest := []) qX11_lifting mw_60_15 o_0 rfl rfl rfl (Nat.le_of_ble_eq_true rfl) (by decide) dL_law_1204 (m_X11_lifting l w A (xs (i + 1)) (xs (i + 2)) (xs (i + 3)) S (r, S1) h1) ?_
  refine cl_aload C (i := 2) dL_law_1207 rfl rfl ?_
  refine cl_arg C (j := 1) (by omega) rfl rfl (by decide) dL_law_1208 dL_law_1209 dL_law_1210 dL_law_1211 dL_law_1212 ?_
  refine cl_arg C (j := 2) (by omega) rfl rfl (by decide) dL_law_1213 dL_law_1214 dL_law_1215 dL_law_1216 dL_law_1217 ?_
  refine cl_arg C (j := 3) (by omega) rfl rfl (by decide) dL_law_1218 dL_law_1219 dL_law_1220 dL_law_1221 dL_law_1222 ?_
  refine cl_calli C (As := [.int (xs (i + 1)), .int (xs (i + 2)), .int (xs (i + 3))]) (rest := [.int r]) qX12_lifting mw_60_20 o_150 rfl rfl rfl (Nat.le_of_ble_eq_true rfl) (by decide) dL_law_1223 (m_X12_lifting l w A (xs (i + 1)) (xs (i + 2)) (xs (i + 3)) S1 (r, S2) h2) ?_
  refine cl_eq C (tgt := 1880) dL_law_1226 rfl ?_
  exact cont S2 hR2
set_option maxRecDepth 100000 in
set_option maxHeartbeats 4000000 in
theorem law_case28 (C : cpCL p s m meth c b L xs w A) {Rl : cpS → Prop} (hQ : cpQ_talk Rl) {i : Nat} (hi : i + 5 < L) {S : cpS} (hRl : Rl S) (cont : ∀ S2, Rl S2 → cpJL p l e s m below meth c b w A 1880 [some (.ref b), some (.ref (w.2.1 0)), some (.ref (w.2.1 150)), some (.int (nI i))] [] S2) : cpJL p l e s m below meth c b w A 1231 [some (.ref b), some (.ref (w.2.1 0)), some (.ref (w.2.1 150)), some (.int (nI i))] [] S := by
  obtain ⟨r, S1, S2, h1, h2, hR2⟩ := hQ (xs (i + 1)) (xs (i + 2)) S hRl
  refine cl_aload C (i := 1) dL_law_1231 rfl rfl ?_
  refine cl_arg C (j := 1) (by omega) rfl rfl (by decide) dL_law_1232 dL_law_1233 dL_law_1234 dL_law_1235 dL_law_1236 ?_
  refine cl_arg C (j := 2) (by omega) rfl rfl (by decide) dL_law_1237 dL_law_1238 dL_law_1239 dL_law_1240 dL_law_1241 ?_
  refine cl_calli C (As := [.int (xs (i + 1)), .int (xs (i + 2))]) (rest := []) qX11_talk mw_61_0 o_0 rfl rfl rfl (Nat.le_of_ble_eq_true rfl) (by decide) dL_law_1242 (m_X11_talk l w A (xs (i + 1)) (xs (i + 2)) S (r, S1) h1) ?_
  refine cl_aload C (i := 2) dL_law_1245 rfl rfl ?_
  refine cl_arg C (j := 1) (by omega) rfl rfl (by decide) dL_law_1246 dL_law_1247 dL_law_1248 dL_law_1249 dL_law_1250 ?_
  refine cl_arg C (j := 2) (by omega) rfl rfl (by decide) dL_law_1251 dL_law_1252 dL_law_1253 dL_law_1254 dL_law_1255 ?_
  refine cl_calli C (As := [.int (xs (i + 1)), .int (xs (i + 2))]) (rest := [.int r]) qX12_talk mw_61_12 o_150 rfl rfl rfl (Nat.le_of_ble_eq_true rfl) (by decide) dL_law_1256 (m_X12_talk l w A (xs (i + 1)) (xs (i + 2)) S1 (r, S2) h2) ?_
  refine cl_eq C (tgt := 1880) dL_law_1259 rfl ?_
  exact cont S2 hR2
set_option maxRecDepth 100000 in
set_option maxHeartbeats 4000000 in
theorem law_case29 (C : cpCL p s m meth c b L xs w A) {Rl : cpS → Prop} (hQ : cpQ_told Rl) {i : Nat} (hi : i + 5 < L) {S : cpS} (hRl : Rl S) (cont : ∀ S2, Rl S2 → cpJL p l e s m below meth c b w A 1880 [some (.ref b), some (.ref (w.2.1 0)), some (.ref (w.2.1 150)), some (.int (nI i))] [] S2) : cpJL p l e s m below meth c b w A 1264 [some (.ref b), some (.ref (w.2.1 0)), some (.ref (w.2.1 150)), some (.int (nI i))] [] S := by
  obtain ⟨r, S1, S2, h1, h2, hR2⟩ := hQ (xs (i + 1)) S hRl
  refine cl_aload C (i := 1) dL_law_1264 rfl rfl ?_
  refine cl_arg C (j := 1) (by omega) rfl rfl (by decide) dL_law_1265 dL_law_1266 dL_law_1267 dL_law_1268 dL_law_1269 ?_
  refine cl_calli C (As := [.int (xs (i + 1))]) (rest := []) qX11_told mw_61_20 o_0 rfl rfl rfl (Nat.le_of_ble_eq_true rfl) (by decide) dL_law_1270 (m_X11_told l w A (xs (i + 1)) S (r, S1) h1) ?_
  refine cl_aload C (i := 2) dL_law_1273 rfl rfl ?_
  refine cl_arg C (j := 1) (by omega) rfl rfl (by decide) dL_law_1274 dL_law_1275 dL_law_1276 dL_law_1277 dL_law_1278 ?_
  refine cl_calli C (As := [.int (xs (i + 1))]) (rest := [.int r]) qX12_told mw_62_0 o_150 rfl rfl rfl (Nat.le_of_ble_eq_true rfl) (by decide) dL_law_1279 (m_X12_told l w A (xs (i + 1)) S1 (r, S2) h2) ?_
  refine cl_eq C (tgt := 1880) dL_law_1282 rfl ?_
  exact cont S2 hR2
set_option maxRecDepth 100000 in
set_option maxHeartbeats 4000000 in
theorem law_case30 (C : cpCL p s m meth c b L xs w A) {Rl : cpS → Prop} (hQ : cpQ_camps Rl) {i : Nat} (hi : i + 5 < L) {S : cpS} (hRl : Rl S) (cont : ∀ S2, Rl S2 → cpJL p l e s m below meth c b w A 1880 [some (.ref b), some (.ref (w.2.1 0)), some (.ref (w.2.1 150)), some (.int (nI i))] [] S2) : cpJL p l e s m below meth c b w A 1287 [some (.ref b), some (.ref (w.2.1 0)), some (.ref (w.2.1 150)), some (.int (nI i))] [] S := by
  obtain ⟨r, S1, S2, h1, h2, hR2⟩ := hQ (xs (i + 1)) S hRl
  refine cl_aload C (i := 1) dL_law_1287 rfl rfl ?_
  refine cl_arg C (j := 1) (by omega) rfl rfl (by decide) dL_law_1288 dL_law_1289 dL_law_1290 dL_law_1291 dL_law_1292 ?_
  refine cl_calli C (As := [.int (xs (i + 1))]) (rest := []) qX11_camps mw_62_4 o_0 rfl rfl rfl (Nat.le_of_ble_eq_true rfl) (by decide) dL_law_1293 (m_X11_camps l w A (xs (i + 1)) S (r, S1) h1) ?_
  refine cl_aload C (i := 2) dL_law_1296 rfl rfl ?_
  refine cl_arg C (j := 1) (by omega) rfl rfl (by decide) dL_law_1297 dL_law_1298 dL_law_1299 dL_law_1300 dL_law_1301 ?_
  refine cl_calli C (As := [.int (xs (i + 1))]) (rest := [.int r]) qX12_camps mw_62_17 o_150 rfl rfl rfl (Nat.le_of_ble_eq_true rfl) (by decide) dL_law_1302 (m_X12_camps l w A (xs (i + 1)) S1 (r, S2) h2) ?_
  refine cl_eq C (tgt := 1880) dL_law_1305 rfl ?_
  exact cont S2 hR2
set_option maxRecDepth 100000 in
set_option maxHeartbeats 4000000 in
theorem law_case31 (C : cpCL p s m meth c b L xs w A) {Rl : cpS → Prop} (hQ : cpQ_peace Rl) {i : Nat} (hi : i + 5 < L) {S : cpS} (hRl : Rl S) (cont : ∀ S2, Rl S2 → cpJL p l e s m below meth c b w A 1880 [some (.ref b), some (.ref (w.2.1 0)), some (.ref (w.2.1 150)), some (.int (nI i))] [] S2) : cpJL p l e s m below meth c b w A 1310 [some (.ref b), some (.ref (w.2.1 0)), some (.ref (w.2.1 150)), some (.int (nI i))] [] S := by
  obtain ⟨r, S1, S2, h1, h2, hR2⟩ := hQ S hRl
  refine cl_aload C (i := 1) dL_law_1310 rfl rfl ?_
  refine cl_calli C (As := []) (rest := []) qX11_peace mw_63_1 o_0 rfl rfl rfl (Nat.le_of_ble_eq_true rfl) (by decide) dL_law_1311 (m_X11_peace l w A S (r, S1) h1) ?_
  refine cl_aload C (i := 2) dL_law_1314 rfl rfl ?_
  refine cl_calli C (As := []) (rest := [.int r]) qX12_peace mw_63_10 o_150 rfl rfl rfl (Nat.le_of_ble_eq_true rfl) (by decide) dL_law_1315 (m_X12_peace l w A S1 (r, S2) h2) ?_
  refine cl_eq C (tgt := 1880) dL_law_1318 rfl ?_
  exact cont S2 hR2
set_option maxRecDepth 100000 in
set_option maxHeartbeats 4000000 in
theorem law_case32 (C : cpCL p s m meth c b L xs w A) {Rl : cpS → Prop} (hQ : cpQ_wornBy Rl) {i : Nat} (hi : i + 5 < L) {S : cpS} (hRl : Rl S) (cont : ∀ S2, Rl S2 → cpJL p l e s m below meth c b w A 1880 [some (.ref b), some (.ref (w.2.1 0)), some (.ref (w.2.1 150)), some (.int (nI i))] [] S2) : cpJL p l e s m below meth c b w A 1323 [some (.ref b), some (.ref (w.2.1 0)), some (.ref (w.2.1 150)), some (.int (nI i))] [] S := by
  obtain ⟨r, S1, S2, h1, h2, hR2⟩ := hQ (xs (i + 1)) (xs (i + 2)) S hRl
  refine cl_aload C (i := 1) dL_law_1323 rfl rfl ?_
  refine cl_arg C (j := 1) (by omega) rfl rfl (by decide) dL_law_1324 dL_law_1325 dL_law_1326 dL_law_1327 dL_law_1328 ?_
  refine cl_arg C (j := 2) (by omega) rfl rfl (by decide) dL_law_1329 dL_law_1330 dL_law_1331 dL_law_1332 dL_law_1333 ?_
  refine cl_calll C (As := [.int (xs (i + 1)), .int (xs (i + 2))]) (rest := []) qX11_wornBy mw_63_14 o_0 rfl rfl rfl (Nat.le_of_ble_eq_true rfl) (by decide) dL_law_1334 (m_X11_wornBy l w A (xs (i + 1)) (xs (i + 2)) S (r, S1) h1) ?_
  refine cl_aload C (i := 2) dL_law_1337 rfl rfl ?_
  refine cl_arg C (j := 1) (by omega) rfl rfl (by decide) dL_law_1338 dL_law_1339 dL_law_1340 dL_law_1341 dL_law_1342 ?_
  refine cl_arg C (j := 2) (by omega) rfl rfl (by decide) dL_law_1343 dL_law_1344 dL_law_1345 dL_law_1346 dL_law_1347 ?_
  refine cl_calll C (As := [.int (xs (i + 1)), .int (xs (i + 2))]) (rest := [.long r]) qX12_wornBy mw_65_9 o_150 rfl rfl rfl (Nat.le_of_ble_eq_true rfl) (by decide) dL_law_1348 (m_X12_wornBy l w A (xs (i + 1)) (xs (i + 2)) S1 (r, S2) h2) ?_
  refine cl_leq C (tgt := 1880) dL_law_1351 dL_law_1352 rfl ?_
  exact cont S2 hR2
set_option maxRecDepth 100000 in
set_option maxHeartbeats 4000000 in
theorem law_case33 (C : cpCL p s m meth c b L xs w A) {Rl : cpS → Prop} (hQ : cpQ_wornFirst Rl) {i : Nat} (hi : i + 5 < L) {S : cpS} (hRl : Rl S) (cont : ∀ S2, Rl S2 → cpJL p l e s m below meth c b w A 1880 [some (.ref b), some (.ref (w.2.1 0)), some (.ref (w.2.1 150)), some (.int (nI i))] [] S2) : cpJL p l e s m below meth c b w A 1357 [some (.ref b), some (.ref (w.2.1 0)), some (.ref (w.2.1 150)), some (.int (nI i))] [] S := by
  obtain ⟨r, S1, S2, h1, h2, hR2⟩ := hQ (xs (i + 1)) (xs (i + 2)) (xs (i + 3)) S hRl
  refine cl_aload C (i := 1) dL_law_1357 rfl rfl ?_
  refine cl_arg C (j := 1) (by omega) rfl rfl (by decide) dL_law_1358 dL_law_1359 dL_law_1360 dL_law_1361 dL_law_1362 ?_
  refine cl_arg C (j := 2) (by omega) rfl rfl (by decide) dL_law_1363 dL_law_1364 dL_law_1365 dL_law_1366 dL_law_1367 ?_
  refine cl_arg C (j := 3) (by omega) rfl rfl (by decide) dL_law_1368 dL_law_1369 dL_law_1370 dL_law_1371 dL_law_1372 ?_
  refine cl_calli C (As := [.int (xs (i + 1)), .int (xs (i + 2)), .int (xs (i + 3))]) (rest := []) qX11_wornFirst mw_66_11 o_0 rfl rfl rfl (Nat.le_of_ble_eq_true rfl) (by decide) dL_law_1373 (m_X11_wornFirst l w A (xs (i + 1)) (xs (i + 2)) (xs (i + 3)) S (r, S1) h1) ?_
  refine cl_aload C (i := 2) dL_law_1376 rfl rfl ?_
  refine cl_arg C (j := 1) (by omega) rfl rfl (by decide) dL_law_1377 dL_law_1378 dL_law_1379 dL_law_1380 dL_law_1381 ?_
  refine cl_arg C (j := 2) (by omega) rfl rfl (by decide) dL_law_1382 dL_law_1383 dL_law_1384 dL_law_1385 dL_law_1386 ?_
  refine cl_arg C (j := 3) (by omega) rfl rfl (by decide) dL_law_1387 dL_law_1388 dL_law_1389 dL_law_1390 dL_law_1391 ?_
  refine cl_calli C (As := [.int (xs (i + 1)), .int (xs (i + 2)), .int (xs (i + 3))]) (rest := [.int r]) qX12_wornFirst mw_66_23 o_150 rfl rfl rfl (Nat.le_of_ble_eq_true rfl) (by decide) dL_law_1392 (m_X12_wornFirst l w A (xs (i + 1)) (xs (i + 2)) (xs (i + 3)) S1 (r, S2) h2) ?_
  refine cl_eq C (tgt := 1880) dL_law_1395 rfl ?_
  exact cont S2 hR2
set_option maxRecDepth 100000 in
set_option maxHeartbeats 4000000 in
theorem law_case34 (C : cpCL p s m meth c b L xs w A) {Rl : cpS → Prop} (hQ : cpQ_who Rl) {i : Nat} (hi : i + 5 < L) {S : cpS} (hRl : Rl S) (cont : ∀ S2, Rl S2 → cpJL p l e s m below meth c b w A 1880 [some (.ref b), some (.ref (w.2.1 0)), some (.ref (w.2.1 150)), some (.int (nI i))] [] S2) : cpJL p l e s m below meth c b w A 1400 [some (.ref b), some (.ref (w.2.1 0)), some (.ref (w.2.1 150)), some (.int (nI i))] [] S := by
  obtain ⟨r, S1, S2, h1, h2, hR2⟩ := hQ (xs (i + 1)) (xs (i + 2)) (xs (i + 3)) S hRl
  refine cl_aload C (i := 1) dL_law_1400 rfl rfl ?_
  refine cl_arg C (j := 1) (by omega) rfl rfl (by decide) dL_law_1401 dL_law_1402 dL_law_1403 dL_law_1404 dL_law_1405 ?_
  refine cl_arg C (j := 2) (by omega) rfl rfl (by decide) dL_law_1406 dL_law_1407 dL_law_1408 dL_law_1409 dL_law_1410 ?_
  refine cl_arg C (j := 3) (by omega) rfl rfl (by decide) dL_law_1411 dL_law_1412 dL_law_1413 dL_law_1414 dL_law_1415 ?_
  refine cl_calli C (As := [.int (xs (i + 1)), .int (xs (i + 2)), .int (xs (i + 3))]) (rest := []) qX11_who mw_67_7 o_0 rfl rfl rfl (Nat.le_of_ble_eq_true rfl) (by decide) dL_law_1416 (m_X11_who l w A (xs (i + 1)) (xs (i + 2)) (xs (i + 3)) S (r, S1) h1) ?_
  refine cl_aload C (i := 2) dL_law_1419 rfl rfl ?_
  refine cl_arg C (j := 1) (by omega) rfl rfl (by decide) dL_law_1420 dL_law_1421 dL_law_1422 dL_law_1423 dL_law_1424 ?_
  refine cl_arg C (j := 2) (by omega) rfl rfl (by decide) dL_law_1425 dL_law_1426 dL_law_1427 dL_law_1428 dL_law_1429 ?_
  refine cl_arg C (j := 3) (by omega) rfl rfl (by decide) dL_law_1430 dL_law_1431 dL_law_1432 dL_law_1433 dL_law_1434 ?_
  refine cl_calli C (As := [.int (xs (i + 1)), .int (xs (i + 2)), .int (xs (i + 3))]) (rest := [.int r]) qX12_who mw_67_23 o_150 rfl rfl rfl (Nat.le_of_ble_eq_true rfl) (by decide) dL_law_1435 (m_X12_who l w A (xs (i + 1)) (xs (i + 2)) (xs (i + 3)) S1 (r, S2) h2) ?_
  refine cl_eq C (tgt := 1880) dL_law_1438 rfl ?_
  exact cont S2 hR2
set_option maxRecDepth 100000 in
set_option maxHeartbeats 4000000 in
theorem law_case35 (C : cpCL p s m meth c b L xs w A) {Rl : cpS → Prop} (hQ : cpQ_hours Rl) {i : Nat} (hi : i + 5 < L) {S : cpS} (hRl : Rl S) (cont : ∀ S2, Rl S2 → cpJL p l e s m below meth c b w A 1880 [some (.ref b), some (.ref (w.2.1 0)), some (.ref (w.2.1 150)), some (.int (nI i))] [] S2) : cpJL p l e s m below meth c b w A 1443 [some (.ref b), some (.ref (w.2.1 0)), some (.ref (w.2.1 150)), some (.int (nI i))] [] S := by
  obtain ⟨r, S1, S2, h1, h2, hR2⟩ := hQ (xs (i + 1)) S hRl
  refine cl_aload C (i := 1) dL_law_1443 rfl rfl ?_
  refine cl_arg C (j := 1) (by omega) rfl rfl (by decide) dL_law_1444 dL_law_1445 dL_law_1446 dL_law_1447 dL_law_1448 ?_
  refine cl_calli C (As := [.int (xs (i + 1))]) (rest := []) qX11_hours mw_68_3 o_0 rfl rfl rfl (Nat.le_of_ble_eq_true rfl) (by decide) dL_law_1449 (m_X11_hours l w A (xs (i + 1)) S (r, S1) h1) ?_
  refine cl_aload C (i := 2) dL_law_1452 rfl rfl ?_
  refine cl_arg C (j := 1) (by omega) rfl rfl (by decide) dL_law_1453 dL_law_1454 dL_law_1455 dL_law_1456 dL_law_1457 ?_
  refine cl_calli C (As := [.int (xs (i + 1))]) (rest := [.int r]) qX12_hours mw_68_22 o_150 rfl rfl rfl (Nat.le_of_ble_eq_true rfl) (by decide) dL_law_1458 (m_X12_hours l w A (xs (i + 1)) S1 (r, S2) h2) ?_
  refine cl_eq C (tgt := 1880) dL_law_1461 rfl ?_
  exact cont S2 hR2
set_option maxRecDepth 100000 in
set_option maxHeartbeats 4000000 in
theorem law_case36 (C : cpCL p s m meth c b L xs w A) {Rl : cpS → Prop} (hQ : cpQ_attempt Rl) {i : Nat} (hi : i + 5 < L) {S : cpS} (hRl : Rl S) (cont : ∀ S2, Rl S2 → cpJL p l e s m below meth c b w A 1880 [some (.ref b), some (.ref (w.2.1 0)), some (.ref (w.2.1 150)), some (.int (nI i))] [] S2) : cpJL p l e s m below meth c b w A 1466 [some (.ref b), some (.ref (w.2.1 0)), some (.ref (w.2.1 150)), some (.int (nI i))] [] S := by
  obtain ⟨r, S1, S2, h1, h2, hR2⟩ := hQ (xs (i + 1)) (xs (i + 2)) (xs (i + 3)) S hRl
  refine cl_aload C (i := 1) dL_law_1466 rfl rfl ?_
  refine cl_arg C (j := 1) (by omega) rfl rfl (by decide) dL_law_1467 dL_law_1468 dL_law_1469 dL_law_1470 dL_law_1471 ?_
  refine cl_arg C (j := 2) (by omega) rfl rfl (by decide) dL_law_1472 dL_law_1473 dL_law_1474 dL_law_1475 dL_law_1476 ?_
  refine cl_arg C (j := 3) (by omega) rfl rfl (by decide) dL_law_1477 dL_law_1478 dL_law_1479 dL_law_1480 dL_law_1481 ?_
  refine cl_calli C (As := [.int (xs (i + 1)), .int (xs (i + 2)), .int (xs (i + 3))]) (rest := []) qX11_attempt mw_69_11 o_0 rfl rfl rfl (Nat.le_of_ble_eq_true rfl) (by decide) dL_law_1482 (m_X11_attempt l w A (xs (i + 1)) (xs (i + 2)) (xs (i + 3)) S (r, S1) h1) ?_
  refine cl_aload C (i := 2) dL_law_1485 rfl rfl ?_
  refine cl_arg C (j := 1) (by omega) rfl rfl (by decide) dL_law_1486 dL_law_1487 dL_law_1488 dL_law_1489 dL_law_1490 ?_
  refine cl_arg C (j := 2) (by omega) rfl rfl (by decide) dL_law_1491 dL_law_1492 dL_law_1493 dL_law_1494 dL_law_1495 ?_
  refine cl_arg C (j := 3) (by omega) rfl rfl (by decide) dL_law_1496 dL_law_1497 dL_law_1498 dL_law_1499 dL_law_1500 ?_
  refine cl_calli C (As := [.int (xs (i + 1)), .int (xs (i + 2)), .int (xs (i + 3))]) (rest := [.int r]) qX12_attempt mw_70_4 o_150 rfl rfl rfl (Nat.le_of_ble_eq_true rfl) (by decide) dL_law_1501 (m_X12_attempt l w A (xs (i + 1)) (xs (i + 2)) (xs (i + 3)) S1 (r, S2) h2) ?_
  refine cl_eq C (tgt := 1880) dL_law_1504 rfl ?_
  exact cont S2 hR2
set_option maxRecDepth 100000 in
set_option maxHeartbeats 4000000 in
theorem law_case37 (C : cpCL p s m meth c b L xs w A) {Rl : cpS → Prop} (hQ : cpQ_forces Rl) {i : Nat} (hi : i + 5 < L) {S : cpS} (hRl : Rl S) (cont : ∀ S2, Rl S2 → cpJL p l e s m below meth c b w A 1880 [some (.ref b), some (.ref (w.2.1 0)), some (.ref (w.2.1 150)), some (.int (nI i))] [] S2) : cpJL p l e s m below meth c b w A 1509 [some (.ref b), some (.ref (w.2.1 0)), some (.ref (w.2.1 150)), some (.int (nI i))] [] S := by
  obtain ⟨r, S1, S2, h1, h2, hR2⟩ := hQ (xs (i + 1)) (xs (i + 2)) S hRl
  refine cl_aload C (i := 1) dL_law_1509 rfl rfl ?_
  refine cl_arg C (j := 1) (by omega) rfl rfl (by decide) dL_law_1510 dL_law_1511 dL_law_1512 dL_law_1513 dL_law_1514 ?_
  refine cl_arg C (j := 2) (by omega) rfl rfl (by decide) dL_law_1515 dL_law_1516 dL_law_1517 dL_law_1518 dL_law_1519 ?_
  refine cl_calli C (As := [.int (xs (i + 1)), .int (xs (i + 2))]) (rest := []) qX11_forces mw_70_12 o_0 rfl rfl rfl (Nat.le_of_ble_eq_true rfl) (by decide) dL_law_1520 (m_X11_forces l w A (xs (i + 1)) (xs (i + 2)) S (r, S1) h1) ?_
  refine cl_aload C (i := 2) dL_law_1523 rfl rfl ?_
  refine cl_arg C (j := 1) (by omega) rfl rfl (by decide) dL_law_1524 dL_law_1525 dL_law_1526 dL_law_1527 dL_law_1528 ?_
  refine cl_arg C (j := 2) (by omega) rfl rfl (by decide) dL_law_1529 dL_law_1530 dL_law_1531 dL_law_1532 dL_law_1533 ?_
  refine cl_calli C (As := [.int (xs (i + 1)), .int (xs (i + 2))]) (rest := [.int r]) qX12_forces mw_71_7 o_150 rfl rfl rfl (Nat.le_of_ble_eq_true rfl) (by decide) dL_law_1534 (m_X12_forces l w A (xs (i + 1)) (xs (i + 2)) S1 (r, S2) h2) ?_
  refine cl_eq C (tgt := 1880) dL_law_1537 rfl ?_
  exact cont S2 hR2
set_option maxRecDepth 100000 in
set_option maxHeartbeats 4000000 in
theorem law_case38 (C : cpCL p s m meth c b L xs w A) {Rl : cpS → Prop} (hQ : cpQ_best Rl) {i : Nat} (hi : i + 5 < L) {S : cpS} (hRl : Rl S) (cont : ∀ S2, Rl S2 → cpJL p l e s m below meth c b w A 1880 [some (.ref b), some (.ref (w.2.1 0)), some (.ref (w.2.1 150)), some (.int (nI i))] [] S2) : cpJL p l e s m below meth c b w A 1542 [some (.ref b), some (.ref (w.2.1 0)), some (.ref (w.2.1 150)), some (.int (nI i))] [] S := by
  obtain ⟨r, S1, S2, h1, h2, hR2⟩ := hQ (xs (i + 1)) (xs (i + 2)) S hRl
  refine cl_aload C (i := 1) dL_law_1542 rfl rfl ?_
  refine cl_arg C (j := 1) (by omega) rfl rfl (by decide) dL_law_1543 dL_law_1544 dL_law_1545 dL_law_1546 dL_law_1547 ?_
  refine cl_arg C (j := 2) (by omega) rfl rfl (by decide) dL_law_1548 dL_law_1549 dL_law_1550 dL_law_1551 dL_law_1552 ?_
  refine cl_calli C (As := [.int (xs (i + 1)), .int (xs (i + 2))]) (rest := []) qX11_best mw_71_23 o_0 rfl rfl rfl (Nat.le_of_ble_eq_true rfl) (by decide) dL_law_1553 (m_X11_best l w A (xs (i + 1)) (xs (i + 2)) S (r, S1) h1) ?_
  refine cl_aload C (i := 2) dL_law_1556 rfl rfl ?_
  refine cl_arg C (j := 1) (by omega) rfl rfl (by decide) dL_law_1557 dL_law_1558 dL_law_1559 dL_law_1560 dL_law_1561 ?_
  refine cl_arg C (j := 2) (by omega) rfl rfl (by decide) dL_law_1562 dL_law_1563 dL_law_1564 dL_law_1565 dL_law_1566 ?_
  refine cl_calli C (As := [.int (xs (i + 1)), .int (xs (i + 2))]) (rest := [.int r]) qX12_best mw_72_7 o_150 rfl rfl rfl (Nat.le_of_ble_eq_true rfl) (by decide) dL_law_1567 (m_X12_best l w A (xs (i + 1)) (xs (i + 2)) S1 (r, S2) h2) ?_
  refine cl_eq C (tgt := 1880) dL_law_1570 rfl ?_
  exact cont S2 hR2
set_option maxRecDepth 100000 in
set_option maxHeartbeats 4000000 in
theorem law_case39 (C : cpCL p s m meth c b L xs w A) {Rl : cpS → Prop} (hQ : cpQ_chance Rl) {i : Nat} (hi : i + 5 < L) {S : cpS} (hRl : Rl S) (cont : ∀ S2, Rl S2 → cpJL p l e s m below meth c b w A 1880 [some (.ref b), some (.ref (w.2.1 0)), some (.ref (w.2.1 150)), some (.int (nI i))] [] S2) : cpJL p l e s m below meth c b w A 1575 [some (.ref b), some (.ref (w.2.1 0)), some (.ref (w.2.1 150)), some (.int (nI i))] [] S := by
  obtain ⟨r, S1, S2, h1, h2, hR2⟩ := hQ (xs (i + 1)) (xs (i + 2)) (xs (i + 3)) S hRl
  refine cl_aload C (i := 1) dL_law_1575 rfl rfl ?_
  refine cl_arg C (j := 1) (by omega) rfl rfl (by decide) dL_law_1576 dL_law_1577 dL_law_1578 dL_law_1579 dL_law_1580 ?_
  refine cl_arg C (j := 2) (by omega) rfl rfl (by decide) dL_law_1581 dL_law_1582 dL_law_1583 dL_law_1584 dL_law_1585 ?_
  refine cl_arg C (j := 3) (by omega) rfl rfl (by decide) dL_law_1586 dL_law_1587 dL_law_1588 dL_law_1589 dL_law_1590 ?_
  refine cl_calli C (As := [.int (xs (i + 1)), .int (xs (i + 2)), .int (xs (i + 3))]) (rest := []) qX11_chance mw_72_11 o_0 rfl rfl rfl (Nat.le_of_ble_eq_true rfl) (by decide) dL_law_1591 (m_X11_chance l w A (xs (i + 1)) (xs (i + 2)) (xs (i + 3)) S (r, S1) h1) ?_
  refine cl_aload C (i := 2) dL_law_1594 rfl rfl ?_
  refine cl_arg C (j := 1) (by omega) rfl rfl (by decide) dL_law_1595 dL_law_1596 dL_law_1597 dL_law_1598 dL_law_1599 ?_
  refine cl_arg C (j := 2) (by omega) rfl rfl (by decide) dL_law_1600 dL_law_1601 dL_law_1602 dL_law_1603 dL_law_1604 ?_
  refine cl_arg C (j := 3) (by omega) rfl rfl (by decide) dL_law_1605 dL_law_1606 dL_law_1607 dL_law_1608 dL_law_1609 ?_
  refine cl_calli C (As := [.int (xs (i + 1)), .int (xs (i + 2)), .int (xs (i + 3))]) (rest := [.int r]) qX12_chance mw_73_22 o_150 rfl rfl rfl (Nat.le_of_ble_eq_true rfl) (by decide) dL_law_1610 (m_X12_chance l w A (xs (i + 1)) (xs (i + 2)) (xs (i + 3)) S1 (r, S2) h2) ?_
  refine cl_eq C (tgt := 1880) dL_law_1613 rfl ?_
  exact cont S2 hR2
set_option maxRecDepth 100000 in
set_option maxHeartbeats 4000000 in
theorem law_case40 (C : cpCL p s m meth c b L xs w A) {Rl : cpS → Prop} (hQ : cpQ_by Rl) {i : Nat} (hi : i + 5 < L) {S : cpS} (hRl : Rl S) (cont : ∀ S2, Rl S2 → cpJL p l e s m below meth c b w A 1880 [some (.ref b), some (.ref (w.2.1 0)), some (.ref (w.2.1 150)), some (.int (nI i))] [] S2) : cpJL p l e s m below meth c b w A 1618 [some (.ref b), some (.ref (w.2.1 0)), some (.ref (w.2.1 150)), some (.int (nI i))] [] S := by
  obtain ⟨r, S1, S2, h1, h2, hR2⟩ := hQ (xs (i + 1)) (xs (i + 2)) S hRl
  refine cl_aload C (i := 1) dL_law_1618 rfl rfl ?_
  refine cl_arg C (j := 1) (by omega) rfl rfl (by decide) dL_law_1619 dL_law_1620 dL_law_1621 dL_law_1622 dL_law_1623 ?_
  refine cl_arg C (j := 2) (by omega) rfl rfl (by decide) dL_law_1624 dL_law_1625 dL_law_1626 dL_law_1627 dL_law_1628 ?_
  refine cl_calli C (As := [.int (xs (i + 1)), .int (xs (i + 2))]) (rest := []) qX11_by mw_75_0 o_0 rfl rfl rfl (Nat.le_of_ble_eq_true rfl) (by decide) dL_law_1629 (m_X11_by l w A (xs (i + 1)) (xs (i + 2)) S (r, S1) h1) ?_
  refine cl_aload C (i := 2) dL_law_1632 rfl rfl ?_
  refine cl_arg C (j := 1) (by omega) rfl rfl (by decide) dL_law_1633 dL_law_1634 dL_law_1635 dL_law_1636 dL_law_1637 ?_
  refine cl_arg C (j := 2) (by omega) rfl rfl (by decide) dL_law_1638 dL_law_1639 dL_law_1640 dL_law_1641 dL_law_1642 ?_
  refine cl_calli C (As := [.int (xs (i + 1)), .int (xs (i + 2))]) (rest := [.int r]) qX12_by mw_75_9 o_150 rfl rfl rfl (Nat.le_of_ble_eq_true rfl) (by decide) dL_law_1643 (m_X12_by l w A (xs (i + 1)) (xs (i + 2)) S1 (r, S2) h2) ?_
  refine cl_eq C (tgt := 1880) dL_law_1646 rfl ?_
  exact cont S2 hR2
set_option maxRecDepth 100000 in
set_option maxHeartbeats 4000000 in
theorem law_case41 (C : cpCL p s m meth c b L xs w A) {Rl : cpS → Prop} (hQ : cpQ_numbers Rl) {i : Nat} (hi : i + 5 < L) {S : cpS} (hRl : Rl S) (cont : ∀ S2, Rl S2 → cpJL p l e s m below meth c b w A 1880 [some (.ref b), some (.ref (w.2.1 0)), some (.ref (w.2.1 150)), some (.int (nI i))] [] S2) : cpJL p l e s m below meth c b w A 1651 [some (.ref b), some (.ref (w.2.1 0)), some (.ref (w.2.1 150)), some (.int (nI i))] [] S := by
  obtain ⟨r, S1, S2, h1, h2, hR2⟩ := hQ (xs (i + 1)) (xs (i + 2)) (xs (i + 3)) S hRl
  refine cl_aload C (i := 1) dL_law_1651 rfl rfl ?_
  refine cl_arg C (j := 1) (by omega) rfl rfl (by decide) dL_law_1652 dL_law_1653 dL_law_1654 dL_law_1655 dL_law_1656 ?_
  refine cl_arg C (j := 2) (by omega) rfl rfl (by decide) dL_law_1657 dL_law_1658 dL_law_1659 dL_law_1660 dL_law_1661 ?_
  refine cl_arg C (j := 3) (by omega) rfl rfl (by decide) dL_law_1662 dL_law_1663 dL_law_1664 dL_law_1665 dL_law_1666 ?_
  refine cl_calli C (As := [.int (xs (i + 1)), .int (xs (i + 2)), .int (xs (i + 3))]) (rest := []) qX11_numbers mw_75_13 o_0 rfl rfl rfl (Nat.le_of_ble_eq_true rfl) (by decide) dL_law_1667 (m_X11_numbers l w A (xs (i + 1)) (xs (i + 2)) (xs (i + 3)) S (r, S1) h1) ?_
  refine cl_aload C (i := 2) dL_law_1670 rfl rfl ?_
  refine cl_arg C (j := 1) (by omega) rfl rfl (by decide) dL_law_1671 dL_law_1672 dL_law_1673 dL_law_1674 dL_law_1675 ?_
  refine cl_arg C (j := 2) (by omega) rfl rfl (by decide) dL_law_1676 dL_law_1677 dL_law_1678 dL_law_1679 dL_law_1680 ?_
  refine cl_arg C (j := 3) (by omega) rfl rfl (by decide) dL_law_1681 dL_law_1682 dL_law_1683 dL_law_1684 dL_law_1685 ?_
  refine cl_calli C (As := [.int (xs (i + 1)), .int (xs (i + 2)), .int (xs (i + 3))]) (rest := [.int r]) qX12_numbers mw_75_22 o_150 rfl rfl rfl (Nat.le_of_ble_eq_true rfl) (by decide) dL_law_1686 (m_X12_numbers l w A (xs (i + 1)) (xs (i + 2)) (xs (i + 3)) S1 (r, S2) h2) ?_
  refine cl_eq C (tgt := 1880) dL_law_1689 rfl ?_
  exact cont S2 hR2
set_option maxRecDepth 100000 in
set_option maxHeartbeats 4000000 in
theorem law_case42 (C : cpCL p s m meth c b L xs w A) {Rl : cpS → Prop} (hQ : cpQ_write Rl) {i : Nat} (hi : i + 5 < L) {S : cpS} (hRl : Rl S) (cont : ∀ S2, Rl S2 → cpJL p l e s m below meth c b w A 1880 [some (.ref b), some (.ref (w.2.1 0)), some (.ref (w.2.1 150)), some (.int (nI i))] [] S2) : cpJL p l e s m below meth c b w A 1694 [some (.ref b), some (.ref (w.2.1 0)), some (.ref (w.2.1 150)), some (.int (nI i))] [] S := by
  obtain ⟨r, S1, S2, h1, h2, hR2⟩ := hQ (xs (i + 1)) (xs (i + 2)) (((Int32.toInt64 (xs (i + 3))) <<< (Int32.toInt64 (32 : Int32) &&& 63)) ||| ((Int32.toInt64 (xs (i + 4))) &&& (4294967295 : Int64))) S hRl
  refine cl_aload C (i := 1) dL_law_1694 rfl rfl ?_
  refine cl_arg C (j := 1) (by omega) rfl rfl (by decide) dL_law_1695 dL_law_1696 dL_law_1697 dL_law_1698 dL_law_1699 ?_
  refine cl_arg C (j := 2) (by omega) rfl rfl (by decide) dL_law_1700 dL_law_1701 dL_law_1702 dL_law_1703 dL_law_1704 ?_
  refine cl_arg C (j := 3) (by omega) rfl rfl (by decide) dL_law_1705 dL_law_1706 dL_law_1707 dL_law_1708 dL_law_1709 ?_
  refine cl_i2l C dL_law_1710 ?_
  refine cl_bipush C (v := (32 : Int32)) dL_law_1711 rfl ?_
  refine cl_lshl C dL_law_1713 ?_
  refine cl_arg C (j := 4) (by omega) rfl rfl (by decide) dL_law_1714 dL_law_1715 dL_law_1716 dL_law_1717 dL_law_1718 ?_
  refine cl_i2l C dL_law_1719 ?_
  refine cl_ldc2 C (v := (4294967295 : Int64)) mw_1_6 dL_law_1720 ?_
  refine cl_land C dL_law_1723 ?_
  refine cl_lor C dL_law_1724 ?_
  refine cl_calll C (As := [.int (xs (i + 1)), .int (xs (i + 2)), .long (((Int32.toInt64 (xs (i + 3))) <<< (Int32.toInt64 (32 : Int32) &&& 63)) ||| ((Int32.toInt64 (xs (i + 4))) &&& (4294967295 : Int64)))]) (rest := []) qX11_write mw_76_2 o_0 rfl rfl rfl (Nat.le_of_ble_eq_true rfl) (by decide) dL_law_1725 (m_X11_write l w A (xs (i + 1)) (xs (i + 2)) (((Int32.toInt64 (xs (i + 3))) <<< (Int32.toInt64 (32 : Int32) &&& 63)) ||| ((Int32.toInt64 (xs (i + 4))) &&& (4294967295 : Int64))) S (r, S1) h1) ?_
  refine cl_aload C (i := 2) dL_law_1728 rfl rfl ?_
  refine cl_arg C (j := 1) (by omega) rfl rfl (by decide) dL_law_1729 dL_law_1730 dL_law_1731 dL_law_1732 dL_law_1733 ?_
  refine cl_arg C (j := 2) (by omega) rfl rfl (by decide) dL_law_1734 dL_law_1735 dL_law_1736 dL_law_1737 dL_law_1738 ?_
  refine cl_arg C (j := 3) (by omega) rfl rfl (by decide) dL_law_1739 dL_law_1740 dL_law_1741 dL_law_1742 dL_law_1743 ?_
  refine cl_i2l C dL_law_1744 ?_
  refine cl_bipush C (v := (32 : Int32)) dL_law_1745 rfl ?_
  refine cl_lshl C dL_law_1747 ?_
  refine cl_arg C (j := 4) (by omega) rfl rfl (by decide) dL_law_1748 dL_law_1749 dL_law_1750 dL_law_1751 dL_law_1752 ?_
  refine cl_i2l C dL_law_1753 ?_
  refine cl_ldc2 C (v := (4294967295 : Int64)) mw_1_6 dL_law_1754 ?_
  refine cl_land C dL_law_1757 ?_
  refine cl_lor C dL_law_1758 ?_
  refine cl_calll C (As := [.int (xs (i + 1)), .int (xs (i + 2)), .long (((Int32.toInt64 (xs (i + 3))) <<< (Int32.toInt64 (32 : Int32) &&& 63)) ||| ((Int32.toInt64 (xs (i + 4))) &&& (4294967295 : Int64)))]) (rest := [.long r]) qX12_write mw_76_16 o_150 rfl rfl rfl (Nat.le_of_ble_eq_true rfl) (by decide) dL_law_1759 (m_X12_write l w A (xs (i + 1)) (xs (i + 2)) (((Int32.toInt64 (xs (i + 3))) <<< (Int32.toInt64 (32 : Int32) &&& 63)) ||| ((Int32.toInt64 (xs (i + 4))) &&& (4294967295 : Int64))) S1 (r, S2) h2) ?_
  refine cl_leq C (tgt := 1880) dL_law_1762 dL_law_1763 rfl ?_
  exact cont S2 hR2
set_option maxRecDepth 100000 in
set_option maxHeartbeats 4000000 in
theorem law_case43 (C : cpCL p s m meth c b L xs w A) {Rl : cpS → Prop} (hQ : cpQ_lists Rl) {i : Nat} (hi : i + 5 < L) {S : cpS} (hRl : Rl S) (cont : ∀ S2, Rl S2 → cpJL p l e s m below meth c b w A 1880 [some (.ref b), some (.ref (w.2.1 0)), some (.ref (w.2.1 150)), some (.int (nI i))] [] S2) : cpJL p l e s m below meth c b w A 1768 [some (.ref b), some (.ref (w.2.1 0)), some (.ref (w.2.1 150)), some (.int (nI i))] [] S := by
  obtain ⟨r, S1, S2, h1, h2, hR2⟩ := hQ (xs (i + 1)) (xs (i + 2)) (xs (i + 3)) S hRl
  refine cl_aload C (i := 1) dL_law_1768 rfl rfl ?_
  refine cl_arg C (j := 1) (by omega) rfl rfl (by decide) dL_law_1769 dL_law_1770 dL_law_1771 dL_law_1772 dL_law_1773 ?_
  refine cl_arg C (j := 2) (by omega) rfl rfl (by decide) dL_law_1774 dL_law_1775 dL_law_1776 dL_law_1777 dL_law_1778 ?_
  refine cl_arg C (j := 3) (by omega) rfl rfl (by decide) dL_law_1779 dL_law_1780 dL_law_1781 dL_law_1782 dL_law_1783 ?_
  refine cl_calli C (As := [.int (xs (i + 1)), .int (xs (i + 2)), .int (xs (i + 3))]) (rest := []) qX11_lists mw_77_0 o_0 rfl rfl rfl (Nat.le_of_ble_eq_true rfl) (by decide) dL_law_1784 (m_X11_lists l w A (xs (i + 1)) (xs (i + 2)) (xs (i + 3)) S (r, S1) h1) ?_
  refine cl_aload C (i := 2) dL_law_1787 rfl rfl ?_
  refine cl_arg C (j := 1) (by omega) rfl rfl (by decide) dL_law_1788 dL_law_1789 dL_law_1790 dL_law_1791 dL_law_1792 ?_
  refine cl_arg C (j := 2) (by omega) rfl rfl (by decide) dL_law_1793 dL_law_1794 dL_law_1795 dL_law_1796 dL_law_1797 ?_
  refine cl_arg C (j := 3) (by omega) rfl rfl (by decide) dL_law_1798 dL_law_1799 dL_law_1800 dL_law_1801 dL_law_1802 ?_
  refine cl_calli C (As := [.int (xs (i + 1)), .int (xs (i + 2)), .int (xs (i + 3))]) (rest := [.int r]) qX12_lists mw_77_5 o_150 rfl rfl rfl (Nat.le_of_ble_eq_true rfl) (by decide) dL_law_1803 (m_X12_lists l w A (xs (i + 1)) (xs (i + 2)) (xs (i + 3)) S1 (r, S2) h2) ?_
  refine cl_eq C (tgt := 1880) dL_law_1806 rfl ?_
  exact cont S2 hR2
set_option maxRecDepth 100000 in
set_option maxHeartbeats 4000000 in
theorem law_case44 (C : cpCL p s m meth c b L xs w A) {Rl : cpS → Prop} (hQ : cpQ_image Rl) {i : Nat} (hi : i + 5 < L) {S : cpS} (hRl : Rl S) (cont : ∀ S2, Rl S2 → cpJL p l e s m below meth c b w A 1880 [some (.ref b), some (.ref (w.2.1 0)), some (.ref (w.2.1 150)), some (.int (nI i))] [] S2) : cpJL p l e s m below meth c b w A 1811 [some (.ref b), some (.ref (w.2.1 0)), some (.ref (w.2.1 150)), some (.int (nI i))] [] S := by
  obtain ⟨r, S1, S2, h1, h2, hR2⟩ := hQ (xs (i + 1)) S hRl
  refine cl_aload C (i := 1) dL_law_1811 rfl rfl ?_
  refine cl_arg C (j := 1) (by omega) rfl rfl (by decide) dL_law_1812 dL_law_1813 dL_law_1814 dL_law_1815 dL_law_1816 ?_
  refine cl_calli C (As := [.int (xs (i + 1))]) (rest := []) qX11_image mw_77_9 o_0 rfl rfl rfl (Nat.le_of_ble_eq_true rfl) (by decide) dL_law_1817 (m_X11_image l w A (xs (i + 1)) S (r, S1) h1) ?_
  refine cl_aload C (i := 2) dL_law_1820 rfl rfl ?_
  refine cl_arg C (j := 1) (by omega) rfl rfl (by decide) dL_law_1821 dL_law_1822 dL_law_1823 dL_law_1824 dL_law_1825 ?_
  refine cl_calli C (As := [.int (xs (i + 1))]) (rest := [.int r]) qX12_image mw_77_13 o_150 rfl rfl rfl (Nat.le_of_ble_eq_true rfl) (by decide) dL_law_1826 (m_X12_image l w A (xs (i + 1)) S1 (r, S2) h2) ?_
  refine cl_eq C (tgt := 1880) dL_law_1829 rfl ?_
  exact cont S2 hR2
set_option maxRecDepth 100000 in
set_option maxHeartbeats 4000000 in
theorem law_case45 (C : cpCL p s m meth c b L xs w A) {Rl : cpS → Prop} (hQ : cpQ_restore Rl) {i : Nat} (hi : i + 5 < L) {S : cpS} (hRl : Rl S) (cont : ∀ S2, Rl S2 → cpJL p l e s m below meth c b w A 1880 [some (.ref b), some (.ref (w.2.1 0)), some (.ref (w.2.1 150)), some (.int (nI i))] [] S2) : cpJL p l e s m below meth c b w A 1834 [some (.ref b), some (.ref (w.2.1 0)), some (.ref (w.2.1 150)), some (.int (nI i))] [] S := by
  obtain ⟨r, S1, S2, h1, h2, hR2⟩ := hQ (xs (i + 1)) S hRl
  refine cl_aload C (i := 1) dL_law_1834 rfl rfl ?_
  refine cl_arg C (j := 1) (by omega) rfl rfl (by decide) dL_law_1835 dL_law_1836 dL_law_1837 dL_law_1838 dL_law_1839 ?_
  refine cl_calli C (As := [.int (xs (i + 1))]) (rest := []) qX11_restore mw_77_17 o_0 rfl rfl rfl (Nat.le_of_ble_eq_true rfl) (by decide) dL_law_1840 (m_X11_restore l w A (xs (i + 1)) S (r, S1) h1) ?_
  refine cl_aload C (i := 2) dL_law_1843 rfl rfl ?_
  refine cl_arg C (j := 1) (by omega) rfl rfl (by decide) dL_law_1844 dL_law_1845 dL_law_1846 dL_law_1847 dL_law_1848 ?_
  refine cl_calli C (As := [.int (xs (i + 1))]) (rest := [.int r]) qX12_restore mw_77_21 o_150 rfl rfl rfl (Nat.le_of_ble_eq_true rfl) (by decide) dL_law_1849 (m_X12_restore l w A (xs (i + 1)) S1 (r, S2) h2) ?_
  refine cl_eq C (tgt := 1880) dL_law_1852 rfl ?_
  exact cont S2 hR2
set_option maxRecDepth 100000 in
set_option maxHeartbeats 4000000 in
theorem law_case46 (C : cpCL p s m meth c b L xs w A) {Rl : cpS → Prop} (hQ : cpQ_count Rl) {i : Nat} (hi : i + 5 < L) {S : cpS} (hRl : Rl S) (cont : ∀ S2, Rl S2 → cpJL p l e s m below meth c b w A 1880 [some (.ref b), some (.ref (w.2.1 0)), some (.ref (w.2.1 150)), some (.int (nI i))] [] S2) : cpJL p l e s m below meth c b w A 1857 [some (.ref b), some (.ref (w.2.1 0)), some (.ref (w.2.1 150)), some (.int (nI i))] [] S := by
  obtain ⟨r, S1, S2, h1, h2, hR2⟩ := hQ (xs (i + 1)) S hRl
  refine cl_aload C (i := 1) dL_law_1857 rfl rfl ?_
  refine cl_arg C (j := 1) (by omega) rfl rfl (by decide) dL_law_1858 dL_law_1859 dL_law_1860 dL_law_1861 dL_law_1862 ?_
  refine cl_calli C (As := [.int (xs (i + 1))]) (rest := []) qX11_count mw_78_1 o_0 rfl rfl rfl (Nat.le_of_ble_eq_true rfl) (by decide) dL_law_1863 (m_X11_count l w A (xs (i + 1)) S (r, S1) h1) ?_
  refine cl_aload C (i := 2) dL_law_1866 rfl rfl ?_
  refine cl_arg C (j := 1) (by omega) rfl rfl (by decide) dL_law_1867 dL_law_1868 dL_law_1869 dL_law_1870 dL_law_1871 ?_
  refine cl_calli C (As := [.int (xs (i + 1))]) (rest := [.int r]) qX12_count mw_78_14 o_150 rfl rfl rfl (Nat.le_of_ble_eq_true rfl) (by decide) dL_law_1872 (m_X12_count l w A (xs (i + 1)) S1 (r, S2) h2) ?_
  refine cl_eq C (tgt := 1880) dL_law_1875 rfl ?_
  exact cont S2 hR2
/-- all that is wanted of the pure functions -/
def cpQs (Rl : cpS → Prop) : Prop := cpQ_feed Rl ∧ cpQ_valley Rl ∧ cpQ_fault Rl ∧ cpQ_person Rl ∧ cpQ_coin Rl ∧ cpQ_road Rl ∧ cpQ_far Rl ∧ cpQ_why Rl ∧ cpQ_worn Rl ∧ cpQ_bearers Rl ∧ cpQ_carry Rl ∧ cpQ_quarrel Rl ∧ cpQ_hour Rl ∧ cpQ_undo Rl ∧ cpQ_judge Rl ∧ cpQ_perform Rl ∧ cpQ_year Rl ∧ cpQ_soonest Rl ∧ cpQ_way Rl ∧ cpQ_rows Rl ∧ cpQ_reach Rl ∧ cpQ_pays Rl ∧ cpQ_pairs Rl ∧ cpQ_with Rl ∧ cpQ_lifters Rl ∧ cpQ_guards Rl ∧ cpQ_rests Rl ∧ cpQ_lifting Rl ∧ cpQ_talk Rl ∧ cpQ_told Rl ∧ cpQ_camps Rl ∧ cpQ_peace Rl ∧ cpQ_wornBy Rl ∧ cpQ_wornFirst Rl ∧ cpQ_who Rl ∧ cpQ_hours Rl ∧ cpQ_attempt Rl ∧ cpQ_forces Rl ∧ cpQ_best Rl ∧ cpQ_chance Rl ∧ cpQ_by Rl ∧ cpQ_numbers Rl ∧ cpQ_write Rl ∧ cpQ_lists Rl ∧ cpQ_image Rl ∧ cpQ_restore Rl ∧ cpQ_count Rl
set_option maxRecDepth 100000 in
set_option maxHeartbeats 8000000 in
theorem law_loop_open (C : cpCL p s m meth c b L xs w A) {Rl : cpS → Prop} (hQs : cpQs Rl) : ∀ (n i : Nat) (S : cpS), L + 1 ≤ i + n → i ≤ 4000 → Rl S → cpJL p l e s m below meth c b w A 18 [some (.ref b), some (.ref (w.2.1 0)), some (.ref (w.2.1 150)), some (.int (nI i))] [] S := by
  have hL : L ≤ 3072 := C.2.2.2.2.2.2.2.2.2.2.2.2.2
  obtain ⟨hq0, hq1, hq2, hq3, hq4, hq5, hq6, hq7, hq8, hq9, hq10, hq11, hq12, hq13, hq14, hq15, hq16, hq17, hq18, hq19, hq20, hq21, hq22, hq23, hq24, hq25, hq26, hq27, hq28, hq29, hq30, hq31, hq32, hq33, hq34, hq35, hq36, hq37, hq38, hq39, hq40, hq41, hq42, hq43, hq44, hq45, hq46⟩ := hQs
  intro n
  induction n using Nat.strongRecOn with
  | _ n ih =>
  intro i S hn hi hRl
  refine cl_iload C (i := 3) dL_law_18 rfl rfl ?_
  refine cl_aload C (i := 0) dL_law_19 rfl rfl ?_
  refine cl_len C dL_law_20 ?_
  refine cl_bipush C (v := (6 : Int32)) dL_law_21 rfl ?_
  refine cl_isub C dL_law_23 ?_
  have e6 : (nI L - (6 : Int32)).toInt = (L : Int) - 6 := pk_sub_toInt (a := L) (b := 6) (by omega) (by decide)
  have ei : (nI i).toInt = (i : Int) := nI_toInt (by omega)
  refine cl_gt C (tgt := 1886) dL_law_24 rfl (fun _ => cl_end C dL_law_1886 dL_law_1887) (fun hc => ?_)
  have hi5 : i + 5 < L := by
    rw [Int32.lt_iff_toInt_lt, e6, ei] at hc
    omega
  refine cl_aload C (i := 0) dL_law_27 rfl rfl ?_
  refine cl_iload C (i := 3) dL_law_28 rfl rfl ?_
  refine cl_sld C (by omega) dL_law_29 ?_
  refine cl_bipush C (v := (63 : Int32)) dL_law_30 rfl ?_
  refine cl_iand C dL_law_32 ?_
  have cont : ∀ S2, Rl S2 → cpJL p l e s m below meth c b w A 1880 [some (.ref b), some (.ref (w.2.1 0)), some (.ref (w.2.1 150)), some (.int (nI i))] [] S2 := fun S2 hR2 => by
    refine cl_iinc C (v := nI (i + 6)) (lv' := [some (.ref b), some (.ref (w.2.1 0)), some (.ref (w.2.1 150)), some (.int (nI (i + 6)))]) dL_law_1880 rfl (nI_add i 6) (by decide) rfl rfl ?_
    refine cl_goto C (tgt := 18) dL_law_1883 rfl ?_
    exact ih (n - 6) (by omega) (i + 6) S2 (by omega) (by omega) hR2
  obtain ⟨j, hj, ej⟩ := pk_andE (xs i) (m := 63) 6 (by decide)
  rw [ej]
  by_cases h47 : j < 47
  · rcases (show j = 0 ∨ j = 1 ∨ j = 2 ∨ j = 3 ∨ j = 4 ∨ j = 5 ∨ j = 6 ∨ j = 7 ∨ j = 8 ∨ j = 9 ∨ j = 10 ∨ j = 11 ∨ j = 12 ∨ j = 13 ∨ j = 14 ∨ j = 15 ∨ j = 16 ∨ j = 17 ∨ j = 18 ∨ j = 19 ∨ j = 20 ∨ j = 21 ∨ j = 22 ∨ j = 23 ∨ j = 24 ∨ j = 25 ∨ j = 26 ∨ j = 27 ∨ j = 28 ∨ j = 29 ∨ j = 30 ∨ j = 31 ∨ j = 32 ∨ j = 33 ∨ j = 34 ∨ j = 35 ∨ j = 36 ∨ j = 37 ∨ j = 38 ∨ j = 39 ∨ j = 40 ∨ j = 41 ∨ j = 42 ∨ j = 43 ∨ j = 44 ∨ j = 45 ∨ j = 46 by omega) with rfl | rfl | rfl | rfl | rfl | rfl | rfl | rfl | rfl | rfl | rfl | rfl | rfl | rfl | rfl | rfl | rfl | rfl | rfl | rfl | rfl | rfl | rfl | rfl | rfl | rfl | rfl | rfl | rfl | rfl | rfl | rfl | rfl | rfl | rfl | rfl | rfl | rfl | rfl | rfl | rfl | rfl | rfl | rfl | rfl | rfl | rfl
    · exact cl_tabIn C (tgt := 236) dL_law_33 (by decide) (by decide) rfl rfl (law_case0 C hq0 hi5 hRl cont)
    · exact cl_tabIn C (tgt := 299) dL_law_33 (by decide) (by decide) rfl rfl (law_case1 C hq1 hi5 hRl cont)
    · exact cl_tabIn C (tgt := 322) dL_law_33 (by decide) (by decide) rfl rfl (law_case2 C hq2 hi5 hRl cont)
    · exact cl_tabIn C (tgt := 345) dL_law_33 (by decide) (by decide) rfl rfl (law_case3 C hq3 hi5 hRl cont)
    · exact cl_tabIn C (tgt := 378) dL_law_33 (by decide) (by decide) rfl rfl (law_case4 C hq4 hi5 hRl cont)
    · exact cl_tabIn C (tgt := 411) dL_law_33 (by decide) (by decide) rfl rfl (law_case5 C hq5 hi5 hRl cont)
    · exact cl_tabIn C (tgt := 444) dL_law_33 (by decide) (by decide) rfl rfl (law_case6 C hq6 hi5 hRl cont)
    · exact cl_tabIn C (tgt := 477) dL_law_33 (by decide) (by decide) rfl rfl (law_case7 C hq7 hi5 hRl cont)
    · exact cl_tabIn C (tgt := 530) dL_law_33 (by decide) (by decide) rfl rfl (law_case8 C hq8 hi5 hRl cont)
    · exact cl_tabIn C (tgt := 583) dL_law_33 (by decide) (by decide) rfl rfl (law_case9 C hq9 hi5 hRl cont)
    · exact cl_tabIn C (tgt := 616) dL_law_33 (by decide) (by decide) rfl rfl (law_case10 C hq10 hi5 hRl cont)
    · exact cl_tabIn C (tgt := 669) dL_law_33 (by decide) (by decide) rfl rfl (law_case11 C hq11 hi5 hRl cont)
    · exact cl_tabIn C (tgt := 702) dL_law_33 (by decide) (by decide) rfl rfl (law_case12 C hq12 hi5 hRl cont)
    · exact cl_tabIn C (tgt := 725) dL_law_33 (by decide) (by decide) rfl rfl (law_case13 C hq13 hi5 hRl cont)
    · exact cl_tabIn C (tgt := 748) dL_law_33 (by decide) (by decide) rfl rfl (law_case14 C hq14 hi5 hRl cont)
    · exact cl_tabIn C (tgt := 781) dL_law_33 (by decide) (by decide) rfl rfl (law_case15 C hq15 hi5 hRl cont)
    · exact cl_tabIn C (tgt := 804) dL_law_33 (by decide) (by decide) rfl rfl (law_case16 C hq16 hi5 hRl cont)
    · exact cl_tabIn C (tgt := 837) dL_law_33 (by decide) (by decide) rfl rfl (law_case17 C hq17 hi5 hRl cont)
    · exact cl_tabIn C (tgt := 870) dL_law_33 (by decide) (by decide) rfl rfl (law_case18 C hq18 hi5 hRl cont)
    · exact cl_tabIn C (tgt := 913) dL_law_33 (by decide) (by decide) rfl rfl (law_case19 C hq19 hi5 hRl cont)
    · exact cl_tabIn C (tgt := 957) dL_law_33 (by decide) (by decide) rfl rfl (law_case20 C hq20 hi5 hRl cont)
    · exact cl_tabIn C (tgt := 980) dL_law_33 (by decide) (by decide) rfl rfl (law_case21 C hq21 hi5 hRl cont)
    · exact cl_tabIn C (tgt := 1023) dL_law_33 (by decide) (by decide) rfl rfl (law_case22 C hq22 hi5 hRl cont)
    · exact cl_tabIn C (tgt := 1046) dL_law_33 (by decide) (by decide) rfl rfl (law_case23 C hq23 hi5 hRl cont)
    · exact cl_tabIn C (tgt := 1079) dL_law_33 (by decide) (by decide) rfl rfl (law_case24 C hq24 hi5 hRl cont)
    · exact cl_tabIn C (tgt := 1112) dL_law_33 (by decide) (by decide) rfl rfl (law_case25 C hq25 hi5 hRl cont)
    · exact cl_tabIn C (tgt := 1155) dL_law_33 (by decide) (by decide) rfl rfl (law_case26 C hq26 hi5 hRl cont)
    · exact cl_tabIn C (tgt := 1188) dL_law_33 (by decide) (by decide) rfl rfl (law_case27 C hq27 hi5 hRl cont)
    · exact cl_tabIn C (tgt := 1231) dL_law_33 (by decide) (by decide) rfl rfl (law_case28 C hq28 hi5 hRl cont)
    · exact cl_tabIn C (tgt := 1264) dL_law_33 (by decide) (by decide) rfl rfl (law_case29 C hq29 hi5 hRl cont)
    · exact cl_tabIn C (tgt := 1287) dL_law_33 (by decide) (by decide) rfl rfl (law_case30 C hq30 hi5 hRl cont)
    · exact cl_tabIn C (tgt := 1310) dL_law_33 (by decide) (by decide) rfl rfl (law_case31 C hq31 hi5 hRl cont)
    · exact cl_tabIn C (tgt := 1323) dL_law_33 (by decide) (by decide) rfl rfl (law_case32 C hq32 hi5 hRl cont)
    · exact cl_tabIn C (tgt := 1357) dL_law_33 (by decide) (by decide) rfl rfl (law_case33 C hq33 hi5 hRl cont)
    · exact cl_tabIn C (tgt := 1400) dL_law_33 (by decide) (by decide) rfl rfl (law_case34 C hq34 hi5 hRl cont)
    · exact cl_tabIn C (tgt := 1443) dL_law_33 (by decide) (by decide) rfl rfl (law_case35 C hq35 hi5 hRl cont)
    · exact cl_tabIn C (tgt := 1466) dL_law_33 (by decide) (by decide) rfl rfl (law_case36 C hq36 hi5 hRl cont)
    · exact cl_tabIn C (tgt := 1509) dL_law_33 (by decide) (by decide) rfl rfl (law_case37 C hq37 hi5 hRl cont)
    · exact cl_tabIn C (tgt := 1542) dL_law_33 (by decide) (by decide) rfl rfl (law_case38 C hq38 hi5 hRl cont)
    · exact cl_tabIn C (tgt := 1575) dL_law_33 (by decide) (by decide) rfl rfl (law_case39 C hq39 hi5 hRl cont)
    · exact cl_tabIn C (tgt := 1618) dL_law_33 (by decide) (by decide) rfl rfl (law_case40 C hq40 hi5 hRl cont)
    · exact cl_tabIn C (tgt := 1651) dL_law_33 (by decide) (by decide) rfl rfl (law_case41 C hq41 hi5 hRl cont)
    · exact cl_tabIn C (tgt := 1694) dL_law_33 (by decide) (by decide) rfl rfl (law_case42 C hq42 hi5 hRl cont)
    · exact cl_tabIn C (tgt := 1768) dL_law_33 (by decide) (by decide) rfl rfl (law_case43 C hq43 hi5 hRl cont)
    · exact cl_tabIn C (tgt := 1811) dL_law_33 (by decide) (by decide) rfl rfl (law_case44 C hq44 hi5 hRl cont)
    · exact cl_tabIn C (tgt := 1834) dL_law_33 (by decide) (by decide) rfl rfl (law_case45 C hq45 hi5 hRl cont)
    · exact cl_tabIn C (tgt := 1857) dL_law_33 (by decide) (by decide) rfl rfl (law_case46 C hq46 hi5 hRl cont)
  · have ejj : (nI j).toInt = (j : Int) := nI_toInt (by omega)
    exact cl_tabOut C (tgt := 1880) dL_law_33 (Or.inr (by rw [ejj]; omega)) rfl (cont S hRl)
end CPV
