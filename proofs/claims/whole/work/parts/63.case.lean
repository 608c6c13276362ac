/-! ===== the law: a row a case ===== -/
theorem ca_feed {l : Launch} {E : VE} {p : Program} {e : Env} {s : State} {m : MethodId} {below : List Frame} {meth : Method} {c : Code} {b L : Nat} {xs : Nat → Int32} {ad : Nat → Nat} {i : Nat} {ws : va_W} (X : LX E p s m meth c b L xs) (hL : L ≤ 2560) (hi : i + 5 ≤ L) (hI : IV E ad ws) (K : ∀ ws', IV E ad ws' → LQ l E p e s m below meth c b ad i 1544 [] ws') : LQ l E p e s m below meth c b ad i 220 [] ws := by
  refine g_al X 1 dL_law_220 rfl rfl ?_
  refine g_arg (k := 1) X hi hL (by decide) (by decide) dL_law_221 dL_law_222 dL_law_223 dL_law_224 dL_law_225 ?_
  refine g_cl (rest := []) X (st_feed l hI (xs (i + 1))) lk_274 dL_law_226 rfl rfl (by decide) (by decide) rfl rfl (fun v w1 h => ?_)
  refine g_al X 2 dL_law_229 rfl rfl ?_
  refine g_arg (k := 1) X hi hL (by decide) (by decide) dL_law_230 dL_law_231 dL_law_232 dL_law_233 dL_law_234 ?_
  refine g_cl (rest := v.toList ++ []) X h lk_875 dL_law_235 rfl rfl (cat_le v) (by decide) rfl rfl (fun v' w2 h2 => ?_)
  obtain ⟨rfl, ⟨x, rfl⟩, hI2⟩ := h2
  refine g_st (st' := [.int x, .int x]) rfl ?_
  exact g_eq (tgt := 1544) X dL_law_238 (by decide) (K w2 hI2)
theorem ca_end {l : Launch} {E : VE} {p : Program} {e : Env} {s : State} {m : MethodId} {below : List Frame} {meth : Method} {c : Code} {b L : Nat} {xs : Nat → Int32} {ad : Nat → Nat} {i : Nat} {ws : va_W} (X : LX E p s m meth c b L xs) (hL : L ≤ 2560) (hi : i + 5 ≤ L) (hI : IV E ad ws) (K : ∀ ws', IV E ad ws' → LQ l E p e s m below meth c b ad i 1544 [] ws') : LQ l E p e s m below meth c b ad i 243 [] ws := by
  refine g_al X 1 dL_law_243 rfl rfl ?_
  refine g_arg (k := 1) X hi hL (by decide) (by decide) dL_law_244 dL_law_245 dL_law_246 dL_law_247 dL_law_248 ?_
  refine g_cl (rest := []) X (st_end l hI (xs (i + 1))) lk_282 dL_law_249 rfl rfl (by decide) (by decide) rfl rfl (fun v w1 h => ?_)
  refine g_al X 2 dL_law_252 rfl rfl ?_
  refine g_arg (k := 1) X hi hL (by decide) (by decide) dL_law_253 dL_law_254 dL_law_255 dL_law_256 dL_law_257 ?_
  refine g_cl (rest := v.toList ++ []) X h lk_883 dL_law_258 rfl rfl (cat_le v) (by decide) rfl rfl (fun v' w2 h2 => ?_)
  obtain ⟨rfl, ⟨x, rfl⟩, hI2⟩ := h2
  refine g_st (st' := [.int x, .int x]) rfl ?_
  exact g_eq (tgt := 1544) X dL_law_261 (by decide) (K w2 hI2)
theorem ca_text {l : Launch} {E : VE} {p : Program} {e : Env} {s : State} {m : MethodId} {below : List Frame} {meth : Method} {c : Code} {b L : Nat} {xs : Nat → Int32} {ad : Nat → Nat} {i : Nat} {ws : va_W} (X : LX E p s m meth c b L xs) (hL : L ≤ 2560) (hi : i + 5 ≤ L) (hI : IV E ad ws) (K : ∀ ws', IV E ad ws' → LQ l E p e s m below meth c b ad i 1544 [] ws') : LQ l E p e s m below meth c b ad i 266 [] ws := by
  refine g_al X 1 dL_law_266 rfl rfl ?_
  refine g_cl (rest := []) X (st_text l hI ) lk_286 dL_law_267 rfl rfl (by decide) (by decide) rfl rfl (fun v w1 h => ?_)
  refine g_al X 2 dL_law_270 rfl rfl ?_
  refine g_cl (rest := v.toList ++ []) X h lk_887 dL_law_271 rfl rfl (cat_le v) (by decide) rfl rfl (fun v' w2 h2 => ?_)
  obtain ⟨rfl, ⟨x, rfl⟩, hI2⟩ := h2
  refine g_st (st' := [.int x, .int x]) rfl ?_
  exact g_eq (tgt := 1544) X dL_law_274 (by decide) (K w2 hI2)
theorem ca_fault {l : Launch} {E : VE} {p : Program} {e : Env} {s : State} {m : MethodId} {below : List Frame} {meth : Method} {c : Code} {b L : Nat} {xs : Nat → Int32} {ad : Nat → Nat} {i : Nat} {ws : va_W} (X : LX E p s m meth c b L xs) (hL : L ≤ 2560) (hi : i + 5 ≤ L) (hI : IV E ad ws) (K : ∀ ws', IV E ad ws' → LQ l E p e s m below meth c b ad i 1544 [] ws') : LQ l E p e s m below meth c b ad i 279 [] ws := by
  refine g_al X 1 dL_law_279 rfl rfl ?_
  refine g_cl (rest := []) X (st_fault l hI ) lk_437 dL_law_280 rfl rfl (by decide) (by decide) rfl rfl (fun v w1 h => ?_)
  refine g_al X 2 dL_law_283 rfl rfl ?_
  refine g_cl (rest := v.toList ++ []) X h lk_940 dL_law_284 rfl rfl (cat_le v) (by decide) rfl rfl (fun v' w2 h2 => ?_)
  obtain ⟨rfl, ⟨x, rfl⟩, hI2⟩ := h2
  refine g_st (st' := [.int x, .int x]) rfl ?_
  exact g_eq (tgt := 1544) X dL_law_287 (by decide) (K w2 hI2)
theorem ca_rule {l : Launch} {E : VE} {p : Program} {e : Env} {s : State} {m : MethodId} {below : List Frame} {meth : Method} {c : Code} {b L : Nat} {xs : Nat → Int32} {ad : Nat → Nat} {i : Nat} {ws : va_W} (X : LX E p s m meth c b L xs) (hL : L ≤ 2560) (hi : i + 5 ≤ L) (hI : IV E ad ws) (K : ∀ ws', IV E ad ws' → LQ l E p e s m below meth c b ad i 1544 [] ws') : LQ l E p e s m below meth c b ad i 292 [] ws := by
  refine g_al X 1 dL_law_292 rfl rfl ?_
  refine g_arg (k := 1) X hi hL (by decide) (by decide) dL_law_293 dL_law_294 dL_law_295 dL_law_296 dL_law_297 ?_
  refine g_cl (rest := []) X (st_rule l hI (xs (i + 1))) lk_441 dL_law_298 rfl rfl (by decide) (by decide) rfl rfl (fun v w1 h => ?_)
  refine g_al X 2 dL_law_301 rfl rfl ?_
  refine g_arg (k := 1) X hi hL (by decide) (by decide) dL_law_302 dL_law_303 dL_law_304 dL_law_305 dL_law_306 ?_
  refine g_cl (rest := v.toList ++ []) X h lk_944 dL_law_307 rfl rfl (cat_le v) (by decide) rfl rfl (fun v' w2 h2 => ?_)
  obtain ⟨rfl, ⟨x, rfl⟩, hI2⟩ := h2
  refine g_st (st' := [.int x, .int x]) rfl ?_
  exact g_eq (tgt := 1544) X dL_law_310 (by decide) (K w2 hI2)
theorem ca_law {l : Launch} {E : VE} {p : Program} {e : Env} {s : State} {m : MethodId} {below : List Frame} {meth : Method} {c : Code} {b L : Nat} {xs : Nat → Int32} {ad : Nat → Nat} {i : Nat} {ws : va_W} (X : LX E p s m meth c b L xs) (hL : L ≤ 2560) (hi : i + 5 ≤ L) (hI : IV E ad ws) (K : ∀ ws', IV E ad ws' → LQ l E p e s m below meth c b ad i 1544 [] ws') : LQ l E p e s m below meth c b ad i 315 [] ws := by
  refine g_al X 1 dL_law_315 rfl rfl ?_
  refine g_arg (k := 1) X hi hL (by decide) (by decide) dL_law_316 dL_law_317 dL_law_318 dL_law_319 dL_law_320 ?_
  refine g_arg (k := 2) X hi hL (by decide) (by decide) dL_law_321 dL_law_322 dL_law_323 dL_law_324 dL_law_325 ?_
  refine g_cl (rest := []) X (st_law l hI (xs (i + 1)) (xs (i + 2))) lk_445 dL_law_326 rfl rfl (by decide) (by decide) rfl rfl (fun v w1 h => ?_)
  refine g_al X 2 dL_law_329 rfl rfl ?_
  refine g_arg (k := 1) X hi hL (by decide) (by decide) dL_law_330 dL_law_331 dL_law_332 dL_law_333 dL_law_334 ?_
  refine g_arg (k := 2) X hi hL (by decide) (by decide) dL_law_335 dL_law_336 dL_law_337 dL_law_338 dL_law_339 ?_
  refine g_cl (rest := v.toList ++ []) X h lk_949 dL_law_340 rfl rfl (cat_le v) (by decide) rfl rfl (fun v' w2 h2 => ?_)
  obtain ⟨rfl, ⟨x, rfl⟩, hI2⟩ := h2
  refine g_st (st' := [.int x, .int x]) rfl ?_
  exact g_eq (tgt := 1544) X dL_law_343 (by decide) (K w2 hI2)
theorem ca_worth {l : Launch} {E : VE} {p : Program} {e : Env} {s : State} {m : MethodId} {below : List Frame} {meth : Method} {c : Code} {b L : Nat} {xs : Nat → Int32} {ad : Nat → Nat} {i : Nat} {ws : va_W} (X : LX E p s m meth c b L xs) (hL : L ≤ 2560) (hi : i + 5 ≤ L) (hI : IV E ad ws) (K : ∀ ws', IV E ad ws' → LQ l E p e s m below meth c b ad i 1544 [] ws') : LQ l E p e s m below meth c b ad i 348 [] ws := by
  refine g_al X 1 dL_law_348 rfl rfl ?_
  refine g_arg (k := 1) X hi hL (by decide) (by decide) dL_law_349 dL_law_350 dL_law_351 dL_law_352 dL_law_353 ?_
  refine g_cl (rest := []) X (st_worth l hI (xs (i + 1))) lk_458 dL_law_354 rfl rfl (by decide) (by decide) rfl rfl (fun v w1 h => ?_)
  refine g_al X 2 dL_law_357 rfl rfl ?_
  refine g_arg (k := 1) X hi hL (by decide) (by decide) dL_law_358 dL_law_359 dL_law_360 dL_law_361 dL_law_362 ?_
  refine g_cl (rest := v.toList ++ []) X h lk_962 dL_law_363 rfl rfl (cat_le v) (by decide) rfl rfl (fun v' w2 h2 => ?_)
  obtain ⟨rfl, ⟨x, rfl⟩, hI2⟩ := h2
  refine g_st (st' := [.int x, .int x]) rfl ?_
  exact g_eq (tgt := 1544) X dL_law_366 (by decide) (K w2 hI2)
theorem ca_write {l : Launch} {E : VE} {p : Program} {e : Env} {s : State} {m : MethodId} {below : List Frame} {meth : Method} {c : Code} {b L : Nat} {xs : Nat → Int32} {ad : Nat → Nat} {i : Nat} {ws : va_W} (X : LX E p s m meth c b L xs) (hL : L ≤ 2560) (hi : i + 5 ≤ L) (hI : IV E ad ws) (K : ∀ ws', IV E ad ws' → LQ l E p e s m below meth c b ad i 1544 [] ws') : LQ l E p e s m below meth c b ad i 371 [] ws := by
  refine g_al X 1 dL_law_371 rfl rfl ?_
  refine g_arg (k := 1) X hi hL (by decide) (by decide) dL_law_372 dL_law_373 dL_law_374 dL_law_375 dL_law_376 ?_
  refine g_arg (k := 2) X hi hL (by decide) (by decide) dL_law_377 dL_law_378 dL_law_379 dL_law_380 dL_law_381 ?_
  refine g_bool X dL_law_382 dL_law_385 dL_law_386 dL_law_389 ?_
  refine g_cl (rest := []) X (st_write l hI (xs (i + 1)) (¬ xs (i + 2) = 0)) lk_466 dL_law_390 rfl rfl (by decide) (by decide) rfl rfl (fun v w1 h => ?_)
  refine g_al X 2 dL_law_393 rfl rfl ?_
  refine g_arg (k := 1) X hi hL (by decide) (by decide) dL_law_394 dL_law_395 dL_law_396 dL_law_397 dL_law_398 ?_
  refine g_arg (k := 2) X hi hL (by decide) (by decide) dL_law_399 dL_law_400 dL_law_401 dL_law_402 dL_law_403 ?_
  refine g_bool X dL_law_404 dL_law_407 dL_law_408 dL_law_411 ?_
  refine g_cl (rest := v.toList ++ []) X h lk_970 dL_law_412 rfl rfl (cat_le v) (by decide) rfl rfl (fun v' w2 h2 => ?_)
  obtain ⟨rfl, ⟨x, rfl⟩, hI2⟩ := h2
  refine g_st (st' := [.int x, .int x]) rfl ?_
  exact g_eq (tgt := 1544) X dL_law_415 (by decide) (K w2 hI2)
theorem ca_home {l : Launch} {E : VE} {p : Program} {e : Env} {s : State} {m : MethodId} {below : List Frame} {meth : Method} {c : Code} {b L : Nat} {xs : Nat → Int32} {ad : Nat → Nat} {i : Nat} {ws : va_W} (X : LX E p s m meth c b L xs) (hL : L ≤ 2560) (hi : i + 5 ≤ L) (hI : IV E ad ws) (K : ∀ ws', IV E ad ws' → LQ l E p e s m below meth c b ad i 1544 [] ws') : LQ l E p e s m below meth c b ad i 420 [] ws := by
  refine g_al X 1 dL_law_420 rfl rfl ?_
  refine g_arg (k := 1) X hi hL (by decide) (by decide) dL_law_421 dL_law_422 dL_law_423 dL_law_424 dL_law_425 ?_
  refine g_arg (k := 2) X hi hL (by decide) (by decide) dL_law_426 dL_law_427 dL_law_428 dL_law_429 dL_law_430 ?_
  refine g_bool X dL_law_431 dL_law_434 dL_law_435 dL_law_438 ?_
  refine g_cl (rest := []) X (st_home l hI (xs (i + 1)) (¬ xs (i + 2) = 0)) lk_478 dL_law_439 rfl rfl (by decide) (by decide) rfl rfl (fun v w1 h => ?_)
  refine g_al X 2 dL_law_442 rfl rfl ?_
  refine g_arg (k := 1) X hi hL (by decide) (by decide) dL_law_443 dL_law_444 dL_law_445 dL_law_446 dL_law_447 ?_
  refine g_arg (k := 2) X hi hL (by decide) (by decide) dL_law_448 dL_law_449 dL_law_450 dL_law_451 dL_law_452 ?_
  refine g_bool X dL_law_453 dL_law_456 dL_law_457 dL_law_460 ?_
  refine g_cl (rest := v.toList ++ []) X h lk_982 dL_law_461 rfl rfl (cat_le v) (by decide) rfl rfl (fun v' w2 h2 => ?_)
  obtain ⟨rfl, ⟨x, rfl⟩, hI2⟩ := h2
  refine g_st (st' := [.int x, .int x]) rfl ?_
  exact g_eq (tgt := 1544) X dL_law_464 (by decide) (K w2 hI2)
theorem ca_stop {l : Launch} {E : VE} {p : Program} {e : Env} {s : State} {m : MethodId} {below : List Frame} {meth : Method} {c : Code} {b L : Nat} {xs : Nat → Int32} {ad : Nat → Nat} {i : Nat} {ws : va_W} (X : LX E p s m meth c b L xs) (hL : L ≤ 2560) (hi : i + 5 ≤ L) (hI : IV E ad ws) (K : ∀ ws', IV E ad ws' → LQ l E p e s m below meth c b ad i 1544 [] ws') : LQ l E p e s m below meth c b ad i 469 [] ws := by
  refine g_al X 1 dL_law_469 rfl rfl ?_
  refine g_arg (k := 1) X hi hL (by decide) (by decide) dL_law_470 dL_law_471 dL_law_472 dL_law_473 dL_law_474 ?_
  refine g_arg (k := 2) X hi hL (by decide) (by decide) dL_law_475 dL_law_476 dL_law_477 dL_law_478 dL_law_479 ?_
  refine g_bool X dL_law_480 dL_law_483 dL_law_484 dL_law_487 ?_
  refine g_cl (rest := []) X (st_stop l hI (xs (i + 1)) (¬ xs (i + 2) = 0)) lk_482 dL_law_488 rfl rfl (by decide) (by decide) rfl rfl (fun v w1 h => ?_)
  refine g_al X 2 dL_law_491 rfl rfl ?_
  refine g_arg (k := 1) X hi hL (by decide) (by decide) dL_law_492 dL_law_493 dL_law_494 dL_law_495 dL_law_496 ?_
  refine g_arg (k := 2) X hi hL (by decide) (by decide) dL_law_497 dL_law_498 dL_law_499 dL_law_500 dL_law_501 ?_
  refine g_bool X dL_law_502 dL_law_505 dL_law_506 dL_law_509 ?_
  refine g_cl (rest := v.toList ++ []) X h lk_990 dL_law_510 rfl rfl (cat_le v) (by decide) rfl rfl (fun v' w2 h2 => ?_)
  obtain ⟨rfl, ⟨x, rfl⟩, hI2⟩ := h2
  refine g_st (st' := [.int x, .int x]) rfl ?_
  exact g_eq (tgt := 1544) X dL_law_513 (by decide) (K w2 hI2)
theorem ca_need {l : Launch} {E : VE} {p : Program} {e : Env} {s : State} {m : MethodId} {below : List Frame} {meth : Method} {c : Code} {b L : Nat} {xs : Nat → Int32} {ad : Nat → Nat} {i : Nat} {ws : va_W} (X : LX E p s m meth c b L xs) (hL : L ≤ 2560) (hi : i + 5 ≤ L) (hI : IV E ad ws) (K : ∀ ws', IV E ad ws' → LQ l E p e s m below meth c b ad i 1544 [] ws') : LQ l E p e s m below meth c b ad i 518 [] ws := by
  refine g_al X 1 dL_law_518 rfl rfl ?_
  refine g_arg (k := 1) X hi hL (by decide) (by decide) dL_law_519 dL_law_520 dL_law_521 dL_law_522 dL_law_523 ?_
  refine g_arg (k := 2) X hi hL (by decide) (by decide) dL_law_524 dL_law_525 dL_law_526 dL_law_527 dL_law_528 ?_
  refine g_arg (k := 3) X hi hL (by decide) (by decide) dL_law_529 dL_law_530 dL_law_531 dL_law_532 dL_law_533 ?_
  refine g_bool X dL_law_534 dL_law_537 dL_law_538 dL_law_541 ?_
  refine g_cl (rest := []) X (st_need l hI (xs (i + 1)) (xs (i + 2)) (¬ xs (i + 3) = 0)) lk_486 dL_law_542 rfl rfl (by decide) (by decide) rfl rfl (fun v w1 h => ?_)
  refine g_al X 2 dL_law_545 rfl rfl ?_
  refine g_arg (k := 1) X hi hL (by decide) (by decide) dL_law_546 dL_law_547 dL_law_548 dL_law_549 dL_law_550 ?_
  refine g_arg (k := 2) X hi hL (by decide) (by decide) dL_law_551 dL_law_552 dL_law_553 dL_law_554 dL_law_555 ?_
  refine g_arg (k := 3) X hi hL (by decide) (by decide) dL_law_556 dL_law_557 dL_law_558 dL_law_559 dL_law_560 ?_
  refine g_bool X dL_law_561 dL_law_564 dL_law_565 dL_law_568 ?_
  refine g_cl (rest := v.toList ++ []) X h lk_994 dL_law_569 rfl rfl (cat_le v) (by decide) rfl rfl (fun v' w2 h2 => ?_)
  obtain ⟨rfl, ⟨x, rfl⟩, hI2⟩ := h2
  refine g_st (st' := [.int x, .int x]) rfl ?_
  exact g_eq (tgt := 1544) X dL_law_572 (by decide) (K w2 hI2)
theorem ca_bar {l : Launch} {E : VE} {p : Program} {e : Env} {s : State} {m : MethodId} {below : List Frame} {meth : Method} {c : Code} {b L : Nat} {xs : Nat → Int32} {ad : Nat → Nat} {i : Nat} {ws : va_W} (X : LX E p s m meth c b L xs) (hL : L ≤ 2560) (hi : i + 5 ≤ L) (hI : IV E ad ws) (K : ∀ ws', IV E ad ws' → LQ l E p e s m below meth c b ad i 1544 [] ws') : LQ l E p e s m below meth c b ad i 577 [] ws := by
  refine g_al X 1 dL_law_577 rfl rfl ?_
  refine g_arg (k := 1) X hi hL (by decide) (by decide) dL_law_578 dL_law_579 dL_law_580 dL_law_581 dL_law_582 ?_
  refine g_arg (k := 2) X hi hL (by decide) (by decide) dL_law_583 dL_law_584 dL_law_585 dL_law_586 dL_law_587 ?_
  refine g_arg (k := 3) X hi hL (by decide) (by decide) dL_law_588 dL_law_589 dL_law_590 dL_law_591 dL_law_592 ?_
  refine g_bool X dL_law_593 dL_law_596 dL_law_597 dL_law_600 ?_
  refine g_cl (rest := []) X (st_bar l hI (xs (i + 1)) (xs (i + 2)) (¬ xs (i + 3) = 0)) lk_494 dL_law_601 rfl rfl (by decide) (by decide) rfl rfl (fun v w1 h => ?_)
  refine g_al X 2 dL_law_604 rfl rfl ?_
  refine g_arg (k := 1) X hi hL (by decide) (by decide) dL_law_605 dL_law_606 dL_law_607 dL_law_608 dL_law_609 ?_
  refine g_arg (k := 2) X hi hL (by decide) (by decide) dL_law_610 dL_law_611 dL_law_612 dL_law_613 dL_law_614 ?_
  refine g_arg (k := 3) X hi hL (by decide) (by decide) dL_law_615 dL_law_616 dL_law_617 dL_law_618 dL_law_619 ?_
  refine g_bool X dL_law_620 dL_law_623 dL_law_624 dL_law_627 ?_
  refine g_cl (rest := v.toList ++ []) X h lk_1002 dL_law_628 rfl rfl (cat_le v) (by decide) rfl rfl (fun v' w2 h2 => ?_)
  obtain ⟨rfl, ⟨x, rfl⟩, hI2⟩ := h2
  refine g_st (st' := [.int x, .int x]) rfl ?_
  exact g_eq (tgt := 1544) X dL_law_631 (by decide) (K w2 hI2)
theorem ca_pay {l : Launch} {E : VE} {p : Program} {e : Env} {s : State} {m : MethodId} {below : List Frame} {meth : Method} {c : Code} {b L : Nat} {xs : Nat → Int32} {ad : Nat → Nat} {i : Nat} {ws : va_W} (X : LX E p s m meth c b L xs) (hL : L ≤ 2560) (hi : i + 5 ≤ L) (hI : IV E ad ws) (K : ∀ ws', IV E ad ws' → LQ l E p e s m below meth c b ad i 1544 [] ws') : LQ l E p e s m below meth c b ad i 636 [] ws := by
  refine g_al X 1 dL_law_636 rfl rfl ?_
  refine g_arg (k := 1) X hi hL (by decide) (by decide) dL_law_637 dL_law_638 dL_law_639 dL_law_640 dL_law_641 ?_
  refine g_arg (k := 2) X hi hL (by decide) (by decide) dL_law_642 dL_law_643 dL_law_644 dL_law_645 dL_law_646 ?_
  refine g_cl (rest := []) X (st_pay l hI (xs (i + 1)) (xs (i + 2))) lk_498 dL_law_647 rfl rfl (by decide) (by decide) rfl rfl (fun v w1 h => ?_)
  refine g_al X 2 dL_law_650 rfl rfl ?_
  refine g_arg (k := 1) X hi hL (by decide) (by decide) dL_law_651 dL_law_652 dL_law_653 dL_law_654 dL_law_655 ?_
  refine g_arg (k := 2) X hi hL (by decide) (by decide) dL_law_656 dL_law_657 dL_law_658 dL_law_659 dL_law_660 ?_
  refine g_cl (rest := v.toList ++ []) X h lk_1006 dL_law_661 rfl rfl (cat_le v) (by decide) rfl rfl (fun v' w2 h2 => ?_)
  obtain ⟨rfl, ⟨x, rfl⟩, hI2⟩ := h2
  refine g_st (st' := [.int x, .int x]) rfl ?_
  exact g_eq (tgt := 1544) X dL_law_664 (by decide) (K w2 hI2)
theorem ca_cut {l : Launch} {E : VE} {p : Program} {e : Env} {s : State} {m : MethodId} {below : List Frame} {meth : Method} {c : Code} {b L : Nat} {xs : Nat → Int32} {ad : Nat → Nat} {i : Nat} {ws : va_W} (X : LX E p s m meth c b L xs) (hL : L ≤ 2560) (hi : i + 5 ≤ L) (hI : IV E ad ws) (K : ∀ ws', IV E ad ws' → LQ l E p e s m below meth c b ad i 1544 [] ws') : LQ l E p e s m below meth c b ad i 669 [] ws := by
  refine g_al X 1 dL_law_669 rfl rfl ?_
  refine g_arg (k := 1) X hi hL (by decide) (by decide) dL_law_670 dL_law_671 dL_law_672 dL_law_673 dL_law_674 ?_
  refine g_cl (rest := []) X (st_cut l hI (xs (i + 1))) lk_502 dL_law_675 rfl rfl (by decide) (by decide) rfl rfl (fun v w1 h => ?_)
  refine g_al X 2 dL_law_678 rfl rfl ?_
  refine g_arg (k := 1) X hi hL (by decide) (by decide) dL_law_679 dL_law_680 dL_law_681 dL_law_682 dL_law_683 ?_
  refine g_cl (rest := v.toList ++ []) X h lk_1012 dL_law_684 rfl rfl (cat_le v) (by decide) rfl rfl (fun v' w2 h2 => ?_)
  obtain ⟨rfl, ⟨x, rfl⟩, hI2⟩ := h2
  refine g_st (st' := [.int x, .int x]) rfl ?_
  exact g_eq (tgt := 1544) X dL_law_687 (by decide) (K w2 hI2)
theorem ca_brings {l : Launch} {E : VE} {p : Program} {e : Env} {s : State} {m : MethodId} {below : List Frame} {meth : Method} {c : Code} {b L : Nat} {xs : Nat → Int32} {ad : Nat → Nat} {i : Nat} {ws : va_W} (X : LX E p s m meth c b L xs) (hL : L ≤ 2560) (hi : i + 5 ≤ L) (hI : IV E ad ws) (K : ∀ ws', IV E ad ws' → LQ l E p e s m below meth c b ad i 1544 [] ws') : LQ l E p e s m below meth c b ad i 692 [] ws := by
  refine g_al X 1 dL_law_692 rfl rfl ?_
  refine g_arg (k := 1) X hi hL (by decide) (by decide) dL_law_693 dL_law_694 dL_law_695 dL_law_696 dL_law_697 ?_
  refine g_cl (rest := []) X (st_brings l hI (xs (i + 1))) lk_506 dL_law_698 rfl rfl (by decide) (by decide) rfl rfl (fun v w1 h => ?_)
  refine g_al X 2 dL_law_701 rfl rfl ?_
  refine g_arg (k := 1) X hi hL (by decide) (by decide) dL_law_702 dL_law_703 dL_law_704 dL_law_705 dL_law_706 ?_
  refine g_cl (rest := v.toList ++ []) X h lk_1016 dL_law_707 rfl rfl (cat_le v) (by decide) rfl rfl (fun v' w2 h2 => ?_)
  obtain ⟨rfl, ⟨x, rfl⟩, hI2⟩ := h2
  refine g_st (st' := [.int x, .int x]) rfl ?_
  exact g_eq (tgt := 1544) X dL_law_710 (by decide) (K w2 hI2)
theorem ca_day {l : Launch} {E : VE} {p : Program} {e : Env} {s : State} {m : MethodId} {below : List Frame} {meth : Method} {c : Code} {b L : Nat} {xs : Nat → Int32} {ad : Nat → Nat} {i : Nat} {ws : va_W} (X : LX E p s m meth c b L xs) (hL : L ≤ 2560) (hi : i + 5 ≤ L) (hI : IV E ad ws) (K : ∀ ws', IV E ad ws' → LQ l E p e s m below meth c b ad i 1544 [] ws') : LQ l E p e s m below meth c b ad i 715 [] ws := by
  refine g_al X 1 dL_law_715 rfl rfl ?_
  refine g_arg (k := 1) X hi hL (by decide) (by decide) dL_law_716 dL_law_717 dL_law_718 dL_law_719 dL_law_720 ?_
  refine g_cl (rest := []) X (st_day l hI (xs (i + 1))) lk_523 dL_law_721 rfl rfl (by decide) (by decide) rfl rfl (fun v w1 h => ?_)
  refine g_al X 2 dL_law_724 rfl rfl ?_
  refine g_arg (k := 1) X hi hL (by decide) (by decide) dL_law_725 dL_law_726 dL_law_727 dL_law_728 dL_law_729 ?_
  refine g_cl (rest := v.toList ++ []) X h lk_1036 dL_law_730 rfl rfl (cat_le v) (by decide) rfl rfl (fun v' w2 h2 => ?_)
  obtain ⟨rfl, ⟨x, rfl⟩, hI2⟩ := h2
  refine g_st (st' := [.int x, .int x]) rfl ?_
  exact g_eq (tgt := 1544) X dL_law_733 (by decide) (K w2 hI2)
theorem ca_round {l : Launch} {E : VE} {p : Program} {e : Env} {s : State} {m : MethodId} {below : List Frame} {meth : Method} {c : Code} {b L : Nat} {xs : Nat → Int32} {ad : Nat → Nat} {i : Nat} {ws : va_W} (X : LX E p s m meth c b L xs) (hL : L ≤ 2560) (hi : i + 5 ≤ L) (hI : IV E ad ws) (K : ∀ ws', IV E ad ws' → LQ l E p e s m below meth c b ad i 1544 [] ws') : LQ l E p e s m below meth c b ad i 738 [] ws := by
  refine g_al X 1 dL_law_738 rfl rfl ?_
  refine g_arg (k := 1) X hi hL (by decide) (by decide) dL_law_739 dL_law_740 dL_law_741 dL_law_742 dL_law_743 ?_
  refine g_arg (k := 2) X hi hL (by decide) (by decide) dL_law_744 dL_law_745 dL_law_746 dL_law_747 dL_law_748 ?_
  refine g_cl (rest := []) X (st_round l hI (xs (i + 1)) (xs (i + 2))) lk_527 dL_law_749 rfl rfl (by decide) (by decide) rfl rfl (fun v w1 h => ?_)
  refine g_al X 2 dL_law_752 rfl rfl ?_
  refine g_arg (k := 1) X hi hL (by decide) (by decide) dL_law_753 dL_law_754 dL_law_755 dL_law_756 dL_law_757 ?_
  refine g_arg (k := 2) X hi hL (by decide) (by decide) dL_law_758 dL_law_759 dL_law_760 dL_law_761 dL_law_762 ?_
  refine g_cl (rest := v.toList ++ []) X h lk_1045 dL_law_763 rfl rfl (cat_le v) (by decide) rfl rfl (fun v' w2 h2 => ?_)
  obtain ⟨rfl, ⟨x, rfl⟩, hI2⟩ := h2
  refine g_st (st' := [.int x, .int x]) rfl ?_
  exact g_eq (tgt := 1544) X dL_law_766 (by decide) (K w2 hI2)
theorem ca_days {l : Launch} {E : VE} {p : Program} {e : Env} {s : State} {m : MethodId} {below : List Frame} {meth : Method} {c : Code} {b L : Nat} {xs : Nat → Int32} {ad : Nat → Nat} {i : Nat} {ws : va_W} (X : LX E p s m meth c b L xs) (hL : L ≤ 2560) (hi : i + 5 ≤ L) (hI : IV E ad ws) (K : ∀ ws', IV E ad ws' → LQ l E p e s m below meth c b ad i 1544 [] ws') : LQ l E p e s m below meth c b ad i 771 [] ws := by
  refine g_al X 1 dL_law_771 rfl rfl ?_
  refine g_arg (k := 1) X hi hL (by decide) (by decide) dL_law_772 dL_law_773 dL_law_774 dL_law_775 dL_law_776 ?_
  refine g_cl (rest := []) X (st_days l hI (xs (i + 1))) lk_535 dL_law_777 rfl rfl (by decide) (by decide) rfl rfl (fun v w1 h => ?_)
  refine g_al X 2 dL_law_780 rfl rfl ?_
  refine g_arg (k := 1) X hi hL (by decide) (by decide) dL_law_781 dL_law_782 dL_law_783 dL_law_784 dL_law_785 ?_
  refine g_cl (rest := v.toList ++ []) X h lk_1053 dL_law_786 rfl rfl (cat_le v) (by decide) rfl rfl (fun v' w2 h2 => ?_)
  obtain ⟨rfl, ⟨x, rfl⟩, hI2⟩ := h2
  refine g_st (st' := [.int x, .int x]) rfl ?_
  exact g_eq (tgt := 1544) X dL_law_789 (by decide) (K w2 hI2)
theorem ca_first {l : Launch} {E : VE} {p : Program} {e : Env} {s : State} {m : MethodId} {below : List Frame} {meth : Method} {c : Code} {b L : Nat} {xs : Nat → Int32} {ad : Nat → Nat} {i : Nat} {ws : va_W} (X : LX E p s m meth c b L xs) (hL : L ≤ 2560) (hi : i + 5 ≤ L) (hI : IV E ad ws) (K : ∀ ws', IV E ad ws' → LQ l E p e s m below meth c b ad i 1544 [] ws') : LQ l E p e s m below meth c b ad i 794 [] ws := by
  refine g_al X 1 dL_law_794 rfl rfl ?_
  refine g_cl (rest := []) X (st_first l hI ) lk_590 dL_law_795 rfl rfl (by decide) (by decide) rfl rfl (fun v w1 h => ?_)
  refine g_al X 2 dL_law_798 rfl rfl ?_
  refine g_cl (rest := v.toList ++ []) X h lk_1061 dL_law_799 rfl rfl (cat_le v) (by decide) rfl rfl (fun v' w2 h2 => ?_)
  obtain ⟨rfl, ⟨x, rfl⟩, hI2⟩ := h2
  refine g_st (st' := [.int x, .int x]) rfl ?_
  exact g_eq (tgt := 1544) X dL_law_802 (by decide) (K w2 hI2)
theorem ca_less {l : Launch} {E : VE} {p : Program} {e : Env} {s : State} {m : MethodId} {below : List Frame} {meth : Method} {c : Code} {b L : Nat} {xs : Nat → Int32} {ad : Nat → Nat} {i : Nat} {ws : va_W} (X : LX E p s m meth c b L xs) (hL : L ≤ 2560) (hi : i + 5 ≤ L) (hI : IV E ad ws) (K : ∀ ws', IV E ad ws' → LQ l E p e s m below meth c b ad i 1544 [] ws') : LQ l E p e s m below meth c b ad i 807 [] ws := by
  refine g_al X 1 dL_law_807 rfl rfl ?_
  refine g_cl (rest := []) X (st_less l hI ) lk_596 dL_law_808 rfl rfl (by decide) (by decide) rfl rfl (fun v w1 h => ?_)
  refine g_al X 2 dL_law_811 rfl rfl ?_
  refine g_cl (rest := v.toList ++ []) X h lk_1073 dL_law_812 rfl rfl (cat_le v) (by decide) rfl rfl (fun v' w2 h2 => ?_)
  obtain ⟨rfl, ⟨x, rfl⟩, hI2⟩ := h2
  refine g_st (st' := [.int x, .int x]) rfl ?_
  exact g_eq (tgt := 1544) X dL_law_815 (by decide) (K w2 hI2)
theorem ca_begins {l : Launch} {E : VE} {p : Program} {e : Env} {s : State} {m : MethodId} {below : List Frame} {meth : Method} {c : Code} {b L : Nat} {xs : Nat → Int32} {ad : Nat → Nat} {i : Nat} {ws : va_W} (X : LX E p s m meth c b L xs) (hL : L ≤ 2560) (hi : i + 5 ≤ L) (hI : IV E ad ws) (K : ∀ ws', IV E ad ws' → LQ l E p e s m below meth c b ad i 1544 [] ws') : LQ l E p e s m below meth c b ad i 820 [] ws := by
  refine g_al X 1 dL_law_820 rfl rfl ?_
  refine g_arg (k := 1) X hi hL (by decide) (by decide) dL_law_821 dL_law_822 dL_law_823 dL_law_824 dL_law_825 ?_
  refine g_cl (rest := []) X (st_begins l hI (xs (i + 1))) lk_600 dL_law_826 rfl rfl (by decide) (by decide) rfl rfl (fun v w1 h => ?_)
  refine g_al X 2 dL_law_829 rfl rfl ?_
  refine g_arg (k := 1) X hi hL (by decide) (by decide) dL_law_830 dL_law_831 dL_law_832 dL_law_833 dL_law_834 ?_
  refine g_cl (rest := v.toList ++ []) X h lk_1077 dL_law_835 rfl rfl (cat_le v) (by decide) rfl rfl (fun v' w2 h2 => ?_)
  obtain ⟨rfl, ⟨x, rfl⟩, hI2⟩ := h2
  refine g_st (st' := [.int x, .int x]) rfl ?_
  exact g_eq (tgt := 1544) X dL_law_838 (by decide) (K w2 hI2)
theorem ca_pure {l : Launch} {E : VE} {p : Program} {e : Env} {s : State} {m : MethodId} {below : List Frame} {meth : Method} {c : Code} {b L : Nat} {xs : Nat → Int32} {ad : Nat → Nat} {i : Nat} {ws : va_W} (X : LX E p s m meth c b L xs) (hL : L ≤ 2560) (hi : i + 5 ≤ L) (hI : IV E ad ws) (K : ∀ ws', IV E ad ws' → LQ l E p e s m below meth c b ad i 1544 [] ws') : LQ l E p e s m below meth c b ad i 843 [] ws := by
  refine g_al X 1 dL_law_843 rfl rfl ?_
  refine g_arg (k := 1) X hi hL (by decide) (by decide) dL_law_844 dL_law_845 dL_law_846 dL_law_847 dL_law_848 ?_
  refine g_cl (rest := []) X (st_pure l hI (xs (i + 1))) lk_612 dL_law_849 rfl rfl (by decide) (by decide) rfl rfl (fun v w1 h => ?_)
  refine g_al X 2 dL_law_852 rfl rfl ?_
  refine g_arg (k := 1) X hi hL (by decide) (by decide) dL_law_853 dL_law_854 dL_law_855 dL_law_856 dL_law_857 ?_
  refine g_cl (rest := v.toList ++ []) X h lk_1085 dL_law_858 rfl rfl (cat_le v) (by decide) rfl rfl (fun v' w2 h2 => ?_)
  obtain ⟨rfl, ⟨x, rfl⟩, hI2⟩ := h2
  refine g_st (st' := [.int x, .int x]) rfl ?_
  exact g_eq (tgt := 1544) X dL_law_861 (by decide) (K w2 hI2)
theorem ca_wrote {l : Launch} {E : VE} {p : Program} {e : Env} {s : State} {m : MethodId} {below : List Frame} {meth : Method} {c : Code} {b L : Nat} {xs : Nat → Int32} {ad : Nat → Nat} {i : Nat} {ws : va_W} (X : LX E p s m meth c b L xs) (hL : L ≤ 2560) (hi : i + 5 ≤ L) (hI : IV E ad ws) (K : ∀ ws', IV E ad ws' → LQ l E p e s m below meth c b ad i 1544 [] ws') : LQ l E p e s m below meth c b ad i 866 [] ws := by
  refine g_al X 1 dL_law_866 rfl rfl ?_
  refine g_arg (k := 1) X hi hL (by decide) (by decide) dL_law_867 dL_law_868 dL_law_869 dL_law_870 dL_law_871 ?_
  refine g_arg (k := 2) X hi hL (by decide) (by decide) dL_law_872 dL_law_873 dL_law_874 dL_law_875 dL_law_876 ?_
  refine g_cl (rest := []) X (st_wrote l hI (xs (i + 1)) (xs (i + 2))) lk_617 dL_law_877 rfl rfl (by decide) (by decide) rfl rfl (fun v w1 h => ?_)
  refine g_al X 2 dL_law_880 rfl rfl ?_
  refine g_arg (k := 1) X hi hL (by decide) (by decide) dL_law_881 dL_law_882 dL_law_883 dL_law_884 dL_law_885 ?_
  refine g_arg (k := 2) X hi hL (by decide) (by decide) dL_law_886 dL_law_887 dL_law_888 dL_law_889 dL_law_890 ?_
  refine g_cl (rest := v.toList ++ []) X h lk_1089 dL_law_891 rfl rfl (cat_le v) (by decide) rfl rfl (fun v' w2 h2 => ?_)
  obtain ⟨rfl, ⟨x, rfl⟩, hI2⟩ := h2
  refine g_st (st' := [.int x, .int x]) rfl ?_
  exact g_eq (tgt := 1544) X dL_law_894 (by decide) (K w2 hI2)
theorem ca_could {l : Launch} {E : VE} {p : Program} {e : Env} {s : State} {m : MethodId} {below : List Frame} {meth : Method} {c : Code} {b L : Nat} {xs : Nat → Int32} {ad : Nat → Nat} {i : Nat} {ws : va_W} (X : LX E p s m meth c b L xs) (hL : L ≤ 2560) (hi : i + 5 ≤ L) (hI : IV E ad ws) (K : ∀ ws', IV E ad ws' → LQ l E p e s m below meth c b ad i 1544 [] ws') : LQ l E p e s m below meth c b ad i 899 [] ws := by
  refine g_al X 1 dL_law_899 rfl rfl ?_
  refine g_arg (k := 1) X hi hL (by decide) (by decide) dL_law_900 dL_law_901 dL_law_902 dL_law_903 dL_law_904 ?_
  refine g_cl (rest := []) X (st_could l hI (xs (i + 1))) lk_625 dL_law_905 rfl rfl (by decide) (by decide) rfl rfl (fun v w1 h => ?_)
  refine g_al X 2 dL_law_908 rfl rfl ?_
  refine g_arg (k := 1) X hi hL (by decide) (by decide) dL_law_909 dL_law_910 dL_law_911 dL_law_912 dL_law_913 ?_
  refine g_cl (rest := v.toList ++ []) X h lk_1097 dL_law_914 rfl rfl (cat_le v) (by decide) rfl rfl (fun v' w2 h2 => ?_)
  obtain ⟨rfl, ⟨x, rfl⟩, hI2⟩ := h2
  refine g_st (st' := [.int x, .int x]) rfl ?_
  exact g_eq (tgt := 1544) X dL_law_917 (by decide) (K w2 hI2)
theorem ca_fewest {l : Launch} {E : VE} {p : Program} {e : Env} {s : State} {m : MethodId} {below : List Frame} {meth : Method} {c : Code} {b L : Nat} {xs : Nat → Int32} {ad : Nat → Nat} {i : Nat} {ws : va_W} (X : LX E p s m meth c b L xs) (hL : L ≤ 2560) (hi : i + 5 ≤ L) (hI : IV E ad ws) (K : ∀ ws', IV E ad ws' → LQ l E p e s m below meth c b ad i 1544 [] ws') : LQ l E p e s m below meth c b ad i 922 [] ws := by
  refine g_al X 1 dL_law_922 rfl rfl ?_
  refine g_arg (k := 1) X hi hL (by decide) (by decide) dL_law_923 dL_law_924 dL_law_925 dL_law_926 dL_law_927 ?_
  refine g_arg (k := 2) X hi hL (by decide) (by decide) dL_law_928 dL_law_929 dL_law_930 dL_law_931 dL_law_932 ?_
  refine g_bool X dL_law_933 dL_law_936 dL_law_937 dL_law_940 ?_
  refine g_arg (k := 3) X hi hL (by decide) (by decide) dL_law_941 dL_law_942 dL_law_943 dL_law_944 dL_law_945 ?_
  refine g_cl (rest := []) X (st_fewest l hI (xs (i + 1)) (¬ xs (i + 2) = 0) (xs (i + 3))) lk_629 dL_law_946 rfl rfl (by decide) (by decide) rfl rfl (fun v w1 h => ?_)
  refine g_al X 2 dL_law_949 rfl rfl ?_
  refine g_arg (k := 1) X hi hL (by decide) (by decide) dL_law_950 dL_law_951 dL_law_952 dL_law_953 dL_law_954 ?_
  refine g_arg (k := 2) X hi hL (by decide) (by decide) dL_law_955 dL_law_956 dL_law_957 dL_law_958 dL_law_959 ?_
  refine g_bool X dL_law_960 dL_law_963 dL_law_964 dL_law_967 ?_
  refine g_arg (k := 3) X hi hL (by decide) (by decide) dL_law_968 dL_law_969 dL_law_970 dL_law_971 dL_law_972 ?_
  refine g_cl (rest := v.toList ++ []) X h lk_1101 dL_law_973 rfl rfl (cat_le v) (by decide) rfl rfl (fun v' w2 h2 => ?_)
  obtain ⟨rfl, ⟨x, rfl⟩, hI2⟩ := h2
  refine g_st (st' := [.int x, .int x]) rfl ?_
  exact g_eq (tgt := 1544) X dL_law_976 (by decide) (K w2 hI2)
theorem ca_police {l : Launch} {E : VE} {p : Program} {e : Env} {s : State} {m : MethodId} {below : List Frame} {meth : Method} {c : Code} {b L : Nat} {xs : Nat → Int32} {ad : Nat → Nat} {i : Nat} {ws : va_W} (X : LX E p s m meth c b L xs) (hL : L ≤ 2560) (hi : i + 5 ≤ L) (hI : IV E ad ws) (K : ∀ ws', IV E ad ws' → LQ l E p e s m below meth c b ad i 1544 [] ws') : LQ l E p e s m below meth c b ad i 981 [] ws := by
  refine g_al X 1 dL_law_981 rfl rfl ?_
  refine g_arg (k := 1) X hi hL (by decide) (by decide) dL_law_982 dL_law_983 dL_law_984 dL_law_985 dL_law_986 ?_
  refine g_arg (k := 2) X hi hL (by decide) (by decide) dL_law_987 dL_law_988 dL_law_989 dL_law_990 dL_law_991 ?_
  refine g_cl (rest := []) X (st_police l hI (xs (i + 1)) (xs (i + 2))) lk_646 dL_law_992 rfl rfl (by decide) (by decide) rfl rfl (fun v w1 h => ?_)
  refine g_al X 2 dL_law_995 rfl rfl ?_
  refine g_arg (k := 1) X hi hL (by decide) (by decide) dL_law_996 dL_law_997 dL_law_998 dL_law_999 dL_law_1000 ?_
  refine g_arg (k := 2) X hi hL (by decide) (by decide) dL_law_1001 dL_law_1002 dL_law_1003 dL_law_1004 dL_law_1005 ?_
  refine g_cl (rest := v.toList ++ []) X h lk_1112 dL_law_1006 rfl rfl (cat_le v) (by decide) rfl rfl (fun v' w2 h2 => ?_)
  obtain ⟨rfl, ⟨x, rfl⟩, hI2⟩ := h2
  refine g_st (st' := [.int x, .int x]) rfl ?_
  exact g_eq (tgt := 1544) X dL_law_1009 (by decide) (K w2 hI2)
theorem ca_comes {l : Launch} {E : VE} {p : Program} {e : Env} {s : State} {m : MethodId} {below : List Frame} {meth : Method} {c : Code} {b L : Nat} {xs : Nat → Int32} {ad : Nat → Nat} {i : Nat} {ws : va_W} (X : LX E p s m meth c b L xs) (hL : L ≤ 2560) (hi : i + 5 ≤ L) (hI : IV E ad ws) (K : ∀ ws', IV E ad ws' → LQ l E p e s m below meth c b ad i 1544 [] ws') : LQ l E p e s m below meth c b ad i 1014 [] ws := by
  refine g_al X 1 dL_law_1014 rfl rfl ?_
  refine g_cl (rest := []) X (st_comes l hI ) lk_650 dL_law_1015 rfl rfl (by decide) (by decide) rfl rfl (fun v w1 h => ?_)
  refine g_al X 2 dL_law_1018 rfl rfl ?_
  refine g_cl (rest := v.toList ++ []) X h lk_1116 dL_law_1019 rfl rfl (cat_le v) (by decide) rfl rfl (fun v' w2 h2 => ?_)
  obtain ⟨rfl, ⟨x, rfl⟩, hI2⟩ := h2
  refine g_st (st' := [.int x, .int x]) rfl ?_
  exact g_eq (tgt := 1544) X dL_law_1022 (by decide) (K w2 hI2)
theorem ca_richest {l : Launch} {E : VE} {p : Program} {e : Env} {s : State} {m : MethodId} {below : List Frame} {meth : Method} {c : Code} {b L : Nat} {xs : Nat → Int32} {ad : Nat → Nat} {i : Nat} {ws : va_W} (X : LX E p s m meth c b L xs) (hL : L ≤ 2560) (hi : i + 5 ≤ L) (hI : IV E ad ws) (K : ∀ ws', IV E ad ws' → LQ l E p e s m below meth c b ad i 1544 [] ws') : LQ l E p e s m below meth c b ad i 1027 [] ws := by
  refine g_al X 1 dL_law_1027 rfl rfl ?_
  refine g_arg (k := 1) X hi hL (by decide) (by decide) dL_law_1028 dL_law_1029 dL_law_1030 dL_law_1031 dL_law_1032 ?_
  refine g_cl (rest := []) X (st_richest l hI (xs (i + 1))) lk_654 dL_law_1033 rfl rfl (by decide) (by decide) rfl rfl (fun v w1 h => ?_)
  refine g_al X 2 dL_law_1036 rfl rfl ?_
  refine g_arg (k := 1) X hi hL (by decide) (by decide) dL_law_1037 dL_law_1038 dL_law_1039 dL_law_1040 dL_law_1041 ?_
  refine g_cl (rest := v.toList ++ []) X h lk_1120 dL_law_1042 rfl rfl (cat_le v) (by decide) rfl rfl (fun v' w2 h2 => ?_)
  obtain ⟨rfl, ⟨x, rfl⟩, hI2⟩ := h2
  refine g_st (st' := [.int x, .int x]) rfl ?_
  exact g_eq (tgt := 1544) X dL_law_1045 (by decide) (K w2 hI2)
theorem ca_odds {l : Launch} {E : VE} {p : Program} {e : Env} {s : State} {m : MethodId} {below : List Frame} {meth : Method} {c : Code} {b L : Nat} {xs : Nat → Int32} {ad : Nat → Nat} {i : Nat} {ws : va_W} (X : LX E p s m meth c b L xs) (hL : L ≤ 2560) (hi : i + 5 ≤ L) (hI : IV E ad ws) (K : ∀ ws', IV E ad ws' → LQ l E p e s m below meth c b ad i 1544 [] ws') : LQ l E p e s m below meth c b ad i 1050 [] ws := by
  refine g_al X 1 dL_law_1050 rfl rfl ?_
  refine g_arg (k := 1) X hi hL (by decide) (by decide) dL_law_1051 dL_law_1052 dL_law_1053 dL_law_1054 dL_law_1055 ?_
  refine g_arg (k := 2) X hi hL (by decide) (by decide) dL_law_1056 dL_law_1057 dL_law_1058 dL_law_1059 dL_law_1060 ?_
  refine g_arg (k := 3) X hi hL (by decide) (by decide) dL_law_1061 dL_law_1062 dL_law_1063 dL_law_1064 dL_law_1065 ?_
  refine g_cl (rest := []) X (st_odds l hI (xs (i + 1)) (xs (i + 2)) (xs (i + 3))) lk_662 dL_law_1066 rfl rfl (by decide) (by decide) rfl rfl (fun v w1 h => ?_)
  refine g_al X 2 dL_law_1069 rfl rfl ?_
  refine g_arg (k := 1) X hi hL (by decide) (by decide) dL_law_1070 dL_law_1071 dL_law_1072 dL_law_1073 dL_law_1074 ?_
  refine g_arg (k := 2) X hi hL (by decide) (by decide) dL_law_1075 dL_law_1076 dL_law_1077 dL_law_1078 dL_law_1079 ?_
  refine g_arg (k := 3) X hi hL (by decide) (by decide) dL_law_1080 dL_law_1081 dL_law_1082 dL_law_1083 dL_law_1084 ?_
  refine g_cl (rest := v.toList ++ []) X h lk_1128 dL_law_1085 rfl rfl (cat_le v) (by decide) rfl rfl (fun v' w2 h2 => ?_)
  obtain ⟨rfl, ⟨x, rfl⟩, hI2⟩ := h2
  refine g_st (st' := [.long x, .long x]) rfl ?_
  exact g_leq (tgt := 1544) X dL_law_1088 dL_law_1089 (by decide) (K w2 hI2)
theorem ca_none {l : Launch} {E : VE} {p : Program} {e : Env} {s : State} {m : MethodId} {below : List Frame} {meth : Method} {c : Code} {b L : Nat} {xs : Nat → Int32} {ad : Nat → Nat} {i : Nat} {ws : va_W} (X : LX E p s m meth c b L xs) (hL : L ≤ 2560) (hi : i + 5 ≤ L) (hI : IV E ad ws) (K : ∀ ws', IV E ad ws' → LQ l E p e s m below meth c b ad i 1544 [] ws') : LQ l E p e s m below meth c b ad i 1094 [] ws := by
  refine g_al X 1 dL_law_1094 rfl rfl ?_
  refine g_arg (k := 1) X hi hL (by decide) (by decide) dL_law_1095 dL_law_1096 dL_law_1097 dL_law_1098 dL_law_1099 ?_
  refine g_arg (k := 2) X hi hL (by decide) (by decide) dL_law_1100 dL_law_1101 dL_law_1102 dL_law_1103 dL_law_1104 ?_
  refine g_cl (rest := []) X (st_none l hI (xs (i + 1)) (xs (i + 2))) lk_684 dL_law_1105 rfl rfl (by decide) (by decide) rfl rfl (fun v w1 h => ?_)
  refine g_al X 2 dL_law_1108 rfl rfl ?_
  refine g_arg (k := 1) X hi hL (by decide) (by decide) dL_law_1109 dL_law_1110 dL_law_1111 dL_law_1112 dL_law_1113 ?_
  refine g_arg (k := 2) X hi hL (by decide) (by decide) dL_law_1114 dL_law_1115 dL_law_1116 dL_law_1117 dL_law_1118 ?_
  refine g_cl (rest := v.toList ++ []) X h lk_1141 dL_law_1119 rfl rfl (cat_le v) (by decide) rfl rfl (fun v' w2 h2 => ?_)
  obtain ⟨rfl, ⟨x, rfl⟩, hI2⟩ := h2
  refine g_st (st' := [.long x, .long x]) rfl ?_
  exact g_leq (tgt := 1544) X dL_law_1122 dL_law_1123 (by decide) (K w2 hI2)
theorem ca_mean {l : Launch} {E : VE} {p : Program} {e : Env} {s : State} {m : MethodId} {below : List Frame} {meth : Method} {c : Code} {b L : Nat} {xs : Nat → Int32} {ad : Nat → Nat} {i : Nat} {ws : va_W} (X : LX E p s m meth c b L xs) (hL : L ≤ 2560) (hi : i + 5 ≤ L) (hI : IV E ad ws) (K : ∀ ws', IV E ad ws' → LQ l E p e s m below meth c b ad i 1544 [] ws') : LQ l E p e s m below meth c b ad i 1128 [] ws := by
  refine g_al X 1 dL_law_1128 rfl rfl ?_
  refine g_arg (k := 1) X hi hL (by decide) (by decide) dL_law_1129 dL_law_1130 dL_law_1131 dL_law_1132 dL_law_1133 ?_
  refine g_arg (k := 2) X hi hL (by decide) (by decide) dL_law_1134 dL_law_1135 dL_law_1136 dL_law_1137 dL_law_1138 ?_
  refine g_cl (rest := []) X (st_mean l hI (xs (i + 1)) (xs (i + 2))) lk_688 dL_law_1139 rfl rfl (by decide) (by decide) rfl rfl (fun v w1 h => ?_)
  refine g_al X 2 dL_law_1142 rfl rfl ?_
  refine g_arg (k := 1) X hi hL (by decide) (by decide) dL_law_1143 dL_law_1144 dL_law_1145 dL_law_1146 dL_law_1147 ?_
  refine g_arg (k := 2) X hi hL (by decide) (by decide) dL_law_1148 dL_law_1149 dL_law_1150 dL_law_1151 dL_law_1152 ?_
  refine g_cl (rest := v.toList ++ []) X h lk_1145 dL_law_1153 rfl rfl (cat_le v) (by decide) rfl rfl (fun v' w2 h2 => ?_)
  obtain ⟨rfl, ⟨x, rfl⟩, hI2⟩ := h2
  refine g_st (st' := [.long x, .long x]) rfl ?_
  exact g_leq (tgt := 1544) X dL_law_1156 dL_law_1157 (by decide) (K w2 hI2)
theorem ca_see {l : Launch} {E : VE} {p : Program} {e : Env} {s : State} {m : MethodId} {below : List Frame} {meth : Method} {c : Code} {b L : Nat} {xs : Nat → Int32} {ad : Nat → Nat} {i : Nat} {ws : va_W} (X : LX E p s m meth c b L xs) (hL : L ≤ 2560) (hi : i + 5 ≤ L) (hI : IV E ad ws) (K : ∀ ws', IV E ad ws' → LQ l E p e s m below meth c b ad i 1544 [] ws') : LQ l E p e s m below meth c b ad i 1162 [] ws := by
  refine g_al X 1 dL_law_1162 rfl rfl ?_
  refine g_arg (k := 1) X hi hL (by decide) (by decide) dL_law_1163 dL_law_1164 dL_law_1165 dL_law_1166 dL_law_1167 ?_
  refine g_arg (k := 2) X hi hL (by decide) (by decide) dL_law_1168 dL_law_1169 dL_law_1170 dL_law_1171 dL_law_1172 ?_
  refine g_bool X dL_law_1173 dL_law_1176 dL_law_1177 dL_law_1180 ?_
  refine g_cl (rest := []) X (st_see l hI (xs (i + 1)) (¬ xs (i + 2) = 0)) lk_692 dL_law_1181 rfl rfl (by decide) (by decide) rfl rfl (fun v w1 h => ?_)
  refine g_al X 2 dL_law_1184 rfl rfl ?_
  refine g_arg (k := 1) X hi hL (by decide) (by decide) dL_law_1185 dL_law_1186 dL_law_1187 dL_law_1188 dL_law_1189 ?_
  refine g_arg (k := 2) X hi hL (by decide) (by decide) dL_law_1190 dL_law_1191 dL_law_1192 dL_law_1193 dL_law_1194 ?_
  refine g_bool X dL_law_1195 dL_law_1198 dL_law_1199 dL_law_1202 ?_
  refine g_cl (rest := v.toList ++ []) X h lk_1149 dL_law_1203 rfl rfl (cat_le v) (by decide) rfl rfl (fun v' w2 h2 => ?_)
  obtain ⟨rfl, ⟨x, rfl⟩, hI2⟩ := h2
  refine g_st (st' := [.int x, .int x]) rfl ?_
  exact g_eq (tgt := 1544) X dL_law_1206 (by decide) (K w2 hI2)
theorem ca_forget {l : Launch} {E : VE} {p : Program} {e : Env} {s : State} {m : MethodId} {below : List Frame} {meth : Method} {c : Code} {b L : Nat} {xs : Nat → Int32} {ad : Nat → Nat} {i : Nat} {ws : va_W} (X : LX E p s m meth c b L xs) (hL : L ≤ 2560) (hi : i + 5 ≤ L) (hI : IV E ad ws) (K : ∀ ws', IV E ad ws' → LQ l E p e s m below meth c b ad i 1544 [] ws') : LQ l E p e s m below meth c b ad i 1211 [] ws := by
  refine g_al X 1 dL_law_1211 rfl rfl ?_
  refine g_arg (k := 1) X hi hL (by decide) (by decide) dL_law_1212 dL_law_1213 dL_law_1214 dL_law_1215 dL_law_1216 ?_
  refine g_cl (rest := []) X (st_forget l hI (xs (i + 1))) lk_696 dL_law_1217 rfl rfl (by decide) (by decide) rfl rfl (fun v w1 h => ?_)
  refine g_al X 2 dL_law_1220 rfl rfl ?_
  refine g_arg (k := 1) X hi hL (by decide) (by decide) dL_law_1221 dL_law_1222 dL_law_1223 dL_law_1224 dL_law_1225 ?_
  refine g_cl (rest := v.toList ++ []) X h lk_1153 dL_law_1226 rfl rfl (cat_le v) (by decide) rfl rfl (fun v' w2 h2 => ?_)
  obtain ⟨rfl, ⟨x, rfl⟩, hI2⟩ := h2
  refine g_st (st' := [.int x, .int x]) rfl ?_
  exact g_eq (tgt := 1544) X dL_law_1229 (by decide) (K w2 hI2)
theorem ca_fits {l : Launch} {E : VE} {p : Program} {e : Env} {s : State} {m : MethodId} {below : List Frame} {meth : Method} {c : Code} {b L : Nat} {xs : Nat → Int32} {ad : Nat → Nat} {i : Nat} {ws : va_W} (X : LX E p s m meth c b L xs) (hL : L ≤ 2560) (hi : i + 5 ≤ L) (hI : IV E ad ws) (K : ∀ ws', IV E ad ws' → LQ l E p e s m below meth c b ad i 1544 [] ws') : LQ l E p e s m below meth c b ad i 1234 [] ws := by
  refine g_al X 1 dL_law_1234 rfl rfl ?_
  refine g_arg (k := 1) X hi hL (by decide) (by decide) dL_law_1235 dL_law_1236 dL_law_1237 dL_law_1238 dL_law_1239 ?_
  refine g_cl (rest := []) X (st_fits l hI (xs (i + 1))) lk_700 dL_law_1240 rfl rfl (by decide) (by decide) rfl rfl (fun v w1 h => ?_)
  refine g_al X 2 dL_law_1243 rfl rfl ?_
  refine g_arg (k := 1) X hi hL (by decide) (by decide) dL_law_1244 dL_law_1245 dL_law_1246 dL_law_1247 dL_law_1248 ?_
  refine g_cl (rest := v.toList ++ []) X h lk_1157 dL_law_1249 rfl rfl (cat_le v) (by decide) rfl rfl (fun v' w2 h2 => ?_)
  obtain ⟨rfl, ⟨x, rfl⟩, hI2⟩ := h2
  refine g_st (st' := [.int x, .int x]) rfl ?_
  exact g_eq (tgt := 1544) X dL_law_1252 (by decide) (K w2 hI2)
theorem ca_ask {l : Launch} {E : VE} {p : Program} {e : Env} {s : State} {m : MethodId} {below : List Frame} {meth : Method} {c : Code} {b L : Nat} {xs : Nat → Int32} {ad : Nat → Nat} {i : Nat} {ws : va_W} (X : LX E p s m meth c b L xs) (hL : L ≤ 2560) (hi : i + 5 ≤ L) (hI : IV E ad ws) (K : ∀ ws', IV E ad ws' → LQ l E p e s m below meth c b ad i 1544 [] ws') : LQ l E p e s m below meth c b ad i 1257 [] ws := by
  refine g_al X 1 dL_law_1257 rfl rfl ?_
  refine g_arg (k := 1) X hi hL (by decide) (by decide) dL_law_1258 dL_law_1259 dL_law_1260 dL_law_1261 dL_law_1262 ?_
  refine g_cl (rest := []) X (st_ask l hI (xs (i + 1))) lk_708 dL_law_1263 rfl rfl (by decide) (by decide) rfl rfl (fun v w1 h => ?_)
  refine g_al X 2 dL_law_1266 rfl rfl ?_
  refine g_arg (k := 1) X hi hL (by decide) (by decide) dL_law_1267 dL_law_1268 dL_law_1269 dL_law_1270 dL_law_1271 ?_
  refine g_cl (rest := v.toList ++ []) X h lk_1166 dL_law_1272 rfl rfl (cat_le v) (by decide) rfl rfl (fun v' w2 h2 => ?_)
  obtain ⟨rfl, ⟨x, rfl⟩, hI2⟩ := h2
  refine g_st (st' := [.int x, .int x]) rfl ?_
  exact g_eq (tgt := 1544) X dL_law_1275 (by decide) (K w2 hI2)
theorem ca_drift {l : Launch} {E : VE} {p : Program} {e : Env} {s : State} {m : MethodId} {below : List Frame} {meth : Method} {c : Code} {b L : Nat} {xs : Nat → Int32} {ad : Nat → Nat} {i : Nat} {ws : va_W} (X : LX E p s m meth c b L xs) (hL : L ≤ 2560) (hi : i + 5 ≤ L) (hI : IV E ad ws) (K : ∀ ws', IV E ad ws' → LQ l E p e s m below meth c b ad i 1544 [] ws') : LQ l E p e s m below meth c b ad i 1280 [] ws := by
  refine g_al X 1 dL_law_1280 rfl rfl ?_
  refine g_arg (k := 1) X hi hL (by decide) (by decide) dL_law_1281 dL_law_1282 dL_law_1283 dL_law_1284 dL_law_1285 ?_
  refine g_arg (k := 2) X hi hL (by decide) (by decide) dL_law_1286 dL_law_1287 dL_law_1288 dL_law_1289 dL_law_1290 ?_
  refine g_arg (k := 3) X hi hL (by decide) (by decide) dL_law_1291 dL_law_1292 dL_law_1293 dL_law_1294 dL_law_1295 ?_
  refine g_cl (rest := []) X (st_drift l hI (xs (i + 1)) (xs (i + 2)) (xs (i + 3))) lk_715 dL_law_1296 rfl rfl (by decide) (by decide) rfl rfl (fun v w1 h => ?_)
  refine g_al X 2 dL_law_1299 rfl rfl ?_
  refine g_arg (k := 1) X hi hL (by decide) (by decide) dL_law_1300 dL_law_1301 dL_law_1302 dL_law_1303 dL_law_1304 ?_
  refine g_arg (k := 2) X hi hL (by decide) (by decide) dL_law_1305 dL_law_1306 dL_law_1307 dL_law_1308 dL_law_1309 ?_
  refine g_arg (k := 3) X hi hL (by decide) (by decide) dL_law_1310 dL_law_1311 dL_law_1312 dL_law_1313 dL_law_1314 ?_
  refine g_cl (rest := v.toList ++ []) X h lk_1170 dL_law_1315 rfl rfl (cat_le v) (by decide) rfl rfl (fun v' w2 h2 => ?_)
  obtain ⟨rfl, ⟨x, rfl⟩, hI2⟩ := h2
  refine g_st (st' := [.int x, .int x]) rfl ?_
  exact g_eq (tgt := 1544) X dL_law_1318 (by decide) (K w2 hI2)
theorem ca_keep {l : Launch} {E : VE} {p : Program} {e : Env} {s : State} {m : MethodId} {below : List Frame} {meth : Method} {c : Code} {b L : Nat} {xs : Nat → Int32} {ad : Nat → Nat} {i : Nat} {ws : va_W} (X : LX E p s m meth c b L xs) (hL : L ≤ 2560) (hi : i + 5 ≤ L) (hI : IV E ad ws) (K : ∀ ws', IV E ad ws' → LQ l E p e s m below meth c b ad i 1544 [] ws') : LQ l E p e s m below meth c b ad i 1323 [] ws := by
  refine g_al X 1 dL_law_1323 rfl rfl ?_
  refine g_arg (k := 1) X hi hL (by decide) (by decide) dL_law_1324 dL_law_1325 dL_law_1326 dL_law_1327 dL_law_1328 ?_
  refine g_cl (rest := []) X (st_keep l hI (xs (i + 1))) lk_720 dL_law_1329 rfl rfl (by decide) (by decide) rfl rfl (fun v w1 h => ?_)
  refine g_al X 2 dL_law_1332 rfl rfl ?_
  refine g_arg (k := 1) X hi hL (by decide) (by decide) dL_law_1333 dL_law_1334 dL_law_1335 dL_law_1336 dL_law_1337 ?_
  refine g_cl (rest := v.toList ++ []) X h lk_1175 dL_law_1338 rfl rfl (cat_le v) (by decide) rfl rfl (fun v' w2 h2 => ?_)
  obtain ⟨rfl, ⟨x, rfl⟩, hI2⟩ := h2
  refine g_st (st' := [.int x, .int x]) rfl ?_
  exact g_eq (tgt := 1544) X dL_law_1341 (by decide) (K w2 hI2)
theorem ca_back {l : Launch} {E : VE} {p : Program} {e : Env} {s : State} {m : MethodId} {below : List Frame} {meth : Method} {c : Code} {b L : Nat} {xs : Nat → Int32} {ad : Nat → Nat} {i : Nat} {ws : va_W} (X : LX E p s m meth c b L xs) (hL : L ≤ 2560) (hi : i + 5 ≤ L) (hI : IV E ad ws) (K : ∀ ws', IV E ad ws' → LQ l E p e s m below meth c b ad i 1544 [] ws') : LQ l E p e s m below meth c b ad i 1346 [] ws := by
  refine g_al X 1 dL_law_1346 rfl rfl ?_
  refine g_arg (k := 1) X hi hL (by decide) (by decide) dL_law_1347 dL_law_1348 dL_law_1349 dL_law_1350 dL_law_1351 ?_
  refine g_cl (rest := []) X (st_back l hI (xs (i + 1))) lk_724 dL_law_1352 rfl rfl (by decide) (by decide) rfl rfl (fun v w1 h => ?_)
  refine g_al X 2 dL_law_1355 rfl rfl ?_
  refine g_arg (k := 1) X hi hL (by decide) (by decide) dL_law_1356 dL_law_1357 dL_law_1358 dL_law_1359 dL_law_1360 ?_
  refine g_cl (rest := v.toList ++ []) X h lk_1183 dL_law_1361 rfl rfl (cat_le v) (by decide) rfl rfl (fun v' w2 h2 => ?_)
  obtain ⟨rfl, ⟨x, rfl⟩, hI2⟩ := h2
  refine g_st (st' := [.int x, .int x]) rfl ?_
  exact g_eq (tgt := 1544) X dL_law_1364 (by decide) (K w2 hI2)
theorem ca_sheet {l : Launch} {E : VE} {p : Program} {e : Env} {s : State} {m : MethodId} {below : List Frame} {meth : Method} {c : Code} {b L : Nat} {xs : Nat → Int32} {ad : Nat → Nat} {i : Nat} {ws : va_W} (X : LX E p s m meth c b L xs) (hL : L ≤ 2560) (hi : i + 5 ≤ L) (hI : IV E ad ws) (K : ∀ ws', IV E ad ws' → LQ l E p e s m below meth c b ad i 1544 [] ws') : LQ l E p e s m below meth c b ad i 1369 [] ws := by
  refine g_al X 1 dL_law_1369 rfl rfl ?_
  refine g_arg (k := 1) X hi hL (by decide) (by decide) dL_law_1370 dL_law_1371 dL_law_1372 dL_law_1373 dL_law_1374 ?_
  refine g_arg (k := 2) X hi hL (by decide) (by decide) dL_law_1375 dL_law_1376 dL_law_1377 dL_law_1378 dL_law_1379 ?_
  refine g_arg (k := 3) X hi hL (by decide) (by decide) dL_law_1380 dL_law_1381 dL_law_1382 dL_law_1383 dL_law_1384 ?_
  refine g_cl (rest := []) X (st_sheet l hI (xs (i + 1)) (xs (i + 2)) (xs (i + 3))) lk_728 dL_law_1385 rfl rfl (by decide) (by decide) rfl rfl (fun v w1 h => ?_)
  refine g_al X 2 dL_law_1388 rfl rfl ?_
  refine g_arg (k := 1) X hi hL (by decide) (by decide) dL_law_1389 dL_law_1390 dL_law_1391 dL_law_1392 dL_law_1393 ?_
  refine g_arg (k := 2) X hi hL (by decide) (by decide) dL_law_1394 dL_law_1395 dL_law_1396 dL_law_1397 dL_law_1398 ?_
  refine g_arg (k := 3) X hi hL (by decide) (by decide) dL_law_1399 dL_law_1400 dL_law_1401 dL_law_1402 dL_law_1403 ?_
  refine g_cl (rest := v.toList ++ []) X h lk_1187 dL_law_1404 rfl rfl (cat_le v) (by decide) rfl rfl (fun v' w2 h2 => ?_)
  obtain ⟨rfl, ⟨x, rfl⟩, hI2⟩ := h2
  refine g_st (st' := [.int x, .int x]) rfl ?_
  exact g_eq (tgt := 1544) X dL_law_1407 (by decide) (K w2 hI2)
theorem ca_lay {l : Launch} {E : VE} {p : Program} {e : Env} {s : State} {m : MethodId} {below : List Frame} {meth : Method} {c : Code} {b L : Nat} {xs : Nat → Int32} {ad : Nat → Nat} {i : Nat} {ws : va_W} (X : LX E p s m meth c b L xs) (hL : L ≤ 2560) (hi : i + 5 ≤ L) (hI : IV E ad ws) (K : ∀ ws', IV E ad ws' → LQ l E p e s m below meth c b ad i 1544 [] ws') : LQ l E p e s m below meth c b ad i 1412 [] ws := by
  refine g_al X 1 dL_law_1412 rfl rfl ?_
  refine g_arg (k := 1) X hi hL (by decide) (by decide) dL_law_1413 dL_law_1414 dL_law_1415 dL_law_1416 dL_law_1417 ?_
  refine g_arg (k := 2) X hi hL (by decide) (by decide) dL_law_1418 dL_law_1419 dL_law_1420 dL_law_1421 dL_law_1422 ?_
  refine g_arg (k := 3) X hi hL (by decide) (by decide) dL_law_1423 dL_law_1424 dL_law_1425 dL_law_1426 dL_law_1427 ?_
  refine g_cl (rest := []) X (st_lay l hI (xs (i + 1)) (xs (i + 2)) (xs (i + 3))) lk_743 dL_law_1428 rfl rfl (by decide) (by decide) rfl rfl (fun v w1 h => ?_)
  refine g_al X 2 dL_law_1431 rfl rfl ?_
  refine g_arg (k := 1) X hi hL (by decide) (by decide) dL_law_1432 dL_law_1433 dL_law_1434 dL_law_1435 dL_law_1436 ?_
  refine g_arg (k := 2) X hi hL (by decide) (by decide) dL_law_1437 dL_law_1438 dL_law_1439 dL_law_1440 dL_law_1441 ?_
  refine g_arg (k := 3) X hi hL (by decide) (by decide) dL_law_1442 dL_law_1443 dL_law_1444 dL_law_1445 dL_law_1446 ?_
  refine g_cl (rest := v.toList ++ []) X h lk_1191 dL_law_1447 rfl rfl (cat_le v) (by decide) rfl rfl (fun v' w2 h2 => ?_)
  obtain ⟨rfl, ⟨x, rfl⟩, hI2⟩ := h2
  refine g_st (st' := [.int x, .int x]) rfl ?_
  exact g_eq (tgt := 1544) X dL_law_1450 (by decide) (K w2 hI2)
theorem ca_read {l : Launch} {E : VE} {p : Program} {e : Env} {s : State} {m : MethodId} {below : List Frame} {meth : Method} {c : Code} {b L : Nat} {xs : Nat → Int32} {ad : Nat → Nat} {i : Nat} {ws : va_W} (X : LX E p s m meth c b L xs) (hL : L ≤ 2560) (hi : i + 5 ≤ L) (hI : IV E ad ws) (K : ∀ ws', IV E ad ws' → LQ l E p e s m below meth c b ad i 1544 [] ws') : LQ l E p e s m below meth c b ad i 1455 [] ws := by
  refine g_al X 1 dL_law_1455 rfl rfl ?_
  refine g_arg (k := 1) X hi hL (by decide) (by decide) dL_law_1456 dL_law_1457 dL_law_1458 dL_law_1459 dL_law_1460 ?_
  refine g_arg (k := 2) X hi hL (by decide) (by decide) dL_law_1461 dL_law_1462 dL_law_1463 dL_law_1464 dL_law_1465 ?_
  refine g_arg (k := 3) X hi hL (by decide) (by decide) dL_law_1466 dL_law_1467 dL_law_1468 dL_law_1469 dL_law_1470 ?_
  refine g_arg (k := 4) X hi hL (by decide) (by decide) dL_law_1471 dL_law_1472 dL_law_1473 dL_law_1474 dL_law_1475 ?_
  refine g_cl (rest := []) X (st_read l hI (xs (i + 1)) (xs (i + 2)) (xs (i + 3)) (xs (i + 4))) lk_755 dL_law_1476 rfl rfl (by decide) (by decide) rfl rfl (fun v w1 h => ?_)
  refine g_al X 2 dL_law_1479 rfl rfl ?_
  refine g_arg (k := 1) X hi hL (by decide) (by decide) dL_law_1480 dL_law_1481 dL_law_1482 dL_law_1483 dL_law_1484 ?_
  refine g_arg (k := 2) X hi hL (by decide) (by decide) dL_law_1485 dL_law_1486 dL_law_1487 dL_law_1488 dL_law_1489 ?_
  refine g_arg (k := 3) X hi hL (by decide) (by decide) dL_law_1490 dL_law_1491 dL_law_1492 dL_law_1493 dL_law_1494 ?_
  refine g_arg (k := 4) X hi hL (by decide) (by decide) dL_law_1495 dL_law_1496 dL_law_1497 dL_law_1498 dL_law_1499 ?_
  refine g_cl (rest := v.toList ++ []) X h lk_1195 dL_law_1500 rfl rfl (cat_le v) (by decide) rfl rfl (fun v' w2 h2 => ?_)
  obtain ⟨rfl, ⟨x, rfl⟩, hI2⟩ := h2
  refine g_st (st' := [.int x, .int x]) rfl ?_
  exact g_eq (tgt := 1544) X dL_law_1503 (by decide) (K w2 hI2)
theorem ca_torn {l : Launch} {E : VE} {p : Program} {e : Env} {s : State} {m : MethodId} {below : List Frame} {meth : Method} {c : Code} {b L : Nat} {xs : Nat → Int32} {ad : Nat → Nat} {i : Nat} {ws : va_W} (X : LX E p s m meth c b L xs) (hL : L ≤ 2560) (hi : i + 5 ≤ L) (hI : IV E ad ws) (K : ∀ ws', IV E ad ws' → LQ l E p e s m below meth c b ad i 1544 [] ws') : LQ l E p e s m below meth c b ad i 1508 [] ws := by
  refine g_al X 1 dL_law_1508 rfl rfl ?_
  refine g_cl (rest := []) X (st_torn l hI ) lk_768 dL_law_1509 rfl rfl (by decide) (by decide) rfl rfl (fun v w1 h => ?_)
  refine g_al X 2 dL_law_1512 rfl rfl ?_
  refine g_cl (rest := v.toList ++ []) X h lk_1200 dL_law_1513 rfl rfl (cat_le v) (by decide) rfl rfl (fun v' w2 h2 => ?_)
  obtain ⟨rfl, ⟨x, rfl⟩, hI2⟩ := h2
  refine g_st (st' := [.int x, .int x]) rfl ?_
  exact g_eq (tgt := 1544) X dL_law_1516 (by decide) (K w2 hI2)
theorem ca_count {l : Launch} {E : VE} {p : Program} {e : Env} {s : State} {m : MethodId} {below : List Frame} {meth : Method} {c : Code} {b L : Nat} {xs : Nat → Int32} {ad : Nat → Nat} {i : Nat} {ws : va_W} (X : LX E p s m meth c b L xs) (hL : L ≤ 2560) (hi : i + 5 ≤ L) (hI : IV E ad ws) (K : ∀ ws', IV E ad ws' → LQ l E p e s m below meth c b ad i 1544 [] ws') : LQ l E p e s m below meth c b ad i 1521 [] ws := by
  refine g_al X 1 dL_law_1521 rfl rfl ?_
  refine g_arg (k := 1) X hi hL (by decide) (by decide) dL_law_1522 dL_law_1523 dL_law_1524 dL_law_1525 dL_law_1526 ?_
  refine g_cl (rest := []) X (st_count l hI (xs (i + 1))) lk_772 dL_law_1527 rfl rfl (by decide) (by decide) rfl rfl (fun v w1 h => ?_)
  refine g_al X 2 dL_law_1530 rfl rfl ?_
  refine g_arg (k := 1) X hi hL (by decide) (by decide) dL_law_1531 dL_law_1532 dL_law_1533 dL_law_1534 dL_law_1535 ?_
  refine g_cl (rest := v.toList ++ []) X h lk_1204 dL_law_1536 rfl rfl (cat_le v) (by decide) rfl rfl (fun v' w2 h2 => ?_)
  obtain ⟨rfl, ⟨x, rfl⟩, hI2⟩ := h2
  refine g_st (st' := [.int x, .int x]) rfl ?_
  exact g_eq (tgt := 1544) X dL_law_1539 (by decide) (K w2 hI2)
