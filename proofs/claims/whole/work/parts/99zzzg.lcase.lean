/-! the law's 44 cases: the class is called, the reference, the answers are the same -/
section LC
variable {l : Launch} {E : Ev} {L : Nat} {xs : Nat → Int32}
theorem lc_actor {cells slots j : Nat} {h : Hp} (hL : L ≤ 3072) (hj : j + 6 ≤ L) (hc : cells + 4 ≤ 600000) (hs : slots + 1203 ≤ 7302250) (V : Inv1 h) (K : ∀ h2, Inv1 h2 → GoL l E L xs false (cells + 4) (slots + 1203) 1447 (LJ j) [] h2) : GoL l E L xs false cells slots 224 (LJ j) [] h := by
  obtain ⟨na, np, nl, ns, nt, Tl, I, C⟩ := V
  refine gl_rc I.1.s79 ?_
  refine gl_aload_n (i := 1) (a := 9) rfl rfl dL_224 ?_
  refine gl_arg (k := 1) dL_225 dL_226 dL_227 dL_228 dL_229 (by decide) hL hj (by decide) ?_
  refine gl_arg (k := 2) dL_230 dL_231 dL_232 dL_233 dL_234 (by decide) hL hj (by decide) ?_
  refine gl_arg (k := 3) dL_235 dL_236 dL_237 dL_238 dL_239 (by decide) hL hj (by decide) ?_
  refine gl_arg (k := 4) dL_240 dL_241 dL_242 dL_243 dL_244 (by decide) hL hj (by decide) ?_
  refine gl_call8 (Y' := YX8_actor) (as := [.int (xs (j + 1)), .int (xs (j + 2)), .int (xs (j + 3)), .int (xs (j + 4))]) (rest := []) mw_489 mw_490 mw_491 mw_100 mw_492 rfl okmX8_actor (by decide) (Nat.le_of_ble_eq_true rfl) (by omega) (by omega) rfl dL_245 (by decide) I.1.s9 (k_actor I (d := 0) fun v h1 ask => ?_)
  show GoL l E L xs true (cells + 0) (slots + 0) 248 (LJ j) [.int v] h1
  refine gl_aload_n (i := 2) (a := 79) rfl rfl dL_248 ?_
  refine gl_arg (k := 1) dL_249 dL_250 dL_251 dL_252 dL_253 (by decide) hL hj (by decide) ?_
  refine gl_arg (k := 2) dL_254 dL_255 dL_256 dL_257 dL_258 (by decide) hL hj (by decide) ?_
  refine gl_arg (k := 3) dL_259 dL_260 dL_261 dL_262 dL_263 (by decide) hL hj (by decide) ?_
  refine gl_arg (k := 4) dL_264 dL_265 dL_266 dL_267 dL_268 (by decide) hL hj (by decide) ?_
  refine gl_call9 (Y' := YX9_actor) (as := [.int (xs (j + 1)), .int (xs (j + 2)), .int (xs (j + 3)), .int (xs (j + 4))]) (rest := [.int v]) mw_1359 mw_1360 mw_1361 mw_108 mw_1362 rfl okmX9_actor (by decide) (Nat.le_of_ble_eq_true rfl) (by omega) (by omega) rfl dL_269 (by simp [catS, Value.category]) (ask _ fun h2 N => ?_)
  show GoL l E L xs true (cells + 0 + 0) (slots + 0 + 0) 272 (LJ j) [.int v, .int v] h2
  refine gl_same (tgt := 1447) (by decide) dL_272 ?_
  exact gl_forget (gl_widen (by omega) (by omega) (K h2 (N.inv1 C)))
theorem lc_part {cells slots j : Nat} {h : Hp} (hL : L ≤ 3072) (hj : j + 6 ≤ L) (hc : cells + 4 ≤ 600000) (hs : slots + 1203 ≤ 7302250) (V : Inv1 h) (K : ∀ h2, Inv1 h2 → GoL l E L xs false (cells + 4) (slots + 1203) 1447 (LJ j) [] h2) : GoL l E L xs false cells slots 277 (LJ j) [] h := by
  obtain ⟨na, np, nl, ns, nt, Tl, I, C⟩ := V
  refine gl_rc I.1.s79 ?_
  refine gl_aload_n (i := 1) (a := 9) rfl rfl dL_277 ?_
  refine gl_arg (k := 1) dL_278 dL_279 dL_280 dL_281 dL_282 (by decide) hL hj (by decide) ?_
  refine gl_arg (k := 2) dL_283 dL_284 dL_285 dL_286 dL_287 (by decide) hL hj (by decide) ?_
  refine gl_arg (k := 3) dL_288 dL_289 dL_290 dL_291 dL_292 (by decide) hL hj (by decide) ?_
  refine gl_call8 (Y' := YX8_part) (as := [.int (xs (j + 1)), .int (xs (j + 2)), .int (xs (j + 3))]) (rest := []) mw_508 mw_509 mw_510 mw_100 mw_511 rfl okmX8_part (by decide) (Nat.le_of_ble_eq_true rfl) (by omega) (by omega) rfl dL_293 (by decide) I.1.s9 (k_part I (d := 0) fun v h1 ask => ?_)
  show GoL l E L xs true (cells + 0) (slots + 0) 296 (LJ j) [.int v] h1
  refine gl_aload_n (i := 2) (a := 79) rfl rfl dL_296 ?_
  refine gl_arg (k := 1) dL_297 dL_298 dL_299 dL_300 dL_301 (by decide) hL hj (by decide) ?_
  refine gl_arg (k := 2) dL_302 dL_303 dL_304 dL_305 dL_306 (by decide) hL hj (by decide) ?_
  refine gl_arg (k := 3) dL_307 dL_308 dL_309 dL_310 dL_311 (by decide) hL hj (by decide) ?_
  refine gl_call9 (Y' := YX9_part) (as := [.int (xs (j + 1)), .int (xs (j + 2)), .int (xs (j + 3))]) (rest := [.int v]) mw_1369 mw_1370 mw_1371 mw_108 mw_1372 rfl okmX9_part (by decide) (Nat.le_of_ble_eq_true rfl) (by omega) (by omega) rfl dL_312 (by simp [catS, Value.category]) (ask _ fun h2 N => ?_)
  show GoL l E L xs true (cells + 0 + 0) (slots + 0 + 0) 315 (LJ j) [.int v, .int v] h2
  refine gl_same (tgt := 1447) (by decide) dL_315 ?_
  exact gl_forget (gl_widen (by omega) (by omega) (K h2 (N.inv1 C)))
theorem lc_turn {cells slots j : Nat} {h : Hp} (hL : L ≤ 3072) (hj : j + 6 ≤ L) (hc : cells + 4 ≤ 600000) (hs : slots + 1203 ≤ 7302250) (V : Inv1 h) (K : ∀ h2, Inv1 h2 → GoL l E L xs false (cells + 4) (slots + 1203) 1447 (LJ j) [] h2) : GoL l E L xs false cells slots 320 (LJ j) [] h := by
  obtain ⟨na, np, nl, ns, nt, Tl, I, C⟩ := V
  refine gl_rc I.1.s79 ?_
  refine gl_aload_n (i := 1) (a := 9) rfl rfl dL_320 ?_
  refine gl_arg (k := 1) dL_321 dL_322 dL_323 dL_324 dL_325 (by decide) hL hj (by decide) ?_
  refine gl_arg (k := 2) dL_326 dL_327 dL_328 dL_329 dL_330 (by decide) hL hj (by decide) ?_
  refine gl_arg (k := 3) dL_331 dL_332 dL_333 dL_334 dL_335 (by decide) hL hj (by decide) ?_
  refine gl_call8 (Y' := YX8_turn) (as := [.int (xs (j + 1)), .int (xs (j + 2)), .int (xs (j + 3))]) (rest := []) mw_517 mw_518 mw_519 mw_100 mw_520 rfl okmX8_turn (by decide) (Nat.le_of_ble_eq_true rfl) (by omega) (by omega) rfl dL_336 (by decide) I.1.s9 (k_turn I (d := 0) fun v h1 ask => ?_)
  show GoL l E L xs true (cells + 0) (slots + 0) 339 (LJ j) [.int v] h1
  refine gl_aload_n (i := 2) (a := 79) rfl rfl dL_339 ?_
  refine gl_arg (k := 1) dL_340 dL_341 dL_342 dL_343 dL_344 (by decide) hL hj (by decide) ?_
  refine gl_arg (k := 2) dL_345 dL_346 dL_347 dL_348 dL_349 (by decide) hL hj (by decide) ?_
  refine gl_arg (k := 3) dL_350 dL_351 dL_352 dL_353 dL_354 (by decide) hL hj (by decide) ?_
  refine gl_call9 (Y' := YX9_turn) (as := [.int (xs (j + 1)), .int (xs (j + 2)), .int (xs (j + 3))]) (rest := [.int v]) mw_1377 mw_1378 mw_1379 mw_108 mw_1380 rfl okmX9_turn (by decide) (Nat.le_of_ble_eq_true rfl) (by omega) (by omega) rfl dL_355 (by simp [catS, Value.category]) (ask _ fun h2 N => ?_)
  show GoL l E L xs true (cells + 0 + 0) (slots + 0 + 0) 358 (LJ j) [.int v, .int v] h2
  refine gl_same (tgt := 1447) (by decide) dL_358 ?_
  exact gl_forget (gl_widen (by omega) (by omega) (K h2 (N.inv1 C)))
theorem lc_alter {cells slots j : Nat} {h : Hp} (hL : L ≤ 3072) (hj : j + 6 ≤ L) (hc : cells + 4 ≤ 600000) (hs : slots + 1203 ≤ 7302250) (V : Inv1 h) (K : ∀ h2, Inv1 h2 → GoL l E L xs false (cells + 4) (slots + 1203) 1447 (LJ j) [] h2) : GoL l E L xs false cells slots 363 (LJ j) [] h := by
  obtain ⟨na, np, nl, ns, nt, Tl, I, C⟩ := V
  refine gl_rc I.1.s79 ?_
  refine gl_aload_n (i := 1) (a := 9) rfl rfl dL_363 ?_
  refine gl_arg (k := 1) dL_364 dL_365 dL_366 dL_367 dL_368 (by decide) hL hj (by decide) ?_
  refine gl_arg (k := 2) dL_369 dL_370 dL_371 dL_372 dL_373 (by decide) hL hj (by decide) ?_
  refine gl_arg (k := 3) dL_374 dL_375 dL_376 dL_377 dL_378 (by decide) hL hj (by decide) ?_
  refine gl_call8 (Y' := YX8_alter) (as := [.int (xs (j + 1)), .int (xs (j + 2)), .int (xs (j + 3))]) (rest := []) mw_525 mw_526 mw_527 mw_100 mw_528 rfl okmX8_alter (by decide) (Nat.le_of_ble_eq_true rfl) (by omega) (by omega) rfl dL_379 (by decide) I.1.s9 (k_alter I (d := 0) fun v h1 ask => ?_)
  show GoL l E L xs true (cells + 0) (slots + 0) 382 (LJ j) [.int v] h1
  refine gl_aload_n (i := 2) (a := 79) rfl rfl dL_382 ?_
  refine gl_arg (k := 1) dL_383 dL_384 dL_385 dL_386 dL_387 (by decide) hL hj (by decide) ?_
  refine gl_arg (k := 2) dL_388 dL_389 dL_390 dL_391 dL_392 (by decide) hL hj (by decide) ?_
  refine gl_arg (k := 3) dL_393 dL_394 dL_395 dL_396 dL_397 (by decide) hL hj (by decide) ?_
  refine gl_call9 (Y' := YX9_alter) (as := [.int (xs (j + 1)), .int (xs (j + 2)), .int (xs (j + 3))]) (rest := [.int v]) mw_1393 mw_1394 mw_1395 mw_108 mw_1396 rfl okmX9_alter (by decide) (Nat.le_of_ble_eq_true rfl) (by omega) (by omega) rfl dL_398 (by simp [catS, Value.category]) (ask _ fun h2 N => ?_)
  show GoL l E L xs true (cells + 0 + 0) (slots + 0 + 0) 401 (LJ j) [.int v, .int v] h2
  refine gl_same (tgt := 1447) (by decide) dL_401 ?_
  exact gl_forget (gl_widen (by omega) (by omega) (K h2 (N.inv1 C)))
theorem lc_usual {cells slots j : Nat} {h : Hp} (hL : L ≤ 3072) (hj : j + 6 ≤ L) (hc : cells + 4 ≤ 600000) (hs : slots + 1203 ≤ 7302250) (V : Inv1 h) (K : ∀ h2, Inv1 h2 → GoL l E L xs false (cells + 4) (slots + 1203) 1447 (LJ j) [] h2) : GoL l E L xs false cells slots 406 (LJ j) [] h := by
  obtain ⟨na, np, nl, ns, nt, Tl, I, C⟩ := V
  refine gl_rc I.1.s79 ?_
  refine gl_aload_n (i := 1) (a := 9) rfl rfl dL_406 ?_
  refine gl_arg (k := 1) dL_407 dL_408 dL_409 dL_410 dL_411 (by decide) hL hj (by decide) ?_
  refine gl_arg (k := 2) dL_412 dL_413 dL_414 dL_415 dL_416 (by decide) hL hj (by decide) ?_
  refine gl_call8 (Y' := YX8_usual) (as := [.int (xs (j + 1)), .int (xs (j + 2))]) (rest := []) mw_533 mw_534 mw_535 mw_100 mw_536 rfl okmX8_usual (by decide) (Nat.le_of_ble_eq_true rfl) (by omega) (by omega) rfl dL_417 (by decide) I.1.s9 (k_usual I (d := 0) fun v h1 ask => ?_)
  show GoL l E L xs true (cells + 0) (slots + 0) 420 (LJ j) [.int v] h1
  refine gl_aload_n (i := 2) (a := 79) rfl rfl dL_420 ?_
  refine gl_arg (k := 1) dL_421 dL_422 dL_423 dL_424 dL_425 (by decide) hL hj (by decide) ?_
  refine gl_arg (k := 2) dL_426 dL_427 dL_428 dL_429 dL_430 (by decide) hL hj (by decide) ?_
  refine gl_call9 (Y' := YX9_usual) (as := [.int (xs (j + 1)), .int (xs (j + 2))]) (rest := [.int v]) mw_1401 mw_1402 mw_1403 mw_108 mw_1404 rfl okmX9_usual (by decide) (Nat.le_of_ble_eq_true rfl) (by omega) (by omega) rfl dL_431 (by simp [catS, Value.category]) (ask _ fun h2 N => ?_)
  show GoL l E L xs true (cells + 0 + 0) (slots + 0 + 0) 434 (LJ j) [.int v, .int v] h2
  refine gl_same (tgt := 1447) (by decide) dL_434 ?_
  exact gl_forget (gl_widen (by omega) (by omega) (K h2 (N.inv1 C)))
theorem lc_knows {cells slots j : Nat} {h : Hp} (hL : L ≤ 3072) (hj : j + 6 ≤ L) (hc : cells + 4 ≤ 600000) (hs : slots + 1203 ≤ 7302250) (V : Inv1 h) (K : ∀ h2, Inv1 h2 → GoL l E L xs false (cells + 4) (slots + 1203) 1447 (LJ j) [] h2) : GoL l E L xs false cells slots 439 (LJ j) [] h := by
  obtain ⟨na, np, nl, ns, nt, Tl, I, C⟩ := V
  refine gl_rc I.1.s79 ?_
  refine gl_aload_n (i := 1) (a := 9) rfl rfl dL_439 ?_
  refine gl_arg (k := 1) dL_440 dL_441 dL_442 dL_443 dL_444 (by decide) hL hj (by decide) ?_
  refine gl_arg (k := 2) dL_445 dL_446 dL_447 dL_448 dL_449 (by decide) hL hj (by decide) ?_
  refine gl_arg (k := 3) dL_450 dL_451 dL_452 dL_453 dL_454 (by decide) hL hj (by decide) ?_
  refine gl_call8 (Y' := YX8_knows) (as := [.int (xs (j + 1)), .int (xs (j + 2)), .int (xs (j + 3))]) (rest := []) mw_537 mw_538 mw_539 mw_100 mw_540 rfl okmX8_knows (by decide) (Nat.le_of_ble_eq_true rfl) (by omega) (by omega) rfl dL_455 (by decide) I.1.s9 (k_knows I (d := 0) fun v h1 ask => ?_)
  show GoL l E L xs true (cells + 0) (slots + 0) 458 (LJ j) [.int v] h1
  refine gl_aload_n (i := 2) (a := 79) rfl rfl dL_458 ?_
  refine gl_arg (k := 1) dL_459 dL_460 dL_461 dL_462 dL_463 (by decide) hL hj (by decide) ?_
  refine gl_arg (k := 2) dL_464 dL_465 dL_466 dL_467 dL_468 (by decide) hL hj (by decide) ?_
  refine gl_arg (k := 3) dL_469 dL_470 dL_471 dL_472 dL_473 (by decide) hL hj (by decide) ?_
  refine gl_call9 (Y' := YX9_knows) (as := [.int (xs (j + 1)), .int (xs (j + 2)), .int (xs (j + 3))]) (rest := [.int v]) mw_1405 mw_1406 mw_1407 mw_108 mw_1408 rfl okmX9_knows (by decide) (Nat.le_of_ble_eq_true rfl) (by omega) (by omega) rfl dL_474 (by simp [catS, Value.category]) (ask _ fun h2 N => ?_)
  show GoL l E L xs true (cells + 0 + 0) (slots + 0 + 0) 477 (LJ j) [.int v, .int v] h2
  refine gl_same (tgt := 1447) (by decide) dL_477 ?_
  exact gl_forget (gl_widen (by omega) (by omega) (K h2 (N.inv1 C)))
theorem lc_of {cells slots j : Nat} {h : Hp} (hL : L ≤ 3072) (hj : j + 6 ≤ L) (hc : cells + 4 ≤ 600000) (hs : slots + 1203 ≤ 7302250) (V : Inv1 h) (K : ∀ h2, Inv1 h2 → GoL l E L xs false (cells + 4) (slots + 1203) 1447 (LJ j) [] h2) : GoL l E L xs false cells slots 482 (LJ j) [] h := by
  obtain ⟨na, np, nl, ns, nt, Tl, I, C⟩ := V
  refine gl_rc I.1.s79 ?_
  refine gl_aload_n (i := 1) (a := 9) rfl rfl dL_482 ?_
  refine gl_arg (k := 1) dL_483 dL_484 dL_485 dL_486 dL_487 (by decide) hL hj (by decide) ?_
  refine gl_arg (k := 2) dL_488 dL_489 dL_490 dL_491 dL_492 (by decide) hL hj (by decide) ?_
  refine gl_arg (k := 3) dL_493 dL_494 dL_495 dL_496 dL_497 (by decide) hL hj (by decide) ?_
  refine gl_call8 (Y' := YX8_of) (as := [.int (xs (j + 1)), .int (xs (j + 2)), .int (xs (j + 3))]) (rest := []) mw_547 mw_548 mw_549 mw_100 mw_550 rfl okmX8_of (by decide) (Nat.le_of_ble_eq_true rfl) (by omega) (by omega) rfl dL_498 (by decide) I.1.s9 (k_of I C (d := 0) fun v h1 ask => ?_)
  show GoL l E L xs true (cells + 0) (slots + 0) 501 (LJ j) [.int v] h1
  refine gl_aload_n (i := 2) (a := 79) rfl rfl dL_501 ?_
  refine gl_arg (k := 1) dL_502 dL_503 dL_504 dL_505 dL_506 (by decide) hL hj (by decide) ?_
  refine gl_arg (k := 2) dL_507 dL_508 dL_509 dL_510 dL_511 (by decide) hL hj (by decide) ?_
  refine gl_arg (k := 3) dL_512 dL_513 dL_514 dL_515 dL_516 (by decide) hL hj (by decide) ?_
  refine gl_call9 (Y' := YX9_of) (as := [.int (xs (j + 1)), .int (xs (j + 2)), .int (xs (j + 3))]) (rest := [.int v]) mw_1554 mw_1555 mw_1556 mw_108 mw_1557 rfl okmX9_of (by decide) (Nat.le_of_ble_eq_true rfl) (by omega) (by omega) rfl dL_517 (by simp [catS, Value.category]) (ask _ fun h2 I2 C2 => ?_)
  show GoL l E L xs true (cells + 0 + 0) (slots + 0 + 0) 520 (LJ j) [.int v, .int v] h2
  refine gl_same (tgt := 1447) (by decide) dL_520 ?_
  exact gl_forget (gl_widen (by omega) (by omega) (K h2 ⟨na, np, nl, ns, nt, Tl, I2, C2⟩))
theorem lc_ill {cells slots j : Nat} {h : Hp} (hL : L ≤ 3072) (hj : j + 6 ≤ L) (hc : cells + 4 ≤ 600000) (hs : slots + 1203 ≤ 7302250) (V : Inv1 h) (K : ∀ h2, Inv1 h2 → GoL l E L xs false (cells + 4) (slots + 1203) 1447 (LJ j) [] h2) : GoL l E L xs false cells slots 525 (LJ j) [] h := by
  obtain ⟨na, np, nl, ns, nt, Tl, I, C⟩ := V
  refine gl_rc I.1.s79 ?_
  refine gl_aload_n (i := 1) (a := 9) rfl rfl dL_525 ?_
  refine gl_arg (k := 1) dL_526 dL_527 dL_528 dL_529 dL_530 (by decide) hL hj (by decide) ?_
  refine gl_call8 (Y' := YX8_ill) (as := [.int (xs (j + 1))]) (rest := []) mw_594 mw_595 mw_596 mw_100 mw_597 rfl okmX8_ill (by decide) (Nat.le_of_ble_eq_true rfl) (by omega) (by omega) rfl dL_531 (by decide) I.1.s9 (k_ill I (d := 0) fun v h1 ask => ?_)
  show GoL l E L xs true (cells + 0) (slots + 0) 534 (LJ j) [.int v] h1
  refine gl_aload_n (i := 2) (a := 79) rfl rfl dL_534 ?_
  refine gl_arg (k := 1) dL_535 dL_536 dL_537 dL_538 dL_539 (by decide) hL hj (by decide) ?_
  refine gl_call9 (Y' := YX9_ill) (as := [.int (xs (j + 1))]) (rest := [.int v]) mw_1409 mw_1410 mw_1411 mw_108 mw_1412 rfl okmX9_ill (by decide) (Nat.le_of_ble_eq_true rfl) (by omega) (by omega) rfl dL_540 (by simp [catS, Value.category]) (ask _ fun h2 N => ?_)
  show GoL l E L xs true (cells + 0 + 0) (slots + 0 + 0) 543 (LJ j) [.int v, .int v] h2
  refine gl_same (tgt := 1447) (by decide) dL_543 ?_
  exact gl_forget (gl_widen (by omega) (by omega) (K h2 (N.inv1 C)))
theorem lc_terms {cells slots j : Nat} {h : Hp} (hL : L ≤ 3072) (hj : j + 6 ≤ L) (hc : cells + 4 ≤ 600000) (hs : slots + 1203 ≤ 7302250) (V : Inv1 h) (K : ∀ h2, Inv1 h2 → GoL l E L xs false (cells + 4) (slots + 1203) 1447 (LJ j) [] h2) : GoL l E L xs false cells slots 548 (LJ j) [] h := by
  obtain ⟨na, np, nl, ns, nt, Tl, I, C⟩ := V
  refine gl_rc I.1.s79 ?_
  refine gl_aload_n (i := 1) (a := 9) rfl rfl dL_548 ?_
  refine gl_arg (k := 1) dL_549 dL_550 dL_551 dL_552 dL_553 (by decide) hL hj (by decide) ?_
  refine gl_arg (k := 2) dL_554 dL_555 dL_556 dL_557 dL_558 (by decide) hL hj (by decide) ?_
  refine gl_call8 (Y' := YX8_terms) (as := [.int (xs (j + 1)), .int (xs (j + 2))]) (rest := []) mw_601 mw_602 mw_603 mw_100 mw_604 rfl okmX8_terms (by decide) (Nat.le_of_ble_eq_true rfl) (by omega) (by omega) rfl dL_559 (by decide) I.1.s9 (k_terms I (d := 0) fun v h1 ask => ?_)
  show GoL l E L xs true (cells + 0) (slots + 0) 562 (LJ j) [.int v] h1
  refine gl_aload_n (i := 2) (a := 79) rfl rfl dL_562 ?_
  refine gl_arg (k := 1) dL_563 dL_564 dL_565 dL_566 dL_567 (by decide) hL hj (by decide) ?_
  refine gl_arg (k := 2) dL_568 dL_569 dL_570 dL_571 dL_572 (by decide) hL hj (by decide) ?_
  refine gl_call9 (Y' := YX9_terms) (as := [.int (xs (j + 1)), .int (xs (j + 2))]) (rest := [.int v]) mw_1417 mw_1418 mw_1419 mw_108 mw_1420 rfl okmX9_terms (by decide) (Nat.le_of_ble_eq_true rfl) (by omega) (by omega) rfl dL_573 (by simp [catS, Value.category]) (ask _ fun h2 N => ?_)
  show GoL l E L xs true (cells + 0 + 0) (slots + 0 + 0) 576 (LJ j) [.int v, .int v] h2
  refine gl_same (tgt := 1447) (by decide) dL_576 ?_
  exact gl_forget (gl_widen (by omega) (by omega) (K h2 (N.inv1 C)))
theorem lc_feed {cells slots j : Nat} {h : Hp} (hL : L ≤ 3072) (hj : j + 6 ≤ L) (hc : cells + 4 ≤ 600000) (hs : slots + 1203 ≤ 7302250) (V : Inv1 h) (K : ∀ h2, Inv1 h2 → GoL l E L xs false (cells + 4) (slots + 1203) 1447 (LJ j) [] h2) : GoL l E L xs false cells slots 581 (LJ j) [] h := by
  obtain ⟨na, np, nl, ns, nt, Tl, I, C⟩ := V
  refine gl_rc I.1.s79 ?_
  refine gl_aload_n (i := 1) (a := 9) rfl rfl dL_581 ?_
  refine gl_arg (k := 1) dL_582 dL_583 dL_584 dL_585 dL_586 (by decide) hL hj (by decide) ?_
  refine gl_arg (k := 2) dL_587 dL_588 dL_589 dL_590 dL_591 (by decide) hL hj (by decide) ?_
  refine gl_arg (k := 3) dL_592 dL_593 dL_594 dL_595 dL_596 (by decide) hL hj (by decide) ?_
  refine gl_arg (k := 4) dL_597 dL_598 dL_599 dL_600 dL_601 (by decide) hL hj (by decide) ?_
  refine gl_arg (k := 5) dL_602 dL_603 dL_604 dL_605 dL_606 (by decide) hL hj (by decide) ?_
  refine gl_call8 (Y' := YX8_feed) (as := [.int (xs (j + 1)), .int (xs (j + 2)), .int (xs (j + 3)), .int (xs (j + 4)), .int (xs (j + 5))]) (rest := []) mw_607 mw_608 mw_609 mw_100 mw_610 rfl okmX8_feed (by decide) (Nat.le_of_ble_eq_true rfl) (by omega) (by omega) rfl dL_607 (by decide) I.1.s9 (k_feed I (d := 0) fun v h1 ask => ?_)
  show GoL l E L xs true (cells + 0) (slots + 0) 610 (LJ j) [.int v] h1
  refine gl_aload_n (i := 2) (a := 79) rfl rfl dL_610 ?_
  refine gl_arg (k := 1) dL_611 dL_612 dL_613 dL_614 dL_615 (by decide) hL hj (by decide) ?_
  refine gl_arg (k := 2) dL_616 dL_617 dL_618 dL_619 dL_620 (by decide) hL hj (by decide) ?_
  refine gl_arg (k := 3) dL_621 dL_622 dL_623 dL_624 dL_625 (by decide) hL hj (by decide) ?_
  refine gl_arg (k := 4) dL_626 dL_627 dL_628 dL_629 dL_630 (by decide) hL hj (by decide) ?_
  refine gl_arg (k := 5) dL_631 dL_632 dL_633 dL_634 dL_635 (by decide) hL hj (by decide) ?_
  refine gl_call9 (Y' := YX9_feed) (as := [.int (xs (j + 1)), .int (xs (j + 2)), .int (xs (j + 3)), .int (xs (j + 4)), .int (xs (j + 5))]) (rest := [.int v]) mw_1430 mw_1431 mw_1432 mw_108 mw_1433 rfl okmX9_feed (by decide) (Nat.le_of_ble_eq_true rfl) (by omega) (by omega) rfl dL_636 (by simp [catS, Value.category]) (ask _ fun h2 N => ?_)
  show GoL l E L xs true (cells + 0 + 0) (slots + 0 + 0) 639 (LJ j) [.int v, .int v] h2
  refine gl_same (tgt := 1447) (by decide) dL_639 ?_
  exact gl_forget (gl_widen (by omega) (by omega) (K h2 (N.inv1 C)))
theorem lc_end {cells slots j : Nat} {h : Hp} (hL : L ≤ 3072) (hj : j + 6 ≤ L) (hc : cells + 4 ≤ 600000) (hs : slots + 1203 ≤ 7302250) (V : Inv1 h) (K : ∀ h2, Inv1 h2 → GoL l E L xs false (cells + 4) (slots + 1203) 1447 (LJ j) [] h2) : GoL l E L xs false cells slots 644 (LJ j) [] h := by
  obtain ⟨na, np, nl, ns, nt, Tl, I, C⟩ := V
  refine gl_rc I.1.s79 ?_
  refine gl_aload_n (i := 1) (a := 9) rfl rfl dL_644 ?_
  refine gl_arg (k := 1) dL_645 dL_646 dL_647 dL_648 dL_649 (by decide) hL hj (by decide) ?_
  refine gl_call8 (Y' := YX8_end) (as := [.int (xs (j + 1))]) (rest := []) mw_615 mw_616 mw_617 mw_100 mw_618 rfl okmX8_end (by decide) (Nat.le_of_ble_eq_true rfl) (by omega) (by omega) rfl dL_650 (by decide) I.1.s9 (k_end I (d := 0) fun v h1 ask => ?_)
  show GoL l E L xs true (cells + 0) (slots + 0) 653 (LJ j) [.int v] h1
  refine gl_aload_n (i := 2) (a := 79) rfl rfl dL_653 ?_
  refine gl_arg (k := 1) dL_654 dL_655 dL_656 dL_657 dL_658 (by decide) hL hj (by decide) ?_
  refine gl_call9 (Y' := YX9_end) (as := [.int (xs (j + 1))]) (rest := [.int v]) mw_1438 mw_1439 mw_1440 mw_108 mw_1441 rfl okmX9_end (by decide) (Nat.le_of_ble_eq_true rfl) (by omega) (by omega) rfl dL_659 (by simp [catS, Value.category]) (ask _ fun h2 N => ?_)
  show GoL l E L xs true (cells + 0 + 0) (slots + 0 + 0) 662 (LJ j) [.int v, .int v] h2
  refine gl_same (tgt := 1447) (by decide) dL_662 ?_
  exact gl_forget (gl_widen (by omega) (by omega) (K h2 (N.inv1 C)))
theorem lc_row {cells slots j : Nat} {h : Hp} (hL : L ≤ 3072) (hj : j + 6 ≤ L) (hc : cells + 4 ≤ 600000) (hs : slots + 1203 ≤ 7302250) (V : Inv1 h) (K : ∀ h2, Inv1 h2 → GoL l E L xs false (cells + 4) (slots + 1203) 1447 (LJ j) [] h2) : GoL l E L xs false cells slots 667 (LJ j) [] h := by
  obtain ⟨na, np, nl, ns, nt, Tl, I, C⟩ := V
  refine gl_rc I.1.s79 ?_
  refine gl_aload_n (i := 1) (a := 9) rfl rfl dL_667 ?_
  refine gl_call8 (Y' := YX8_row) (as := []) (rest := []) mw_619 mw_620 mw_621 mw_100 mw_622 rfl okmX8_row (by decide) (Nat.le_of_ble_eq_true rfl) (by omega) (by omega) rfl dL_668 (by decide) I.1.s9 (k_row I (d := 0) fun v h1 ask => ?_)
  show GoL l E L xs true (cells + 0) (slots + 0) 671 (LJ j) [.int v] h1
  refine gl_aload_n (i := 2) (a := 79) rfl rfl dL_671 ?_
  refine gl_call9 (Y' := YX9_row) (as := []) (rest := [.int v]) mw_1422 mw_1423 mw_1424 mw_108 mw_1425 rfl okmX9_row (by decide) (Nat.le_of_ble_eq_true rfl) (by omega) (by omega) rfl dL_672 (by simp [catS, Value.category]) (ask _ fun h2 N => ?_)
  show GoL l E L xs true (cells + 0 + 0) (slots + 0 + 0) 675 (LJ j) [.int v, .int v] h2
  refine gl_same (tgt := 1447) (by decide) dL_675 ?_
  exact gl_forget (gl_widen (by omega) (by omega) (K h2 (N.inv1 C)))
theorem lc_forgot {cells slots j : Nat} {h : Hp} (hL : L ≤ 3072) (hj : j + 6 ≤ L) (hc : cells + 4 ≤ 600000) (hs : slots + 1203 ≤ 7302250) (V : Inv1 h) (K : ∀ h2, Inv1 h2 → GoL l E L xs false (cells + 4) (slots + 1203) 1447 (LJ j) [] h2) : GoL l E L xs false cells slots 680 (LJ j) [] h := by
  obtain ⟨na, np, nl, ns, nt, Tl, I, C⟩ := V
  refine gl_rc I.1.s79 ?_
  refine gl_aload_n (i := 1) (a := 9) rfl rfl dL_680 ?_
  refine gl_call8 (Y' := YX8_forgot) (as := []) (rest := []) mw_623 mw_624 mw_625 mw_100 mw_626 rfl okmX8_forgot (by decide) (Nat.le_of_ble_eq_true rfl) (by omega) (by omega) rfl dL_681 (by decide) I.1.s9 (k_forgot I (d := 0) fun v h1 ask => ?_)
  show GoL l E L xs true (cells + 0) (slots + 0) 684 (LJ j) [.int v] h1
  refine gl_aload_n (i := 2) (a := 79) rfl rfl dL_684 ?_
  refine gl_call9 (Y' := YX9_forgot) (as := []) (rest := [.int v]) mw_1426 mw_1427 mw_1428 mw_108 mw_1429 rfl okmX9_forgot (by decide) (Nat.le_of_ble_eq_true rfl) (by omega) (by omega) rfl dL_685 (by simp [catS, Value.category]) (ask _ fun h2 N => ?_)
  show GoL l E L xs true (cells + 0 + 0) (slots + 0 + 0) 688 (LJ j) [.int v, .int v] h2
  refine gl_same (tgt := 1447) (by decide) dL_688 ?_
  exact gl_forget (gl_widen (by omega) (by omega) (K h2 (N.inv1 C)))
theorem lc_law {cells slots j : Nat} {h : Hp} (hL : L ≤ 3072) (hj : j + 6 ≤ L) (hc : cells + 4 ≤ 600000) (hs : slots + 1203 ≤ 7302250) (V : Inv1 h) (K : ∀ h2, Inv1 h2 → GoL l E L xs false (cells + 4) (slots + 1203) 1447 (LJ j) [] h2) : GoL l E L xs false cells slots 693 (LJ j) [] h := by
  obtain ⟨na, np, nl, ns, nt, Tl, I, C⟩ := V
  refine gl_rc I.1.s79 ?_
  refine gl_aload_n (i := 1) (a := 9) rfl rfl dL_693 ?_
  refine gl_call8 (Y' := YX8_law) (as := []) (rest := []) mw_627 mw_628 mw_629 mw_100 mw_630 rfl okmX8_law (by decide) (Nat.le_of_ble_eq_true rfl) (by omega) (by omega) rfl dL_694 (by decide) I.1.s9 (k_law I (d := 0) fun v h1 ask => ?_)
  show GoL l E L xs true (cells + 4) (slots + 1203) 697 (LJ j) [.int v] h1
  refine gl_aload_n (i := 2) (a := 79) rfl rfl dL_697 ?_
  refine gl_call9 (Y' := YX9_law) (as := []) (rest := [.int v]) mw_1446 mw_1447 mw_1448 mw_108 mw_1449 rfl okmX9_law (by decide) (Nat.le_of_ble_eq_true rfl) (by omega) (by omega) rfl dL_698 (by simp [catS, Value.category]) (ask _ fun h2 N => ?_)
  show GoL l E L xs true (cells + 4 + 0) (slots + 1203 + 0) 701 (LJ j) [.int v, .int v] h2
  refine gl_same (tgt := 1447) (by decide) dL_701 ?_
  exact gl_forget (gl_widen (by omega) (by omega) (K h2 (N.inv1 C)))
theorem lc_fault {cells slots j : Nat} {h : Hp} (hL : L ≤ 3072) (hj : j + 6 ≤ L) (hc : cells + 4 ≤ 600000) (hs : slots + 1203 ≤ 7302250) (V : Inv1 h) (K : ∀ h2, Inv1 h2 → GoL l E L xs false (cells + 4) (slots + 1203) 1447 (LJ j) [] h2) : GoL l E L xs false cells slots 706 (LJ j) [] h := by
  obtain ⟨na, np, nl, ns, nt, Tl, I, C⟩ := V
  refine gl_rc I.1.s79 ?_
  refine gl_aload_n (i := 1) (a := 9) rfl rfl dL_706 ?_
  refine gl_call8 (Y' := YX8_fault) (as := []) (rest := []) mw_760 mw_761 mw_762 mw_100 mw_763 rfl okmX8_fault (by decide) (Nat.le_of_ble_eq_true rfl) (by omega) (by omega) rfl dL_707 (by decide) I.1.s9 (k_fault I (d := 0) fun v h1 ask => ?_)
  show GoL l E L xs true (cells + 0) (slots + 0) 710 (LJ j) [.int v] h1
  refine gl_aload_n (i := 2) (a := 79) rfl rfl dL_710 ?_
  refine gl_call9 (Y' := YX9_fault) (as := []) (rest := [.int v]) mw_1442 mw_1443 mw_1444 mw_108 mw_1445 rfl okmX9_fault (by decide) (Nat.le_of_ble_eq_true rfl) (by omega) (by omega) rfl dL_711 (by simp [catS, Value.category]) (ask _ fun h2 N => ?_)
  show GoL l E L xs true (cells + 0 + 0) (slots + 0 + 0) 714 (LJ j) [.int v, .int v] h2
  refine gl_same (tgt := 1447) (by decide) dL_714 ?_
  exact gl_forget (gl_widen (by omega) (by omega) (K h2 (N.inv1 C)))
theorem lc_force {cells slots j : Nat} {h : Hp} (hL : L ≤ 3072) (hj : j + 6 ≤ L) (hc : cells + 4 ≤ 600000) (hs : slots + 1203 ≤ 7302250) (V : Inv1 h) (K : ∀ h2, Inv1 h2 → GoL l E L xs false (cells + 4) (slots + 1203) 1447 (LJ j) [] h2) : GoL l E L xs false cells slots 719 (LJ j) [] h := by
  obtain ⟨na, np, nl, ns, nt, Tl, I, C⟩ := V
  refine gl_rc I.1.s79 ?_
  refine gl_aload_n (i := 1) (a := 9) rfl rfl dL_719 ?_
  refine gl_arg (k := 1) dL_720 dL_721 dL_722 dL_723 dL_724 (by decide) hL hj (by decide) ?_
  refine gl_call8 (Y' := YX8_force) (as := [.int (xs (j + 1))]) (rest := []) mw_764 mw_765 mw_766 mw_100 mw_767 rfl okmX8_force (by decide) (Nat.le_of_ble_eq_true rfl) (by omega) (by omega) rfl dL_725 (by decide) I.1.s9 (k_force I (d := 0) fun v h1 ask => ?_)
  show GoL l E L xs true (cells + 0) (slots + 0) 728 (LJ j) [.int v] h1
  refine gl_aload_n (i := 2) (a := 79) rfl rfl dL_728 ?_
  refine gl_arg (k := 1) dL_729 dL_730 dL_731 dL_732 dL_733 (by decide) hL hj (by decide) ?_
  refine gl_call9 (Y' := YX9_force) (as := [.int (xs (j + 1))]) (rest := [.int v]) mw_1550 mw_1551 mw_1552 mw_108 mw_1553 rfl okmX9_force (by decide) (Nat.le_of_ble_eq_true rfl) (by omega) (by omega) rfl dL_734 (by simp [catS, Value.category]) (ask _ fun h2 N => ?_)
  show GoL l E L xs true (cells + 0 + 0) (slots + 0 + 0) 737 (LJ j) [.int v, .int v] h2
  refine gl_same (tgt := 1447) (by decide) dL_737 ?_
  exact gl_forget (gl_widen (by omega) (by omega) (K h2 (N.inv1 C)))
theorem lc_night {cells slots j : Nat} {h : Hp} (hL : L ≤ 3072) (hj : j + 6 ≤ L) (hc : cells + 4 ≤ 600000) (hs : slots + 1203 ≤ 7302250) (V : Inv1 h) (K : ∀ h2, Inv1 h2 → GoL l E L xs false (cells + 4) (slots + 1203) 1447 (LJ j) [] h2) : GoL l E L xs false cells slots 742 (LJ j) [] h := by
  obtain ⟨na, np, nl, ns, nt, Tl, I, C⟩ := V
  refine gl_rc I.1.s79 ?_
  refine gl_aload_n (i := 1) (a := 9) rfl rfl dL_742 ?_
  refine gl_arg (k := 1) dL_743 dL_744 dL_745 dL_746 dL_747 (by decide) hL hj (by decide) ?_
  refine gl_call8 (Y' := YX8_night) (as := [.int (xs (j + 1))]) (rest := []) mw_768 mw_769 mw_770 mw_100 mw_771 rfl okmX8_night (by decide) (Nat.le_of_ble_eq_true rfl) (by omega) (by omega) rfl dL_748 (by decide) I.1.s9 (k_night I C (d := 0) fun v h1 ask => ?_)
  show GoL l E L xs true (cells + 0) (slots + 0) 751 (LJ j) [.int v] h1
  refine gl_aload_n (i := 2) (a := 79) rfl rfl dL_751 ?_
  refine gl_arg (k := 1) dL_752 dL_753 dL_754 dL_755 dL_756 (by decide) hL hj (by decide) ?_
  refine gl_call9 (Y' := YX9_night) (as := [.int (xs (j + 1))]) (rest := [.int v]) mw_1585 mw_1586 mw_1587 mw_108 mw_1588 rfl okmX9_night (by decide) (Nat.le_of_ble_eq_true rfl) (by omega) (by omega) rfl dL_757 (by simp [catS, Value.category]) (ask _ fun h2 I2 C2 => ?_)
  show GoL l E L xs true (cells + 0 + 0) (slots + 0 + 0) 760 (LJ j) [.int v, .int v] h2
  refine gl_same (tgt := 1447) (by decide) dL_760 ?_
  exact gl_forget (gl_widen (by omega) (by omega) (K h2 ⟨na, np, nl, ns, nt, Tl, I2, C2⟩))
theorem lc_who {cells slots j : Nat} {h : Hp} (hL : L ≤ 3072) (hj : j + 6 ≤ L) (hc : cells + 4 ≤ 600000) (hs : slots + 1203 ≤ 7302250) (V : Inv1 h) (K : ∀ h2, Inv1 h2 → GoL l E L xs false (cells + 4) (slots + 1203) 1447 (LJ j) [] h2) : GoL l E L xs false cells slots 765 (LJ j) [] h := by
  obtain ⟨na, np, nl, ns, nt, Tl, I, C⟩ := V
  refine gl_rc I.1.s79 ?_
  refine gl_aload_n (i := 1) (a := 9) rfl rfl dL_765 ?_
  refine gl_arg (k := 1) dL_766 dL_767 dL_768 dL_769 dL_770 (by decide) hL hj (by decide) ?_
  refine gl_call8 (Y' := YX8_who) (as := [.int (xs (j + 1))]) (rest := []) mw_898 mw_899 mw_900 mw_100 mw_901 rfl okmX8_who (by decide) (Nat.le_of_ble_eq_true rfl) (by omega) (by omega) rfl dL_771 (by decide) I.1.s9 (k_who I C (d := 0) fun v h1 ask => ?_)
  show GoL l E L xs true (cells + 0) (slots + 0) 774 (LJ j) [.int v] h1
  refine gl_aload_n (i := 2) (a := 79) rfl rfl dL_774 ?_
  refine gl_arg (k := 1) dL_775 dL_776 dL_777 dL_778 dL_779 (by decide) hL hj (by decide) ?_
  refine gl_call9 (Y' := YX9_who) (as := [.int (xs (j + 1))]) (rest := [.int v]) mw_1622 mw_1623 mw_1624 mw_108 mw_1625 rfl okmX9_who (by decide) (Nat.le_of_ble_eq_true rfl) (by omega) (by omega) rfl dL_780 (by simp [catS, Value.category]) (ask _ fun h2 I2 C2 => ?_)
  show GoL l E L xs true (cells + 0 + 0) (slots + 0 + 0) 783 (LJ j) [.int v, .int v] h2
  refine gl_same (tgt := 1447) (by decide) dL_783 ?_
  exact gl_forget (gl_widen (by omega) (by omega) (K h2 ⟨na, np, nl, ns, nt, Tl, I2, C2⟩))
theorem lc_changed {cells slots j : Nat} {h : Hp} (hL : L ≤ 3072) (hj : j + 6 ≤ L) (hc : cells + 4 ≤ 600000) (hs : slots + 1203 ≤ 7302250) (V : Inv1 h) (K : ∀ h2, Inv1 h2 → GoL l E L xs false (cells + 4) (slots + 1203) 1447 (LJ j) [] h2) : GoL l E L xs false cells slots 788 (LJ j) [] h := by
  obtain ⟨na, np, nl, ns, nt, Tl, I, C⟩ := V
  refine gl_rc I.1.s79 ?_
  refine gl_aload_n (i := 1) (a := 9) rfl rfl dL_788 ?_
  refine gl_call8 (Y' := YX8_changed) (as := []) (rest := []) mw_905 mw_906 mw_907 mw_100 mw_908 rfl okmX8_changed (by decide) (Nat.le_of_ble_eq_true rfl) (by omega) (by omega) rfl dL_789 (by decide) I.1.s9 (k_changed I C (d := 0) fun v h1 ask => ?_)
  show GoL l E L xs true (cells + 0) (slots + 0) 792 (LJ j) [.int v] h1
  refine gl_aload_n (i := 2) (a := 79) rfl rfl dL_792 ?_
  refine gl_call9 (Y' := YX9_changed) (as := []) (rest := [.int v]) mw_1638 mw_1639 mw_1640 mw_108 mw_1641 rfl okmX9_changed (by decide) (Nat.le_of_ble_eq_true rfl) (by omega) (by omega) rfl dL_793 (by simp [catS, Value.category]) (ask _ fun h2 I2 C2 => ?_)
  show GoL l E L xs true (cells + 0 + 0) (slots + 0 + 0) 796 (LJ j) [.int v, .int v] h2
  refine gl_same (tgt := 1447) (by decide) dL_796 ?_
  exact gl_forget (gl_widen (by omega) (by omega) (K h2 ⟨na, np, nl, ns, nt, Tl, I2, C2⟩))
theorem lc_chain {cells slots j : Nat} {h : Hp} (hL : L ≤ 3072) (hj : j + 6 ≤ L) (hc : cells + 4 ≤ 600000) (hs : slots + 1203 ≤ 7302250) (V : Inv1 h) (K : ∀ h2, Inv1 h2 → GoL l E L xs false (cells + 4) (slots + 1203) 1447 (LJ j) [] h2) : GoL l E L xs false cells slots 801 (LJ j) [] h := by
  obtain ⟨na, np, nl, ns, nt, Tl, I, C⟩ := V
  refine gl_rc I.1.s79 ?_
  refine gl_aload_n (i := 1) (a := 9) rfl rfl dL_801 ?_
  refine gl_arg (k := 1) dL_802 dL_803 dL_804 dL_805 dL_806 (by decide) hL hj (by decide) ?_
  refine gl_arg (k := 2) dL_807 dL_808 dL_809 dL_810 dL_811 (by decide) hL hj (by decide) ?_
  refine gl_call8 (Y' := YX8_chain) (as := [.int (xs (j + 1)), .int (xs (j + 2))]) (rest := []) mw_914 mw_915 mw_916 mw_100 mw_917 rfl okmX8_chain (by decide) (Nat.le_of_ble_eq_true rfl) (by omega) (by omega) rfl dL_812 (by decide) I.1.s9 (k_chain I C (d := 0) fun v h1 ask => ?_)
  show GoL l E L xs true (cells + 0) (slots + 0) 815 (LJ j) [.int v] h1
  refine gl_aload_n (i := 2) (a := 79) rfl rfl dL_815 ?_
  refine gl_arg (k := 1) dL_816 dL_817 dL_818 dL_819 dL_820 (by decide) hL hj (by decide) ?_
  refine gl_arg (k := 2) dL_821 dL_822 dL_823 dL_824 dL_825 (by decide) hL hj (by decide) ?_
  refine gl_call9 (Y' := YX9_chain) (as := [.int (xs (j + 1)), .int (xs (j + 2))]) (rest := [.int v]) mw_1646 mw_1647 mw_1648 mw_108 mw_1649 rfl okmX9_chain (by decide) (Nat.le_of_ble_eq_true rfl) (by omega) (by omega) rfl dL_826 (by simp [catS, Value.category]) (ask _ fun h2 I2 C2 => ?_)
  show GoL l E L xs true (cells + 0 + 0) (slots + 0 + 0) 829 (LJ j) [.int v, .int v] h2
  refine gl_same (tgt := 1447) (by decide) dL_829 ?_
  exact gl_forget (gl_widen (by omega) (by omega) (K h2 ⟨na, np, nl, ns, nt, Tl, I2, C2⟩))
theorem lc_nth {cells slots j : Nat} {h : Hp} (hL : L ≤ 3072) (hj : j + 6 ≤ L) (hc : cells + 4 ≤ 600000) (hs : slots + 1203 ≤ 7302250) (V : Inv1 h) (K : ∀ h2, Inv1 h2 → GoL l E L xs false (cells + 4) (slots + 1203) 1447 (LJ j) [] h2) : GoL l E L xs false cells slots 834 (LJ j) [] h := by
  obtain ⟨na, np, nl, ns, nt, Tl, I, C⟩ := V
  refine gl_rc I.1.s79 ?_
  refine gl_aload_n (i := 1) (a := 9) rfl rfl dL_834 ?_
  refine gl_arg (k := 1) dL_835 dL_836 dL_837 dL_838 dL_839 (by decide) hL hj (by decide) ?_
  refine gl_arg (k := 2) dL_840 dL_841 dL_842 dL_843 dL_844 (by decide) hL hj (by decide) ?_
  refine gl_call8 (Y' := YX8_nth) (as := [.int (xs (j + 1)), .int (xs (j + 2))]) (rest := []) mw_926 mw_927 mw_928 mw_100 mw_929 rfl okmX8_nth (by decide) (Nat.le_of_ble_eq_true rfl) (by omega) (by omega) rfl dL_845 (by decide) I.1.s9 (k_nth I C (d := 0) fun v h1 ask => ?_)
  show GoL l E L xs true (cells + 0) (slots + 0) 848 (LJ j) [.int v] h1
  refine gl_aload_n (i := 2) (a := 79) rfl rfl dL_848 ?_
  refine gl_arg (k := 1) dL_849 dL_850 dL_851 dL_852 dL_853 (by decide) hL hj (by decide) ?_
  refine gl_arg (k := 2) dL_854 dL_855 dL_856 dL_857 dL_858 (by decide) hL hj (by decide) ?_
  refine gl_call9 (Y' := YX9_nth) (as := [.int (xs (j + 1)), .int (xs (j + 2))]) (rest := [.int v]) mw_1650 mw_1651 mw_1652 mw_108 mw_1653 rfl okmX9_nth (by decide) (Nat.le_of_ble_eq_true rfl) (by omega) (by omega) rfl dL_859 (by simp [catS, Value.category]) (ask _ fun h2 I2 C2 => ?_)
  show GoL l E L xs true (cells + 0 + 0) (slots + 0 + 0) 862 (LJ j) [.int v, .int v] h2
  refine gl_same (tgt := 1447) (by decide) dL_862 ?_
  exact gl_forget (gl_widen (by omega) (by omega) (K h2 ⟨na, np, nl, ns, nt, Tl, I2, C2⟩))
theorem lc_gives {cells slots j : Nat} {h : Hp} (hL : L ≤ 3072) (hj : j + 6 ≤ L) (hc : cells + 4 ≤ 600000) (hs : slots + 1203 ≤ 7302250) (V : Inv1 h) (K : ∀ h2, Inv1 h2 → GoL l E L xs false (cells + 4) (slots + 1203) 1447 (LJ j) [] h2) : GoL l E L xs false cells slots 867 (LJ j) [] h := by
  obtain ⟨na, np, nl, ns, nt, Tl, I, C⟩ := V
  refine gl_rc I.1.s79 ?_
  refine gl_aload_n (i := 1) (a := 9) rfl rfl dL_867 ?_
  refine gl_arg (k := 1) dL_868 dL_869 dL_870 dL_871 dL_872 (by decide) hL hj (by decide) ?_
  refine gl_call8 (Y' := YX8_gives) (as := [.int (xs (j + 1))]) (rest := []) mw_938 mw_939 mw_940 mw_100 mw_941 rfl okmX8_gives (by decide) (Nat.le_of_ble_eq_true rfl) (by omega) (by omega) rfl dL_873 (by decide) I.1.s9 (k_gives I (d := 0) fun v h1 ask => ?_)
  show GoL l E L xs true (cells + 0) (slots + 0) 876 (LJ j) [.int v] h1
  refine gl_aload_n (i := 2) (a := 79) rfl rfl dL_876 ?_
  refine gl_arg (k := 1) dL_877 dL_878 dL_879 dL_880 dL_881 (by decide) hL hj (by decide) ?_
  refine gl_call9 (Y' := YX9_gives) (as := [.int (xs (j + 1))]) (rest := [.int v]) mw_1654 mw_1655 mw_1656 mw_108 mw_1657 rfl okmX9_gives (by decide) (Nat.le_of_ble_eq_true rfl) (by omega) (by omega) rfl dL_882 (by simp [catS, Value.category]) (ask _ fun h2 N => ?_)
  show GoL l E L xs true (cells + 0 + 0) (slots + 0 + 0) 885 (LJ j) [.int v, .int v] h2
  refine gl_same (tgt := 1447) (by decide) dL_885 ?_
  exact gl_forget (gl_widen (by omega) (by omega) (K h2 (N.inv1 C)))
theorem lc_clear {cells slots j : Nat} {h : Hp} (hL : L ≤ 3072) (hj : j + 6 ≤ L) (hc : cells + 4 ≤ 600000) (hs : slots + 1203 ≤ 7302250) (V : Inv1 h) (K : ∀ h2, Inv1 h2 → GoL l E L xs false (cells + 4) (slots + 1203) 1447 (LJ j) [] h2) : GoL l E L xs false cells slots 890 (LJ j) [] h := by
  obtain ⟨na, np, nl, ns, nt, Tl, I, C⟩ := V
  refine gl_rc I.1.s79 ?_
  refine gl_aload_n (i := 1) (a := 9) rfl rfl dL_890 ?_
  refine gl_call8 (Y' := YX8_clear) (as := []) (rest := []) mw_942 mw_943 mw_944 mw_100 mw_945 rfl okmX8_clear (by decide) (Nat.le_of_ble_eq_true rfl) (by omega) (by omega) rfl dL_891 (by decide) I.1.s9 (k_clear I (d := 0) fun v h1 ask => ?_)
  show GoL l E L xs true (cells + 0) (slots + 0) 894 (LJ j) [.int v] h1
  refine gl_aload_n (i := 2) (a := 79) rfl rfl dL_894 ?_
  refine gl_call9 (Y' := YX9_clear) (as := []) (rest := [.int v]) mw_1658 mw_1659 mw_1660 mw_108 mw_1661 rfl okmX9_clear (by decide) (Nat.le_of_ble_eq_true rfl) (by omega) (by omega) rfl dL_895 (by simp [catS, Value.category]) (ask _ fun h2 N => ?_)
  show GoL l E L xs true (cells + 0 + 0) (slots + 0 + 0) 898 (LJ j) [.int v, .int v] h2
  refine gl_same (tgt := 1447) (by decide) dL_898 ?_
  exact gl_forget (gl_widen (by omega) (by omega) (K h2 (N.inv1 C)))
theorem lc_judge {cells slots j : Nat} {h : Hp} (hL : L ≤ 3072) (hj : j + 6 ≤ L) (hc : cells + 4 ≤ 600000) (hs : slots + 1203 ≤ 7302250) (V : Inv1 h) (K : ∀ h2, Inv1 h2 → GoL l E L xs false (cells + 4) (slots + 1203) 1447 (LJ j) [] h2) : GoL l E L xs false cells slots 903 (LJ j) [] h := by
  obtain ⟨na, np, nl, ns, nt, Tl, I, C⟩ := V
  refine gl_rc I.1.s79 ?_
  refine gl_aload_n (i := 1) (a := 9) rfl rfl dL_903 ?_
  refine gl_arg (k := 1) dL_904 dL_905 dL_906 dL_907 dL_908 (by decide) hL hj (by decide) ?_
  refine gl_call8 (Y' := YX8_judge) (as := [.int (xs (j + 1))]) (rest := []) mw_946 mw_947 mw_948 mw_100 mw_949 rfl okmX8_judge (by decide) (Nat.le_of_ble_eq_true rfl) (by omega) (by omega) rfl dL_909 (by decide) I.1.s9 (k_judge I C (d := 0) fun v h1 ask => ?_)
  show GoL l E L xs true (cells + 0) (slots + 0) 912 (LJ j) [.int v] h1
  refine gl_aload_n (i := 2) (a := 79) rfl rfl dL_912 ?_
  refine gl_arg (k := 1) dL_913 dL_914 dL_915 dL_916 dL_917 (by decide) hL hj (by decide) ?_
  refine gl_call9 (Y' := YX9_judge) (as := [.int (xs (j + 1))]) (rest := [.int v]) mw_1662 mw_1663 mw_1664 mw_108 mw_1665 rfl okmX9_judge (by decide) (Nat.le_of_ble_eq_true rfl) (by omega) (by omega) rfl dL_918 (by simp [catS, Value.category]) (ask _ fun h2 I2 C2 => ?_)
  show GoL l E L xs true (cells + 0 + 0) (slots + 0 + 0) 921 (LJ j) [.int v, .int v] h2
  refine gl_same (tgt := 1447) (by decide) dL_921 ?_
  exact gl_forget (gl_widen (by omega) (by omega) (K h2 ⟨na, np, nl, ns, nt, Tl, I2, C2⟩))
theorem lc_shut {cells slots j : Nat} {h : Hp} (hL : L ≤ 3072) (hj : j + 6 ≤ L) (hc : cells + 4 ≤ 600000) (hs : slots + 1203 ≤ 7302250) (V : Inv1 h) (K : ∀ h2, Inv1 h2 → GoL l E L xs false (cells + 4) (slots + 1203) 1447 (LJ j) [] h2) : GoL l E L xs false cells slots 926 (LJ j) [] h := by
  obtain ⟨na, np, nl, ns, nt, Tl, I, C⟩ := V
  refine gl_rc I.1.s79 ?_
  refine gl_aload_n (i := 1) (a := 9) rfl rfl dL_926 ?_
  refine gl_arg (k := 1) dL_927 dL_928 dL_929 dL_930 dL_931 (by decide) hL hj (by decide) ?_
  refine gl_call8 (Y' := YX8_shut) (as := [.int (xs (j + 1))]) (rest := []) mw_962 mw_963 mw_964 mw_100 mw_965 rfl okmX8_shut (by decide) (Nat.le_of_ble_eq_true rfl) (by omega) (by omega) rfl dL_932 (by decide) I.1.s9 (k_shut I C (d := 0) fun v h1 ask => ?_)
  show GoL l E L xs true (cells + 0) (slots + 0) 935 (LJ j) [.int v] h1
  refine gl_aload_n (i := 2) (a := 79) rfl rfl dL_935 ?_
  refine gl_arg (k := 1) dL_936 dL_937 dL_938 dL_939 dL_940 (by decide) hL hj (by decide) ?_
  refine gl_call9 (Y' := YX9_shut) (as := [.int (xs (j + 1))]) (rest := [.int v]) mw_1670 mw_1671 mw_1672 mw_108 mw_1673 rfl okmX9_shut (by decide) (Nat.le_of_ble_eq_true rfl) (by omega) (by omega) rfl dL_941 (by simp [catS, Value.category]) (ask _ fun h2 I2 C2 => ?_)
  show GoL l E L xs true (cells + 0 + 0) (slots + 0 + 0) 944 (LJ j) [.int v, .int v] h2
  refine gl_same (tgt := 1447) (by decide) dL_944 ?_
  exact gl_forget (gl_widen (by omega) (by omega) (K h2 ⟨na, np, nl, ns, nt, Tl, I2, C2⟩))
theorem lc_closing {cells slots j : Nat} {h : Hp} (hL : L ≤ 3072) (hj : j + 6 ≤ L) (hc : cells + 4 ≤ 600000) (hs : slots + 1203 ≤ 7302250) (V : Inv1 h) (K : ∀ h2, Inv1 h2 → GoL l E L xs false (cells + 4) (slots + 1203) 1447 (LJ j) [] h2) : GoL l E L xs false cells slots 949 (LJ j) [] h := by
  obtain ⟨na, np, nl, ns, nt, Tl, I, C⟩ := V
  refine gl_rc I.1.s79 ?_
  refine gl_aload_n (i := 1) (a := 9) rfl rfl dL_949 ?_
  refine gl_arg (k := 1) dL_950 dL_951 dL_952 dL_953 dL_954 (by decide) hL hj (by decide) ?_
  refine gl_call8 (Y' := YX8_closing) (as := [.int (xs (j + 1))]) (rest := []) mw_966 mw_967 mw_968 mw_100 mw_969 rfl okmX8_closing (by decide) (Nat.le_of_ble_eq_true rfl) (by omega) (by omega) rfl dL_955 (by decide) I.1.s9 (k_closing I C (d := 0) fun v h1 ask => ?_)
  show GoL l E L xs true (cells + 0) (slots + 0) 958 (LJ j) [.int v] h1
  refine gl_aload_n (i := 2) (a := 79) rfl rfl dL_958 ?_
  refine gl_arg (k := 1) dL_959 dL_960 dL_961 dL_962 dL_963 (by decide) hL hj (by decide) ?_
  refine gl_call9 (Y' := YX9_closing) (as := [.int (xs (j + 1))]) (rest := [.int v]) mw_1690 mw_1691 mw_1692 mw_108 mw_1693 rfl okmX9_closing (by decide) (Nat.le_of_ble_eq_true rfl) (by omega) (by omega) rfl dL_964 (by simp [catS, Value.category]) (ask _ fun h2 I2 C2 => ?_)
  show GoL l E L xs true (cells + 0 + 0) (slots + 0 + 0) 967 (LJ j) [.int v, .int v] h2
  refine gl_same (tgt := 1447) (by decide) dL_967 ?_
  exact gl_forget (gl_widen (by omega) (by omega) (K h2 ⟨na, np, nl, ns, nt, Tl, I2, C2⟩))
theorem lc_safe {cells slots j : Nat} {h : Hp} (hL : L ≤ 3072) (hj : j + 6 ≤ L) (hc : cells + 4 ≤ 600000) (hs : slots + 1203 ≤ 7302250) (V : Inv1 h) (K : ∀ h2, Inv1 h2 → GoL l E L xs false (cells + 4) (slots + 1203) 1447 (LJ j) [] h2) : GoL l E L xs false cells slots 972 (LJ j) [] h := by
  obtain ⟨na, np, nl, ns, nt, Tl, I, C⟩ := V
  refine gl_rc I.1.s79 ?_
  refine gl_aload_n (i := 1) (a := 9) rfl rfl dL_972 ?_
  refine gl_arg (k := 1) dL_973 dL_974 dL_975 dL_976 dL_977 (by decide) hL hj (by decide) ?_
  refine gl_call8 (Y' := YX8_safe) (as := [.int (xs (j + 1))]) (rest := []) mw_984 mw_985 mw_986 mw_100 mw_987 rfl okmX8_safe (by decide) (Nat.le_of_ble_eq_true rfl) (by omega) (by omega) rfl dL_978 (by decide) I.1.s9 (k_safe I C (d := 0) fun v h1 ask => ?_)
  show GoL l E L xs true (cells + 0) (slots + 0) 981 (LJ j) [.int v] h1
  refine gl_aload_n (i := 2) (a := 79) rfl rfl dL_981 ?_
  refine gl_arg (k := 1) dL_982 dL_983 dL_984 dL_985 dL_986 (by decide) hL hj (by decide) ?_
  refine gl_call9 (Y' := YX9_safe) (as := [.int (xs (j + 1))]) (rest := [.int v]) mw_1701 mw_1702 mw_1703 mw_108 mw_1704 rfl okmX9_safe (by decide) (Nat.le_of_ble_eq_true rfl) (by omega) (by omega) rfl dL_987 (by simp [catS, Value.category]) (ask _ fun h2 I2 C2 => ?_)
  show GoL l E L xs true (cells + 0 + 0) (slots + 0 + 0) 990 (LJ j) [.int v, .int v] h2
  refine gl_same (tgt := 1447) (by decide) dL_990 ?_
  exact gl_forget (gl_widen (by omega) (by omega) (K h2 ⟨na, np, nl, ns, nt, Tl, I2, C2⟩))
set_option maxRecDepth 100000 in
theorem lc_unsf {cells slots j : Nat} {h : Hp} (hL : L ≤ 3072) (hj : j + 6 ≤ L) (hc : cells + 4 ≤ 600000) (hs : slots + 1203 ≤ 7302250) (V : Inv1 h) (K : ∀ h2, Inv1 h2 → GoL l E L xs false (cells + 4) (slots + 1203) 1447 (LJ j) [] h2) : GoL l E L xs false cells slots 995 (LJ j) [] h := by
  obtain ⟨na, np, nl, ns, nt, Tl, I, C⟩ := V
  refine gl_rc I.1.s79 ?_
  refine gl_aload_n (i := 1) (a := 9) rfl rfl dL_995 ?_
  refine gl_arg (k := 1) dL_996 dL_997 dL_998 dL_999 dL_1000 (by decide) hL hj (by decide) ?_
  refine gl_call8 (Y' := YX8_unsf) (as := [.int (xs (j + 1))]) (rest := []) mw_992 mw_993 mw_994 mw_100 mw_995 rfl okmX8_unsf (by decide) (Nat.le_of_ble_eq_true rfl) (by omega) (by omega) rfl dL_1001 (by decide) I.1.s9 (k_unsf I C (d := 0) fun v h1 ask => ?_)
  show GoL l E L xs true (cells + 0) (slots + 0) 1004 (LJ j) [.int v] h1
  refine gl_aload_n (i := 2) (a := 79) rfl rfl dL_1004 ?_
  refine gl_arg (k := 1) dL_1005 dL_1006 dL_1007 dL_1008 dL_1009 (by decide) hL hj (by decide) ?_
  refine gl_call9 (Y' := YX9_unsf) (as := [.int (xs (j + 1))]) (rest := [.int v]) mw_1710 mw_1711 mw_1712 mw_108 mw_1713 rfl okmX9_unsf (by decide) (Nat.le_of_ble_eq_true rfl) (by omega) (by omega) rfl dL_1010 (by simp [catS, Value.category]) (ask _ fun h2 I2 C2 => ?_)
  show GoL l E L xs true (cells + 0 + 0) (slots + 0 + 0) 1013 (LJ j) [.int v, .int v] h2
  refine gl_same (tgt := 1447) (by decide) dL_1013 ?_
  exact gl_forget (gl_widen (by omega) (by omega) (K h2 ⟨na, np, nl, ns, nt, Tl, I2, C2⟩))
theorem lc_most {cells slots j : Nat} {h : Hp} (hL : L ≤ 3072) (hj : j + 6 ≤ L) (hc : cells + 4 ≤ 600000) (hs : slots + 1203 ≤ 7302250) (V : Inv1 h) (K : ∀ h2, Inv1 h2 → GoL l E L xs false (cells + 4) (slots + 1203) 1447 (LJ j) [] h2) : GoL l E L xs false cells slots 1018 (LJ j) [] h := by
  obtain ⟨na, np, nl, ns, nt, Tl, I, C⟩ := V
  refine gl_rc I.1.s79 ?_
  refine gl_aload_n (i := 1) (a := 9) rfl rfl dL_1018 ?_
  refine gl_call8 (Y' := YX8_most) (as := []) (rest := []) mw_996 mw_997 mw_998 mw_100 mw_999 rfl okmX8_most (by decide) (Nat.le_of_ble_eq_true rfl) (by omega) (by omega) rfl dL_1019 (by decide) I.1.s9 (k_most I C (d := 0) fun v h1 ask => ?_)
  show GoL l E L xs true (cells + 0) (slots + 0) 1022 (LJ j) [.int v] h1
  refine gl_aload_n (i := 2) (a := 79) rfl rfl dL_1022 ?_
  refine gl_call9 (Y' := YX9_most) (as := []) (rest := [.int v]) mw_1714 mw_1715 mw_1716 mw_108 mw_1717 rfl okmX9_most (by decide) (Nat.le_of_ble_eq_true rfl) (by omega) (by omega) rfl dL_1023 (by simp [catS, Value.category]) (ask _ fun h2 I2 C2 => ?_)
  show GoL l E L xs true (cells + 0 + 0) (slots + 0 + 0) 1026 (LJ j) [.int v, .int v] h2
  refine gl_same (tgt := 1447) (by decide) dL_1026 ?_
  exact gl_forget (gl_widen (by omega) (by omega) (K h2 ⟨na, np, nl, ns, nt, Tl, I2, C2⟩))
theorem lc_missed {cells slots j : Nat} {h : Hp} (hL : L ≤ 3072) (hj : j + 6 ≤ L) (hc : cells + 4 ≤ 600000) (hs : slots + 1203 ≤ 7302250) (V : Inv1 h) (K : ∀ h2, Inv1 h2 → GoL l E L xs false (cells + 4) (slots + 1203) 1447 (LJ j) [] h2) : GoL l E L xs false cells slots 1031 (LJ j) [] h := by
  obtain ⟨na, np, nl, ns, nt, Tl, I, C⟩ := V
  refine gl_rc I.1.s79 ?_
  refine gl_aload_n (i := 1) (a := 9) rfl rfl dL_1031 ?_
  refine gl_arg (k := 1) dL_1032 dL_1033 dL_1034 dL_1035 dL_1036 (by decide) hL hj (by decide) ?_
  refine gl_call8 (Y' := YX8_missed) (as := [.int (xs (j + 1))]) (rest := []) mw_1001 mw_1002 mw_1003 mw_100 mw_1004 rfl okmX8_missed (by decide) (Nat.le_of_ble_eq_true rfl) (by omega) (by omega) rfl dL_1037 (by decide) I.1.s9 (k_missed I C (d := 0) fun v h1 ask => ?_)
  show GoL l E L xs true (cells + 0) (slots + 0) 1040 (LJ j) [.int v] h1
  refine gl_aload_n (i := 2) (a := 79) rfl rfl dL_1040 ?_
  refine gl_arg (k := 1) dL_1041 dL_1042 dL_1043 dL_1044 dL_1045 (by decide) hL hj (by decide) ?_
  refine gl_call9 (Y' := YX9_missed) (as := [.int (xs (j + 1))]) (rest := [.int v]) mw_1718 mw_1719 mw_1720 mw_108 mw_1721 rfl okmX9_missed (by decide) (Nat.le_of_ble_eq_true rfl) (by omega) (by omega) rfl dL_1046 (by simp [catS, Value.category]) (ask _ fun h2 I2 C2 => ?_)
  show GoL l E L xs true (cells + 0 + 0) (slots + 0 + 0) 1049 (LJ j) [.int v, .int v] h2
  refine gl_same (tgt := 1447) (by decide) dL_1049 ?_
  exact gl_forget (gl_widen (by omega) (by omega) (K h2 ⟨na, np, nl, ns, nt, Tl, I2, C2⟩))
theorem lc_key {cells slots j : Nat} {h : Hp} (hL : L ≤ 3072) (hj : j + 6 ≤ L) (hc : cells + 4 ≤ 600000) (hs : slots + 1203 ≤ 7302250) (V : Inv1 h) (K : ∀ h2, Inv1 h2 → GoL l E L xs false (cells + 4) (slots + 1203) 1447 (LJ j) [] h2) : GoL l E L xs false cells slots 1054 (LJ j) [] h := by
  obtain ⟨na, np, nl, ns, nt, Tl, I, C⟩ := V
  refine gl_rc I.1.s79 ?_
  refine gl_aload_n (i := 1) (a := 9) rfl rfl dL_1054 ?_
  refine gl_arg (k := 1) dL_1055 dL_1056 dL_1057 dL_1058 dL_1059 (by decide) hL hj (by decide) ?_
  refine gl_call8 (Y' := YX8_key) (as := [.int (xs (j + 1))]) (rest := []) mw_1005 mw_1006 mw_1007 mw_100 mw_1008 rfl okmX8_key (by decide) (Nat.le_of_ble_eq_true rfl) (by omega) (by omega) rfl dL_1060 (by decide) I.1.s9 (k_key I C (d := 0) fun v h1 ask => ?_)
  show GoL l E L xs true (cells + 0) (slots + 0) 1063 (LJ j) [.int v] h1
  refine gl_aload_n (i := 2) (a := 79) rfl rfl dL_1063 ?_
  refine gl_arg (k := 1) dL_1064 dL_1065 dL_1066 dL_1067 dL_1068 (by decide) hL hj (by decide) ?_
  refine gl_call9 (Y' := YX9_key) (as := [.int (xs (j + 1))]) (rest := [.int v]) mw_1722 mw_1723 mw_1724 mw_108 mw_1725 rfl okmX9_key (by decide) (Nat.le_of_ble_eq_true rfl) (by omega) (by omega) rfl dL_1069 (by simp [catS, Value.category]) (ask _ fun h2 I2 C2 => ?_)
  show GoL l E L xs true (cells + 0 + 0) (slots + 0 + 0) 1072 (LJ j) [.int v, .int v] h2
  refine gl_same (tgt := 1447) (by decide) dL_1072 ?_
  exact gl_forget (gl_widen (by omega) (by omega) (K h2 ⟨na, np, nl, ns, nt, Tl, I2, C2⟩))
theorem lc_odds {cells slots j : Nat} {h : Hp} (hL : L ≤ 3072) (hj : j + 6 ≤ L) (hc : cells + 4 ≤ 600000) (hs : slots + 1203 ≤ 7302250) (V : Inv1 h) (K : ∀ h2, Inv1 h2 → GoL l E L xs false (cells + 4) (slots + 1203) 1447 (LJ j) [] h2) : GoL l E L xs false cells slots 1077 (LJ j) [] h := by
  obtain ⟨na, np, nl, ns, nt, Tl, I, C⟩ := V
  refine gl_rc I.1.s79 ?_
  refine gl_aload_n (i := 1) (a := 9) rfl rfl dL_1077 ?_
  refine gl_arg (k := 1) dL_1078 dL_1079 dL_1080 dL_1081 dL_1082 (by decide) hL hj (by decide) ?_
  refine gl_call8 (Y' := YX8_odds) (as := [.int (xs (j + 1))]) (rest := []) mw_1013 mw_1014 mw_1015 mw_100 mw_1016 rfl okmX8_odds (by decide) (Nat.le_of_ble_eq_true rfl) (by omega) (by omega) rfl dL_1083 (by decide) I.1.s9 (k_odds I C (d := 0) fun v h1 ask => ?_)
  show GoL l E L xs true (cells + 0) (slots + 0) 1086 (LJ j) [.long v] h1
  refine gl_aload_n (i := 2) (a := 79) rfl rfl dL_1086 ?_
  refine gl_arg (k := 1) dL_1087 dL_1088 dL_1089 dL_1090 dL_1091 (by decide) hL hj (by decide) ?_
  refine gl_call9 (Y' := YX9_odds) (as := [.int (xs (j + 1))]) (rest := [.long v]) mw_1726 mw_1727 mw_1728 mw_108 mw_1729 rfl okmX9_odds (by decide) (Nat.le_of_ble_eq_true rfl) (by omega) (by omega) rfl dL_1092 (by simp [catS, Value.category]) (ask _ fun h2 I2 C2 => ?_)
  show GoL l E L xs true (cells + 0 + 0) (slots + 0 + 0) 1095 (LJ j) [.long v, .long v] h2
  refine gl_sameL (tgt := 1447) (by decide) dL_1095 dL_1096 ?_
  exact gl_forget (gl_widen (by omega) (by omega) (K h2 ⟨na, np, nl, ns, nt, Tl, I2, C2⟩))
theorem lc_lesson {cells slots j : Nat} {h : Hp} (hL : L ≤ 3072) (hj : j + 6 ≤ L) (hc : cells + 4 ≤ 600000) (hs : slots + 1203 ≤ 7302250) (V : Inv1 h) (K : ∀ h2, Inv1 h2 → GoL l E L xs false (cells + 4) (slots + 1203) 1447 (LJ j) [] h2) : GoL l E L xs false cells slots 1101 (LJ j) [] h := by
  obtain ⟨na, np, nl, ns, nt, Tl, I, C⟩ := V
  refine gl_rc I.1.s79 ?_
  refine gl_aload_n (i := 1) (a := 9) rfl rfl dL_1101 ?_
  refine gl_arg (k := 1) dL_1102 dL_1103 dL_1104 dL_1105 dL_1106 (by decide) hL hj (by decide) ?_
  refine gl_arg (k := 2) dL_1107 dL_1108 dL_1109 dL_1110 dL_1111 (by decide) hL hj (by decide) ?_
  refine gl_arg (k := 3) dL_1112 dL_1113 dL_1114 dL_1115 dL_1116 (by decide) hL hj (by decide) ?_
  refine gl_arg (k := 4) dL_1117 dL_1118 dL_1119 dL_1120 dL_1121 (by decide) hL hj (by decide) ?_
  refine gl_call8 (Y' := YX8_lesson) (as := [.int (xs (j + 1)), .int (xs (j + 2)), .int (xs (j + 3)), .int (xs (j + 4))]) (rest := []) mw_1034 mw_1035 mw_1036 mw_100 mw_1037 rfl okmX8_lesson (by decide) (Nat.le_of_ble_eq_true rfl) (by omega) (by omega) rfl dL_1122 (by decide) I.1.s9 (k_lesson I (d := 0) fun v h1 ask => ?_)
  show GoL l E L xs true (cells + 0) (slots + 0) 1125 (LJ j) [.int v] h1
  refine gl_aload_n (i := 2) (a := 79) rfl rfl dL_1125 ?_
  refine gl_arg (k := 1) dL_1126 dL_1127 dL_1128 dL_1129 dL_1130 (by decide) hL hj (by decide) ?_
  refine gl_arg (k := 2) dL_1131 dL_1132 dL_1133 dL_1134 dL_1135 (by decide) hL hj (by decide) ?_
  refine gl_arg (k := 3) dL_1136 dL_1137 dL_1138 dL_1139 dL_1140 (by decide) hL hj (by decide) ?_
  refine gl_arg (k := 4) dL_1141 dL_1142 dL_1143 dL_1144 dL_1145 (by decide) hL hj (by decide) ?_
  refine gl_call9 (Y' := YX9_lesson) (as := [.int (xs (j + 1)), .int (xs (j + 2)), .int (xs (j + 3)), .int (xs (j + 4))]) (rest := [.int v]) mw_1730 mw_1731 mw_1732 mw_108 mw_1733 rfl okmX9_lesson (by decide) (Nat.le_of_ble_eq_true rfl) (by omega) (by omega) rfl dL_1146 (by simp [catS, Value.category]) (ask _ fun h2 N => ?_)
  show GoL l E L xs true (cells + 0 + 0) (slots + 0 + 0) 1149 (LJ j) [.int v, .int v] h2
  refine gl_same (tgt := 1447) (by decide) dL_1149 ?_
  exact gl_forget (gl_widen (by omega) (by omega) (K h2 (N.inv1 C)))
theorem lc_drop {cells slots j : Nat} {h : Hp} (hL : L ≤ 3072) (hj : j + 6 ≤ L) (hc : cells + 4 ≤ 600000) (hs : slots + 1203 ≤ 7302250) (V : Inv1 h) (K : ∀ h2, Inv1 h2 → GoL l E L xs false (cells + 4) (slots + 1203) 1447 (LJ j) [] h2) : GoL l E L xs false cells slots 1154 (LJ j) [] h := by
  obtain ⟨na, np, nl, ns, nt, Tl, I, C⟩ := V
  refine gl_rc I.1.s79 ?_
  refine gl_aload_n (i := 1) (a := 9) rfl rfl dL_1154 ?_
  refine gl_arg (k := 1) dL_1155 dL_1156 dL_1157 dL_1158 dL_1159 (by decide) hL hj (by decide) ?_
  refine gl_call8 (Y' := YX8_drop) (as := [.int (xs (j + 1))]) (rest := []) mw_1038 mw_1039 mw_1040 mw_100 mw_1041 rfl okmX8_drop (by decide) (Nat.le_of_ble_eq_true rfl) (by omega) (by omega) rfl dL_1160 (by decide) I.1.s9 (k_drop I (d := 0) fun v h1 ask => ?_)
  show GoL l E L xs true (cells + 0) (slots + 0) 1163 (LJ j) [.int v] h1
  refine gl_aload_n (i := 2) (a := 79) rfl rfl dL_1163 ?_
  refine gl_arg (k := 1) dL_1164 dL_1165 dL_1166 dL_1167 dL_1168 (by decide) hL hj (by decide) ?_
  refine gl_call9 (Y' := YX9_drop) (as := [.int (xs (j + 1))]) (rest := [.int v]) mw_1734 mw_1735 mw_1736 mw_108 mw_1737 rfl okmX9_drop (by decide) (Nat.le_of_ble_eq_true rfl) (by omega) (by omega) rfl dL_1169 (by simp [catS, Value.category]) (ask _ fun h2 N => ?_)
  show GoL l E L xs true (cells + 0 + 0) (slots + 0 + 0) 1172 (LJ j) [.int v, .int v] h2
  refine gl_same (tgt := 1447) (by decide) dL_1172 ?_
  exact gl_forget (gl_widen (by omega) (by omega) (K h2 (N.inv1 C)))
theorem lc_learn {cells slots j : Nat} {h : Hp} (hL : L ≤ 3072) (hj : j + 6 ≤ L) (hc : cells + 4 ≤ 600000) (hs : slots + 1203 ≤ 7302250) (V : Inv1 h) (K : ∀ h2, Inv1 h2 → GoL l E L xs false (cells + 4) (slots + 1203) 1447 (LJ j) [] h2) : GoL l E L xs false cells slots 1177 (LJ j) [] h := by
  obtain ⟨na, np, nl, ns, nt, Tl, I, C⟩ := V
  refine gl_rc I.1.s79 ?_
  refine gl_aload_n (i := 1) (a := 9) rfl rfl dL_1177 ?_
  refine gl_arg (k := 1) dL_1178 dL_1179 dL_1180 dL_1181 dL_1182 (by decide) hL hj (by decide) ?_
  refine gl_arg (k := 2) dL_1183 dL_1184 dL_1185 dL_1186 dL_1187 (by decide) hL hj (by decide) ?_
  refine gl_call8 (Y' := YX8_learn) (as := [.int (xs (j + 1)), .int (xs (j + 2))]) (rest := []) mw_1047 mw_1048 mw_1049 mw_100 mw_1050 rfl okmX8_learn (by decide) (Nat.le_of_ble_eq_true rfl) (by omega) (by omega) rfl dL_1188 (by decide) I.1.s9 (k_learn I C (d := 0) fun v h1 ask => ?_)
  show GoL l E L xs true (cells + 0) (slots + 0) 1191 (LJ j) [.int v] h1
  refine gl_aload_n (i := 2) (a := 79) rfl rfl dL_1191 ?_
  refine gl_arg (k := 1) dL_1192 dL_1193 dL_1194 dL_1195 dL_1196 (by decide) hL hj (by decide) ?_
  refine gl_arg (k := 2) dL_1197 dL_1198 dL_1199 dL_1200 dL_1201 (by decide) hL hj (by decide) ?_
  refine gl_call9 (Y' := YX9_learn) (as := [.int (xs (j + 1)), .int (xs (j + 2))]) (rest := [.int v]) mw_1746 mw_1747 mw_1748 mw_108 mw_1749 rfl okmX9_learn (by decide) (Nat.le_of_ble_eq_true rfl) (by omega) (by omega) rfl dL_1202 (by simp [catS, Value.category]) (ask _ fun h2 I2 C2 => ?_)
  show GoL l E L xs true (cells + 0 + 0) (slots + 0 + 0) 1205 (LJ j) [.int v, .int v] h2
  refine gl_same (tgt := 1447) (by decide) dL_1205 ?_
  exact gl_forget (gl_widen (by omega) (by omega) (K h2 ⟨na, np, nl, ns, nt, Tl, I2, C2⟩))
theorem lc_worth {cells slots j : Nat} {h : Hp} (hL : L ≤ 3072) (hj : j + 6 ≤ L) (hc : cells + 4 ≤ 600000) (hs : slots + 1203 ≤ 7302250) (V : Inv1 h) (K : ∀ h2, Inv1 h2 → GoL l E L xs false (cells + 4) (slots + 1203) 1447 (LJ j) [] h2) : GoL l E L xs false cells slots 1210 (LJ j) [] h := by
  obtain ⟨na, np, nl, ns, nt, Tl, I, C⟩ := V
  refine gl_rc I.1.s79 ?_
  refine gl_aload_n (i := 1) (a := 9) rfl rfl dL_1210 ?_
  refine gl_arg (k := 1) dL_1211 dL_1212 dL_1213 dL_1214 dL_1215 (by decide) hL hj (by decide) ?_
  refine gl_arg (k := 2) dL_1216 dL_1217 dL_1218 dL_1219 dL_1220 (by decide) hL hj (by decide) ?_
  refine gl_call8 (Y' := YX8_worth) (as := [.int (xs (j + 1)), .int (xs (j + 2))]) (rest := []) mw_1090 mw_1091 mw_1092 mw_100 mw_1093 rfl okmX8_worth (by decide) (Nat.le_of_ble_eq_true rfl) (by omega) (by omega) rfl dL_1221 (by decide) I.1.s9 (k_worth I C (d := 0) fun v h1 ask => ?_)
  show GoL l E L xs true (cells + 0) (slots + 0) 1224 (LJ j) [.int v] h1
  refine gl_aload_n (i := 2) (a := 79) rfl rfl dL_1224 ?_
  refine gl_arg (k := 1) dL_1225 dL_1226 dL_1227 dL_1228 dL_1229 (by decide) hL hj (by decide) ?_
  refine gl_arg (k := 2) dL_1230 dL_1231 dL_1232 dL_1233 dL_1234 (by decide) hL hj (by decide) ?_
  refine gl_call9 (Y' := YX9_worth) (as := [.int (xs (j + 1)), .int (xs (j + 2))]) (rest := [.int v]) mw_1758 mw_1759 mw_1760 mw_108 mw_1761 rfl okmX9_worth (by decide) (Nat.le_of_ble_eq_true rfl) (by omega) (by omega) rfl dL_1235 (by simp [catS, Value.category]) (ask _ fun h2 I2 C2 => ?_)
  show GoL l E L xs true (cells + 0 + 0) (slots + 0 + 0) 1238 (LJ j) [.int v, .int v] h2
  refine gl_same (tgt := 1447) (by decide) dL_1238 ?_
  exact gl_forget (gl_widen (by omega) (by omega) (K h2 ⟨na, np, nl, ns, nt, Tl, I2, C2⟩))
theorem lc_teach {cells slots j : Nat} {h : Hp} (hL : L ≤ 3072) (hj : j + 6 ≤ L) (hc : cells + 4 ≤ 600000) (hs : slots + 1203 ≤ 7302250) (V : Inv1 h) (K : ∀ h2, Inv1 h2 → GoL l E L xs false (cells + 4) (slots + 1203) 1447 (LJ j) [] h2) : GoL l E L xs false cells slots 1243 (LJ j) [] h := by
  obtain ⟨na, np, nl, ns, nt, Tl, I, C⟩ := V
  refine gl_rc I.1.s79 ?_
  refine gl_aload_n (i := 1) (a := 9) rfl rfl dL_1243 ?_
  refine gl_arg (k := 1) dL_1244 dL_1245 dL_1246 dL_1247 dL_1248 (by decide) hL hj (by decide) ?_
  refine gl_call8 (Y' := YX8_teach) (as := [.int (xs (j + 1))]) (rest := []) mw_1094 mw_1095 mw_1096 mw_100 mw_1097 rfl okmX8_teach (by decide) (Nat.le_of_ble_eq_true rfl) (by omega) (by omega) rfl dL_1249 (by decide) I.1.s9 (k_teach I (d := 0) fun v h1 ask => ?_)
  show GoL l E L xs true (cells + 0) (slots + 0) 1252 (LJ j) [.int v] h1
  refine gl_aload_n (i := 2) (a := 79) rfl rfl dL_1252 ?_
  refine gl_arg (k := 1) dL_1253 dL_1254 dL_1255 dL_1256 dL_1257 (by decide) hL hj (by decide) ?_
  refine gl_call9 (Y' := YX9_teach) (as := [.int (xs (j + 1))]) (rest := [.int v]) mw_1762 mw_1763 mw_1764 mw_108 mw_1765 rfl okmX9_teach (by decide) (Nat.le_of_ble_eq_true rfl) (by omega) (by omega) rfl dL_1258 (by simp [catS, Value.category]) (ask _ fun h2 N => ?_)
  show GoL l E L xs true (cells + 0 + 0) (slots + 0 + 0) 1261 (LJ j) [.int v, .int v] h2
  refine gl_same (tgt := 1447) (by decide) dL_1261 ?_
  exact gl_forget (gl_widen (by omega) (by omega) (K h2 (N.inv1 C)))
theorem lc_season {cells slots j : Nat} {h : Hp} (hL : L ≤ 3072) (hj : j + 6 ≤ L) (hc : cells + 4 ≤ 600000) (hs : slots + 1203 ≤ 7302250) (V : Inv1 h) (K : ∀ h2, Inv1 h2 → GoL l E L xs false (cells + 4) (slots + 1203) 1447 (LJ j) [] h2) : GoL l E L xs false cells slots 1266 (LJ j) [] h := by
  obtain ⟨na, np, nl, ns, nt, Tl, I, C⟩ := V
  refine gl_rc I.1.s79 ?_
  refine gl_aload_n (i := 1) (a := 9) rfl rfl dL_1266 ?_
  refine gl_arg (k := 1) dL_1267 dL_1268 dL_1269 dL_1270 dL_1271 (by decide) hL hj (by decide) ?_
  refine gl_arg (k := 2) dL_1272 dL_1273 dL_1274 dL_1275 dL_1276 (by decide) hL hj (by decide) ?_
  refine gl_call8 (Y' := YX8_season) (as := [.int (xs (j + 1)), .int (xs (j + 2))]) (rest := []) mw_1099 mw_1100 mw_1101 mw_100 mw_1102 rfl okmX8_season (by decide) (Nat.le_of_ble_eq_true rfl) (by omega) (by omega) rfl dL_1277 (by decide) I.1.s9 (k_season I (d := 0) fun v h1 ask => ?_)
  show GoL l E L xs true (cells + 0) (slots + 0) 1280 (LJ j) [.int v] h1
  refine gl_aload_n (i := 2) (a := 79) rfl rfl dL_1280 ?_
  refine gl_arg (k := 1) dL_1281 dL_1282 dL_1283 dL_1284 dL_1285 (by decide) hL hj (by decide) ?_
  refine gl_arg (k := 2) dL_1286 dL_1287 dL_1288 dL_1289 dL_1290 (by decide) hL hj (by decide) ?_
  refine gl_call9 (Y' := YX9_season) (as := [.int (xs (j + 1)), .int (xs (j + 2))]) (rest := [.int v]) mw_1766 mw_1767 mw_1768 mw_108 mw_1769 rfl okmX9_season (by decide) (Nat.le_of_ble_eq_true rfl) (by omega) (by omega) rfl dL_1291 (by simp [catS, Value.category]) (ask _ fun h2 N => ?_)
  show GoL l E L xs true (cells + 0 + 0) (slots + 0 + 0) 1294 (LJ j) [.int v, .int v] h2
  refine gl_same (tgt := 1447) (by decide) dL_1294 ?_
  exact gl_forget (gl_widen (by omega) (by omega) (K h2 (N.inv1 C)))
theorem lc_week {cells slots j : Nat} {h : Hp} (hL : L ≤ 3072) (hj : j + 6 ≤ L) (hc : cells + 4 ≤ 600000) (hs : slots + 1203 ≤ 7302250) (V : Inv1 h) (K : ∀ h2, Inv1 h2 → GoL l E L xs false (cells + 4) (slots + 1203) 1447 (LJ j) [] h2) : GoL l E L xs false cells slots 1299 (LJ j) [] h := by
  obtain ⟨na, np, nl, ns, nt, Tl, I, C⟩ := V
  refine gl_rc I.1.s79 ?_
  refine gl_aload_n (i := 1) (a := 9) rfl rfl dL_1299 ?_
  refine gl_arg (k := 1) dL_1300 dL_1301 dL_1302 dL_1303 dL_1304 (by decide) hL hj (by decide) ?_
  refine gl_arg (k := 2) dL_1305 dL_1306 dL_1307 dL_1308 dL_1309 (by decide) hL hj (by decide) ?_
  refine gl_call8 (Y' := YX8_week) (as := [.int (xs (j + 1)), .int (xs (j + 2))]) (rest := []) mw_1129 mw_1130 mw_1131 mw_100 mw_1132 rfl okmX8_week (by decide) (Nat.le_of_ble_eq_true rfl) (by omega) (by omega) rfl dL_1310 (by decide) I.1.s9 (k_week I (d := 0) fun v h1 ask => ?_)
  show GoL l E L xs true (cells + 0) (slots + 0) 1313 (LJ j) [.int v] h1
  refine gl_aload_n (i := 2) (a := 79) rfl rfl dL_1313 ?_
  refine gl_arg (k := 1) dL_1314 dL_1315 dL_1316 dL_1317 dL_1318 (by decide) hL hj (by decide) ?_
  refine gl_arg (k := 2) dL_1319 dL_1320 dL_1321 dL_1322 dL_1323 (by decide) hL hj (by decide) ?_
  refine gl_call9 (Y' := YX9_week) (as := [.int (xs (j + 1)), .int (xs (j + 2))]) (rest := [.int v]) mw_1778 mw_1779 mw_1780 mw_108 mw_1781 rfl okmX9_week (by decide) (Nat.le_of_ble_eq_true rfl) (by omega) (by omega) rfl dL_1324 (by simp [catS, Value.category]) (ask _ fun h2 N => ?_)
  show GoL l E L xs true (cells + 0 + 0) (slots + 0 + 0) 1327 (LJ j) [.int v, .int v] h2
  refine gl_same (tgt := 1447) (by decide) dL_1327 ?_
  exact gl_forget (gl_widen (by omega) (by omega) (K h2 (N.inv1 C)))
theorem lc_learnt {cells slots j : Nat} {h : Hp} (hL : L ≤ 3072) (hj : j + 6 ≤ L) (hc : cells + 4 ≤ 600000) (hs : slots + 1203 ≤ 7302250) (V : Inv1 h) (K : ∀ h2, Inv1 h2 → GoL l E L xs false (cells + 4) (slots + 1203) 1447 (LJ j) [] h2) : GoL l E L xs false cells slots 1332 (LJ j) [] h := by
  obtain ⟨na, np, nl, ns, nt, Tl, I, C⟩ := V
  refine gl_rc I.1.s79 ?_
  refine gl_aload_n (i := 1) (a := 9) rfl rfl dL_1332 ?_
  refine gl_arg (k := 1) dL_1333 dL_1334 dL_1335 dL_1336 dL_1337 (by decide) hL hj (by decide) ?_
  refine gl_arg (k := 2) dL_1338 dL_1339 dL_1340 dL_1341 dL_1342 (by decide) hL hj (by decide) ?_
  refine gl_call8 (Y' := YX8_learnt) (as := [.int (xs (j + 1)), .int (xs (j + 2))]) (rest := []) mw_1133 mw_1134 mw_1135 mw_100 mw_1136 rfl okmX8_learnt (by decide) (Nat.le_of_ble_eq_true rfl) (by omega) (by omega) rfl dL_1343 (by decide) I.1.s9 (k_learnt I (d := 0) fun v h1 ask => ?_)
  show GoL l E L xs true (cells + 0) (slots + 0) 1346 (LJ j) [.int v] h1
  refine gl_aload_n (i := 2) (a := 79) rfl rfl dL_1346 ?_
  refine gl_arg (k := 1) dL_1347 dL_1348 dL_1349 dL_1350 dL_1351 (by decide) hL hj (by decide) ?_
  refine gl_arg (k := 2) dL_1352 dL_1353 dL_1354 dL_1355 dL_1356 (by decide) hL hj (by decide) ?_
  refine gl_call9 (Y' := YX9_learnt) (as := [.int (xs (j + 1)), .int (xs (j + 2))]) (rest := [.int v]) mw_1782 mw_1783 mw_1784 mw_108 mw_1785 rfl okmX9_learnt (by decide) (Nat.le_of_ble_eq_true rfl) (by omega) (by omega) rfl dL_1357 (by simp [catS, Value.category]) (ask _ fun h2 N => ?_)
  show GoL l E L xs true (cells + 0 + 0) (slots + 0 + 0) 1360 (LJ j) [.int v, .int v] h2
  refine gl_same (tgt := 1447) (by decide) dL_1360 ?_
  exact gl_forget (gl_widen (by omega) (by omega) (K h2 (N.inv1 C)))
theorem lc_image {cells slots j : Nat} {h : Hp} (hL : L ≤ 3072) (hj : j + 6 ≤ L) (hc : cells + 4 ≤ 600000) (hs : slots + 1203 ≤ 7302250) (V : Inv1 h) (K : ∀ h2, Inv1 h2 → GoL l E L xs false (cells + 4) (slots + 1203) 1447 (LJ j) [] h2) : GoL l E L xs false cells slots 1365 (LJ j) [] h := by
  obtain ⟨na, np, nl, ns, nt, Tl, I, C⟩ := V
  refine gl_rc I.1.s79 ?_
  refine gl_aload_n (i := 1) (a := 9) rfl rfl dL_1365 ?_
  refine gl_arg (k := 1) dL_1366 dL_1367 dL_1368 dL_1369 dL_1370 (by decide) hL hj (by decide) ?_
  refine gl_call8 (Y' := YX8_image) (as := [.int (xs (j + 1))]) (rest := []) mw_1137 mw_1138 mw_1139 mw_100 mw_1140 rfl okmX8_image (by decide) (Nat.le_of_ble_eq_true rfl) (by omega) (by omega) rfl dL_1371 (by decide) I.1.s9 (k_image I (d := 0) fun v h1 ask => ?_)
  show GoL l E L xs true (cells + 0) (slots + 0) 1374 (LJ j) [.int v] h1
  refine gl_aload_n (i := 2) (a := 79) rfl rfl dL_1374 ?_
  refine gl_arg (k := 1) dL_1375 dL_1376 dL_1377 dL_1378 dL_1379 (by decide) hL hj (by decide) ?_
  refine gl_call9 (Y' := YX9_image) (as := [.int (xs (j + 1))]) (rest := [.int v]) mw_1344 mw_1345 mw_1346 mw_108 mw_1347 rfl okmX9_image (by decide) (Nat.le_of_ble_eq_true rfl) (by omega) (by omega) rfl dL_1380 (by simp [catS, Value.category]) (ask _ fun h2 N => ?_)
  show GoL l E L xs true (cells + 0 + 0) (slots + 0 + 0) 1383 (LJ j) [.int v, .int v] h2
  refine gl_same (tgt := 1447) (by decide) dL_1383 ?_
  exact gl_forget (gl_widen (by omega) (by omega) (K h2 (N.inv1 C)))
theorem lc_back {cells slots j : Nat} {h : Hp} (hL : L ≤ 3072) (hj : j + 6 ≤ L) (hc : cells + 4 ≤ 600000) (hs : slots + 1203 ≤ 7302250) (V : Inv1 h) (K : ∀ h2, Inv1 h2 → GoL l E L xs false (cells + 4) (slots + 1203) 1447 (LJ j) [] h2) : GoL l E L xs false cells slots 1388 (LJ j) [] h := by
  obtain ⟨na, np, nl, ns, nt, Tl, I, C⟩ := V
  refine gl_rc I.1.s79 ?_
  refine gl_aload_n (i := 1) (a := 9) rfl rfl dL_1388 ?_
  refine gl_arg (k := 1) dL_1389 dL_1390 dL_1391 dL_1392 dL_1393 (by decide) hL hj (by decide) ?_
  refine gl_call8 (Y' := YX8_back) (as := [.int (xs (j + 1))]) (rest := []) mw_1145 mw_1146 mw_1147 mw_100 mw_1148 rfl okmX8_back (by decide) (Nat.le_of_ble_eq_true rfl) (by omega) (by omega) rfl dL_1394 (by decide) I.1.s9 (k_back I (d := 0) fun v h1 ask => ?_)
  show GoL l E L xs true (cells + 0) (slots + 0) 1397 (LJ j) [.int v] h1
  refine gl_aload_n (i := 2) (a := 79) rfl rfl dL_1397 ?_
  refine gl_arg (k := 1) dL_1398 dL_1399 dL_1400 dL_1401 dL_1402 (by decide) hL hj (by decide) ?_
  refine gl_call9 (Y' := YX9_back) (as := [.int (xs (j + 1))]) (rest := [.int v]) mw_1355 mw_1356 mw_1357 mw_108 mw_1358 rfl okmX9_back (by decide) (Nat.le_of_ble_eq_true rfl) (by omega) (by omega) rfl dL_1403 (by simp [catS, Value.category]) (ask _ fun h2 N => ?_)
  show GoL l E L xs true (cells + 0 + 0) (slots + 0 + 0) 1406 (LJ j) [.int v, .int v] h2
  refine gl_same (tgt := 1447) (by decide) dL_1406 ?_
  exact gl_forget (gl_widen (by omega) (by omega) (K h2 (N.inv1 C)))
theorem lc_count {cells slots j : Nat} {h : Hp} (hL : L ≤ 3072) (hj : j + 6 ≤ L) (hc : cells + 4 ≤ 600000) (hs : slots + 1203 ≤ 7302250) (V : Inv1 h) (K : ∀ h2, Inv1 h2 → GoL l E L xs false (cells + 4) (slots + 1203) 1447 (LJ j) [] h2) : GoL l E L xs false cells slots 1411 (LJ j) [] h := by
  obtain ⟨na, np, nl, ns, nt, Tl, I, C⟩ := V
  refine gl_rc I.1.s79 ?_
  refine gl_aload_n (i := 1) (a := 9) rfl rfl dL_1411 ?_
  refine gl_arg (k := 1) dL_1412 dL_1413 dL_1414 dL_1415 dL_1416 (by decide) hL hj (by decide) ?_
  refine gl_call8 (Y' := YX8_count) (as := [.int (xs (j + 1))]) (rest := []) mw_1149 mw_1150 mw_1151 mw_100 mw_1152 rfl okmX8_count (by decide) (Nat.le_of_ble_eq_true rfl) (by omega) (by omega) rfl dL_1417 (by decide) I.1.s9 (k_count I (d := 0) fun v h1 ask => ?_)
  show GoL l E L xs true (cells + 0) (slots + 0) 1420 (LJ j) [.int v] h1
  refine gl_aload_n (i := 2) (a := 79) rfl rfl dL_1420 ?_
  refine gl_arg (k := 1) dL_1421 dL_1422 dL_1423 dL_1424 dL_1425 (by decide) hL hj (by decide) ?_
  refine gl_call9 (Y' := YX9_count) (as := [.int (xs (j + 1))]) (rest := [.int v]) mw_1786 mw_1787 mw_1788 mw_108 mw_1789 rfl okmX9_count (by decide) (Nat.le_of_ble_eq_true rfl) (by omega) (by omega) rfl dL_1426 (by simp [catS, Value.category]) (ask _ fun h2 N => ?_)
  show GoL l E L xs true (cells + 0 + 0) (slots + 0 + 0) 1429 (LJ j) [.int v, .int v] h2
  refine gl_same (tgt := 1447) (by decide) dL_1429 ?_
  exact gl_forget (gl_widen (by omega) (by omega) (K h2 (N.inv1 C)))
theorem lc_status {cells slots j : Nat} {h : Hp} (hL : L ≤ 3072) (hj : j + 6 ≤ L) (hc : cells + 4 ≤ 600000) (hs : slots + 1203 ≤ 7302250) (V : Inv1 h) (K : ∀ h2, Inv1 h2 → GoL l E L xs false (cells + 4) (slots + 1203) 1447 (LJ j) [] h2) : GoL l E L xs false cells slots 1434 (LJ j) [] h := by
  obtain ⟨na, np, nl, ns, nt, Tl, I, C⟩ := V
  refine gl_rc I.1.s79 ?_
  refine gl_aload_n (i := 1) (a := 9) rfl rfl dL_1434 ?_
  refine gl_call8 (Y' := YX8_status) (as := []) (rest := []) mw_1153 mw_1154 mw_1155 mw_100 mw_1156 rfl okmX8_status (by decide) (Nat.le_of_ble_eq_true rfl) (by omega) (by omega) rfl dL_1435 (by decide) I.1.s9 (k_status I (d := 0) fun v h1 ask => ?_)
  show GoL l E L xs true (cells + 0) (slots + 0) 1438 (LJ j) [.int v] h1
  refine gl_aload_n (i := 2) (a := 79) rfl rfl dL_1438 ?_
  refine gl_call9 (Y' := YX9_status) (as := []) (rest := [.int v]) mw_1790 mw_1791 mw_1792 mw_108 mw_1793 rfl okmX9_status (by decide) (Nat.le_of_ble_eq_true rfl) (by omega) (by omega) rfl dL_1439 (by simp [catS, Value.category]) (ask _ fun h2 N => ?_)
  show GoL l E L xs true (cells + 0 + 0) (slots + 0 + 0) 1442 (LJ j) [.int v, .int v] h2
  refine gl_same (tgt := 1447) (by decide) dL_1442 ?_
  exact gl_forget (gl_widen (by omega) (by omega) (K h2 (N.inv1 C)))
def lTgs : List Nat := [224, 277, 320, 363, 406, 439, 482, 525, 548, 581, 644, 667, 680, 693, 706, 719, 742, 765, 788, 801, 834, 867, 890, 903, 926, 949, 972, 995, 1018, 1031, 1054, 1077, 1101, 1154, 1177, 1210, 1243, 1266, 1299, 1332, 1365, 1388, 1411, 1434]
theorem lc_all {cells slots j : Nat} {h : Hp} (hL : L ≤ 3072) (hj : j + 6 ≤ L) (hc : cells + 4 ≤ 600000) (hs : slots + 1203 ≤ 7302250) (V : Inv1 h) (K : ∀ h2, Inv1 h2 → GoL l E L xs false (cells + 4) (slots + 1203) 1447 (LJ j) [] h2) : ∀ k, k < 44 → GoL l E L xs false cells slots (lTgs.getD k 0) (LJ j) [] h := by
  intro k hk
  match k, hk with
    | 0, _ => exact lc_actor hL hj hc hs V K
    | 1, _ => exact lc_part hL hj hc hs V K
    | 2, _ => exact lc_turn hL hj hc hs V K
    | 3, _ => exact lc_alter hL hj hc hs V K
    | 4, _ => exact lc_usual hL hj hc hs V K
    | 5, _ => exact lc_knows hL hj hc hs V K
    | 6, _ => exact lc_of hL hj hc hs V K
    | 7, _ => exact lc_ill hL hj hc hs V K
    | 8, _ => exact lc_terms hL hj hc hs V K
    | 9, _ => exact lc_feed hL hj hc hs V K
    | 10, _ => exact lc_end hL hj hc hs V K
    | 11, _ => exact lc_row hL hj hc hs V K
    | 12, _ => exact lc_forgot hL hj hc hs V K
    | 13, _ => exact lc_law hL hj hc hs V K
    | 14, _ => exact lc_fault hL hj hc hs V K
    | 15, _ => exact lc_force hL hj hc hs V K
    | 16, _ => exact lc_night hL hj hc hs V K
    | 17, _ => exact lc_who hL hj hc hs V K
    | 18, _ => exact lc_changed hL hj hc hs V K
    | 19, _ => exact lc_chain hL hj hc hs V K
    | 20, _ => exact lc_nth hL hj hc hs V K
    | 21, _ => exact lc_gives hL hj hc hs V K
    | 22, _ => exact lc_clear hL hj hc hs V K
    | 23, _ => exact lc_judge hL hj hc hs V K
    | 24, _ => exact lc_shut hL hj hc hs V K
    | 25, _ => exact lc_closing hL hj hc hs V K
    | 26, _ => exact lc_safe hL hj hc hs V K
    | 27, _ => exact lc_unsf hL hj hc hs V K
    | 28, _ => exact lc_most hL hj hc hs V K
    | 29, _ => exact lc_missed hL hj hc hs V K
    | 30, _ => exact lc_key hL hj hc hs V K
    | 31, _ => exact lc_odds hL hj hc hs V K
    | 32, _ => exact lc_lesson hL hj hc hs V K
    | 33, _ => exact lc_drop hL hj hc hs V K
    | 34, _ => exact lc_learn hL hj hc hs V K
    | 35, _ => exact lc_worth hL hj hc hs V K
    | 36, _ => exact lc_teach hL hj hc hs V K
    | 37, _ => exact lc_season hL hj hc hs V K
    | 38, _ => exact lc_week hL hj hc hs V K
    | 39, _ => exact lc_learnt hL hj hc hs V K
    | 40, _ => exact lc_image hL hj hc hs V K
    | 41, _ => exact lc_back hL hj hc hs V K
    | 42, _ => exact lc_count hL hj hc hs V K
    | 43, _ => exact lc_status hL hj hc hs V K
    | k + 44, hk => exact absurd hk (by omega)
end LC
