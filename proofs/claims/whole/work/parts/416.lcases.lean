/-! PRINTED (lawcases.py): the law's cases: both sides answer the same -/
section ABlcases
variable {b L : Nat} {xs : Nat → Int32} {l : Launch} {D : va_G} {ac : Nat → ClassId} {k n : Nat} {M : ab_M} {i : Nat}
theorem law_c0 (hI : Inv M) (hi : i + 6 ≤ L) (hL : L ≤ 3072) (hkn : k ≤ 601024 ∧ n ≤ 7293034) (kk : ∀ M2, Inv M2 → EL b L xs l D ac k n ab_SH 1375 (lvL i) [] M2) : EL b L xs l D ac k n ab_SH 204 (lvL i) [] M := by
  obtain ⟨σ, p, hI⟩ := hI
  obtain ⟨v, M1, M2, h1, h2, h3⟩ := o_mast hI (xs (i + 1)) (xs (i + 2)) (xs (i + 3)) (xs (i + 4))
  refine eg_aload_n dL_law_204 rfl ?_
  refine el_arg 1 dL_law_205 dL_law_206 dL_law_208 dL_law_209 dL_law_210 rfl rfl rfl (by decide) hi hL ?_
  refine el_arg 2 dL_law_211 dL_law_212 dL_law_214 dL_law_215 dL_law_216 rfl rfl rfl (by decide) hi hL ?_
  refine el_arg 3 dL_law_217 dL_law_218 dL_law_220 dL_law_221 dL_law_222 rfl rfl rfl (by decide) hi hL ?_
  refine el_arg 4 dL_law_223 dL_law_224 dL_law_226 dL_law_227 dL_law_228 rfl rfl rfl (by decide) hi hL ?_
  refine eg_callV (o := 0) (as := [.int (xs (i + 1)), .int (xs (i + 2)), .int (xs (i + 3)), .int (xs (i + 4))]) (st := []) (co_X9_mast M _ _ _ _ _ h1) mv_X9_mast sh_0 ml_RL_21 dL_law_229 ⟨by decide, by decide⟩ rfl (Nat.le_of_ble_eq_true rfl) hkn ?_
  refine eg_aload_n dL_law_232 rfl ?_
  refine el_arg 1 dL_law_233 dL_law_234 dL_law_236 dL_law_237 dL_law_238 rfl rfl rfl (by decide) hi hL ?_
  refine el_arg 2 dL_law_239 dL_law_240 dL_law_242 dL_law_243 dL_law_244 rfl rfl rfl (by decide) hi hL ?_
  refine el_arg 3 dL_law_245 dL_law_246 dL_law_248 dL_law_249 dL_law_250 rfl rfl rfl (by decide) hi hL ?_
  refine el_arg 4 dL_law_251 dL_law_252 dL_law_254 dL_law_255 dL_law_256 rfl rfl rfl (by decide) hi hL ?_
  refine eg_callV (o := 69) (as := [.int (xs (i + 1)), .int (xs (i + 2)), .int (xs (i + 3)), .int (xs (i + 4))]) (st := [.int v]) (co_X10_mast M1 _ _ _ _ _ h2) mv_X10_mast sh_69 ml_RL_25 dL_law_257 ⟨by decide, by decide⟩ rfl (Nat.le_of_ble_eq_true rfl) hkn ?_
  exact eg_icmp_eq (t := 1375) dL_law_260 (by decide) (fun _ => kk M2 h3) (fun hc => absurd rfl hc)
theorem law_c1 (hI : Inv M) (hi : i + 6 ≤ L) (hL : L ≤ 3072) (hkn : k ≤ 601024 ∧ n ≤ 7293034) (kk : ∀ M2, Inv M2 → EL b L xs l D ac k n ab_SH 1375 (lvL i) [] M2) : EL b L xs l D ac k n ab_SH 265 (lvL i) [] M := by
  obtain ⟨σ, p, hI⟩ := hI
  obtain ⟨v, M1, M2, h1, h2, h3⟩ := o_move hI (xs (i + 1)) (xs (i + 2))
  refine eg_aload_n dL_law_265 rfl ?_
  refine el_arg 1 dL_law_266 dL_law_267 dL_law_269 dL_law_270 dL_law_271 rfl rfl rfl (by decide) hi hL ?_
  refine el_arg 2 dL_law_272 dL_law_273 dL_law_275 dL_law_276 dL_law_277 rfl rfl rfl (by decide) hi hL ?_
  refine eg_callV (o := 0) (as := [.int (xs (i + 1)), .int (xs (i + 2))]) (st := []) (co_X9_move M _ _ _ h1) mv_X9_move sh_0 ml_RL_26 dL_law_278 ⟨by decide, by decide⟩ rfl (Nat.le_of_ble_eq_true rfl) hkn ?_
  refine eg_aload_n dL_law_281 rfl ?_
  refine el_arg 1 dL_law_282 dL_law_283 dL_law_285 dL_law_286 dL_law_287 rfl rfl rfl (by decide) hi hL ?_
  refine el_arg 2 dL_law_288 dL_law_289 dL_law_291 dL_law_292 dL_law_293 rfl rfl rfl (by decide) hi hL ?_
  refine eg_callV (o := 69) (as := [.int (xs (i + 1)), .int (xs (i + 2))]) (st := [.int v]) (co_X10_move M1 _ _ _ h2) mv_X10_move sh_69 ml_RL_30 dL_law_294 ⟨by decide, by decide⟩ rfl (Nat.le_of_ble_eq_true rfl) hkn ?_
  exact eg_icmp_eq (t := 1375) dL_law_297 (by decide) (fun _ => kk M2 h3) (fun hc => absurd rfl hc)
theorem law_c2 (hI : Inv M) (hi : i + 6 ≤ L) (hL : L ≤ 3072) (hkn : k ≤ 601024 ∧ n ≤ 7293034) (kk : ∀ M2, Inv M2 → EL b L xs l D ac k n ab_SH 1375 (lvL i) [] M2) : EL b L xs l D ac k n ab_SH 302 (lvL i) [] M := by
  obtain ⟨σ, p, hI⟩ := hI
  obtain ⟨v, M1, M2, h1, h2, h3⟩ := o_list hI (xs (i + 1)) (xs (i + 2))
  refine eg_aload_n dL_law_302 rfl ?_
  refine el_arg 1 dL_law_303 dL_law_304 dL_law_306 dL_law_307 dL_law_308 rfl rfl rfl (by decide) hi hL ?_
  refine el_arg 2 dL_law_309 dL_law_310 dL_law_312 dL_law_313 dL_law_314 rfl rfl rfl (by decide) hi hL ?_
  refine eg_callV (o := 0) (as := [.int (xs (i + 1)), .int (xs (i + 2))]) (st := []) (co_X9_list M _ _ _ h1) mv_X9_list sh_0 ml_RL_31 dL_law_315 ⟨by decide, by decide⟩ rfl (Nat.le_of_ble_eq_true rfl) hkn ?_
  refine eg_aload_n dL_law_318 rfl ?_
  refine el_arg 1 dL_law_319 dL_law_320 dL_law_322 dL_law_323 dL_law_324 rfl rfl rfl (by decide) hi hL ?_
  refine el_arg 2 dL_law_325 dL_law_326 dL_law_328 dL_law_329 dL_law_330 rfl rfl rfl (by decide) hi hL ?_
  refine eg_callV (o := 69) (as := [.int (xs (i + 1)), .int (xs (i + 2))]) (st := [.int v]) (co_X10_list M1 _ _ _ h2) mv_X10_list sh_69 ml_RL_34 dL_law_331 ⟨by decide, by decide⟩ rfl (Nat.le_of_ble_eq_true rfl) hkn ?_
  exact eg_icmp_eq (t := 1375) dL_law_334 (by decide) (fun _ => kk M2 h3) (fun hc => absurd rfl hc)
theorem law_c3 (hI : Inv M) (hi : i + 6 ≤ L) (hL : L ≤ 3072) (hkn : k ≤ 601024 ∧ n ≤ 7293034) (kk : ∀ M2, Inv M2 → EL b L xs l D ac k n ab_SH 1375 (lvL i) [] M2) : EL b L xs l D ac k n ab_SH 339 (lvL i) [] M := by
  obtain ⟨σ, p, hI⟩ := hI
  obtain ⟨v, M1, M2, h1, h2, h3⟩ := o_gap hI (xs (i + 1)) (xs (i + 2))
  refine eg_aload_n dL_law_339 rfl ?_
  refine el_arg 1 dL_law_340 dL_law_341 dL_law_343 dL_law_344 dL_law_345 rfl rfl rfl (by decide) hi hL ?_
  refine el_arg 2 dL_law_346 dL_law_347 dL_law_349 dL_law_350 dL_law_351 rfl rfl rfl (by decide) hi hL ?_
  refine eg_callV (o := 0) (as := [.int (xs (i + 1)), .int (xs (i + 2))]) (st := []) (co_X9_gap M _ _ _ h1) mv_X9_gap sh_0 ml_RL_35 dL_law_352 ⟨by decide, by decide⟩ rfl (Nat.le_of_ble_eq_true rfl) hkn ?_
  refine eg_aload_n dL_law_355 rfl ?_
  refine el_arg 1 dL_law_356 dL_law_357 dL_law_359 dL_law_360 dL_law_361 rfl rfl rfl (by decide) hi hL ?_
  refine el_arg 2 dL_law_362 dL_law_363 dL_law_365 dL_law_366 dL_law_367 rfl rfl rfl (by decide) hi hL ?_
  refine eg_callV (o := 69) (as := [.int (xs (i + 1)), .int (xs (i + 2))]) (st := [.int v]) (co_X10_gap M1 _ _ _ h2) mv_X10_gap sh_69 ml_RL_38 dL_law_368 ⟨by decide, by decide⟩ rfl (Nat.le_of_ble_eq_true rfl) hkn ?_
  exact eg_icmp_eq (t := 1375) dL_law_371 (by decide) (fun _ => kk M2 h3) (fun hc => absurd rfl hc)
theorem law_c4 (hI : Inv M) (hi : i + 6 ≤ L) (hL : L ≤ 3072) (hkn : k ≤ 601024 ∧ n ≤ 7293034) (kk : ∀ M2, Inv M2 → EL b L xs l D ac k n ab_SH 1375 (lvL i) [] M2) : EL b L xs l D ac k n ab_SH 376 (lvL i) [] M := by
  obtain ⟨σ, p, hI⟩ := hI
  obtain ⟨v, M1, M2, h1, h2, h3⟩ := o_stay hI (xs (i + 1)) (xs (i + 2))
  refine eg_aload_n dL_law_376 rfl ?_
  refine el_arg 1 dL_law_377 dL_law_378 dL_law_380 dL_law_381 dL_law_382 rfl rfl rfl (by decide) hi hL ?_
  refine el_arg 2 dL_law_383 dL_law_384 dL_law_386 dL_law_387 dL_law_388 rfl rfl rfl (by decide) hi hL ?_
  refine eg_callV (o := 0) (as := [.int (xs (i + 1)), .int (xs (i + 2))]) (st := []) (co_X9_stay M _ _ _ h1) mv_X9_stay sh_0 ml_RL_39 dL_law_389 ⟨by decide, by decide⟩ rfl (Nat.le_of_ble_eq_true rfl) hkn ?_
  refine eg_aload_n dL_law_392 rfl ?_
  refine el_arg 1 dL_law_393 dL_law_394 dL_law_396 dL_law_397 dL_law_398 rfl rfl rfl (by decide) hi hL ?_
  refine el_arg 2 dL_law_399 dL_law_400 dL_law_402 dL_law_403 dL_law_404 rfl rfl rfl (by decide) hi hL ?_
  refine eg_callV (o := 69) (as := [.int (xs (i + 1)), .int (xs (i + 2))]) (st := [.int v]) (co_X10_stay M1 _ _ _ h2) mv_X10_stay sh_69 ml_RL_42 dL_law_405 ⟨by decide, by decide⟩ rfl (Nat.le_of_ble_eq_true rfl) hkn ?_
  exact eg_icmp_eq (t := 1375) dL_law_408 (by decide) (fun _ => kk M2 h3) (fun hc => absurd rfl hc)
theorem law_c5 (hI : Inv M) (hi : i + 6 ≤ L) (hL : L ≤ 3072) (hkn : k ≤ 601024 ∧ n ≤ 7293034) (kk : ∀ M2, Inv M2 → EL b L xs l D ac k n ab_SH 1375 (lvL i) [] M2) : EL b L xs l D ac k n ab_SH 413 (lvL i) [] M := by
  obtain ⟨σ, p, hI⟩ := hI
  obtain ⟨v, M1, M2, h1, h2, h3⟩ := o_row hI (xs (i + 1)) (xs (i + 2)) (xs (i + 3))
  refine eg_aload_n dL_law_413 rfl ?_
  refine el_arg 1 dL_law_414 dL_law_415 dL_law_417 dL_law_418 dL_law_419 rfl rfl rfl (by decide) hi hL ?_
  refine el_arg 2 dL_law_420 dL_law_421 dL_law_423 dL_law_424 dL_law_425 rfl rfl rfl (by decide) hi hL ?_
  refine el_arg 3 dL_law_426 dL_law_427 dL_law_429 dL_law_430 dL_law_431 rfl rfl rfl (by decide) hi hL ?_
  refine eg_callV (o := 0) (as := [.int (xs (i + 1)), .int (xs (i + 2)), .int (xs (i + 3))]) (st := []) (co_X9_row M _ _ _ _ h1) mv_X9_row sh_0 ml_RL_43 dL_law_432 ⟨by decide, by decide⟩ rfl (Nat.le_of_ble_eq_true rfl) hkn ?_
  refine eg_aload_n dL_law_435 rfl ?_
  refine el_arg 1 dL_law_436 dL_law_437 dL_law_439 dL_law_440 dL_law_441 rfl rfl rfl (by decide) hi hL ?_
  refine el_arg 2 dL_law_442 dL_law_443 dL_law_445 dL_law_446 dL_law_447 rfl rfl rfl (by decide) hi hL ?_
  refine el_arg 3 dL_law_448 dL_law_449 dL_law_451 dL_law_452 dL_law_453 rfl rfl rfl (by decide) hi hL ?_
  refine eg_callV (o := 69) (as := [.int (xs (i + 1)), .int (xs (i + 2)), .int (xs (i + 3))]) (st := [.int v]) (co_X10_row M1 _ _ _ _ h2) mv_X10_row sh_69 ml_RL_47 dL_law_454 ⟨by decide, by decide⟩ rfl (Nat.le_of_ble_eq_true rfl) hkn ?_
  exact eg_icmp_eq (t := 1375) dL_law_457 (by decide) (fun _ => kk M2 h3) (fun hc => absurd rfl hc)
theorem law_c6 (hI : Inv M) (hi : i + 6 ≤ L) (hL : L ≤ 3072) (hkn : k ≤ 601024 ∧ n ≤ 7293034) (kk : ∀ M2, Inv M2 → EL b L xs l D ac k n ab_SH 1375 (lvL i) [] M2) : EL b L xs l D ac k n ab_SH 462 (lvL i) [] M := by
  obtain ⟨σ, p, hI⟩ := hI
  obtain ⟨v, M1, M2, h1, h2, h3⟩ := o_own hI (xs (i + 1)) (xs (i + 2))
  refine eg_aload_n dL_law_462 rfl ?_
  refine el_arg 1 dL_law_463 dL_law_464 dL_law_466 dL_law_467 dL_law_468 rfl rfl rfl (by decide) hi hL ?_
  refine el_arg 2 dL_law_469 dL_law_470 dL_law_472 dL_law_473 dL_law_474 rfl rfl rfl (by decide) hi hL ?_
  refine eg_callV (o := 0) (as := [.int (xs (i + 1)), .int (xs (i + 2))]) (st := []) (co_X9_own M _ _ _ h1) mv_X9_own sh_0 ml_RL_48 dL_law_475 ⟨by decide, by decide⟩ rfl (Nat.le_of_ble_eq_true rfl) hkn ?_
  refine eg_aload_n dL_law_478 rfl ?_
  refine el_arg 1 dL_law_479 dL_law_480 dL_law_482 dL_law_483 dL_law_484 rfl rfl rfl (by decide) hi hL ?_
  refine el_arg 2 dL_law_485 dL_law_486 dL_law_488 dL_law_489 dL_law_490 rfl rfl rfl (by decide) hi hL ?_
  refine eg_callV (o := 69) (as := [.int (xs (i + 1)), .int (xs (i + 2))]) (st := [.int v]) (co_X10_own M1 _ _ _ h2) mv_X10_own sh_69 ml_RL_51 dL_law_491 ⟨by decide, by decide⟩ rfl (Nat.le_of_ble_eq_true rfl) hkn ?_
  exact eg_icmp_eq (t := 1375) dL_law_494 (by decide) (fun _ => kk M2 h3) (fun hc => absurd rfl hc)
theorem law_c7 (hI : Inv M) (hi : i + 6 ≤ L) (hL : L ≤ 3072) (hkn : k ≤ 601024 ∧ n ≤ 7293034) (kk : ∀ M2, Inv M2 → EL b L xs l D ac k n ab_SH 1375 (lvL i) [] M2) : EL b L xs l D ac k n ab_SH 499 (lvL i) [] M := by
  obtain ⟨σ, p, hI⟩ := hI
  obtain ⟨v, M1, M2, h1, h2, h3⟩ := o_border hI (xs (i + 1)) (xs (i + 2)) (xs (i + 3)) (xs (i + 4))
  refine eg_aload_n dL_law_499 rfl ?_
  refine el_arg 1 dL_law_500 dL_law_501 dL_law_503 dL_law_504 dL_law_505 rfl rfl rfl (by decide) hi hL ?_
  refine el_arg 2 dL_law_506 dL_law_507 dL_law_509 dL_law_510 dL_law_511 rfl rfl rfl (by decide) hi hL ?_
  refine el_arg 3 dL_law_512 dL_law_513 dL_law_515 dL_law_516 dL_law_517 rfl rfl rfl (by decide) hi hL ?_
  refine el_arg 4 dL_law_518 dL_law_519 dL_law_521 dL_law_522 dL_law_523 rfl rfl rfl (by decide) hi hL ?_
  refine eg_callV (o := 0) (as := [.int (xs (i + 1)), .int (xs (i + 2)), .int (xs (i + 3)), .int (xs (i + 4))]) (st := []) (co_X9_border M _ _ _ _ _ h1) mv_X9_border sh_0 ml_RL_52 dL_law_524 ⟨by decide, by decide⟩ rfl (Nat.le_of_ble_eq_true rfl) hkn ?_
  refine eg_aload_n dL_law_527 rfl ?_
  refine el_arg 1 dL_law_528 dL_law_529 dL_law_531 dL_law_532 dL_law_533 rfl rfl rfl (by decide) hi hL ?_
  refine el_arg 2 dL_law_534 dL_law_535 dL_law_537 dL_law_538 dL_law_539 rfl rfl rfl (by decide) hi hL ?_
  refine el_arg 3 dL_law_540 dL_law_541 dL_law_543 dL_law_544 dL_law_545 rfl rfl rfl (by decide) hi hL ?_
  refine el_arg 4 dL_law_546 dL_law_547 dL_law_549 dL_law_550 dL_law_551 rfl rfl rfl (by decide) hi hL ?_
  refine eg_callV (o := 69) (as := [.int (xs (i + 1)), .int (xs (i + 2)), .int (xs (i + 3)), .int (xs (i + 4))]) (st := [.int v]) (co_X10_border M1 _ _ _ _ _ h2) mv_X10_border sh_69 ml_RL_55 dL_law_552 ⟨by decide, by decide⟩ rfl (Nat.le_of_ble_eq_true rfl) hkn ?_
  exact eg_icmp_eq (t := 1375) dL_law_555 (by decide) (fun _ => kk M2 h3) (fun hc => absurd rfl hc)
theorem law_c8 (hI : Inv M) (hi : i + 6 ≤ L) (hL : L ≤ 3072) (hkn : k ≤ 601024 ∧ n ≤ 7293034) (kk : ∀ M2, Inv M2 → EL b L xs l D ac k n ab_SH 1375 (lvL i) [] M2) : EL b L xs l D ac k n ab_SH 560 (lvL i) [] M := by
  obtain ⟨σ, p, hI⟩ := hI
  obtain ⟨v, M1, M2, h1, h2, h3⟩ := o_turn hI 
  refine eg_aload_n dL_law_560 rfl ?_
  refine eg_callV (o := 0) (as := []) (st := []) (co_X9_turn M  _ h1) mv_X9_turn sh_0 ml_RL_56 dL_law_561 ⟨by decide, by decide⟩ rfl (Nat.le_of_ble_eq_true rfl) hkn ?_
  refine eg_aload_n dL_law_564 rfl ?_
  refine eg_callV (o := 69) (as := []) (st := [.int v]) (co_X10_turn M1  _ h2) mv_X10_turn sh_69 ml_RL_60 dL_law_565 ⟨by decide, by decide⟩ rfl (Nat.le_of_ble_eq_true rfl) hkn ?_
  exact eg_icmp_eq (t := 1375) dL_law_568 (by decide) (fun _ => kk M2 h3) (fun hc => absurd rfl hc)
theorem law_c9 (hI : Inv M) (hi : i + 6 ≤ L) (hL : L ≤ 3072) (hkn : k ≤ 601024 ∧ n ≤ 7293034) (kk : ∀ M2, Inv M2 → EL b L xs l D ac k n ab_SH 1375 (lvL i) [] M2) : EL b L xs l D ac k n ab_SH 573 (lvL i) [] M := by
  obtain ⟨σ, p, hI⟩ := hI
  obtain ⟨v, M2, h1, h2, h3⟩ := o_bar hI (xs (i + 1)) (xs (i + 2))
  refine eg_aload_n dL_law_573 rfl ?_
  refine el_arg 1 dL_law_574 dL_law_575 dL_law_577 dL_law_578 dL_law_579 rfl rfl rfl (by decide) hi hL ?_
  refine el_arg 2 dL_law_580 dL_law_581 dL_law_583 dL_law_584 dL_law_585 rfl rfl rfl (by decide) hi hL ?_
  refine eg_callV (o := 0) (as := [.int (xs (i + 1)), .int (xs (i + 2))]) (st := []) (co_X9_bar M _ _ _ h1) mv_X9_bar sh_0 ml_RL_61 dL_law_586 ⟨by decide, by decide⟩ rfl (Nat.le_of_ble_eq_true rfl) hkn ?_
  refine eg_aload_n dL_law_589 rfl ?_
  refine el_arg 1 dL_law_590 dL_law_591 dL_law_593 dL_law_594 dL_law_595 rfl rfl rfl (by decide) hi hL ?_
  refine el_arg 2 dL_law_596 dL_law_597 dL_law_599 dL_law_600 dL_law_601 rfl rfl rfl (by decide) hi hL ?_
  refine eg_callV (o := 69) (as := [.int (xs (i + 1)), .int (xs (i + 2))]) (st := [.int v]) (co_X10_bar M _ _ _ h2) mv_X10_bar sh_69 ml_RL_64 dL_law_602 ⟨by decide, by decide⟩ rfl (Nat.le_of_ble_eq_true rfl) hkn ?_
  exact eg_icmp_eq (t := 1375) dL_law_605 (by decide) (fun _ => kk M2 h3) (fun hc => absurd rfl hc)
theorem law_c10 (hI : Inv M) (hi : i + 6 ≤ L) (hL : L ≤ 3072) (hkn : k ≤ 601024 ∧ n ≤ 7293034) (kk : ∀ M2, Inv M2 → EL b L xs l D ac k n ab_SH 1375 (lvL i) [] M2) : EL b L xs l D ac k n ab_SH 610 (lvL i) [] M := by
  obtain ⟨σ, p, hI⟩ := hI
  obtain ⟨v, M2, h1, h2, h3⟩ := o_may hI (xs (i + 1)) (xs (i + 2))
  refine eg_aload_n dL_law_610 rfl ?_
  refine el_arg 1 dL_law_611 dL_law_612 dL_law_614 dL_law_615 dL_law_616 rfl rfl rfl (by decide) hi hL ?_
  refine el_arg 2 dL_law_617 dL_law_618 dL_law_620 dL_law_621 dL_law_622 rfl rfl rfl (by decide) hi hL ?_
  refine eg_callV (o := 0) (as := [.int (xs (i + 1)), .int (xs (i + 2))]) (st := []) (co_X9_may M _ _ _ h1) mv_X9_may sh_0 ml_RL_65 dL_law_623 ⟨by decide, by decide⟩ rfl (Nat.le_of_ble_eq_true rfl) hkn ?_
  refine eg_aload_n dL_law_626 rfl ?_
  refine el_arg 1 dL_law_627 dL_law_628 dL_law_630 dL_law_631 dL_law_632 rfl rfl rfl (by decide) hi hL ?_
  refine el_arg 2 dL_law_633 dL_law_634 dL_law_636 dL_law_637 dL_law_638 rfl rfl rfl (by decide) hi hL ?_
  refine eg_callV (o := 69) (as := [.int (xs (i + 1)), .int (xs (i + 2))]) (st := [.int v]) (co_X10_may M _ _ _ h2) mv_X10_may sh_69 ml_RL_68 dL_law_639 ⟨by decide, by decide⟩ rfl (Nat.le_of_ble_eq_true rfl) hkn ?_
  exact eg_icmp_eq (t := 1375) dL_law_642 (by decide) (fun _ => kk M2 h3) (fun hc => absurd rfl hc)
theorem law_c11 (hI : Inv M) (hi : i + 6 ≤ L) (hL : L ≤ 3072) (hkn : k ≤ 601024 ∧ n ≤ 7293034) (kk : ∀ M2, Inv M2 → EL b L xs l D ac k n ab_SH 1375 (lvL i) [] M2) : EL b L xs l D ac k n ab_SH 647 (lvL i) [] M := by
  obtain ⟨σ, p, hI⟩ := hI
  obtain ⟨v, M1, M2, h1, h2, h3⟩ := o_set hI (xs (i + 1)) (xs (i + 2))
  refine eg_aload_n dL_law_647 rfl ?_
  refine el_arg 1 dL_law_648 dL_law_649 dL_law_651 dL_law_652 dL_law_653 rfl rfl rfl (by decide) hi hL ?_
  refine el_arg 2 dL_law_654 dL_law_655 dL_law_657 dL_law_658 dL_law_659 rfl rfl rfl (by decide) hi hL ?_
  refine eg_callV (o := 0) (as := [.int (xs (i + 1)), .int (xs (i + 2))]) (st := []) (co_X9_set M _ _ _ h1) mv_X9_set sh_0 ml_RL_69 dL_law_660 ⟨by decide, by decide⟩ rfl (Nat.le_of_ble_eq_true rfl) hkn ?_
  refine eg_aload_n dL_law_663 rfl ?_
  refine el_arg 1 dL_law_664 dL_law_665 dL_law_667 dL_law_668 dL_law_669 rfl rfl rfl (by decide) hi hL ?_
  refine el_arg 2 dL_law_670 dL_law_671 dL_law_673 dL_law_674 dL_law_675 rfl rfl rfl (by decide) hi hL ?_
  refine eg_callV (o := 69) (as := [.int (xs (i + 1)), .int (xs (i + 2))]) (st := [.int v]) (co_X10_set M1 _ _ _ h2) mv_X10_set sh_69 ml_RL_72 dL_law_676 ⟨by decide, by decide⟩ rfl (Nat.le_of_ble_eq_true rfl) hkn ?_
  exact eg_icmp_eq (t := 1375) dL_law_679 (by decide) (fun _ => kk M2 h3) (fun hc => absurd rfl hc)
theorem law_c12 (hI : Inv M) (hi : i + 6 ≤ L) (hL : L ≤ 3072) (hkn : k ≤ 601024 ∧ n ≤ 7293034) (kk : ∀ M2, Inv M2 → EL b L xs l D ac k n ab_SH 1375 (lvL i) [] M2) : EL b L xs l D ac k n ab_SH 684 (lvL i) [] M := by
  obtain ⟨σ, p, hI⟩ := hI
  obtain ⟨v, M2, h1, h2, h3⟩ := o_channel hI (xs (i + 1))
  refine eg_aload_n dL_law_684 rfl ?_
  refine el_arg 1 dL_law_685 dL_law_686 dL_law_688 dL_law_689 dL_law_690 rfl rfl rfl (by decide) hi hL ?_
  refine eg_callV (o := 0) (as := [.int (xs (i + 1))]) (st := []) (co_X9_channel M _ _ h1) mv_X9_channel sh_0 ml_RL_73 dL_law_691 ⟨by decide, by decide⟩ rfl (Nat.le_of_ble_eq_true rfl) hkn ?_
  refine eg_aload_n dL_law_694 rfl ?_
  refine el_arg 1 dL_law_695 dL_law_696 dL_law_698 dL_law_699 dL_law_700 rfl rfl rfl (by decide) hi hL ?_
  refine eg_callV (o := 69) (as := [.int (xs (i + 1))]) (st := [.int v]) (co_X10_channel M _ _ h2) mv_X10_channel sh_69 ml_RL_77 dL_law_701 ⟨by decide, by decide⟩ rfl (Nat.le_of_ble_eq_true rfl) hkn ?_
  exact eg_icmp_eq (t := 1375) dL_law_704 (by decide) (fun _ => kk M2 h3) (fun hc => absurd rfl hc)
theorem law_c13 (hI : Inv M) (hi : i + 6 ≤ L) (hL : L ≤ 3072) (hkn : k ≤ 601024 ∧ n ≤ 7293034) (kk : ∀ M2, Inv M2 → EL b L xs l D ac k n ab_SH 1375 (lvL i) [] M2) : EL b L xs l D ac k n ab_SH 709 (lvL i) [] M := by
  obtain ⟨σ, p, hI⟩ := hI
  obtain ⟨v, M2, h1, h2, h3⟩ := o_of hI (xs (i + 1))
  refine eg_aload_n dL_law_709 rfl ?_
  refine el_arg 1 dL_law_710 dL_law_711 dL_law_713 dL_law_714 dL_law_715 rfl rfl rfl (by decide) hi hL ?_
  refine eg_callV (o := 0) (as := [.int (xs (i + 1))]) (st := []) (co_X9_of M _ _ h1) mv_X9_of sh_0 ml_RL_78 dL_law_716 ⟨by decide, by decide⟩ rfl (Nat.le_of_ble_eq_true rfl) hkn ?_
  refine eg_aload_n dL_law_719 rfl ?_
  refine el_arg 1 dL_law_720 dL_law_721 dL_law_723 dL_law_724 dL_law_725 rfl rfl rfl (by decide) hi hL ?_
  refine eg_callV (o := 69) (as := [.int (xs (i + 1))]) (st := [.int v]) (co_X10_of M _ _ h2) mv_X10_of sh_69 ml_RL_81 dL_law_726 ⟨by decide, by decide⟩ rfl (Nat.le_of_ble_eq_true rfl) hkn ?_
  exact eg_icmp_eq (t := 1375) dL_law_729 (by decide) (fun _ => kk M2 h3) (fun hc => absurd rfl hc)
theorem law_c14 (hI : Inv M) (hi : i + 6 ≤ L) (hL : L ≤ 3072) (hkn : k ≤ 601024 ∧ n ≤ 7293034) (kk : ∀ M2, Inv M2 → EL b L xs l D ac k n ab_SH 1375 (lvL i) [] M2) : EL b L xs l D ac k n ab_SH 734 (lvL i) [] M := by
  obtain ⟨σ, p, hI⟩ := hI
  obtain ⟨v, M2, h1, h2, h3⟩ := o_harm hI 
  refine eg_aload_n dL_law_734 rfl ?_
  refine eg_callV (o := 0) (as := []) (st := []) (co_X9_harm M  _ h1) mv_X9_harm sh_0 ml_RL_82 dL_law_735 ⟨by decide, by decide⟩ rfl (Nat.le_of_ble_eq_true rfl) hkn ?_
  refine eg_aload_n dL_law_738 rfl ?_
  refine eg_callV (o := 69) (as := []) (st := [.int v]) (co_X10_harm M  _ h2) mv_X10_harm sh_69 ml_RL_85 dL_law_739 ⟨by decide, by decide⟩ rfl (Nat.le_of_ble_eq_true rfl) hkn ?_
  exact eg_icmp_eq (t := 1375) dL_law_742 (by decide) (fun _ => kk M2 h3) (fun hc => absurd rfl hc)
theorem law_c15 (hI : Inv M) (hi : i + 6 ≤ L) (hL : L ≤ 3072) (hkn : k ≤ 601024 ∧ n ≤ 7293034) (kk : ∀ M2, Inv M2 → EL b L xs l D ac k n ab_SH 1375 (lvL i) [] M2) : EL b L xs l D ac k n ab_SH 747 (lvL i) [] M := by
  obtain ⟨σ, p, hI⟩ := hI
  obtain ⟨v, M2, h1, h2, h3⟩ := o_kept hI 
  refine eg_aload_n dL_law_747 rfl ?_
  refine eg_callV (o := 0) (as := []) (st := []) (co_X9_kept M  _ h1) mv_X9_kept sh_0 ml_RL_86 dL_law_748 ⟨by decide, by decide⟩ rfl (Nat.le_of_ble_eq_true rfl) hkn ?_
  refine eg_aload_n dL_law_751 rfl ?_
  refine eg_callV (o := 69) (as := []) (st := [.int v]) (co_X10_kept M  _ h2) mv_X10_kept sh_69 ml_RL_89 dL_law_752 ⟨by decide, by decide⟩ rfl (Nat.le_of_ble_eq_true rfl) hkn ?_
  exact eg_icmp_eq (t := 1375) dL_law_755 (by decide) (fun _ => kk M2 h3) (fun hc => absurd rfl hc)
theorem law_c16 (hI : Inv M) (hi : i + 6 ≤ L) (hL : L ≤ 3072) (hkn : k ≤ 601024 ∧ n ≤ 7293034) (kk : ∀ M2, Inv M2 → EL b L xs l D ac k n ab_SH 1375 (lvL i) [] M2) : EL b L xs l D ac k n ab_SH 760 (lvL i) [] M := by
  obtain ⟨σ, p, hI⟩ := hI
  obtain ⟨v, M2, h1, h2, h3⟩ := o_broken hI (xs (i + 1))
  refine eg_aload_n dL_law_760 rfl ?_
  refine el_arg 1 dL_law_761 dL_law_762 dL_law_764 dL_law_765 dL_law_766 rfl rfl rfl (by decide) hi hL ?_
  refine eg_callV (o := 0) (as := [.int (xs (i + 1))]) (st := []) (co_X9_broken M _ _ h1) mv_X9_broken sh_0 ml_RL_90 dL_law_767 ⟨by decide, by decide⟩ rfl (Nat.le_of_ble_eq_true rfl) hkn ?_
  refine eg_aload_n dL_law_770 rfl ?_
  refine el_arg 1 dL_law_771 dL_law_772 dL_law_774 dL_law_775 dL_law_776 rfl rfl rfl (by decide) hi hL ?_
  refine eg_callV (o := 69) (as := [.int (xs (i + 1))]) (st := [.int v]) (co_X10_broken M _ _ h2) mv_X10_broken sh_69 ml_RL_93 dL_law_777 ⟨by decide, by decide⟩ rfl (Nat.le_of_ble_eq_true rfl) hkn ?_
  exact eg_icmp_eq (t := 1375) dL_law_780 (by decide) (fun _ => kk M2 h3) (fun hc => absurd rfl hc)
theorem law_c17 (hI : Inv M) (hi : i + 6 ≤ L) (hL : L ≤ 3072) (hkn : k ≤ 601024 ∧ n ≤ 7293034) (kk : ∀ M2, Inv M2 → EL b L xs l D ac k n ab_SH 1375 (lvL i) [] M2) : EL b L xs l D ac k n ab_SH 785 (lvL i) [] M := by
  obtain ⟨σ, p, hI⟩ := hI
  obtain ⟨v, M2, h1, h2, h3⟩ := o_pair hI (xs (i + 1)) (xs (i + 2))
  refine eg_aload_n dL_law_785 rfl ?_
  refine el_arg 1 dL_law_786 dL_law_787 dL_law_789 dL_law_790 dL_law_791 rfl rfl rfl (by decide) hi hL ?_
  refine el_arg 2 dL_law_792 dL_law_793 dL_law_795 dL_law_796 dL_law_797 rfl rfl rfl (by decide) hi hL ?_
  refine eg_callV (o := 0) (as := [.int (xs (i + 1)), .int (xs (i + 2))]) (st := []) (co_X9_pair M _ _ _ h1) mv_X9_pair sh_0 ml_RL_94 dL_law_798 ⟨by decide, by decide⟩ rfl (Nat.le_of_ble_eq_true rfl) hkn ?_
  refine eg_aload_n dL_law_801 rfl ?_
  refine el_arg 1 dL_law_802 dL_law_803 dL_law_805 dL_law_806 dL_law_807 rfl rfl rfl (by decide) hi hL ?_
  refine el_arg 2 dL_law_808 dL_law_809 dL_law_811 dL_law_812 dL_law_813 rfl rfl rfl (by decide) hi hL ?_
  refine eg_callV (o := 69) (as := [.int (xs (i + 1)), .int (xs (i + 2))]) (st := [.int v]) (co_X10_pair M _ _ _ h2) mv_X10_pair sh_69 ml_RL_97 dL_law_814 ⟨by decide, by decide⟩ rfl (Nat.le_of_ble_eq_true rfl) hkn ?_
  exact eg_icmp_eq (t := 1375) dL_law_817 (by decide) (fun _ => kk M2 h3) (fun hc => absurd rfl hc)
theorem law_c18 (hI : Inv M) (hi : i + 6 ≤ L) (hL : L ≤ 3072) (hkn : k ≤ 601024 ∧ n ≤ 7293034) (kk : ∀ M2, Inv M2 → EL b L xs l D ac k n ab_SH 1375 (lvL i) [] M2) : EL b L xs l D ac k n ab_SH 822 (lvL i) [] M := by
  obtain ⟨σ, p, hI⟩ := hI
  obtain ⟨v, M1, M2, h1, h2, h3⟩ := o_plan hI (xs (i + 1))
  refine eg_aload_n dL_law_822 rfl ?_
  refine el_arg 1 dL_law_823 dL_law_824 dL_law_826 dL_law_827 dL_law_828 rfl rfl rfl (by decide) hi hL ?_
  refine eg_callV (o := 0) (as := [.int (xs (i + 1))]) (st := []) (co_X9_plan M _ _ h1) mv_X9_plan sh_0 ml_RL_98 dL_law_829 ⟨by decide, by decide⟩ rfl (Nat.le_of_ble_eq_true rfl) hkn ?_
  refine eg_aload_n dL_law_832 rfl ?_
  refine el_arg 1 dL_law_833 dL_law_834 dL_law_836 dL_law_837 dL_law_838 rfl rfl rfl (by decide) hi hL ?_
  refine eg_callV (o := 69) (as := [.int (xs (i + 1))]) (st := [.int v]) (co_X10_plan M1 _ _ h2) mv_X10_plan sh_69 ml_RL_101 dL_law_839 ⟨by decide, by decide⟩ rfl (Nat.le_of_ble_eq_true rfl) hkn ?_
  exact eg_icmp_eq (t := 1375) dL_law_842 (by decide) (fun _ => kk M2 h3) (fun hc => absurd rfl hc)
theorem law_c19 (hI : Inv M) (hi : i + 6 ≤ L) (hL : L ≤ 3072) (hkn : k ≤ 601024 ∧ n ≤ 7293034) (kk : ∀ M2, Inv M2 → EL b L xs l D ac k n ab_SH 1375 (lvL i) [] M2) : EL b L xs l D ac k n ab_SH 847 (lvL i) [] M := by
  obtain ⟨σ, p, hI⟩ := hI
  obtain ⟨v, M2, h1, h2, h3⟩ := o_tries hI 
  refine eg_aload_n dL_law_847 rfl ?_
  refine eg_callV (o := 0) (as := []) (st := []) (co_X9_tries M  _ h1) mv_X9_tries sh_0 ml_RL_102 dL_law_848 ⟨by decide, by decide⟩ rfl (Nat.le_of_ble_eq_true rfl) hkn ?_
  refine eg_aload_n dL_law_851 rfl ?_
  refine eg_callV (o := 69) (as := []) (st := [.int v]) (co_X10_tries M  _ h2) mv_X10_tries sh_69 ml_RL_105 dL_law_852 ⟨by decide, by decide⟩ rfl (Nat.le_of_ble_eq_true rfl) hkn ?_
  exact eg_icmp_eq (t := 1375) dL_law_855 (by decide) (fun _ => kk M2 h3) (fun hc => absurd rfl hc)
theorem law_c20 (hI : Inv M) (hi : i + 6 ≤ L) (hL : L ≤ 3072) (hkn : k ≤ 601024 ∧ n ≤ 7293034) (kk : ∀ M2, Inv M2 → EL b L xs l D ac k n ab_SH 1375 (lvL i) [] M2) : EL b L xs l D ac k n ab_SH 860 (lvL i) [] M := by
  obtain ⟨σ, p, hI⟩ := hI
  obtain ⟨v, M1, M2, h1, h2, h3⟩ := o_least hI 
  refine eg_aload_n dL_law_860 rfl ?_
  refine eg_callV (o := 0) (as := []) (st := []) (co_X9_least M  _ h1) mv_X9_least sh_0 ml_RL_106 dL_law_861 ⟨by decide, by decide⟩ rfl (Nat.le_of_ble_eq_true rfl) hkn ?_
  refine eg_aload_n dL_law_864 rfl ?_
  refine eg_callV (o := 69) (as := []) (st := [.int v]) (co_X10_least M1  _ h2) mv_X10_least sh_69 ml_RL_109 dL_law_865 ⟨by decide, by decide⟩ rfl (Nat.le_of_ble_eq_true rfl) hkn ?_
  exact eg_icmp_eq (t := 1375) dL_law_868 (by decide) (fun _ => kk M2 h3) (fun hc => absurd rfl hc)
theorem law_c21 (hI : Inv M) (hi : i + 6 ≤ L) (hL : L ≤ 3072) (hkn : k ≤ 601024 ∧ n ≤ 7293034) (kk : ∀ M2, Inv M2 → EL b L xs l D ac k n ab_SH 1375 (lvL i) [] M2) : EL b L xs l D ac k n ab_SH 873 (lvL i) [] M := by
  obtain ⟨σ, p, hI⟩ := hI
  obtain ⟨v, M2, h1, h2, h3⟩ := o_span hI 
  refine eg_aload_n dL_law_873 rfl ?_
  refine eg_callV (o := 0) (as := []) (st := []) (co_X9_span M  _ h1) mv_X9_span sh_0 ml_RL_110 dL_law_874 ⟨by decide, by decide⟩ rfl (Nat.le_of_ble_eq_true rfl) hkn ?_
  refine eg_aload_n dL_law_877 rfl ?_
  refine eg_callV (o := 69) (as := []) (st := [.int v]) (co_X10_span M  _ h2) mv_X10_span sh_69 ml_RL_113 dL_law_878 ⟨by decide, by decide⟩ rfl (Nat.le_of_ble_eq_true rfl) hkn ?_
  exact eg_icmp_eq (t := 1375) dL_law_881 (by decide) (fun _ => kk M2 h3) (fun hc => absurd rfl hc)
theorem law_c22 (hI : Inv M) (hi : i + 6 ≤ L) (hL : L ≤ 3072) (hkn : k ≤ 601024 ∧ n ≤ 7293034) (kk : ∀ M2, Inv M2 → EL b L xs l D ac k n ab_SH 1375 (lvL i) [] M2) : EL b L xs l D ac k n ab_SH 886 (lvL i) [] M := by
  obtain ⟨σ, p, hI⟩ := hI
  obtain ⟨v, M1, M2, h1, h2, h3⟩ := o_better hI (xs (i + 1))
  refine eg_aload_n dL_law_886 rfl ?_
  refine el_arg 1 dL_law_887 dL_law_888 dL_law_890 dL_law_891 dL_law_892 rfl rfl rfl (by decide) hi hL ?_
  refine eg_callV (o := 0) (as := [.int (xs (i + 1))]) (st := []) (co_X9_better M _ _ h1) mv_X9_better sh_0 ml_RL_114 dL_law_893 ⟨by decide, by decide⟩ rfl (Nat.le_of_ble_eq_true rfl) hkn ?_
  refine eg_aload_n dL_law_896 rfl ?_
  refine el_arg 1 dL_law_897 dL_law_898 dL_law_900 dL_law_901 dL_law_902 rfl rfl rfl (by decide) hi hL ?_
  refine eg_callV (o := 69) (as := [.int (xs (i + 1))]) (st := [.int v]) (co_X10_better M1 _ _ h2) mv_X10_better sh_69 ml_RL_117 dL_law_903 ⟨by decide, by decide⟩ rfl (Nat.le_of_ble_eq_true rfl) hkn ?_
  exact eg_icmp_eq (t := 1375) dL_law_906 (by decide) (fun _ => kk M2 h3) (fun hc => absurd rfl hc)
theorem law_c23 (hI : Inv M) (hi : i + 6 ≤ L) (hL : L ≤ 3072) (hkn : k ≤ 601024 ∧ n ≤ 7293034) (kk : ∀ M2, Inv M2 → EL b L xs l D ac k n ab_SH 1375 (lvL i) [] M2) : EL b L xs l D ac k n ab_SH 911 (lvL i) [] M := by
  obtain ⟨σ, p, hI⟩ := hI
  obtain ⟨v, M1, M2, h1, h2, h3⟩ := o_fewest hI (xs (i + 1))
  refine eg_aload_n dL_law_911 rfl ?_
  refine el_arg 1 dL_law_912 dL_law_913 dL_law_915 dL_law_916 dL_law_917 rfl rfl rfl (by decide) hi hL ?_
  refine eg_callV (o := 0) (as := [.int (xs (i + 1))]) (st := []) (co_X9_fewest M _ _ h1) mv_X9_fewest sh_0 ml_RL_118 dL_law_918 ⟨by decide, by decide⟩ rfl (Nat.le_of_ble_eq_true rfl) hkn ?_
  refine eg_aload_n dL_law_921 rfl ?_
  refine el_arg 1 dL_law_922 dL_law_923 dL_law_925 dL_law_926 dL_law_927 rfl rfl rfl (by decide) hi hL ?_
  refine eg_callV (o := 69) (as := [.int (xs (i + 1))]) (st := [.int v]) (co_X10_fewest M1 _ _ h2) mv_X10_fewest sh_69 ml_RL_121 dL_law_928 ⟨by decide, by decide⟩ rfl (Nat.le_of_ble_eq_true rfl) hkn ?_
  exact eg_icmp_eq (t := 1375) dL_law_931 (by decide) (fun _ => kk M2 h3) (fun hc => absurd rfl hc)
theorem law_c24 (hI : Inv M) (hi : i + 6 ≤ L) (hL : L ≤ 3072) (hkn : k ≤ 601024 ∧ n ≤ 7293034) (kk : ∀ M2, Inv M2 → EL b L xs l D ac k n ab_SH 1375 (lvL i) [] M2) : EL b L xs l D ac k n ab_SH 936 (lvL i) [] M := by
  obtain ⟨σ, p, hI⟩ := hI
  obtain ⟨v, M1, M2, h1, h2, h3⟩ := o_bound hI (xs (i + 1))
  refine eg_aload_n dL_law_936 rfl ?_
  refine el_arg 1 dL_law_937 dL_law_938 dL_law_940 dL_law_941 dL_law_942 rfl rfl rfl (by decide) hi hL ?_
  refine eg_callV (o := 0) (as := [.int (xs (i + 1))]) (st := []) (co_X9_bound M _ _ h1) mv_X9_bound sh_0 ml_RL_122 dL_law_943 ⟨by decide, by decide⟩ rfl (Nat.le_of_ble_eq_true rfl) hkn ?_
  refine eg_aload_n dL_law_946 rfl ?_
  refine el_arg 1 dL_law_947 dL_law_948 dL_law_950 dL_law_951 dL_law_952 rfl rfl rfl (by decide) hi hL ?_
  refine eg_callV (o := 69) (as := [.int (xs (i + 1))]) (st := [.int v]) (co_X10_bound M1 _ _ h2) mv_X10_bound sh_69 ml_RL_125 dL_law_953 ⟨by decide, by decide⟩ rfl (Nat.le_of_ble_eq_true rfl) hkn ?_
  exact eg_icmp_eq (t := 1375) dL_law_956 (by decide) (fun _ => kk M2 h3) (fun hc => absurd rfl hc)
theorem law_c25 (hI : Inv M) (hi : i + 6 ≤ L) (hL : L ≤ 3072) (hkn : k ≤ 601024 ∧ n ≤ 7293034) (kk : ∀ M2, Inv M2 → EL b L xs l D ac k n ab_SH 1375 (lvL i) [] M2) : EL b L xs l D ac k n ab_SH 961 (lvL i) [] M := by
  obtain ⟨σ, p, hI⟩ := hI
  obtain ⟨v, M1, M2, h1, h2, h3⟩ := o_crowd hI 
  refine eg_aload_n dL_law_961 rfl ?_
  refine eg_callV (o := 0) (as := []) (st := []) (co_X9_crowd M  _ h1) mv_X9_crowd sh_0 ml_RL_126 dL_law_962 ⟨by decide, by decide⟩ rfl (Nat.le_of_ble_eq_true rfl) hkn ?_
  refine eg_aload_n dL_law_965 rfl ?_
  refine eg_callV (o := 69) (as := []) (st := [.int v]) (co_X10_crowd M1  _ h2) mv_X10_crowd sh_69 ml_RL_129 dL_law_966 ⟨by decide, by decide⟩ rfl (Nat.le_of_ble_eq_true rfl) hkn ?_
  exact eg_icmp_eq (t := 1375) dL_law_969 (by decide) (fun _ => kk M2 h3) (fun hc => absurd rfl hc)
theorem law_c26 (hI : Inv M) (hi : i + 6 ≤ L) (hL : L ≤ 3072) (hkn : k ≤ 601024 ∧ n ≤ 7293034) (kk : ∀ M2, Inv M2 → EL b L xs l D ac k n ab_SH 1375 (lvL i) [] M2) : EL b L xs l D ac k n ab_SH 974 (lvL i) [] M := by
  obtain ⟨σ, p, hI⟩ := hI
  obtain ⟨v, M2, h1, h2, h3⟩ := o_part hI (xs (i + 1))
  refine eg_aload_n dL_law_974 rfl ?_
  refine el_arg 1 dL_law_975 dL_law_976 dL_law_978 dL_law_979 dL_law_980 rfl rfl rfl (by decide) hi hL ?_
  refine eg_callV (o := 0) (as := [.int (xs (i + 1))]) (st := []) (co_X9_part M _ _ h1) mv_X9_part sh_0 ml_RL_130 dL_law_981 ⟨by decide, by decide⟩ rfl (Nat.le_of_ble_eq_true rfl) hkn ?_
  refine eg_aload_n dL_law_984 rfl ?_
  refine el_arg 1 dL_law_985 dL_law_986 dL_law_988 dL_law_989 dL_law_990 rfl rfl rfl (by decide) hi hL ?_
  refine eg_callV (o := 69) (as := [.int (xs (i + 1))]) (st := [.int v]) (co_X10_part M _ _ h2) mv_X10_part sh_69 ml_RL_133 dL_law_991 ⟨by decide, by decide⟩ rfl (Nat.le_of_ble_eq_true rfl) hkn ?_
  exact eg_icmp_eq (t := 1375) dL_law_994 (by decide) (fun _ => kk M2 h3) (fun hc => absurd rfl hc)
theorem law_c27 (hI : Inv M) (hi : i + 6 ≤ L) (hL : L ≤ 3072) (hkn : k ≤ 601024 ∧ n ≤ 7293034) (kk : ∀ M2, Inv M2 → EL b L xs l D ac k n ab_SH 1375 (lvL i) [] M2) : EL b L xs l D ac k n ab_SH 999 (lvL i) [] M := by
  obtain ⟨σ, p, hI⟩ := hI
  obtain ⟨v, M1, M2, h1, h2, h3⟩ := o_image hI 
  refine eg_aload_n dL_law_999 rfl ?_
  refine eg_callV (o := 0) (as := []) (st := []) (co_X9_image M  _ h1) mv_X9_image sh_0 ml_RL_134 dL_law_1000 ⟨by decide, by decide⟩ rfl (Nat.le_of_ble_eq_true rfl) hkn ?_
  refine eg_aload_n dL_law_1003 rfl ?_
  refine eg_callV (o := 69) (as := []) (st := [.int v]) (co_X10_image M1  _ h2) mv_X10_image sh_69 ml_RL_137 dL_law_1004 ⟨by decide, by decide⟩ rfl (Nat.le_of_ble_eq_true rfl) hkn ?_
  exact eg_icmp_eq (t := 1375) dL_law_1007 (by decide) (fun _ => kk M2 h3) (fun hc => absurd rfl hc)
theorem law_c28 (hI : Inv M) (hi : i + 6 ≤ L) (hL : L ≤ 3072) (hkn : k ≤ 601024 ∧ n ≤ 7293034) (kk : ∀ M2, Inv M2 → EL b L xs l D ac k n ab_SH 1375 (lvL i) [] M2) : EL b L xs l D ac k n ab_SH 1012 (lvL i) [] M := by
  obtain ⟨σ, p, hI⟩ := hI
  obtain ⟨v, M1, M2, h1, h2, h3⟩ := o_restore hI 
  refine eg_aload_n dL_law_1012 rfl ?_
  refine eg_callV (o := 0) (as := []) (st := []) (co_X9_restore M  _ h1) mv_X9_restore sh_0 ml_RL_138 dL_law_1013 ⟨by decide, by decide⟩ rfl (Nat.le_of_ble_eq_true rfl) hkn ?_
  refine eg_aload_n dL_law_1016 rfl ?_
  refine eg_callV (o := 69) (as := []) (st := [.int v]) (co_X10_restore M1  _ h2) mv_X10_restore sh_69 ml_RL_141 dL_law_1017 ⟨by decide, by decide⟩ rfl (Nat.le_of_ble_eq_true rfl) hkn ?_
  exact eg_icmp_eq (t := 1375) dL_law_1020 (by decide) (fun _ => kk M2 h3) (fun hc => absurd rfl hc)
theorem law_c29 (hI : Inv M) (hi : i + 6 ≤ L) (hL : L ≤ 3072) (hkn : k ≤ 601024 ∧ n ≤ 7293034) (kk : ∀ M2, Inv M2 → EL b L xs l D ac k n ab_SH 1375 (lvL i) [] M2) : EL b L xs l D ac k n ab_SH 1025 (lvL i) [] M := by
  obtain ⟨σ, p, hI⟩ := hI
  obtain ⟨v, M2, h1, h2, h3⟩ := o_count hI (xs (i + 1))
  refine eg_aload_n dL_law_1025 rfl ?_
  refine el_arg 1 dL_law_1026 dL_law_1027 dL_law_1029 dL_law_1030 dL_law_1031 rfl rfl rfl (by decide) hi hL ?_
  refine eg_callV (o := 0) (as := [.int (xs (i + 1))]) (st := []) (co_X9_count M _ _ h1) mv_X9_count sh_0 ml_RL_142 dL_law_1032 ⟨by decide, by decide⟩ rfl (Nat.le_of_ble_eq_true rfl) hkn ?_
  refine eg_aload_n dL_law_1035 rfl ?_
  refine el_arg 1 dL_law_1036 dL_law_1037 dL_law_1039 dL_law_1040 dL_law_1041 rfl rfl rfl (by decide) hi hL ?_
  refine eg_callV (o := 69) (as := [.int (xs (i + 1))]) (st := [.int v]) (co_X10_count M _ _ h2) mv_X10_count sh_69 ml_RL_145 dL_law_1042 ⟨by decide, by decide⟩ rfl (Nat.le_of_ble_eq_true rfl) hkn ?_
  exact eg_icmp_eq (t := 1375) dL_law_1045 (by decide) (fun _ => kk M2 h3) (fun hc => absurd rfl hc)
theorem law_c30 (hI : Inv M) (hi : i + 6 ≤ L) (hL : L ≤ 3072) (hkn : k ≤ 601024 ∧ n ≤ 7293034) (kk : ∀ M2, Inv M2 → EL b L xs l D ac k n ab_SH 1375 (lvL i) [] M2) : EL b L xs l D ac k n ab_SH 1050 (lvL i) [] M := by
  obtain ⟨σ, p, hI⟩ := hI
  obtain ⟨v, M2, h1, h2, h3⟩ := o_look hI (xs (i + 1)) (xs (i + 2))
  refine eg_aload_n dL_law_1050 rfl ?_
  refine el_arg 1 dL_law_1051 dL_law_1052 dL_law_1054 dL_law_1055 dL_law_1056 rfl rfl rfl (by decide) hi hL ?_
  refine el_arg 2 dL_law_1057 dL_law_1058 dL_law_1060 dL_law_1061 dL_law_1062 rfl rfl rfl (by decide) hi hL ?_
  refine eg_callV (o := 0) (as := [.int (xs (i + 1)), .int (xs (i + 2))]) (st := []) (co_X9_look M _ _ _ h1) mv_X9_look sh_0 ml_RL_146 dL_law_1063 ⟨by decide, by decide⟩ rfl (Nat.le_of_ble_eq_true rfl) hkn ?_
  refine eg_aload_n dL_law_1066 rfl ?_
  refine el_arg 1 dL_law_1067 dL_law_1068 dL_law_1070 dL_law_1071 dL_law_1072 rfl rfl rfl (by decide) hi hL ?_
  refine el_arg 2 dL_law_1073 dL_law_1074 dL_law_1076 dL_law_1077 dL_law_1078 rfl rfl rfl (by decide) hi hL ?_
  refine eg_callV (o := 69) (as := [.int (xs (i + 1)), .int (xs (i + 2))]) (st := [.int v]) (co_X10_look M _ _ _ h2) mv_X10_look sh_69 ml_RL_149 dL_law_1079 ⟨by decide, by decide⟩ rfl (Nat.le_of_ble_eq_true rfl) hkn ?_
  exact eg_icmp_eq (t := 1375) dL_law_1082 (by decide) (fun _ => kk M2 h3) (fun hc => absurd rfl hc)
theorem law_c31 (hI : Inv M) (hi : i + 6 ≤ L) (hL : L ≤ 3072) (hkn : k ≤ 601024 ∧ n ≤ 7293034) (kk : ∀ M2, Inv M2 → EL b L xs l D ac k n ab_SH 1375 (lvL i) [] M2) : EL b L xs l D ac k n ab_SH 1087 (lvL i) [] M := by
  obtain ⟨σ, p, hI⟩ := hI
  obtain ⟨v, M1, M2, h1, h2, h3⟩ := o_keep hI (xs (i + 1)) (xs (i + 2)) (xs (i + 3))
  refine eg_aload_n dL_law_1087 rfl ?_
  refine el_arg 1 dL_law_1088 dL_law_1089 dL_law_1091 dL_law_1092 dL_law_1093 rfl rfl rfl (by decide) hi hL ?_
  refine el_arg 2 dL_law_1094 dL_law_1095 dL_law_1097 dL_law_1098 dL_law_1099 rfl rfl rfl (by decide) hi hL ?_
  refine el_arg 3 dL_law_1100 dL_law_1101 dL_law_1103 dL_law_1104 dL_law_1105 rfl rfl rfl (by decide) hi hL ?_
  refine eg_callV (o := 0) (as := [.int (xs (i + 1)), .int (xs (i + 2)), .int (xs (i + 3))]) (st := []) (co_X9_keep M _ _ _ _ h1) mv_X9_keep sh_0 ml_RL_150 dL_law_1106 ⟨by decide, by decide⟩ rfl (Nat.le_of_ble_eq_true rfl) hkn ?_
  refine eg_aload_n dL_law_1109 rfl ?_
  refine el_arg 1 dL_law_1110 dL_law_1111 dL_law_1113 dL_law_1114 dL_law_1115 rfl rfl rfl (by decide) hi hL ?_
  refine el_arg 2 dL_law_1116 dL_law_1117 dL_law_1119 dL_law_1120 dL_law_1121 rfl rfl rfl (by decide) hi hL ?_
  refine el_arg 3 dL_law_1122 dL_law_1123 dL_law_1125 dL_law_1126 dL_law_1127 rfl rfl rfl (by decide) hi hL ?_
  refine eg_callV (o := 69) (as := [.int (xs (i + 1)), .int (xs (i + 2)), .int (xs (i + 3))]) (st := [.int v]) (co_X10_keep M1 _ _ _ _ h2) mv_X10_keep sh_69 ml_RL_153 dL_law_1128 ⟨by decide, by decide⟩ rfl (Nat.le_of_ble_eq_true rfl) hkn ?_
  exact eg_icmp_eq (t := 1375) dL_law_1131 (by decide) (fun _ => kk M2 h3) (fun hc => absurd rfl hc)
theorem law_c32 (hI : Inv M) (hi : i + 6 ≤ L) (hL : L ≤ 3072) (hkn : k ≤ 601024 ∧ n ≤ 7293034) (kk : ∀ M2, Inv M2 → EL b L xs l D ac k n ab_SH 1375 (lvL i) [] M2) : EL b L xs l D ac k n ab_SH 1136 (lvL i) [] M := by
  obtain ⟨σ, p, hI⟩ := hI
  obtain ⟨v, M1, M2, h1, h2, h3⟩ := o_make hI (xs (i + 1)) (xs (i + 2)) (xs (i + 3))
  refine eg_aload_n dL_law_1136 rfl ?_
  refine el_arg 1 dL_law_1137 dL_law_1138 dL_law_1140 dL_law_1141 dL_law_1142 rfl rfl rfl (by decide) hi hL ?_
  refine el_arg 2 dL_law_1143 dL_law_1144 dL_law_1146 dL_law_1147 dL_law_1148 rfl rfl rfl (by decide) hi hL ?_
  refine el_arg 3 dL_law_1149 dL_law_1150 dL_law_1152 dL_law_1153 dL_law_1154 rfl rfl rfl (by decide) hi hL ?_
  refine eg_callV (o := 0) (as := [.int (xs (i + 1)), .int (xs (i + 2)), .int (xs (i + 3))]) (st := []) (co_X9_make M _ _ _ _ h1) mv_X9_make sh_0 ml_RL_154 dL_law_1155 ⟨by decide, by decide⟩ rfl (Nat.le_of_ble_eq_true rfl) hkn ?_
  refine eg_aload_n dL_law_1158 rfl ?_
  refine el_arg 1 dL_law_1159 dL_law_1160 dL_law_1162 dL_law_1163 dL_law_1164 rfl rfl rfl (by decide) hi hL ?_
  refine el_arg 2 dL_law_1165 dL_law_1166 dL_law_1168 dL_law_1169 dL_law_1170 rfl rfl rfl (by decide) hi hL ?_
  refine el_arg 3 dL_law_1171 dL_law_1172 dL_law_1174 dL_law_1175 dL_law_1176 rfl rfl rfl (by decide) hi hL ?_
  refine eg_callV (o := 69) (as := [.int (xs (i + 1)), .int (xs (i + 2)), .int (xs (i + 3))]) (st := [.int v]) (co_X10_make M1 _ _ _ _ h2) mv_X10_make sh_69 ml_RL_157 dL_law_1177 ⟨by decide, by decide⟩ rfl (Nat.le_of_ble_eq_true rfl) hkn ?_
  exact eg_icmp_eq (t := 1375) dL_law_1180 (by decide) (fun _ => kk M2 h3) (fun hc => absurd rfl hc)
theorem law_c34 (hI : Inv M) (hi : i + 6 ≤ L) (hL : L ≤ 3072) (hkn : k ≤ 601024 ∧ n ≤ 7293034) (kk : ∀ M2, Inv M2 → EL b L xs l D ac k n ab_SH 1375 (lvL i) [] M2) : EL b L xs l D ac k n ab_SH 1252 (lvL i) [] M := by
  obtain ⟨σ, p, hI⟩ := hI
  obtain ⟨v, M1, M2, h1, h2, h3⟩ := o_copy hI (xs (i + 1)) (xs (i + 2)) (xs (i + 3)) (xs (i + 4)) (xs (i + 5))
  refine eg_aload_n dL_law_1252 rfl ?_
  refine el_arg 1 dL_law_1253 dL_law_1254 dL_law_1256 dL_law_1257 dL_law_1258 rfl rfl rfl (by decide) hi hL ?_
  refine el_arg 2 dL_law_1259 dL_law_1260 dL_law_1262 dL_law_1263 dL_law_1264 rfl rfl rfl (by decide) hi hL ?_
  refine el_arg 3 dL_law_1265 dL_law_1266 dL_law_1268 dL_law_1269 dL_law_1270 rfl rfl rfl (by decide) hi hL ?_
  refine el_arg 4 dL_law_1271 dL_law_1272 dL_law_1274 dL_law_1275 dL_law_1276 rfl rfl rfl (by decide) hi hL ?_
  refine el_arg 5 dL_law_1277 dL_law_1278 dL_law_1280 dL_law_1281 dL_law_1282 rfl rfl rfl (by decide) hi hL ?_
  refine eg_callV (o := 0) (as := [.int (xs (i + 1)), .int (xs (i + 2)), .int (xs (i + 3)), .int (xs (i + 4)), .int (xs (i + 5))]) (st := []) (co_X9_copy M _ _ _ _ _ _ h1) mv_X9_copy sh_0 ml_RL_167 dL_law_1283 ⟨by decide, by decide⟩ rfl (Nat.le_of_ble_eq_true rfl) hkn ?_
  refine eg_aload_n dL_law_1286 rfl ?_
  refine el_arg 1 dL_law_1287 dL_law_1288 dL_law_1290 dL_law_1291 dL_law_1292 rfl rfl rfl (by decide) hi hL ?_
  refine el_arg 2 dL_law_1293 dL_law_1294 dL_law_1296 dL_law_1297 dL_law_1298 rfl rfl rfl (by decide) hi hL ?_
  refine el_arg 3 dL_law_1299 dL_law_1300 dL_law_1302 dL_law_1303 dL_law_1304 rfl rfl rfl (by decide) hi hL ?_
  refine el_arg 4 dL_law_1305 dL_law_1306 dL_law_1308 dL_law_1309 dL_law_1310 rfl rfl rfl (by decide) hi hL ?_
  refine el_arg 5 dL_law_1311 dL_law_1312 dL_law_1314 dL_law_1315 dL_law_1316 rfl rfl rfl (by decide) hi hL ?_
  refine eg_callV (o := 69) (as := [.int (xs (i + 1)), .int (xs (i + 2)), .int (xs (i + 3)), .int (xs (i + 4)), .int (xs (i + 5))]) (st := [.int v]) (co_X10_copy M1 _ _ _ _ _ _ h2) mv_X10_copy sh_69 ml_RL_171 dL_law_1317 ⟨by decide, by decide⟩ rfl (Nat.le_of_ble_eq_true rfl) hkn ?_
  exact eg_icmp_eq (t := 1375) dL_law_1320 (by decide) (fun _ => kk M2 h3) (fun hc => absurd rfl hc)
theorem law_c35 (hI : Inv M) (hi : i + 6 ≤ L) (hL : L ≤ 3072) (hkn : k ≤ 601024 ∧ n ≤ 7293034) (kk : ∀ M2, Inv M2 → EL b L xs l D ac k n ab_SH 1375 (lvL i) [] M2) : EL b L xs l D ac k n ab_SH 1325 (lvL i) [] M := by
  obtain ⟨σ, p, hI⟩ := hI
  obtain ⟨v, M2, h1, h2, h3⟩ := o_weight hI (xs (i + 1))
  refine eg_aload_n dL_law_1325 rfl ?_
  refine el_arg 1 dL_law_1326 dL_law_1327 dL_law_1329 dL_law_1330 dL_law_1331 rfl rfl rfl (by decide) hi hL ?_
  refine eg_callV (o := 0) (as := [.int (xs (i + 1))]) (st := []) (co_X9_weight M _ _ h1) mv_X9_weight sh_0 ml_RL_172 dL_law_1332 ⟨by decide, by decide⟩ rfl (Nat.le_of_ble_eq_true rfl) hkn ?_
  refine eg_aload_n dL_law_1335 rfl ?_
  refine el_arg 1 dL_law_1336 dL_law_1337 dL_law_1339 dL_law_1340 dL_law_1341 rfl rfl rfl (by decide) hi hL ?_
  refine eg_callV (o := 69) (as := [.int (xs (i + 1))]) (st := [.int v]) (co_X10_weight M _ _ h2) mv_X10_weight sh_69 ml_RL_175 dL_law_1342 ⟨by decide, by decide⟩ rfl (Nat.le_of_ble_eq_true rfl) hkn ?_
  exact eg_icmp_eq (t := 1375) dL_law_1345 (by decide) (fun _ => kk M2 h3) (fun hc => absurd rfl hc)
end ABlcases
