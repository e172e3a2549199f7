/-! THE LAW: its cases, 1. -/
section
variable {G : GT} {p : Program} {e : Env} {s : State} {m : MethodId} {below : List Frame} {meth : Method} {c : Code} {b L : Nat} {xs : Nat → Int32} {bx bm : Nat} {I K : MI} {R : MR} {M N : MI}
theorem k_row {n : Nat} (hC : LC G p s m meth c b L xs bx bm) (hn : n + 5 < L ∧ L ≤ 3072) (cr : CR I K R M N) (next : ∀ I' K' R' M' N', CR I' K' R' M' N' → LW G p e s m below meth c b bx bm (nI n) 1463 [] I' K' R' M' N') : LW G p e s m below meth c b bx bm (nI n) 228 [] I K R M N := by
  obtain ⟨h, h', co, cc⟩ := cr
  obtain ⟨jH, jE, jL, jR, jT⟩ := id co.2.2.2.2.1
  refine l_x hC dL_law_228 ?_
  refine l_arg (k := 1) hC dL_law_229 dL_law_230 dL_law_231 dL_law_232 dL_law_233 (by decide) rfl (by omega) ?_
  refine l_arg (k := 2) hC dL_law_234 dL_law_235 dL_law_236 dL_law_237 dL_law_238 (by decide) rfl (by omega) ?_
  refine l_callX (as := [mi (sv xs (n + 1)), mi (sv xs (n + 2))]) hC dL_law_239 lvL_13 rfl rfl ⟨rfl, rfl⟩ (s_X7_row co cc (sv_r _ _) (sv_r _ _)) rfl rfl (Nat.le_of_ble_eq_true rfl) (fun v I1 K1 R1 q => ?_)
  obtain ⟨z, rfl, e1, co1, cc1⟩ := q
  refine l_m hC dL_law_242 ?_
  refine l_arg (k := 1) hC dL_law_243 dL_law_244 dL_law_245 dL_law_246 dL_law_247 (by decide) rfl (by omega) ?_
  refine l_arg (k := 2) hC dL_law_248 dL_law_249 dL_law_250 dL_law_251 dL_law_252 (by decide) rfl (by omega) ?_
  refine l_callM (as := [mi (sv xs (n + 1)), mi (sv xs (n + 2))]) hC dL_law_253 lvL_17 rfl rfl ⟨rfl, rfl⟩ (s_X8_row (sv_r _ _) (sv_r _ _)) rfl rfl (Nat.le_of_ble_eq_true rfl) (fun v M1 N1 S1 q => ?_)
  obtain ⟨z2, rfl, e2, rfl, rfl, hR⟩ := q
  refine ⟨hR, ?_⟩
  show LW G p e s m below meth c b bx bm _ 256 [.int (Int32.ofInt z2), .int (Int32.ofInt z)] _ _ _ _ _
  refine l_eqI (tgt := 1463) hC dL_law_256 (by decide) (by rw [e1, e2]) ?_
  exact next _ _ _ _ _ (⟨h, h', co1, cc1⟩)
theorem k_lay {n : Nat} (hC : LC G p s m meth c b L xs bx bm) (hn : n + 5 < L ∧ L ≤ 3072) (cr : CR I K R M N) (next : ∀ I' K' R' M' N', CR I' K' R' M' N' → LW G p e s m below meth c b bx bm (nI n) 1463 [] I' K' R' M' N') : LW G p e s m below meth c b bx bm (nI n) 261 [] I K R M N := by
  obtain ⟨h, h', co, cc⟩ := cr
  obtain ⟨jH, jE, jL, jR, jT⟩ := id co.2.2.2.2.1
  refine l_x hC dL_law_261 ?_
  refine l_arg (k := 1) hC dL_law_262 dL_law_263 dL_law_264 dL_law_265 dL_law_266 (by decide) rfl (by omega) ?_
  refine l_arg (k := 2) hC dL_law_267 dL_law_268 dL_law_269 dL_law_270 dL_law_271 (by decide) rfl (by omega) ?_
  refine l_arg (k := 3) hC dL_law_272 dL_law_273 dL_law_274 dL_law_275 dL_law_276 (by decide) rfl (by omega) ?_
  refine l_callX (as := [mi (sv xs (n + 1)), mi (sv xs (n + 2)), mi (sv xs (n + 3))]) hC dL_law_277 lvL_18 rfl rfl ⟨rfl, rfl⟩ (s_X7_lay co cc (sv_r _ _) (sv_r _ _) (sv_r _ _)) rfl rfl (Nat.le_of_ble_eq_true rfl) (fun v I1 K1 R1 q => ?_)
  obtain ⟨z, rfl, e1, co1, cc1⟩ := q
  refine l_m hC dL_law_280 ?_
  refine l_arg (k := 1) hC dL_law_281 dL_law_282 dL_law_283 dL_law_284 dL_law_285 (by decide) rfl (by omega) ?_
  refine l_arg (k := 2) hC dL_law_286 dL_law_287 dL_law_288 dL_law_289 dL_law_290 (by decide) rfl (by omega) ?_
  refine l_arg (k := 3) hC dL_law_291 dL_law_292 dL_law_293 dL_law_294 dL_law_295 (by decide) rfl (by omega) ?_
  refine l_callM (as := [mi (sv xs (n + 1)), mi (sv xs (n + 2)), mi (sv xs (n + 3))]) hC dL_law_296 lvL_22 rfl rfl ⟨rfl, rfl⟩ (s_X8_lay jR (sv_r _ _) (sv_r _ _)) rfl rfl (Nat.le_of_ble_eq_true rfl) (fun v M1 N1 S1 q => ?_)
  obtain ⟨z2, rfl, e2, rfl, rfl, hR⟩ := q
  refine ⟨hR, ?_⟩
  show LW G p e s m below meth c b bx bm _ 299 [.int (Int32.ofInt z2), .int (Int32.ofInt z)] _ _ _ _ _
  refine l_eqI (tgt := 1463) hC dL_law_299 (by decide) (by rw [e1, e2]) ?_
  exact next _ _ _ _ _ (⟨h, h', co1, cc1⟩)
theorem k_at {n : Nat} (hC : LC G p s m meth c b L xs bx bm) (hn : n + 5 < L ∧ L ≤ 3072) (cr : CR I K R M N) (next : ∀ I' K' R' M' N', CR I' K' R' M' N' → LW G p e s m below meth c b bx bm (nI n) 1463 [] I' K' R' M' N') : LW G p e s m below meth c b bx bm (nI n) 304 [] I K R M N := by
  obtain ⟨h, h', co, cc⟩ := cr
  obtain ⟨jH, jE, jL, jR, jT⟩ := id co.2.2.2.2.1
  refine l_x hC dL_law_304 ?_
  refine l_arg (k := 1) hC dL_law_305 dL_law_306 dL_law_307 dL_law_308 dL_law_309 (by decide) rfl (by omega) ?_
  refine l_arg (k := 2) hC dL_law_310 dL_law_311 dL_law_312 dL_law_313 dL_law_314 (by decide) rfl (by omega) ?_
  refine l_callX (as := [mi (sv xs (n + 1)), mi (sv xs (n + 2))]) hC dL_law_315 lvL_23 rfl rfl ⟨rfl, rfl⟩ (s_X7_at co cc (sv_r _ _) (sv_r _ _)) rfl rfl (Nat.le_of_ble_eq_true rfl) (fun v I1 K1 R1 q => ?_)
  obtain ⟨z, rfl, e1, co1, cc1⟩ := q
  refine l_m hC dL_law_318 ?_
  refine l_arg (k := 1) hC dL_law_319 dL_law_320 dL_law_321 dL_law_322 dL_law_323 (by decide) rfl (by omega) ?_
  refine l_arg (k := 2) hC dL_law_324 dL_law_325 dL_law_326 dL_law_327 dL_law_328 (by decide) rfl (by omega) ?_
  refine l_callM (as := [mi (sv xs (n + 1)), mi (sv xs (n + 2))]) hC dL_law_329 lvL_26 rfl rfl ⟨rfl, rfl⟩ (s_X8_at jR (sv_r _ _) (sv_r _ _)) rfl rfl (Nat.le_of_ble_eq_true rfl) (fun v M1 N1 S1 q => ?_)
  obtain ⟨z2, rfl, e2, rfl, rfl, hR⟩ := q
  refine ⟨hR, ?_⟩
  show LW G p e s m below meth c b bx bm _ 332 [.int (Int32.ofInt z2), .int (Int32.ofInt z)] _ _ _ _ _
  refine l_eqI (tgt := 1463) hC dL_law_332 (by decide) (by rw [e1, e2]) ?_
  exact next _ _ _ _ _ (⟨h, h', co1, cc1⟩)
theorem k_tear {n : Nat} (hC : LC G p s m meth c b L xs bx bm) (hn : n + 5 < L ∧ L ≤ 3072) (cr : CR I K R M N) (next : ∀ I' K' R' M' N', CR I' K' R' M' N' → LW G p e s m below meth c b bx bm (nI n) 1463 [] I' K' R' M' N') : LW G p e s m below meth c b bx bm (nI n) 337 [] I K R M N := by
  obtain ⟨h, h', co, cc⟩ := cr
  obtain ⟨jH, jE, jL, jR, jT⟩ := id co.2.2.2.2.1
  refine l_x hC dL_law_337 ?_
  refine l_arg (k := 1) hC dL_law_338 dL_law_339 dL_law_340 dL_law_341 dL_law_342 (by decide) rfl (by omega) ?_
  refine l_callX (as := [mi (sv xs (n + 1))]) hC dL_law_343 lvL_27 rfl rfl ⟨rfl, rfl⟩ (s_X7_tear co cc (sv_r _ _)) rfl rfl (Nat.le_of_ble_eq_true rfl) (fun v I1 K1 R1 q => ?_)
  obtain ⟨z, rfl, e1, co1, cc1⟩ := q
  refine l_m hC dL_law_346 ?_
  refine l_arg (k := 1) hC dL_law_347 dL_law_348 dL_law_349 dL_law_350 dL_law_351 (by decide) rfl (by omega) ?_
  refine l_callM (as := [mi (sv xs (n + 1))]) hC dL_law_352 lvL_31 rfl rfl ⟨rfl, rfl⟩ (s_X8_tear jR (sv_r _ _)) rfl rfl (Nat.le_of_ble_eq_true rfl) (fun v M1 N1 S1 q => ?_)
  obtain ⟨z2, rfl, e2, rfl, rfl, hR⟩ := q
  refine ⟨hR, ?_⟩
  show LW G p e s m below meth c b bx bm _ 355 [.int (Int32.ofInt z2), .int (Int32.ofInt z)] _ _ _ _ _
  refine l_eqI (tgt := 1463) hC dL_law_355 (by decide) (by rw [e1, e2]) ?_
  exact next _ _ _ _ _ (⟨h, h', co1, cc1⟩)
theorem k_copy {n : Nat} (hC : LC G p s m meth c b L xs bx bm) (hn : n + 5 < L ∧ L ≤ 3072) (cr : CR I K R M N) (next : ∀ I' K' R' M' N', CR I' K' R' M' N' → LW G p e s m below meth c b bx bm (nI n) 1463 [] I' K' R' M' N') : LW G p e s m below meth c b bx bm (nI n) 360 [] I K R M N := by
  obtain ⟨h, h', co, cc⟩ := cr
  obtain ⟨jH, jE, jL, jR, jT⟩ := id co.2.2.2.2.1
  refine l_x hC dL_law_360 ?_
  refine l_arg (k := 1) hC dL_law_361 dL_law_362 dL_law_363 dL_law_364 dL_law_365 (by decide) rfl (by omega) ?_
  refine l_arg (k := 2) hC dL_law_366 dL_law_367 dL_law_368 dL_law_369 dL_law_370 (by decide) rfl (by omega) ?_
  refine l_arg (k := 3) hC dL_law_371 dL_law_372 dL_law_373 dL_law_374 dL_law_375 (by decide) rfl (by omega) ?_
  refine l_arg (k := 4) hC dL_law_376 dL_law_377 dL_law_378 dL_law_379 dL_law_380 (by decide) rfl (by omega) ?_
  refine l_arg (k := 5) hC dL_law_381 dL_law_382 dL_law_383 dL_law_384 dL_law_385 (by decide) rfl (by omega) ?_
  refine l_callX (as := [mi (sv xs (n + 1)), mi (sv xs (n + 2)), mi (sv xs (n + 3)), mi (sv xs (n + 4)), mi (sv xs (n + 5))]) hC dL_law_386 lvL_32 rfl rfl ⟨rfl, rfl⟩ (s_X7_copy co cc (sv_r _ _) (sv_r _ _) (sv_r _ _) (sv_r _ _) (sv_r _ _)) rfl rfl (Nat.le_of_ble_eq_true rfl) (fun v I1 K1 R1 q => ?_)
  obtain ⟨z, rfl, e1, co1, cc1⟩ := q
  refine l_m hC dL_law_389 ?_
  refine l_arg (k := 1) hC dL_law_390 dL_law_391 dL_law_392 dL_law_393 dL_law_394 (by decide) rfl (by omega) ?_
  refine l_arg (k := 2) hC dL_law_395 dL_law_396 dL_law_397 dL_law_398 dL_law_399 (by decide) rfl (by omega) ?_
  refine l_arg (k := 3) hC dL_law_400 dL_law_401 dL_law_402 dL_law_403 dL_law_404 (by decide) rfl (by omega) ?_
  refine l_arg (k := 4) hC dL_law_405 dL_law_406 dL_law_407 dL_law_408 dL_law_409 (by decide) rfl (by omega) ?_
  refine l_arg (k := 5) hC dL_law_410 dL_law_411 dL_law_412 dL_law_413 dL_law_414 (by decide) rfl (by omega) ?_
  refine l_callM (as := [mi (sv xs (n + 1)), mi (sv xs (n + 2)), mi (sv xs (n + 3)), mi (sv xs (n + 4)), mi (sv xs (n + 5))]) hC dL_law_415 lvL_36 rfl rfl ⟨rfl, rfl⟩ (s_X8_copy jR (sv_r _ _) (sv_r _ _) (sv_r _ _) (sv_r _ _) (sv_r _ _)) rfl rfl (Nat.le_of_ble_eq_true rfl) (fun v M1 N1 S1 q => ?_)
  obtain ⟨z2, rfl, e2, pe, rfl, hR⟩ := q
  refine ⟨hR, ?_⟩
  show LW G p e s m below meth c b bx bm _ 418 [.int (Int32.ofInt z2), .int (Int32.ofInt z)] _ _ _ _ _
  refine l_eqI (tgt := 1463) hC dL_law_418 (by decide) (by rw [e1, e2]) ?_
  exact next _ _ _ _ _ (CR.pe ⟨h, h', co1, cc1⟩ pe (fun _ _ => rfl))
theorem k_mean {n : Nat} (hC : LC G p s m meth c b L xs bx bm) (hn : n + 5 < L ∧ L ≤ 3072) (cr : CR I K R M N) (next : ∀ I' K' R' M' N', CR I' K' R' M' N' → LW G p e s m below meth c b bx bm (nI n) 1463 [] I' K' R' M' N') : LW G p e s m below meth c b bx bm (nI n) 423 [] I K R M N := by
  obtain ⟨h, h', co, cc⟩ := cr
  obtain ⟨jH, jE, jL, jR, jT⟩ := id co.2.2.2.2.1
  refine l_x hC dL_law_423 ?_
  refine l_arg (k := 1) hC dL_law_424 dL_law_425 dL_law_426 dL_law_427 dL_law_428 (by decide) rfl (by omega) ?_
  refine l_callX (as := [mi (sv xs (n + 1))]) hC dL_law_429 lvL_37 rfl rfl ⟨rfl, rfl⟩ (s_X7_mean co cc (sv_r _ _)) rfl rfl (Nat.le_of_ble_eq_true rfl) (fun v I1 K1 R1 q => ?_)
  obtain ⟨z, rfl, e1, co1, cc1⟩ := q
  refine l_m hC dL_law_432 ?_
  refine l_arg (k := 1) hC dL_law_433 dL_law_434 dL_law_435 dL_law_436 dL_law_437 (by decide) rfl (by omega) ?_
  refine l_callM (as := [mi (sv xs (n + 1))]) hC dL_law_438 lvL_40 rfl rfl ⟨rfl, rfl⟩ (s_X8_mean jR (sv_r _ _)) rfl rfl (Nat.le_of_ble_eq_true rfl) (fun v M1 N1 S1 q => ?_)
  obtain ⟨z2, rfl, e2, rfl, rfl, hR⟩ := q
  refine ⟨hR, ?_⟩
  show LW G p e s m below meth c b bx bm _ 441 [.int (Int32.ofInt z2), .int (Int32.ofInt z)] _ _ _ _ _
  refine l_eqI (tgt := 1463) hC dL_law_441 (by decide) (by rw [e1, e2]) ?_
  exact next _ _ _ _ _ (⟨h, h', co1, cc1⟩)
theorem k_text {n : Nat} (hC : LC G p s m meth c b L xs bx bm) (hn : n + 5 < L ∧ L ≤ 3072) (cr : CR I K R M N) (next : ∀ I' K' R' M' N', CR I' K' R' M' N' → LW G p e s m below meth c b bx bm (nI n) 1463 [] I' K' R' M' N') : LW G p e s m below meth c b bx bm (nI n) 446 [] I K R M N := by
  obtain ⟨h, h', co, cc⟩ := cr
  obtain ⟨jH, jE, jL, jR, jT⟩ := id co.2.2.2.2.1
  refine l_x hC dL_law_446 ?_
  refine l_arg (k := 1) hC dL_law_447 dL_law_448 dL_law_449 dL_law_450 dL_law_451 (by decide) rfl (by omega) ?_
  refine l_arg (k := 2) hC dL_law_452 dL_law_453 dL_law_454 dL_law_455 dL_law_456 (by decide) rfl (by omega) ?_
  refine l_callX (as := [mi (sv xs (n + 1)), mi (sv xs (n + 2))]) hC dL_law_457 lvL_41 rfl rfl ⟨rfl, rfl⟩ (s_X7_text co cc (sv_r _ _) (sv_r _ _)) rfl rfl (Nat.le_of_ble_eq_true rfl) (fun v I1 K1 R1 q => ?_)
  obtain ⟨z, rfl, e1, co1, cc1⟩ := q
  refine l_m hC dL_law_460 ?_
  refine l_arg (k := 1) hC dL_law_461 dL_law_462 dL_law_463 dL_law_464 dL_law_465 (by decide) rfl (by omega) ?_
  refine l_arg (k := 2) hC dL_law_466 dL_law_467 dL_law_468 dL_law_469 dL_law_470 (by decide) rfl (by omega) ?_
  refine l_callM (as := [mi (sv xs (n + 1)), mi (sv xs (n + 2))]) hC dL_law_471 lvL_44 rfl rfl ⟨rfl, rfl⟩ (s_X8_text (sv_r _ _) (sv_r _ _)) rfl rfl (Nat.le_of_ble_eq_true rfl) (fun v M1 N1 S1 q => ?_)
  obtain ⟨z2, rfl, e2, rfl, rfl, hR⟩ := q
  refine ⟨hR, ?_⟩
  show LW G p e s m below meth c b bx bm _ 474 [.int (Int32.ofInt z2), .int (Int32.ofInt z)] _ _ _ _ _
  refine l_eqI (tgt := 1463) hC dL_law_474 (by decide) (by rw [e1, e2]) ?_
  exact next _ _ _ _ _ (⟨h, h', co1, cc1⟩)
theorem k_put {n : Nat} (hC : LC G p s m meth c b L xs bx bm) (hn : n + 5 < L ∧ L ≤ 3072) (cr : CR I K R M N) (next : ∀ I' K' R' M' N', CR I' K' R' M' N' → LW G p e s m below meth c b bx bm (nI n) 1463 [] I' K' R' M' N') : LW G p e s m below meth c b bx bm (nI n) 479 [] I K R M N := by
  obtain ⟨h, h', co, cc⟩ := cr
  obtain ⟨jH, jE, jL, jR, jT⟩ := id co.2.2.2.2.1
  refine l_x hC dL_law_479 ?_
  refine l_arg (k := 1) hC dL_law_480 dL_law_481 dL_law_482 dL_law_483 dL_law_484 (by decide) rfl (by omega) ?_
  refine l_arg (k := 2) hC dL_law_485 dL_law_486 dL_law_487 dL_law_488 dL_law_489 (by decide) rfl (by omega) ?_
  refine l_arg (k := 3) hC dL_law_490 dL_law_491 dL_law_492 dL_law_493 dL_law_494 (by decide) rfl (by omega) ?_
  refine l_callX (as := [mi (sv xs (n + 1)), mi (sv xs (n + 2)), mi (sv xs (n + 3))]) hC dL_law_495 lvL_45 rfl rfl ⟨rfl, rfl⟩ (s_X7_put co cc (sv_r _ _) (sv_r _ _) (sv_r _ _)) rfl rfl (Nat.le_of_ble_eq_true rfl) (fun v I1 K1 R1 q => ?_)
  obtain ⟨z, rfl, e1, co1, cc1⟩ := q
  refine l_m hC dL_law_498 ?_
  refine l_arg (k := 1) hC dL_law_499 dL_law_500 dL_law_501 dL_law_502 dL_law_503 (by decide) rfl (by omega) ?_
  refine l_arg (k := 2) hC dL_law_504 dL_law_505 dL_law_506 dL_law_507 dL_law_508 (by decide) rfl (by omega) ?_
  refine l_arg (k := 3) hC dL_law_509 dL_law_510 dL_law_511 dL_law_512 dL_law_513 (by decide) rfl (by omega) ?_
  refine l_callM (as := [mi (sv xs (n + 1)), mi (sv xs (n + 2)), mi (sv xs (n + 3))]) hC dL_law_514 lvL_48 rfl rfl ⟨rfl, rfl⟩ (s_X8_put jT (sv_r _ _) (sv_r _ _)) rfl rfl (Nat.le_of_ble_eq_true rfl) (fun v M1 N1 S1 q => ?_)
  obtain ⟨z2, rfl, e2, rfl, rfl, hR⟩ := q
  refine ⟨hR, ?_⟩
  show LW G p e s m below meth c b bx bm _ 517 [.int (Int32.ofInt z2), .int (Int32.ofInt z)] _ _ _ _ _
  refine l_eqI (tgt := 1463) hC dL_law_517 (by decide) (by rw [e1, e2]) ?_
  exact next _ _ _ _ _ (⟨h, h', co1, cc1⟩)
theorem k_fault {n : Nat} (hC : LC G p s m meth c b L xs bx bm) (hn : n + 5 < L ∧ L ≤ 3072) (cr : CR I K R M N) (next : ∀ I' K' R' M' N', CR I' K' R' M' N' → LW G p e s m below meth c b bx bm (nI n) 1463 [] I' K' R' M' N') : LW G p e s m below meth c b bx bm (nI n) 522 [] I K R M N := by
  obtain ⟨h, h', co, cc⟩ := cr
  obtain ⟨jH, jE, jL, jR, jT⟩ := id co.2.2.2.2.1
  refine l_x hC dL_law_522 ?_
  refine l_arg (k := 1) hC dL_law_523 dL_law_524 dL_law_525 dL_law_526 dL_law_527 (by decide) rfl (by omega) ?_
  refine l_arg (k := 2) hC dL_law_528 dL_law_529 dL_law_530 dL_law_531 dL_law_532 (by decide) rfl (by omega) ?_
  refine l_nz hC (sv_r _ _) dL_law_533 dL_law_536 dL_law_537 dL_law_540 ?_
  refine l_callX (as := [mi (sv xs (n + 1)), mi (nz (sv xs (n + 2)))]) hC dL_law_541 lvL_49 rfl rfl ⟨rfl, rfl⟩ (s_X7_fault co cc (sv_r _ _) (nz_r _)) rfl rfl (Nat.le_of_ble_eq_true rfl) (fun v I1 K1 R1 q => ?_)
  obtain ⟨z, rfl, e1, co1, cc1⟩ := q
  refine l_m hC dL_law_544 ?_
  refine l_arg (k := 1) hC dL_law_545 dL_law_546 dL_law_547 dL_law_548 dL_law_549 (by decide) rfl (by omega) ?_
  refine l_arg (k := 2) hC dL_law_550 dL_law_551 dL_law_552 dL_law_553 dL_law_554 (by decide) rfl (by omega) ?_
  refine l_nz hC (sv_r _ _) dL_law_555 dL_law_558 dL_law_559 dL_law_562 ?_
  refine l_callM (as := [mi (sv xs (n + 1)), mi (nz (sv xs (n + 2)))]) hC dL_law_563 lvL_53 rfl rfl ⟨rfl, rfl⟩ (s_X8_fault jH jE jT (sv_r _ _) (nz_r _)) rfl rfl (Nat.le_of_ble_eq_true rfl) (fun v M1 N1 S1 q => ?_)
  obtain ⟨z2, rfl, e2, pe, rfl, hR⟩ := q
  refine ⟨hR, ?_⟩
  show LW G p e s m below meth c b bx bm _ 566 [.int (Int32.ofInt z2), .int (Int32.ofInt z)] _ _ _ _ _
  refine l_eqI (tgt := 1463) hC dL_law_566 (by decide) (by rw [e1, e2]) ?_
  exact next _ _ _ _ _ (CR.pe ⟨h, h', co1, cc1⟩ pe (fun _ _ => rfl))
theorem k_house {n : Nat} (hC : LC G p s m meth c b L xs bx bm) (hn : n + 5 < L ∧ L ≤ 3072) (cr : CR I K R M N) (next : ∀ I' K' R' M' N', CR I' K' R' M' N' → LW G p e s m below meth c b bx bm (nI n) 1463 [] I' K' R' M' N') : LW G p e s m below meth c b bx bm (nI n) 571 [] I K R M N := by
  obtain ⟨h, h', co, cc⟩ := cr
  obtain ⟨jH, jE, jL, jR, jT⟩ := id co.2.2.2.2.1
  refine l_x hC dL_law_571 ?_
  refine l_arg (k := 1) hC dL_law_572 dL_law_573 dL_law_574 dL_law_575 dL_law_576 (by decide) rfl (by omega) ?_
  refine l_callX (as := [mi (sv xs (n + 1))]) hC dL_law_577 lvL_54 rfl rfl ⟨rfl, rfl⟩ (s_X7_house co cc (sv_r _ _)) rfl rfl (Nat.le_of_ble_eq_true rfl) (fun v I1 K1 R1 q => ?_)
  obtain ⟨z, rfl, y1, y2⟩ := q
  refine l_m hC dL_law_580 ?_
  refine l_arg (k := 1) hC dL_law_581 dL_law_582 dL_law_583 dL_law_584 dL_law_585 (by decide) rfl (by omega) ?_
  refine l_callM (as := [mi (sv xs (n + 1))]) hC dL_law_586 lvL_57 rfl rfl ⟨rfl, rfl⟩ (s_X8_house jH jE jT (sv_r _ _)) rfl rfl (Nat.le_of_ble_eq_true rfl) (fun v M1 N1 S1 q => ?_)
  obtain ⟨z2, rfl, x1, x2, rfl, hR⟩ := q
  refine ⟨hR, ?_⟩
  have both : z = z2 ∧ CR I1 K1 R1 M1 N := by
    by_cases ok : okH (sv xs (n + 1)) M
    · have a := y1 ok
      have b := x1 ok
      exact ⟨a.1.trans b.1.symm, _, _, a.2 M1 b.2⟩
    · have a := y2 ok
      have b := x2 ok
      exact ⟨a.1.trans b.1.symm, CR.pe ⟨_, _, a.2.1, a.2.2⟩ b.2 (fun _ _ => rfl)⟩
  show LW G p e s m below meth c b bx bm _ 589 [.int (Int32.ofInt z2), .int (Int32.ofInt z)] _ _ _ _ _
  refine l_eqI (tgt := 1463) hC dL_law_589 (by decide) (by rw [both.1]) ?_
  exact next _ _ _ _ _ (both.2)
theorem k_night {n : Nat} (hC : LC G p s m meth c b L xs bx bm) (hn : n + 5 < L ∧ L ≤ 3072) (cr : CR I K R M N) (next : ∀ I' K' R' M' N', CR I' K' R' M' N' → LW G p e s m below meth c b bx bm (nI n) 1463 [] I' K' R' M' N') : LW G p e s m below meth c b bx bm (nI n) 594 [] I K R M N := by
  obtain ⟨h, h', co, cc⟩ := cr
  obtain ⟨jH, jE, jL, jR, jT⟩ := id co.2.2.2.2.1
  refine l_x hC dL_law_594 ?_
  refine l_arg (k := 1) hC dL_law_595 dL_law_596 dL_law_597 dL_law_598 dL_law_599 (by decide) rfl (by omega) ?_
  refine l_callX (as := [mi (sv xs (n + 1))]) hC dL_law_600 lvL_58 rfl rfl ⟨rfl, rfl⟩ (s_X7_night co cc (sv_r _ _)) rfl rfl (Nat.le_of_ble_eq_true rfl) (fun v I1 K1 R1 q => ?_)
  obtain ⟨z, rfl, y1, y2⟩ := q
  refine l_m hC dL_law_603 ?_
  refine l_arg (k := 1) hC dL_law_604 dL_law_605 dL_law_606 dL_law_607 dL_law_608 (by decide) rfl (by omega) ?_
  refine l_callM (as := [mi (sv xs (n + 1))]) hC dL_law_609 lvL_61 rfl rfl ⟨rfl, rfl⟩ (s_X8_night jH jE jT (sv_r _ _)) rfl rfl (Nat.le_of_ble_eq_true rfl) (fun v M1 N1 S1 q => ?_)
  obtain ⟨z2, rfl, x1, x2, rfl, hR⟩ := q
  refine ⟨hR, ?_⟩
  have both : z = z2 ∧ CR I1 K1 R1 M1 N := by
    by_cases ok : okN (sv xs (n + 1)) M
    · have a := y1 ok
      have b := x1 ok
      exact ⟨a.1.trans b.1.symm, _, _, a.2 M1 b.2⟩
    · have a := y2 ok
      have b := x2 ok
      exact ⟨a.1.trans b.1.symm, CR.pe ⟨_, _, a.2.1, a.2.2⟩ b.2 (fun _ _ => rfl)⟩
  show LW G p e s m below meth c b bx bm _ 612 [.int (Int32.ofInt z2), .int (Int32.ofInt z)] _ _ _ _ _
  refine l_eqI (tgt := 1463) hC dL_law_612 (by decide) (by rw [both.1]) ?_
  exact next _ _ _ _ _ (both.2)
theorem k_event {n : Nat} (hC : LC G p s m meth c b L xs bx bm) (hn : n + 5 < L ∧ L ≤ 3072) (cr : CR I K R M N) (next : ∀ I' K' R' M' N', CR I' K' R' M' N' → LW G p e s m below meth c b bx bm (nI n) 1463 [] I' K' R' M' N') : LW G p e s m below meth c b bx bm (nI n) 617 [] I K R M N := by
  obtain ⟨h, h', co, cc⟩ := cr
  obtain ⟨jH, jE, jL, jR, jT⟩ := id co.2.2.2.2.1
  refine l_x hC dL_law_617 ?_
  refine l_arg (k := 1) hC dL_law_618 dL_law_619 dL_law_620 dL_law_621 dL_law_622 (by decide) rfl (by omega) ?_
  refine l_arg (k := 2) hC dL_law_623 dL_law_624 dL_law_625 dL_law_626 dL_law_627 (by decide) rfl (by omega) ?_
  refine l_arg (k := 3) hC dL_law_628 dL_law_629 dL_law_630 dL_law_631 dL_law_632 (by decide) rfl (by omega) ?_
  refine l_arg (k := 4) hC dL_law_633 dL_law_634 dL_law_635 dL_law_636 dL_law_637 (by decide) rfl (by omega) ?_
  refine l_callX (as := [mi (sv xs (n + 1)), mi (sv xs (n + 2)), mi (sv xs (n + 3)), mi (sv xs (n + 4))]) hC dL_law_638 lvL_62 rfl rfl ⟨rfl, rfl⟩ (s_X7_event co cc (sv_r _ _) (sv_r _ _) (sv_r _ _) (sv_r _ _)) rfl rfl (Nat.le_of_ble_eq_true rfl) (fun v I1 K1 R1 q => ?_)
  obtain ⟨z, rfl, e1, co1, cc1⟩ := q
  refine l_m hC dL_law_641 ?_
  refine l_arg (k := 1) hC dL_law_642 dL_law_643 dL_law_644 dL_law_645 dL_law_646 (by decide) rfl (by omega) ?_
  refine l_arg (k := 2) hC dL_law_647 dL_law_648 dL_law_649 dL_law_650 dL_law_651 (by decide) rfl (by omega) ?_
  refine l_arg (k := 3) hC dL_law_652 dL_law_653 dL_law_654 dL_law_655 dL_law_656 (by decide) rfl (by omega) ?_
  refine l_arg (k := 4) hC dL_law_657 dL_law_658 dL_law_659 dL_law_660 dL_law_661 (by decide) rfl (by omega) ?_
  refine l_callM (as := [mi (sv xs (n + 1)), mi (sv xs (n + 2)), mi (sv xs (n + 3)), mi (sv xs (n + 4))]) hC dL_law_662 lvL_66 rfl rfl ⟨rfl, rfl⟩ (s_X8_event jH jE (sv_r _ _) (sv_r _ _) (sv_r _ _) (sv_r _ _)) rfl rfl (Nat.le_of_ble_eq_true rfl) (fun v M1 N1 S1 q => ?_)
  obtain ⟨z2, rfl, e2, pe, rfl, hR⟩ := q
  refine ⟨hR, ?_⟩
  show LW G p e s m below meth c b bx bm _ 665 [.int (Int32.ofInt z2), .int (Int32.ofInt z)] _ _ _ _ _
  refine l_eqI (tgt := 1463) hC dL_law_665 (by decide) (by rw [e1, e2]) ?_
  exact next _ _ _ _ _ (CR.pe ⟨h, h', co1, cc1⟩ pe (fun _ _ => rfl))
theorem k_back {n : Nat} (hC : LC G p s m meth c b L xs bx bm) (hn : n + 5 < L ∧ L ≤ 3072) (cr : CR I K R M N) (next : ∀ I' K' R' M' N', CR I' K' R' M' N' → LW G p e s m below meth c b bx bm (nI n) 1463 [] I' K' R' M' N') : LW G p e s m below meth c b bx bm (nI n) 670 [] I K R M N := by
  obtain ⟨h, h', co, cc⟩ := cr
  obtain ⟨jH, jE, jL, jR, jT⟩ := id co.2.2.2.2.1
  refine l_x hC dL_law_670 ?_
  refine l_arg (k := 1) hC dL_law_671 dL_law_672 dL_law_673 dL_law_674 dL_law_675 (by decide) rfl (by omega) ?_
  refine l_callX (as := [mi (sv xs (n + 1))]) hC dL_law_676 lvL_67 rfl rfl ⟨rfl, rfl⟩ (s_X7_back co cc (sv_r _ _)) rfl rfl (Nat.le_of_ble_eq_true rfl) (fun v I1 K1 R1 q => ?_)
  obtain ⟨z, rfl, e1, co1, cc1⟩ := q
  refine l_m hC dL_law_679 ?_
  refine l_arg (k := 1) hC dL_law_680 dL_law_681 dL_law_682 dL_law_683 dL_law_684 (by decide) rfl (by omega) ?_
  refine l_callM (as := [mi (sv xs (n + 1))]) hC dL_law_685 lvL_70 rfl rfl ⟨rfl, rfl⟩ (s_X8_back jH jE (sv_r _ _)) rfl rfl (Nat.le_of_ble_eq_true rfl) (fun v M1 N1 S1 q => ?_)
  obtain ⟨z2, rfl, e2, pe, rfl, hR⟩ := q
  refine ⟨hR, ?_⟩
  show LW G p e s m below meth c b bx bm _ 688 [.int (Int32.ofInt z2), .int (Int32.ofInt z)] _ _ _ _ _
  refine l_eqI (tgt := 1463) hC dL_law_688 (by decide) (by rw [e1, e2]) ?_
  exact next _ _ _ _ _ (CR.pe ⟨h, h', co1, cc1⟩ pe (fun _ _ => rfl))
theorem k_told {n : Nat} (hC : LC G p s m meth c b L xs bx bm) (hn : n + 5 < L ∧ L ≤ 3072) (cr : CR I K R M N) (next : ∀ I' K' R' M' N', CR I' K' R' M' N' → LW G p e s m below meth c b bx bm (nI n) 1463 [] I' K' R' M' N') : LW G p e s m below meth c b bx bm (nI n) 693 [] I K R M N := by
  obtain ⟨h, h', co, cc⟩ := cr
  obtain ⟨jH, jE, jL, jR, jT⟩ := id co.2.2.2.2.1
  refine l_x hC dL_law_693 ?_
  refine l_arg (k := 1) hC dL_law_694 dL_law_695 dL_law_696 dL_law_697 dL_law_698 (by decide) rfl (by omega) ?_
  refine l_arg (k := 2) hC dL_law_699 dL_law_700 dL_law_701 dL_law_702 dL_law_703 (by decide) rfl (by omega) ?_
  refine l_callX (as := [mi (sv xs (n + 1)), mi (sv xs (n + 2))]) hC dL_law_704 lvL_71 rfl rfl ⟨rfl, rfl⟩ (s_X7_told co cc (sv_r _ _) (sv_r _ _)) rfl rfl (Nat.le_of_ble_eq_true rfl) (fun v I1 K1 R1 q => ?_)
  obtain ⟨z, rfl, e1, co1, cc1⟩ := q
  refine l_m hC dL_law_707 ?_
  refine l_arg (k := 1) hC dL_law_708 dL_law_709 dL_law_710 dL_law_711 dL_law_712 (by decide) rfl (by omega) ?_
  refine l_arg (k := 2) hC dL_law_713 dL_law_714 dL_law_715 dL_law_716 dL_law_717 (by decide) rfl (by omega) ?_
  refine l_callM (as := [mi (sv xs (n + 1)), mi (sv xs (n + 2))]) hC dL_law_718 lvL_74 rfl rfl ⟨rfl, rfl⟩ (s_X8_told jH jE (sv_r _ _) (sv_r _ _)) rfl rfl (Nat.le_of_ble_eq_true rfl) (fun v M1 N1 S1 q => ?_)
  obtain ⟨z2, rfl, e2, pe, rfl, hR⟩ := q
  refine ⟨hR, ?_⟩
  show LW G p e s m below meth c b bx bm _ 721 [.int (Int32.ofInt z2), .int (Int32.ofInt z)] _ _ _ _ _
  refine l_eqI (tgt := 1463) hC dL_law_721 (by decide) (by rw [e1, e2]) ?_
  exact next _ _ _ _ _ (CR.pe ⟨h, h', co1, cc1⟩ pe (fun _ _ => rfl))
theorem k_mark {n : Nat} (hC : LC G p s m meth c b L xs bx bm) (hn : n + 5 < L ∧ L ≤ 3072) (cr : CR I K R M N) (next : ∀ I' K' R' M' N', CR I' K' R' M' N' → LW G p e s m below meth c b bx bm (nI n) 1463 [] I' K' R' M' N') : LW G p e s m below meth c b bx bm (nI n) 726 [] I K R M N := by
  obtain ⟨h, h', co, cc⟩ := cr
  obtain ⟨jH, jE, jL, jR, jT⟩ := id co.2.2.2.2.1
  refine l_x hC dL_law_726 ?_
  refine l_arg (k := 1) hC dL_law_727 dL_law_728 dL_law_729 dL_law_730 dL_law_731 (by decide) rfl (by omega) ?_
  refine l_arg (k := 2) hC dL_law_732 dL_law_733 dL_law_734 dL_law_735 dL_law_736 (by decide) rfl (by omega) ?_
  refine l_callX (as := [mi (sv xs (n + 1)), mi (sv xs (n + 2))]) hC dL_law_737 lvL_75 rfl rfl ⟨rfl, rfl⟩ (s_X7_mark co cc (sv_r _ _) (sv_r _ _)) rfl rfl (Nat.le_of_ble_eq_true rfl) (fun v I1 K1 R1 q => ?_)
  obtain ⟨z, rfl, e1, co1, cc1⟩ := q
  refine l_m hC dL_law_740 ?_
  refine l_arg (k := 1) hC dL_law_741 dL_law_742 dL_law_743 dL_law_744 dL_law_745 (by decide) rfl (by omega) ?_
  refine l_arg (k := 2) hC dL_law_746 dL_law_747 dL_law_748 dL_law_749 dL_law_750 (by decide) rfl (by omega) ?_
  refine l_callM (as := [mi (sv xs (n + 1)), mi (sv xs (n + 2))]) hC dL_law_751 lvL_78 rfl rfl ⟨rfl, rfl⟩ (s_X8_mark jH jE (sv_r _ _) (sv_r _ _)) rfl rfl (Nat.le_of_ble_eq_true rfl) (fun v M1 N1 S1 q => ?_)
  obtain ⟨z2, rfl, e2, pe, rfl, hR⟩ := q
  refine ⟨hR, ?_⟩
  show LW G p e s m below meth c b bx bm _ 754 [.int (Int32.ofInt z2), .int (Int32.ofInt z)] _ _ _ _ _
  refine l_eqI (tgt := 1463) hC dL_law_754 (by decide) (by rw [e1, e2]) ?_
  exact next _ _ _ _ _ (CR.pe ⟨h, h', co1, cc1⟩ pe (fun _ _ => rfl))
theorem k_door {n : Nat} (hC : LC G p s m meth c b L xs bx bm) (hn : n + 5 < L ∧ L ≤ 3072) (cr : CR I K R M N) (next : ∀ I' K' R' M' N', CR I' K' R' M' N' → LW G p e s m below meth c b bx bm (nI n) 1463 [] I' K' R' M' N') : LW G p e s m below meth c b bx bm (nI n) 759 [] I K R M N := by
  obtain ⟨h, h', co, cc⟩ := cr
  obtain ⟨jH, jE, jL, jR, jT⟩ := id co.2.2.2.2.1
  refine l_x hC dL_law_759 ?_
  refine l_arg (k := 1) hC dL_law_760 dL_law_761 dL_law_762 dL_law_763 dL_law_764 (by decide) rfl (by omega) ?_
  refine l_arg (k := 2) hC dL_law_765 dL_law_766 dL_law_767 dL_law_768 dL_law_769 (by decide) rfl (by omega) ?_
  refine l_callX (as := [mi (sv xs (n + 1)), mi (sv xs (n + 2))]) hC dL_law_770 lvL_79 rfl rfl ⟨rfl, rfl⟩ (s_X7_door co cc (sv_r _ _) (sv_r _ _)) rfl rfl (Nat.le_of_ble_eq_true rfl) (fun v I1 K1 R1 q => ?_)
  obtain ⟨z, rfl, e1, co1, cc1⟩ := q
  refine l_m hC dL_law_773 ?_
  refine l_arg (k := 1) hC dL_law_774 dL_law_775 dL_law_776 dL_law_777 dL_law_778 (by decide) rfl (by omega) ?_
  refine l_arg (k := 2) hC dL_law_779 dL_law_780 dL_law_781 dL_law_782 dL_law_783 (by decide) rfl (by omega) ?_
  refine l_callM (as := [mi (sv xs (n + 1)), mi (sv xs (n + 2))]) hC dL_law_784 lvL_82 rfl rfl ⟨rfl, rfl⟩ (s_X8_door jH jE (sv_r _ _) (sv_r _ _)) rfl rfl (Nat.le_of_ble_eq_true rfl) (fun v M1 N1 S1 q => ?_)
  obtain ⟨z2, rfl, e2, pe, rfl, hR⟩ := q
  refine ⟨hR, ?_⟩
  show LW G p e s m below meth c b bx bm _ 787 [.int (Int32.ofInt z2), .int (Int32.ofInt z)] _ _ _ _ _
  refine l_eqI (tgt := 1463) hC dL_law_787 (by decide) (by rw [e1, e2]) ?_
  exact next _ _ _ _ _ (CR.pe ⟨h, h', co1, cc1⟩ pe (fun _ _ => rfl))
theorem k_walker {n : Nat} (hC : LC G p s m meth c b L xs bx bm) (hn : n + 5 < L ∧ L ≤ 3072) (cr : CR I K R M N) (next : ∀ I' K' R' M' N', CR I' K' R' M' N' → LW G p e s m below meth c b bx bm (nI n) 1463 [] I' K' R' M' N') : LW G p e s m below meth c b bx bm (nI n) 792 [] I K R M N := by
  obtain ⟨h, h', co, cc⟩ := cr
  obtain ⟨jH, jE, jL, jR, jT⟩ := id co.2.2.2.2.1
  refine l_x hC dL_law_792 ?_
  refine l_arg (k := 1) hC dL_law_793 dL_law_794 dL_law_795 dL_law_796 dL_law_797 (by decide) rfl (by omega) ?_
  refine l_arg (k := 2) hC dL_law_798 dL_law_799 dL_law_800 dL_law_801 dL_law_802 (by decide) rfl (by omega) ?_
  refine l_callX (as := [mi (sv xs (n + 1)), mi (sv xs (n + 2))]) hC dL_law_803 lvL_83 rfl rfl ⟨rfl, rfl⟩ (s_X7_walker co cc (sv_r _ _) (sv_r _ _)) rfl rfl (Nat.le_of_ble_eq_true rfl) (fun v I1 K1 R1 q => ?_)
  obtain ⟨z, rfl, e1, co1, cc1⟩ := q
  refine l_m hC dL_law_806 ?_
  refine l_arg (k := 1) hC dL_law_807 dL_law_808 dL_law_809 dL_law_810 dL_law_811 (by decide) rfl (by omega) ?_
  refine l_arg (k := 2) hC dL_law_812 dL_law_813 dL_law_814 dL_law_815 dL_law_816 (by decide) rfl (by omega) ?_
  refine l_callM (as := [mi (sv xs (n + 1)), mi (sv xs (n + 2))]) hC dL_law_817 lvL_86 rfl rfl ⟨rfl, rfl⟩ (s_X8_walker jH jE (sv_r _ _) (sv_r _ _)) rfl rfl (Nat.le_of_ble_eq_true rfl) (fun v M1 N1 S1 q => ?_)
  obtain ⟨z2, rfl, e2, pe, rfl, hR⟩ := q
  refine ⟨hR, ?_⟩
  show LW G p e s m below meth c b bx bm _ 820 [.int (Int32.ofInt z2), .int (Int32.ofInt z)] _ _ _ _ _
  refine l_eqI (tgt := 1463) hC dL_law_820 (by decide) (by rw [e1, e2]) ?_
  exact next _ _ _ _ _ (CR.pe ⟨h, h', co1, cc1⟩ pe (fun _ _ => rfl))
theorem k_could {n : Nat} (hC : LC G p s m meth c b L xs bx bm) (hn : n + 5 < L ∧ L ≤ 3072) (cr : CR I K R M N) (next : ∀ I' K' R' M' N', CR I' K' R' M' N' → LW G p e s m below meth c b bx bm (nI n) 1463 [] I' K' R' M' N') : LW G p e s m below meth c b bx bm (nI n) 825 [] I K R M N := by
  obtain ⟨h, h', co, cc⟩ := cr
  obtain ⟨jH, jE, jL, jR, jT⟩ := id co.2.2.2.2.1
  refine l_x hC dL_law_825 ?_
  refine l_callX (as := []) hC dL_law_826 lvL_87 rfl rfl ⟨rfl, rfl⟩ (s_X7_could co cc) rfl rfl (Nat.le_of_ble_eq_true rfl) (fun v I1 K1 R1 q => ?_)
  obtain ⟨z, rfl, e1, co1, cc1⟩ := q
  refine l_m hC dL_law_829 ?_
  refine l_callM (as := []) hC dL_law_830 lvL_91 rfl rfl ⟨rfl, rfl⟩ (s_X8_could jH jE) rfl rfl (Nat.le_of_ble_eq_true rfl) (fun v M1 N1 S1 q => ?_)
  obtain ⟨z2, rfl, e2, pe, lf, hR⟩ := q
  refine ⟨hR, ?_⟩
  show LW G p e s m below meth c b bx bm _ 833 [.int (Int32.ofInt z2), .int (Int32.ofInt z)] _ _ _ _ _
  refine l_eqI (tgt := 1463) hC dL_law_833 (by decide) (by rw [e1, e2]) ?_
  exact next _ _ _ _ _ (CR.pe ⟨h, h', co1, cc1⟩ pe (fun j hj => lf 0 j (by decide) (by decide)))
theorem k_fewest {n : Nat} (hC : LC G p s m meth c b L xs bx bm) (hn : n + 5 < L ∧ L ≤ 3072) (cr : CR I K R M N) (next : ∀ I' K' R' M' N', CR I' K' R' M' N' → LW G p e s m below meth c b bx bm (nI n) 1463 [] I' K' R' M' N') : LW G p e s m below meth c b bx bm (nI n) 838 [] I K R M N := by
  obtain ⟨h, h', co, cc⟩ := cr
  obtain ⟨jH, jE, jL, jR, jT⟩ := id co.2.2.2.2.1
  refine l_x hC dL_law_838 ?_
  refine l_callX (as := []) hC dL_law_839 lvL_92 rfl rfl ⟨rfl, rfl⟩ (s_X7_fewest co cc) rfl rfl (Nat.le_of_ble_eq_true rfl) (fun v I1 K1 R1 q => ?_)
  obtain ⟨z, rfl, e1, co1, cc1⟩ := q
  refine l_m hC dL_law_842 ?_
  refine l_callM (as := []) hC dL_law_843 lvL_95 rfl rfl ⟨rfl, rfl⟩ (s_X8_fewest jH jE) rfl rfl (Nat.le_of_ble_eq_true rfl) (fun v M1 N1 S1 q => ?_)
  obtain ⟨z2, rfl, e2, pe, lf, hR⟩ := q
  refine ⟨hR, ?_⟩
  show LW G p e s m below meth c b bx bm _ 846 [.int (Int32.ofInt z2), .int (Int32.ofInt z)] _ _ _ _ _
  refine l_eqI (tgt := 1463) hC dL_law_846 (by decide) (by rw [e1, e2]) ?_
  exact next _ _ _ _ _ (CR.pe ⟨h, h', co1, cc1⟩ pe (fun j hj => lf 0 j (by decide) (by decide)))
theorem k_ways {n : Nat} (hC : LC G p s m meth c b L xs bx bm) (hn : n + 5 < L ∧ L ≤ 3072) (cr : CR I K R M N) (next : ∀ I' K' R' M' N', CR I' K' R' M' N' → LW G p e s m below meth c b bx bm (nI n) 1463 [] I' K' R' M' N') : LW G p e s m below meth c b bx bm (nI n) 851 [] I K R M N := by
  obtain ⟨h, h', co, cc⟩ := cr
  obtain ⟨jH, jE, jL, jR, jT⟩ := id co.2.2.2.2.1
  refine l_x hC dL_law_851 ?_
  refine l_callX (as := []) hC dL_law_852 lvL_96 rfl rfl ⟨rfl, rfl⟩ (s_X7_ways co cc) rfl rfl (Nat.le_of_ble_eq_true rfl) (fun v I1 K1 R1 q => ?_)
  obtain ⟨z, rfl, e1, co1, cc1⟩ := q
  refine l_m hC dL_law_855 ?_
  refine l_callM (as := []) hC dL_law_856 lvL_99 rfl rfl ⟨rfl, rfl⟩ (s_X8_ways jH jE) rfl rfl (Nat.le_of_ble_eq_true rfl) (fun v M1 N1 S1 q => ?_)
  obtain ⟨z2, rfl, e2, pe, lf, hR⟩ := q
  refine ⟨hR, ?_⟩
  show LW G p e s m below meth c b bx bm _ 859 [.int (Int32.ofInt z2), .int (Int32.ofInt z)] _ _ _ _ _
  refine l_eqI (tgt := 1463) hC dL_law_859 (by decide) (by rw [e1, e2]) ?_
  exact next _ _ _ _ _ (CR.pe ⟨h, h', co1, cc1⟩ pe (fun j hj => lf 0 j (by decide) (by decide)))
theorem k_rooms {n : Nat} (hC : LC G p s m meth c b L xs bx bm) (hn : n + 5 < L ∧ L ≤ 3072) (cr : CR I K R M N) (next : ∀ I' K' R' M' N', CR I' K' R' M' N' → LW G p e s m below meth c b bx bm (nI n) 1463 [] I' K' R' M' N') : LW G p e s m below meth c b bx bm (nI n) 864 [] I K R M N := by
  obtain ⟨h, h', co, cc⟩ := cr
  obtain ⟨jH, jE, jL, jR, jT⟩ := id co.2.2.2.2.1
  refine l_x hC dL_law_864 ?_
  refine l_arg (k := 1) hC dL_law_865 dL_law_866 dL_law_867 dL_law_868 dL_law_869 (by decide) rfl (by omega) ?_
  refine l_arg (k := 2) hC dL_law_870 dL_law_871 dL_law_872 dL_law_873 dL_law_874 (by decide) rfl (by omega) ?_
  refine l_callX (as := [mi (sv xs (n + 1)), mi (sv xs (n + 2))]) hC dL_law_875 lvL_100 rfl rfl ⟨rfl, rfl⟩ (s_X7_rooms co cc (sv_r _ _) (sv_r _ _)) rfl rfl (Nat.le_of_ble_eq_true rfl) (fun v I1 K1 R1 q => ?_)
  obtain ⟨z, rfl, e1, co1, cc1⟩ := q
  refine l_m hC dL_law_878 ?_
  refine l_arg (k := 1) hC dL_law_879 dL_law_880 dL_law_881 dL_law_882 dL_law_883 (by decide) rfl (by omega) ?_
  refine l_arg (k := 2) hC dL_law_884 dL_law_885 dL_law_886 dL_law_887 dL_law_888 (by decide) rfl (by omega) ?_
  refine l_callM (as := [mi (sv xs (n + 1)), mi (sv xs (n + 2))]) hC dL_law_889 lvL_103 rfl rfl ⟨rfl, rfl⟩ (s_X8_rooms jH jE (sv_r _ _) (sv_r _ _)) rfl rfl (Nat.le_of_ble_eq_true rfl) (fun v M1 N1 S1 q => ?_)
  obtain ⟨z2, rfl, e2, pe, lf, hR⟩ := q
  refine ⟨hR, ?_⟩
  show LW G p e s m below meth c b bx bm _ 892 [.int (Int32.ofInt z2), .int (Int32.ofInt z)] _ _ _ _ _
  refine l_eqI (tgt := 1463) hC dL_law_892 (by decide) (by rw [e1, e2]) ?_
  exact next _ _ _ _ _ (CR.pe ⟨h, h', co1, cc1⟩ pe (fun j hj => lf 0 j (by decide) (by decide)))
theorem k_empty {n : Nat} (hC : LC G p s m meth c b L xs bx bm) (hn : n + 5 < L ∧ L ≤ 3072) (cr : CR I K R M N) (next : ∀ I' K' R' M' N', CR I' K' R' M' N' → LW G p e s m below meth c b bx bm (nI n) 1463 [] I' K' R' M' N') : LW G p e s m below meth c b bx bm (nI n) 897 [] I K R M N := by
  obtain ⟨h, h', co, cc⟩ := cr
  obtain ⟨jH, jE, jL, jR, jT⟩ := id co.2.2.2.2.1
  refine l_x hC dL_law_897 ?_
  refine l_arg (k := 1) hC dL_law_898 dL_law_899 dL_law_900 dL_law_901 dL_law_902 (by decide) rfl (by omega) ?_
  refine l_callX (as := [mi (sv xs (n + 1))]) hC dL_law_903 lvL_104 rfl rfl ⟨rfl, rfl⟩ (s_X7_empty co cc (sv_r _ _)) rfl rfl (Nat.le_of_ble_eq_true rfl) (fun v I1 K1 R1 q => ?_)
  obtain ⟨z, rfl, e1, co1, cc1⟩ := q
  refine l_m hC dL_law_906 ?_
  refine l_arg (k := 1) hC dL_law_907 dL_law_908 dL_law_909 dL_law_910 dL_law_911 (by decide) rfl (by omega) ?_
  refine l_callM (as := [mi (sv xs (n + 1))]) hC dL_law_912 lvL_107 rfl rfl ⟨rfl, rfl⟩ (s_X8_empty jH jE (sv_r _ _)) rfl rfl (Nat.le_of_ble_eq_true rfl) (fun v M1 N1 S1 q => ?_)
  obtain ⟨z2, rfl, e2, pe, lf, hR⟩ := q
  refine ⟨hR, ?_⟩
  show LW G p e s m below meth c b bx bm _ 915 [.int (Int32.ofInt z2), .int (Int32.ofInt z)] _ _ _ _ _
  refine l_eqI (tgt := 1463) hC dL_law_915 (by decide) (by rw [e1, e2]) ?_
  exact next _ _ _ _ _ (CR.pe ⟨h, h', co1, cc1⟩ pe (fun j hj => lf 0 j (by decide) (by decide)))
theorem k_where {n : Nat} (hC : LC G p s m meth c b L xs bx bm) (hn : n + 5 < L ∧ L ≤ 3072) (cr : CR I K R M N) (next : ∀ I' K' R' M' N', CR I' K' R' M' N' → LW G p e s m below meth c b bx bm (nI n) 1463 [] I' K' R' M' N') : LW G p e s m below meth c b bx bm (nI n) 920 [] I K R M N := by
  obtain ⟨h, h', co, cc⟩ := cr
  obtain ⟨jH, jE, jL, jR, jT⟩ := id co.2.2.2.2.1
  refine l_x hC dL_law_920 ?_
  refine l_arg (k := 1) hC dL_law_921 dL_law_922 dL_law_923 dL_law_924 dL_law_925 (by decide) rfl (by omega) ?_
  refine l_arg (k := 2) hC dL_law_926 dL_law_927 dL_law_928 dL_law_929 dL_law_930 (by decide) rfl (by omega) ?_
  refine l_callX (as := [mi (sv xs (n + 1)), mi (sv xs (n + 2))]) hC dL_law_931 lvL_108 rfl rfl ⟨rfl, rfl⟩ (s_X7_where co cc (sv_r _ _) (sv_r _ _)) rfl rfl (Nat.le_of_ble_eq_true rfl) (fun v I1 K1 R1 q => ?_)
  obtain ⟨z, rfl, e1, co1, cc1⟩ := q
  refine l_m hC dL_law_934 ?_
  refine l_arg (k := 1) hC dL_law_935 dL_law_936 dL_law_937 dL_law_938 dL_law_939 (by decide) rfl (by omega) ?_
  refine l_arg (k := 2) hC dL_law_940 dL_law_941 dL_law_942 dL_law_943 dL_law_944 (by decide) rfl (by omega) ?_
  refine l_callM (as := [mi (sv xs (n + 1)), mi (sv xs (n + 2))]) hC dL_law_945 lvL_111 rfl rfl ⟨rfl, rfl⟩ (s_X8_where jH jE (sv_r _ _) (sv_r _ _)) rfl rfl (Nat.le_of_ble_eq_true rfl) (fun v M1 N1 S1 q => ?_)
  obtain ⟨z2, rfl, e2, pe, lf, hR⟩ := q
  refine ⟨hR, ?_⟩
  show LW G p e s m below meth c b bx bm _ 948 [.int (Int32.ofInt z2), .int (Int32.ofInt z)] _ _ _ _ _
  refine l_eqI (tgt := 1463) hC dL_law_948 (by decide) (by rw [e1, e2]) ?_
  exact next _ _ _ _ _ (CR.pe ⟨h, h', co1, cc1⟩ pe (fun j hj => lf 0 j (by decide) (by decide)))
end
