theorem lc_0 (xs : Nat → Int32) : AW (ML 6 xs) 202 318709 284 [(0, .ref 1100), (1, .ref 0), (2, .ref 1), (3, .ref 2), (4, .int 0)] [] HF k1_ := by
  refine aw_aload_n (i := 1) rfl d_L_284 1 rfl ?_
  refine aw_aload_n (i := 0) rfl d_L_285 0 rfl ?_
  refine aw_iload d_L_286 4 rfl ?_
  refine aw_iconst (v := 1) d_L_288 ic_1 ?_
  refine aw_iadd d_L_289 ?_
  refine aw_vi (v2 := 1) (by decide) ?_
  refine aw_sld 1 (by decide) (vin_c (by decide)) d_L_290 ?_
  refine aw_aload_n (i := 0) rfl d_L_291 0 rfl ?_
  refine aw_iload d_L_292 4 rfl ?_
  refine aw_iconst (v := 2) d_L_294 ic_2 ?_
  refine aw_iadd d_L_295 ?_
  refine aw_vi (v2 := 2) (by decide) ?_
  refine aw_sld 2 (by decide) (vin_c (by decide)) d_L_296 ?_
  refine aw_aload_n (i := 0) rfl d_L_297 0 rfl ?_
  refine aw_iload d_L_298 4 rfl ?_
  refine aw_iconst (v := 3) d_L_300 ic_3 ?_
  refine aw_iadd d_L_301 ?_
  refine aw_vi (v2 := 3) (by decide) ?_
  refine aw_sld 3 (by decide) (vin_c (by decide)) d_L_302 ?_
  refine aw_Vi 0 [.int (xs 1), .int (xs 2), .int (xs 3)] [] d_L_303 (cV_X11_path (0 + 2) 0 0) kc_11 (ws_0 wHF) tw_536 rfl ⟨⟨Nat.le_of_ble_eq_true rfl, Nat.le_of_ble_eq_true rfl⟩, show 202 + 0 ≤ 600002 from by decide +kernel, show 318709 + 0 ≤ 7302232 from by decide +kernel⟩ (Nat.le_of_ble_eq_true rfl) xsL (g_X11_path 0 (xs 1) (xs 2) (xs 3)) (fun r1 h1 k1 => ?_)
  obtain ⟨o1, w1, f1⟩ := k1
  refine aw_aload_n (i := 2) rfl d_L_306 2 rfl ?_
  refine aw_aload_n (i := 0) rfl d_L_307 0 rfl ?_
  refine aw_iload d_L_308 4 rfl ?_
  refine aw_iconst (v := 1) d_L_310 ic_1 ?_
  refine aw_iadd d_L_311 ?_
  refine aw_vi (v2 := 1) (by decide) ?_
  refine aw_sld 1 (by decide) (vin_c (by decide)) d_L_312 ?_
  refine aw_aload_n (i := 0) rfl d_L_313 0 rfl ?_
  refine aw_iload d_L_314 4 rfl ?_
  refine aw_iconst (v := 2) d_L_316 ic_2 ?_
  refine aw_iadd d_L_317 ?_
  refine aw_vi (v2 := 2) (by decide) ?_
  refine aw_sld 2 (by decide) (vin_c (by decide)) d_L_318 ?_
  refine aw_aload_n (i := 0) rfl d_L_319 0 rfl ?_
  refine aw_iload d_L_320 4 rfl ?_
  refine aw_iconst (v := 3) d_L_322 ic_3 ?_
  refine aw_iadd d_L_323 ?_
  refine aw_vi (v2 := 3) (by decide) ?_
  refine aw_sld 3 (by decide) (vin_c (by decide)) d_L_324 ?_
  refine aw_Vi 1 [.int (xs 1), .int (xs 2), .int (xs 3)] [.int r1] d_L_325 (cV_X12_path (0 + 2) 0 0) kc_12 (ws_1 w1) tw_2140 rfl ⟨⟨Nat.le_of_ble_eq_true rfl, Nat.le_of_ble_eq_true rfl⟩, show 202 + 0 + 0 ≤ 600002 from by decide +kernel, show 318709 + 0 + 0 ≤ 7302232 from by decide +kernel⟩ (Nat.le_of_ble_eq_true rfl) xsL (g_X12_path 0 h1 w1 f1 (xs 1) (xs 2) (xs 3)) (fun r2 h2 k2 => ?_)
  refine aw_icmp_eq (tgt := 2434) d_L_328 rfl (fun _ => ?_) (fun z => absurd (ag_path o1 k2) z)
  exact lt_6 xs _ _ ⟨by decide +kernel, by decide +kernel⟩ h2
theorem lc_1 (xs : Nat → Int32) : AW (ML 6 xs) 202 318709 333 [(0, .ref 1100), (1, .ref 0), (2, .ref 1), (3, .ref 2), (4, .int 0)] [] HF k1_ := by
  refine aw_aload_n (i := 1) rfl d_L_333 1 rfl ?_
  refine aw_aload_n (i := 0) rfl d_L_334 0 rfl ?_
  refine aw_iload d_L_335 4 rfl ?_
  refine aw_iconst (v := 1) d_L_337 ic_1 ?_
  refine aw_iadd d_L_338 ?_
  refine aw_vi (v2 := 1) (by decide) ?_
  refine aw_sld 1 (by decide) (vin_c (by decide)) d_L_339 ?_
  refine aw_aload_n (i := 0) rfl d_L_340 0 rfl ?_
  refine aw_iload d_L_341 4 rfl ?_
  refine aw_iconst (v := 2) d_L_343 ic_2 ?_
  refine aw_iadd d_L_344 ?_
  refine aw_vi (v2 := 2) (by decide) ?_
  refine aw_sld 2 (by decide) (vin_c (by decide)) d_L_345 ?_
  refine aw_Vi 0 [.int (xs 1), .int (xs 2)] [] d_L_346 (cV_X11_walk (0 + 2) 0 0) kc_11 (ws_0 wHF) tw_553 rfl ⟨⟨Nat.le_of_ble_eq_true rfl, Nat.le_of_ble_eq_true rfl⟩, show 202 + 0 ≤ 600002 from by decide +kernel, show 318709 + 0 ≤ 7302232 from by decide +kernel⟩ (Nat.le_of_ble_eq_true rfl) xsL (g_X11_walk 0 (xs 1) (xs 2)) (fun r1 h1 k1 => ?_)
  obtain ⟨o1, w1, f1⟩ := k1
  refine aw_aload_n (i := 2) rfl d_L_349 2 rfl ?_
  refine aw_aload_n (i := 0) rfl d_L_350 0 rfl ?_
  refine aw_iload d_L_351 4 rfl ?_
  refine aw_iconst (v := 1) d_L_353 ic_1 ?_
  refine aw_iadd d_L_354 ?_
  refine aw_vi (v2 := 1) (by decide) ?_
  refine aw_sld 1 (by decide) (vin_c (by decide)) d_L_355 ?_
  refine aw_aload_n (i := 0) rfl d_L_356 0 rfl ?_
  refine aw_iload d_L_357 4 rfl ?_
  refine aw_iconst (v := 2) d_L_359 ic_2 ?_
  refine aw_iadd d_L_360 ?_
  refine aw_vi (v2 := 2) (by decide) ?_
  refine aw_sld 2 (by decide) (vin_c (by decide)) d_L_361 ?_
  refine aw_Vi 1 [.int (xs 1), .int (xs 2)] [.int r1] d_L_362 (cV_X12_walk (0 + 2) 0 0) kc_12 (ws_1 w1) tw_2150 rfl ⟨⟨Nat.le_of_ble_eq_true rfl, Nat.le_of_ble_eq_true rfl⟩, show 202 + 0 + 0 ≤ 600002 from by decide +kernel, show 318709 + 0 + 0 ≤ 7302232 from by decide +kernel⟩ (Nat.le_of_ble_eq_true rfl) xsL (g_X12_walk 0 h1 w1 ((f1.1 6).trans hf_1_6) (xs 1) (xs 2)) (fun r2 h2 k2 => ?_)
  refine aw_icmp_eq (tgt := 2434) d_L_365 rfl (fun _ => ?_) (fun z => absurd (ag_walk o1 k2) z)
  exact lt_6 xs _ _ ⟨by decide +kernel, by decide +kernel⟩ h2
theorem lc_2 (xs : Nat → Int32) : AW (ML 6 xs) 202 318709 370 [(0, .ref 1100), (1, .ref 0), (2, .ref 1), (3, .ref 2), (4, .int 0)] [] HF k1_ := by
  refine aw_aload_n (i := 1) rfl d_L_370 1 rfl ?_
  refine aw_aload_n (i := 0) rfl d_L_371 0 rfl ?_
  refine aw_iload d_L_372 4 rfl ?_
  refine aw_iconst (v := 1) d_L_374 ic_1 ?_
  refine aw_iadd d_L_375 ?_
  refine aw_vi (v2 := 1) (by decide) ?_
  refine aw_sld 1 (by decide) (vin_c (by decide)) d_L_376 ?_
  refine aw_aload_n (i := 0) rfl d_L_377 0 rfl ?_
  refine aw_iload d_L_378 4 rfl ?_
  refine aw_iconst (v := 2) d_L_380 ic_2 ?_
  refine aw_iadd d_L_381 ?_
  refine aw_vi (v2 := 2) (by decide) ?_
  refine aw_sld 2 (by decide) (vin_c (by decide)) d_L_382 ?_
  refine aw_aload_n (i := 0) rfl d_L_383 0 rfl ?_
  refine aw_iload d_L_384 4 rfl ?_
  refine aw_iconst (v := 3) d_L_386 ic_3 ?_
  refine aw_iadd d_L_387 ?_
  refine aw_vi (v2 := 3) (by decide) ?_
  refine aw_sld 3 (by decide) (vin_c (by decide)) d_L_388 ?_
  refine aw_Vi 0 [.int (xs 1), .int (xs 2), .int (xs 3)] [] d_L_389 (cV_X11_constable (0 + 2) 1 17) kc_11 (ws_0 wHF) tw_562 rfl ⟨⟨Nat.le_of_ble_eq_true rfl, Nat.le_of_ble_eq_true rfl⟩, show 202 + 1 ≤ 600002 from by decide +kernel, show 318709 + 17 ≤ 7302232 from by decide +kernel⟩ (Nat.le_of_ble_eq_true rfl) xsL (g_X11_constable 0 (xs 1) (xs 2) (xs 3)) (fun r1 h1 k1 => ?_)
  obtain ⟨o1, w1, f1⟩ := k1
  refine aw_aload_n (i := 2) rfl d_L_392 2 rfl ?_
  refine aw_aload_n (i := 0) rfl d_L_393 0 rfl ?_
  refine aw_iload d_L_394 4 rfl ?_
  refine aw_iconst (v := 1) d_L_396 ic_1 ?_
  refine aw_iadd d_L_397 ?_
  refine aw_vi (v2 := 1) (by decide) ?_
  refine aw_sld 1 (by decide) (vin_c (by decide)) d_L_398 ?_
  refine aw_aload_n (i := 0) rfl d_L_399 0 rfl ?_
  refine aw_iload d_L_400 4 rfl ?_
  refine aw_iconst (v := 2) d_L_402 ic_2 ?_
  refine aw_iadd d_L_403 ?_
  refine aw_vi (v2 := 2) (by decide) ?_
  refine aw_sld 2 (by decide) (vin_c (by decide)) d_L_404 ?_
  refine aw_aload_n (i := 0) rfl d_L_405 0 rfl ?_
  refine aw_iload d_L_406 4 rfl ?_
  refine aw_iconst (v := 3) d_L_408 ic_3 ?_
  refine aw_iadd d_L_409 ?_
  refine aw_vi (v2 := 3) (by decide) ?_
  refine aw_sld 3 (by decide) (vin_c (by decide)) d_L_410 ?_
  refine aw_Vi 1 [.int (xs 1), .int (xs 2), .int (xs 3)] [.int r1] d_L_411 (cV_X12_constable (0 + 2) 0 0) kc_12 (ws_1 w1) tw_2159 rfl ⟨⟨Nat.le_of_ble_eq_true rfl, Nat.le_of_ble_eq_true rfl⟩, show 202 + 1 + 0 ≤ 600002 from by decide +kernel, show 318709 + 17 + 0 ≤ 7302232 from by decide +kernel⟩ (Nat.le_of_ble_eq_true rfl) xsL (g_X12_constable 0 h1 w1 f1 (xs 1) (xs 2) (xs 3)) (fun r2 h2 k2 => ?_)
  refine aw_icmp_eq (tgt := 2434) d_L_414 rfl (fun _ => ?_) (fun z => absurd (ag_constable o1 k2) z)
  exact lt_6 xs _ _ ⟨by decide +kernel, by decide +kernel⟩ h2
theorem lc_3 (xs : Nat → Int32) : AW (ML 6 xs) 202 318709 419 [(0, .ref 1100), (1, .ref 0), (2, .ref 1), (3, .ref 2), (4, .int 0)] [] HF k1_ := by
  refine aw_aload_n (i := 1) rfl d_L_419 1 rfl ?_
  refine aw_aload_n (i := 0) rfl d_L_420 0 rfl ?_
  refine aw_iload d_L_421 4 rfl ?_
  refine aw_iconst (v := 1) d_L_423 ic_1 ?_
  refine aw_iadd d_L_424 ?_
  refine aw_vi (v2 := 1) (by decide) ?_
  refine aw_sld 1 (by decide) (vin_c (by decide)) d_L_425 ?_
  refine aw_aload_n (i := 0) rfl d_L_426 0 rfl ?_
  refine aw_iload d_L_427 4 rfl ?_
  refine aw_iconst (v := 2) d_L_429 ic_2 ?_
  refine aw_iadd d_L_430 ?_
  refine aw_vi (v2 := 2) (by decide) ?_
  refine aw_sld 2 (by decide) (vin_c (by decide)) d_L_431 ?_
  refine aw_aload_n (i := 0) rfl d_L_432 0 rfl ?_
  refine aw_iload d_L_433 4 rfl ?_
  refine aw_iconst (v := 3) d_L_435 ic_3 ?_
  refine aw_iadd d_L_436 ?_
  refine aw_vi (v2 := 3) (by decide) ?_
  refine aw_sld 3 (by decide) (vin_c (by decide)) d_L_437 ?_
  refine aw_aload_n (i := 0) rfl d_L_438 0 rfl ?_
  refine aw_iload d_L_439 4 rfl ?_
  refine aw_iconst (v := 4) d_L_441 ic_4 ?_
  refine aw_iadd d_L_442 ?_
  refine aw_vi (v2 := 4) (by decide) ?_
  refine aw_sld 4 (by decide) (vin_c (by decide)) d_L_443 ?_
  refine aw_aload_n (i := 0) rfl d_L_444 0 rfl ?_
  refine aw_iload d_L_445 4 rfl ?_
  refine aw_iconst (v := 5) d_L_447 ic_5 ?_
  refine aw_iadd d_L_448 ?_
  refine aw_vi (v2 := 5) (by decide) ?_
  refine aw_sld 5 (by decide) (vin_c (by decide)) d_L_449 ?_
  refine aw_Vi 0 [.int (xs 1), .int (xs 2), .int (xs 3), .int (xs 4), .int (xs 5)] [] d_L_450 (cV_X11_feed (0 + 2) 0 0) kc_11 (ws_0 wHF) tw_641 rfl ⟨⟨Nat.le_of_ble_eq_true rfl, Nat.le_of_ble_eq_true rfl⟩, show 202 + 0 ≤ 600002 from by decide +kernel, show 318709 + 0 ≤ 7302232 from by decide +kernel⟩ (Nat.le_of_ble_eq_true rfl) xsL (g_X11_feed 0 (xs 1) (xs 2) (xs 3) (xs 4) (xs 5)) (fun r1 h1 k1 => ?_)
  obtain ⟨o1, w1, f1⟩ := k1
  refine aw_aload_n (i := 2) rfl d_L_453 2 rfl ?_
  refine aw_aload_n (i := 0) rfl d_L_454 0 rfl ?_
  refine aw_iload d_L_455 4 rfl ?_
  refine aw_iconst (v := 1) d_L_457 ic_1 ?_
  refine aw_iadd d_L_458 ?_
  refine aw_vi (v2 := 1) (by decide) ?_
  refine aw_sld 1 (by decide) (vin_c (by decide)) d_L_459 ?_
  refine aw_aload_n (i := 0) rfl d_L_460 0 rfl ?_
  refine aw_iload d_L_461 4 rfl ?_
  refine aw_iconst (v := 2) d_L_463 ic_2 ?_
  refine aw_iadd d_L_464 ?_
  refine aw_vi (v2 := 2) (by decide) ?_
  refine aw_sld 2 (by decide) (vin_c (by decide)) d_L_465 ?_
  refine aw_aload_n (i := 0) rfl d_L_466 0 rfl ?_
  refine aw_iload d_L_467 4 rfl ?_
  refine aw_iconst (v := 3) d_L_469 ic_3 ?_
  refine aw_iadd d_L_470 ?_
  refine aw_vi (v2 := 3) (by decide) ?_
  refine aw_sld 3 (by decide) (vin_c (by decide)) d_L_471 ?_
  refine aw_aload_n (i := 0) rfl d_L_472 0 rfl ?_
  refine aw_iload d_L_473 4 rfl ?_
  refine aw_iconst (v := 4) d_L_475 ic_4 ?_
  refine aw_iadd d_L_476 ?_
  refine aw_vi (v2 := 4) (by decide) ?_
  refine aw_sld 4 (by decide) (vin_c (by decide)) d_L_477 ?_
  refine aw_aload_n (i := 0) rfl d_L_478 0 rfl ?_
  refine aw_iload d_L_479 4 rfl ?_
  refine aw_iconst (v := 5) d_L_481 ic_5 ?_
  refine aw_iadd d_L_482 ?_
  refine aw_vi (v2 := 5) (by decide) ?_
  refine aw_sld 5 (by decide) (vin_c (by decide)) d_L_483 ?_
  refine aw_Vi 1 [.int (xs 1), .int (xs 2), .int (xs 3), .int (xs 4), .int (xs 5)] [.int r1] d_L_484 (cV_X12_feed (0 + 1) 0 0) kc_12 (ws_1 w1) tw_2183 rfl ⟨⟨Nat.le_of_ble_eq_true rfl, Nat.le_of_ble_eq_true rfl⟩, show 202 + 0 + 0 ≤ 600002 from by decide +kernel, show 318709 + 0 + 0 ≤ 7302232 from by decide +kernel⟩ (Nat.le_of_ble_eq_true rfl) xsL (g_X12_feed 0 h1 w1 ((f1.1 32).trans hf_1_32) (xs 1) (xs 2) (xs 3) (xs 4) (xs 5)) (fun r2 h2 k2 => ?_)
  refine aw_icmp_eq (tgt := 2434) d_L_487 rfl (fun _ => ?_) (fun z => absurd (ag_feed o1 k2) z)
  exact lt_6 xs _ _ ⟨by decide +kernel, by decide +kernel⟩ h2
theorem lc_4 (xs : Nat → Int32) : AW (ML 6 xs) 202 318709 492 [(0, .ref 1100), (1, .ref 0), (2, .ref 1), (3, .ref 2), (4, .int 0)] [] HF k1_ := by
  refine aw_aload_n (i := 1) rfl d_L_492 1 rfl ?_
  refine aw_aload_n (i := 0) rfl d_L_493 0 rfl ?_
  refine aw_iload d_L_494 4 rfl ?_
  refine aw_iconst (v := 1) d_L_496 ic_1 ?_
  refine aw_iadd d_L_497 ?_
  refine aw_vi (v2 := 1) (by decide) ?_
  refine aw_sld 1 (by decide) (vin_c (by decide)) d_L_498 ?_
  refine aw_Vi 0 [.int (xs 1)] [] d_L_499 (cV_X11_end (0 + 2) 0 0) kc_11 (ws_0 wHF) tw_656 rfl ⟨⟨Nat.le_of_ble_eq_true rfl, Nat.le_of_ble_eq_true rfl⟩, show 202 + 0 ≤ 600002 from by decide +kernel, show 318709 + 0 ≤ 7302232 from by decide +kernel⟩ (Nat.le_of_ble_eq_true rfl) xsL (g_X11_end 0 (xs 1)) (fun r1 h1 k1 => ?_)
  obtain ⟨o1, w1, f1⟩ := k1
  refine aw_aload_n (i := 2) rfl d_L_502 2 rfl ?_
  refine aw_aload_n (i := 0) rfl d_L_503 0 rfl ?_
  refine aw_iload d_L_504 4 rfl ?_
  refine aw_iconst (v := 1) d_L_506 ic_1 ?_
  refine aw_iadd d_L_507 ?_
  refine aw_vi (v2 := 1) (by decide) ?_
  refine aw_sld 1 (by decide) (vin_c (by decide)) d_L_508 ?_
  refine aw_Vi 1 [.int (xs 1)] [.int r1] d_L_509 (cV_X12_end (0 + 0) 0 0) kc_12 (ws_1 w1) tw_2190 rfl ⟨⟨Nat.le_of_ble_eq_true rfl, Nat.le_of_ble_eq_true rfl⟩, show 202 + 0 + 0 ≤ 600002 from by decide +kernel, show 318709 + 0 + 0 ≤ 7302232 from by decide +kernel⟩ (Nat.le_of_ble_eq_true rfl) xsL (g_X12_end 0 h1 w1 f1 (xs 1)) (fun r2 h2 k2 => ?_)
  refine aw_icmp_eq (tgt := 2434) d_L_512 rfl (fun _ => ?_) (fun z => absurd (ag_end o1 k2) z)
  exact lt_6 xs _ _ ⟨by decide +kernel, by decide +kernel⟩ h2
theorem lc_5 (xs : Nat → Int32) : AW (ML 6 xs) 202 318709 517 [(0, .ref 1100), (1, .ref 0), (2, .ref 1), (3, .ref 2), (4, .int 0)] [] HF k1_ := by
  refine aw_aload_n (i := 1) rfl d_L_517 1 rfl ?_
  refine aw_aload_n (i := 0) rfl d_L_518 0 rfl ?_
  refine aw_iload d_L_519 4 rfl ?_
  refine aw_iconst (v := 1) d_L_521 ic_1 ?_
  refine aw_iadd d_L_522 ?_
  refine aw_vi (v2 := 1) (by decide) ?_
  refine aw_sld 1 (by decide) (vin_c (by decide)) d_L_523 ?_
  refine aw_Vi 0 [.int (xs 1)] [] d_L_524 (cV_X11_fault (0 + 8) 0 0) kc_11 (ws_0 wHF) tw_665 rfl ⟨⟨Nat.le_of_ble_eq_true rfl, Nat.le_of_ble_eq_true rfl⟩, show 202 + 0 ≤ 600002 from by decide +kernel, show 318709 + 0 ≤ 7302232 from by decide +kernel⟩ (Nat.le_of_ble_eq_true rfl) xsL (g_X11_fault 0 (xs 1)) (fun r1 h1 k1 => ?_)
  obtain ⟨o1, w1, f1⟩ := k1
  refine aw_aload_n (i := 2) rfl d_L_527 2 rfl ?_
  refine aw_aload_n (i := 0) rfl d_L_528 0 rfl ?_
  refine aw_iload d_L_529 4 rfl ?_
  refine aw_iconst (v := 1) d_L_531 ic_1 ?_
  refine aw_iadd d_L_532 ?_
  refine aw_vi (v2 := 1) (by decide) ?_
  refine aw_sld 1 (by decide) (vin_c (by decide)) d_L_533 ?_
  refine aw_Vi 1 [.int (xs 1)] [.int r1] d_L_534 (cV_X12_fault (0 + 9) 0 0) kc_12 (ws_1 w1) tw_2295 rfl ⟨⟨Nat.le_of_ble_eq_true rfl, Nat.le_of_ble_eq_true rfl⟩, show 202 + 0 + 0 ≤ 600002 from by decide +kernel, show 318709 + 0 + 0 ≤ 7302232 from by decide +kernel⟩ (Nat.le_of_ble_eq_true rfl) xsL (g_X12_fault 0 h1 w1 f1 (xs 1)) (fun r2 h2 k2 => ?_)
  refine aw_icmp_eq (tgt := 2434) d_L_537 rfl (fun _ => ?_) (fun z => absurd (ag_fault o1 k2) z)
  exact lt_6 xs _ _ ⟨by decide +kernel, by decide +kernel⟩ h2
theorem lc_6 (xs : Nat → Int32) : AW (ML 6 xs) 202 318709 542 [(0, .ref 1100), (1, .ref 0), (2, .ref 1), (3, .ref 2), (4, .int 0)] [] HF k1_ := by
  refine aw_aload_n (i := 1) rfl d_L_542 1 rfl ?_
  refine aw_Vi 0 [] [] d_L_543 (cV_X11_beat (0 + 4) 0 0) kc_11 (ws_0 wHF) tw_872 rfl ⟨⟨Nat.le_of_ble_eq_true rfl, Nat.le_of_ble_eq_true rfl⟩, show 202 + 0 ≤ 600002 from by decide +kernel, show 318709 + 0 ≤ 7302232 from by decide +kernel⟩ (Nat.le_of_ble_eq_true rfl) xsL (g_X11_beat 0) (fun r1 h1 k1 => ?_)
  obtain ⟨o1, w1, f1⟩ := k1
  refine aw_aload_n (i := 2) rfl d_L_546 2 rfl ?_
  refine aw_Vi 1 [] [.int r1] d_L_547 (cV_X12_beat (0 + 4) 0 0) kc_12 (ws_1 w1) tw_2194 rfl ⟨⟨Nat.le_of_ble_eq_true rfl, Nat.le_of_ble_eq_true rfl⟩, show 202 + 0 + 0 ≤ 600002 from by decide +kernel, show 318709 + 0 + 0 ≤ 7302232 from by decide +kernel⟩ (Nat.le_of_ble_eq_true rfl) xsL (g_X12_beat 0 h1 w1 f1) (fun r2 h2 k2 => ?_)
  refine aw_icmp_eq (tgt := 2434) d_L_550 rfl (fun _ => ?_) (fun z => absurd (ag_beat o1 k2) z)
  exact lt_6 xs _ _ ⟨by decide +kernel, by decide +kernel⟩ h2
theorem lc_7 (xs : Nat → Int32) : AW (ML 6 xs) 202 318709 555 [(0, .ref 1100), (1, .ref 0), (2, .ref 1), (3, .ref 2), (4, .int 0)] [] HF k1_ := by
  refine aw_aload_n (i := 1) rfl d_L_555 1 rfl ?_
  refine aw_aload_n (i := 0) rfl d_L_556 0 rfl ?_
  refine aw_iload d_L_557 4 rfl ?_
  refine aw_iconst (v := 1) d_L_559 ic_1 ?_
  refine aw_iadd d_L_560 ?_
  refine aw_vi (v2 := 1) (by decide) ?_
  refine aw_sld 1 (by decide) (vin_c (by decide)) d_L_561 ?_
  refine aw_aload_n (i := 0) rfl d_L_562 0 rfl ?_
  refine aw_iload d_L_563 4 rfl ?_
  refine aw_iconst (v := 2) d_L_565 ic_2 ?_
  refine aw_iadd d_L_566 ?_
  refine aw_vi (v2 := 2) (by decide) ?_
  refine aw_sld 2 (by decide) (vin_c (by decide)) d_L_567 ?_
  refine aw_Vi 0 [.int (xs 1), .int (xs 2)] [] d_L_568 (cV_X11_beaten (0 + 1) 0 0) kc_11 (ws_0 wHF) tw_883 rfl ⟨⟨Nat.le_of_ble_eq_true rfl, Nat.le_of_ble_eq_true rfl⟩, show 202 + 0 ≤ 600002 from by decide +kernel, show 318709 + 0 ≤ 7302232 from by decide +kernel⟩ (Nat.le_of_ble_eq_true rfl) xsL (g_X11_beaten 0 (xs 1) (xs 2)) (fun r1 h1 k1 => ?_)
  obtain ⟨o1, w1, f1⟩ := k1
  refine aw_aload_n (i := 2) rfl d_L_571 2 rfl ?_
  refine aw_aload_n (i := 0) rfl d_L_572 0 rfl ?_
  refine aw_iload d_L_573 4 rfl ?_
  refine aw_iconst (v := 1) d_L_575 ic_1 ?_
  refine aw_iadd d_L_576 ?_
  refine aw_vi (v2 := 1) (by decide) ?_
  refine aw_sld 1 (by decide) (vin_c (by decide)) d_L_577 ?_
  refine aw_aload_n (i := 0) rfl d_L_578 0 rfl ?_
  refine aw_iload d_L_579 4 rfl ?_
  refine aw_iconst (v := 2) d_L_581 ic_2 ?_
  refine aw_iadd d_L_582 ?_
  refine aw_vi (v2 := 2) (by decide) ?_
  refine aw_sld 2 (by decide) (vin_c (by decide)) d_L_583 ?_
  refine aw_Vi 1 [.int (xs 1), .int (xs 2)] [.int r1] d_L_584 (cV_X12_beaten (0 + 1) 0 0) kc_12 (ws_1 w1) tw_2287 rfl ⟨⟨Nat.le_of_ble_eq_true rfl, Nat.le_of_ble_eq_true rfl⟩, show 202 + 0 + 0 ≤ 600002 from by decide +kernel, show 318709 + 0 + 0 ≤ 7302232 from by decide +kernel⟩ (Nat.le_of_ble_eq_true rfl) xsL (g_X12_beaten 0 h1 w1 f1 (xs 1) (xs 2)) (fun r2 h2 k2 => ?_)
  refine aw_icmp_eq (tgt := 2434) d_L_587 rfl (fun _ => ?_) (fun z => absurd (ag_beaten o1 k2) z)
  exact lt_6 xs _ _ ⟨by decide +kernel, by decide +kernel⟩ h2
theorem lc_8 (xs : Nat → Int32) : AW (ML 6 xs) 202 318709 592 [(0, .ref 1100), (1, .ref 0), (2, .ref 1), (3, .ref 2), (4, .int 0)] [] HF k1_ := by
  refine aw_aload_n (i := 1) rfl d_L_592 1 rfl ?_
  refine aw_aload_n (i := 0) rfl d_L_593 0 rfl ?_
  refine aw_iload d_L_594 4 rfl ?_
  refine aw_iconst (v := 1) d_L_596 ic_1 ?_
  refine aw_iadd d_L_597 ?_
  refine aw_vi (v2 := 1) (by decide) ?_
  refine aw_sld 1 (by decide) (vin_c (by decide)) d_L_598 ?_
  refine aw_aload_n (i := 0) rfl d_L_599 0 rfl ?_
  refine aw_iload d_L_600 4 rfl ?_
  refine aw_iconst (v := 2) d_L_602 ic_2 ?_
  refine aw_iadd d_L_603 ?_
  refine aw_vi (v2 := 2) (by decide) ?_
  refine aw_sld 2 (by decide) (vin_c (by decide)) d_L_604 ?_
  refine aw_Vi 0 [.int (xs 1), .int (xs 2)] [] d_L_605 (cV_X11_begin (0 + 2) 0 0) kc_11 (ws_0 wHF) tw_900 rfl ⟨⟨Nat.le_of_ble_eq_true rfl, Nat.le_of_ble_eq_true rfl⟩, show 202 + 0 ≤ 600002 from by decide +kernel, show 318709 + 0 ≤ 7302232 from by decide +kernel⟩ (Nat.le_of_ble_eq_true rfl) xsL (g_X11_begin 0 (xs 1) (xs 2)) (fun r1 h1 k1 => ?_)
  obtain ⟨o1, w1, f1⟩ := k1
  refine aw_aload_n (i := 2) rfl d_L_608 2 rfl ?_
  refine aw_aload_n (i := 0) rfl d_L_609 0 rfl ?_
  refine aw_iload d_L_610 4 rfl ?_
  refine aw_iconst (v := 1) d_L_612 ic_1 ?_
  refine aw_iadd d_L_613 ?_
  refine aw_vi (v2 := 1) (by decide) ?_
  refine aw_sld 1 (by decide) (vin_c (by decide)) d_L_614 ?_
  refine aw_aload_n (i := 0) rfl d_L_615 0 rfl ?_
  refine aw_iload d_L_616 4 rfl ?_
  refine aw_iconst (v := 2) d_L_618 ic_2 ?_
  refine aw_iadd d_L_619 ?_
  refine aw_vi (v2 := 2) (by decide) ?_
  refine aw_sld 2 (by decide) (vin_c (by decide)) d_L_620 ?_
  refine aw_Vi 1 [.int (xs 1), .int (xs 2)] [.int r1] d_L_621 (cV_X12_begin (0 + 2) 0 0) kc_12 (ws_1 w1) tw_2336 rfl ⟨⟨Nat.le_of_ble_eq_true rfl, Nat.le_of_ble_eq_true rfl⟩, show 202 + 0 + 0 ≤ 600002 from by decide +kernel, show 318709 + 0 + 0 ≤ 7302232 from by decide +kernel⟩ (Nat.le_of_ble_eq_true rfl) xsL (g_X12_begin 0 h1 w1 f1 (xs 1) (xs 2)) (fun r2 h2 k2 => ?_)
  refine aw_icmp_eq (tgt := 2434) d_L_624 rfl (fun _ => ?_) (fun z => absurd (ag_begin o1 k2) z)
  exact lt_6 xs _ _ ⟨by decide +kernel, by decide +kernel⟩ h2
theorem lc_9 (xs : Nat → Int32) : AW (ML 6 xs) 202 318709 629 [(0, .ref 1100), (1, .ref 0), (2, .ref 1), (3, .ref 2), (4, .int 0)] [] HF k1_ := by
  refine aw_aload_n (i := 1) rfl d_L_629 1 rfl ?_
  refine aw_aload_n (i := 0) rfl d_L_630 0 rfl ?_
  refine aw_iload d_L_631 4 rfl ?_
  refine aw_iconst (v := 1) d_L_633 ic_1 ?_
  refine aw_iadd d_L_634 ?_
  refine aw_vi (v2 := 1) (by decide) ?_
  refine aw_sld 1 (by decide) (vin_c (by decide)) d_L_635 ?_
  refine aw_aload_n (i := 0) rfl d_L_636 0 rfl ?_
  refine aw_iload d_L_637 4 rfl ?_
  refine aw_iconst (v := 2) d_L_639 ic_2 ?_
  refine aw_iadd d_L_640 ?_
  refine aw_vi (v2 := 2) (by decide) ?_
  refine aw_sld 2 (by decide) (vin_c (by decide)) d_L_641 ?_
  refine aw_aload_n (i := 0) rfl d_L_642 0 rfl ?_
  refine aw_iload d_L_643 4 rfl ?_
  refine aw_iconst (v := 3) d_L_645 ic_3 ?_
  refine aw_iadd d_L_646 ?_
  refine aw_vi (v2 := 3) (by decide) ?_
  refine aw_sld 3 (by decide) (vin_c (by decide)) d_L_647 ?_
  refine aw_Vi 0 [.int (xs 1), .int (xs 2), .int (xs 3)] [] d_L_648 (cV_X11_draw (0 + 2) 0 0) kc_11 (ws_0 wHF) tw_971 rfl ⟨⟨Nat.le_of_ble_eq_true rfl, Nat.le_of_ble_eq_true rfl⟩, show 202 + 0 ≤ 600002 from by decide +kernel, show 318709 + 0 ≤ 7302232 from by decide +kernel⟩ (Nat.le_of_ble_eq_true rfl) xsL (g_X11_draw 0 (xs 1) (xs 2) (xs 3)) (fun r1 h1 k1 => ?_)
  obtain ⟨o1, w1, f1⟩ := k1
  refine aw_aload_n (i := 2) rfl d_L_651 2 rfl ?_
  refine aw_aload_n (i := 0) rfl d_L_652 0 rfl ?_
  refine aw_iload d_L_653 4 rfl ?_
  refine aw_iconst (v := 1) d_L_655 ic_1 ?_
  refine aw_iadd d_L_656 ?_
  refine aw_vi (v2 := 1) (by decide) ?_
  refine aw_sld 1 (by decide) (vin_c (by decide)) d_L_657 ?_
  refine aw_aload_n (i := 0) rfl d_L_658 0 rfl ?_
  refine aw_iload d_L_659 4 rfl ?_
  refine aw_iconst (v := 2) d_L_661 ic_2 ?_
  refine aw_iadd d_L_662 ?_
  refine aw_vi (v2 := 2) (by decide) ?_
  refine aw_sld 2 (by decide) (vin_c (by decide)) d_L_663 ?_
  refine aw_aload_n (i := 0) rfl d_L_664 0 rfl ?_
  refine aw_iload d_L_665 4 rfl ?_
  refine aw_iconst (v := 3) d_L_667 ic_3 ?_
  refine aw_iadd d_L_668 ?_
  refine aw_vi (v2 := 3) (by decide) ?_
  refine aw_sld 3 (by decide) (vin_c (by decide)) d_L_669 ?_
  refine aw_Vi 1 [.int (xs 1), .int (xs 2), .int (xs 3)] [.int r1] d_L_670 (cV_X12_draw (0 + 2) 0 0) kc_12 (ws_1 w1) tw_2364 rfl ⟨⟨Nat.le_of_ble_eq_true rfl, Nat.le_of_ble_eq_true rfl⟩, show 202 + 0 + 0 ≤ 600002 from by decide +kernel, show 318709 + 0 + 0 ≤ 7302232 from by decide +kernel⟩ (Nat.le_of_ble_eq_true rfl) xsL (g_X12_draw 0 h1 w1 f1 (xs 1) (xs 2) (xs 3)) (fun r2 h2 k2 => ?_)
  refine aw_icmp_eq (tgt := 2434) d_L_673 rfl (fun _ => ?_) (fun z => absurd (ag_draw o1 k2) z)
  exact lt_6 xs _ _ ⟨by decide +kernel, by decide +kernel⟩ h2
theorem lc_10 (xs : Nat → Int32) : AW (ML 6 xs) 202 318709 678 [(0, .ref 1100), (1, .ref 0), (2, .ref 1), (3, .ref 2), (4, .int 0)] [] HF k1_ := by
  refine aw_aload_n (i := 1) rfl d_L_678 1 rfl ?_
  refine aw_aload_n (i := 0) rfl d_L_679 0 rfl ?_
  refine aw_iload d_L_680 4 rfl ?_
  refine aw_iconst (v := 1) d_L_682 ic_1 ?_
  refine aw_iadd d_L_683 ?_
  refine aw_vi (v2 := 1) (by decide) ?_
  refine aw_sld 1 (by decide) (vin_c (by decide)) d_L_684 ?_
  refine aw_aload_n (i := 0) rfl d_L_685 0 rfl ?_
  refine aw_iload d_L_686 4 rfl ?_
  refine aw_iconst (v := 2) d_L_688 ic_2 ?_
  refine aw_iadd d_L_689 ?_
  refine aw_vi (v2 := 2) (by decide) ?_
  refine aw_sld 2 (by decide) (vin_c (by decide)) d_L_690 ?_
  refine aw_if_eq (tgt := 698) d_L_691 rfl (fun b1 => ?_) (fun b1 => ?_)
  · refine aw_iconst (v := 0) d_L_698 ic_0 ?_
    refine aw_Vi 0 [.int (xs 1), .int 0] [] d_L_699 (cV_X11_ill (0 + 2) 0 0) kc_11 (ws_0 wHF) tw_987 rfl ⟨⟨Nat.le_of_ble_eq_true rfl, Nat.le_of_ble_eq_true rfl⟩, show 202 + 0 ≤ 600002 from by decide +kernel, show 318709 + 0 ≤ 7302232 from by decide +kernel⟩ (Nat.le_of_ble_eq_true rfl) xsL (g_X11_ill 0 (xs 1) 0) (fun r1 h1 k1 => ?_)
    obtain ⟨o1, w1, f1⟩ := k1
    refine aw_aload_n (i := 2) rfl d_L_702 2 rfl ?_
    refine aw_aload_n (i := 0) rfl d_L_703 0 rfl ?_
    refine aw_iload d_L_704 4 rfl ?_
    refine aw_iconst (v := 1) d_L_706 ic_1 ?_
    refine aw_iadd d_L_707 ?_
    refine aw_vi (v2 := 1) (by decide) ?_
    refine aw_sld 1 (by decide) (vin_c (by decide)) d_L_708 ?_
    refine aw_aload_n (i := 0) rfl d_L_709 0 rfl ?_
    refine aw_iload d_L_710 4 rfl ?_
    refine aw_iconst (v := 2) d_L_712 ic_2 ?_
    refine aw_iadd d_L_713 ?_
    refine aw_vi (v2 := 2) (by decide) ?_
    refine aw_sld 2 (by decide) (vin_c (by decide)) d_L_714 ?_
    refine aw_if_eq (tgt := 722) d_L_715 rfl (fun _ => ?_) (fun z => absurd b1 z)
    refine aw_iconst (v := 0) d_L_722 ic_0 ?_
    refine aw_Vi 1 [.int (xs 1), .int 0] [.int r1] d_L_723 (cV_X12_ill (0 + 2) 0 0) kc_12 (ws_1 w1) tw_2380 rfl ⟨⟨Nat.le_of_ble_eq_true rfl, Nat.le_of_ble_eq_true rfl⟩, show 202 + 0 + 0 ≤ 600002 from by decide +kernel, show 318709 + 0 + 0 ≤ 7302232 from by decide +kernel⟩ (Nat.le_of_ble_eq_true rfl) xsL (g_X12_ill 0 h1 w1 f1 (xs 1) 0) (fun r2 h2 k2 => ?_)
    refine aw_icmp_eq (tgt := 2434) d_L_726 rfl (fun _ => ?_) (fun z => absurd (ag_ill o1 k2) z)
    exact lt_6 xs _ _ ⟨by decide +kernel, by decide +kernel⟩ h2
  · refine aw_iconst (v := 1) d_L_694 ic_1 ?_
    refine aw_goto (tgt := 699) d_L_695 rfl ?_
    refine aw_Vi 0 [.int (xs 1), .int 1] [] d_L_699 (cV_X11_ill (0 + 2) 0 0) kc_11 (ws_0 wHF) tw_987 rfl ⟨⟨Nat.le_of_ble_eq_true rfl, Nat.le_of_ble_eq_true rfl⟩, show 202 + 0 ≤ 600002 from by decide +kernel, show 318709 + 0 ≤ 7302232 from by decide +kernel⟩ (Nat.le_of_ble_eq_true rfl) xsL (g_X11_ill 0 (xs 1) 1) (fun r1 h1 k1 => ?_)
    obtain ⟨o1, w1, f1⟩ := k1
    refine aw_aload_n (i := 2) rfl d_L_702 2 rfl ?_
    refine aw_aload_n (i := 0) rfl d_L_703 0 rfl ?_
    refine aw_iload d_L_704 4 rfl ?_
    refine aw_iconst (v := 1) d_L_706 ic_1 ?_
    refine aw_iadd d_L_707 ?_
    refine aw_vi (v2 := 1) (by decide) ?_
    refine aw_sld 1 (by decide) (vin_c (by decide)) d_L_708 ?_
    refine aw_aload_n (i := 0) rfl d_L_709 0 rfl ?_
    refine aw_iload d_L_710 4 rfl ?_
    refine aw_iconst (v := 2) d_L_712 ic_2 ?_
    refine aw_iadd d_L_713 ?_
    refine aw_vi (v2 := 2) (by decide) ?_
    refine aw_sld 2 (by decide) (vin_c (by decide)) d_L_714 ?_
    refine aw_if_eq (tgt := 722) d_L_715 rfl (fun z => absurd z b1) (fun _ => ?_)
    refine aw_iconst (v := 1) d_L_718 ic_1 ?_
    refine aw_goto (tgt := 723) d_L_719 rfl ?_
    refine aw_Vi 1 [.int (xs 1), .int 1] [.int r1] d_L_723 (cV_X12_ill (0 + 2) 0 0) kc_12 (ws_1 w1) tw_2380 rfl ⟨⟨Nat.le_of_ble_eq_true rfl, Nat.le_of_ble_eq_true rfl⟩, show 202 + 0 + 0 ≤ 600002 from by decide +kernel, show 318709 + 0 + 0 ≤ 7302232 from by decide +kernel⟩ (Nat.le_of_ble_eq_true rfl) xsL (g_X12_ill 0 h1 w1 f1 (xs 1) 1) (fun r2 h2 k2 => ?_)
    refine aw_icmp_eq (tgt := 2434) d_L_726 rfl (fun _ => ?_) (fun z => absurd (ag_ill o1 k2) z)
    exact lt_6 xs _ _ ⟨by decide +kernel, by decide +kernel⟩ h2
theorem lc_11 (xs : Nat → Int32) : AW (ML 6 xs) 202 318709 731 [(0, .ref 1100), (1, .ref 0), (2, .ref 1), (3, .ref 2), (4, .int 0)] [] HF k1_ := by
  refine aw_aload_n (i := 1) rfl d_L_731 1 rfl ?_
  refine aw_aload_n (i := 0) rfl d_L_732 0 rfl ?_
  refine aw_iload d_L_733 4 rfl ?_
  refine aw_iconst (v := 1) d_L_735 ic_1 ?_
  refine aw_iadd d_L_736 ?_
  refine aw_vi (v2 := 1) (by decide) ?_
  refine aw_sld 1 (by decide) (vin_c (by decide)) d_L_737 ?_
  refine aw_Vi 0 [.int (xs 1)] [] d_L_738 (cV_X11_tick (0 + 3) 1 1500) kc_11 (ws_0 wHF) tw_991 rfl ⟨⟨Nat.le_of_ble_eq_true rfl, Nat.le_of_ble_eq_true rfl⟩, show 202 + 1 ≤ 600002 from by decide +kernel, show 318709 + 1500 ≤ 7302232 from by decide +kernel⟩ (Nat.le_of_ble_eq_true rfl) xsL (g_X11_tick 0 (xs 1)) (fun r1 h1 k1 => ?_)
  obtain ⟨o1, w1, f1⟩ := k1
  refine aw_aload_n (i := 2) rfl d_L_741 2 rfl ?_
  refine aw_aload_n (i := 0) rfl d_L_742 0 rfl ?_
  refine aw_iload d_L_743 4 rfl ?_
  refine aw_iconst (v := 1) d_L_745 ic_1 ?_
  refine aw_iadd d_L_746 ?_
  refine aw_vi (v2 := 1) (by decide) ?_
  refine aw_sld 1 (by decide) (vin_c (by decide)) d_L_747 ?_
  refine aw_Vi 1 [.int (xs 1)] [.int r1] d_L_748 (cV_X12_tick (0 + 10) 0 0) kc_12 (ws_1 w1) tw_2384 rfl ⟨⟨Nat.le_of_ble_eq_true rfl, Nat.le_of_ble_eq_true rfl⟩, show 202 + 1 + 0 ≤ 600002 from by decide +kernel, show 318709 + 1500 + 0 ≤ 7302232 from by decide +kernel⟩ (Nat.le_of_ble_eq_true rfl) xsL (g_X12_tick 0 h1 w1 ((f1.1 0).trans hf_1_0) ((f1.1 7).trans hf_1_7) (xs 1)) (fun r2 h2 k2 => ?_)
  refine aw_icmp_eq (tgt := 2434) d_L_751 rfl (fun _ => ?_) (fun z => absurd (ag_tick o1 k2) z)
  exact lt_6 xs _ _ ⟨by decide +kernel, by decide +kernel⟩ h2
theorem lc_13 (xs : Nat → Int32) : AW (ML 6 xs) 202 318709 824 [(0, .ref 1100), (1, .ref 0), (2, .ref 1), (3, .ref 2), (4, .int 0)] [] HF k1_ := by
  refine aw_aload_n (i := 1) rfl d_L_824 1 rfl ?_
  refine aw_aload_n (i := 0) rfl d_L_825 0 rfl ?_
  refine aw_iload d_L_826 4 rfl ?_
  refine aw_iconst (v := 1) d_L_828 ic_1 ?_
  refine aw_iadd d_L_829 ?_
  refine aw_vi (v2 := 1) (by decide) ?_
  refine aw_sld 1 (by decide) (vin_c (by decide)) d_L_830 ?_
  refine aw_aload_n (i := 0) rfl d_L_831 0 rfl ?_
  refine aw_iload d_L_832 4 rfl ?_
  refine aw_iconst (v := 2) d_L_834 ic_2 ?_
  refine aw_iadd d_L_835 ?_
  refine aw_vi (v2 := 2) (by decide) ?_
  refine aw_sld 2 (by decide) (vin_c (by decide)) d_L_836 ?_
  refine aw_Vi 0 [.int (xs 1), .int (xs 2)] [] d_L_837 (cV_X11_was (0 + 3) 0 0) kc_11 (ws_0 wHF) tw_1094 rfl ⟨⟨Nat.le_of_ble_eq_true rfl, Nat.le_of_ble_eq_true rfl⟩, show 202 + 0 ≤ 600002 from by decide +kernel, show 318709 + 0 ≤ 7302232 from by decide +kernel⟩ (Nat.le_of_ble_eq_true rfl) xsL (g_X11_was 0 (xs 1) (xs 2)) (fun r1 h1 k1 => ?_)
  obtain ⟨o1, w1, f1⟩ := k1
  refine aw_aload_n (i := 2) rfl d_L_840 2 rfl ?_
  refine aw_aload_n (i := 0) rfl d_L_841 0 rfl ?_
  refine aw_iload d_L_842 4 rfl ?_
  refine aw_iconst (v := 1) d_L_844 ic_1 ?_
  refine aw_iadd d_L_845 ?_
  refine aw_vi (v2 := 1) (by decide) ?_
  refine aw_sld 1 (by decide) (vin_c (by decide)) d_L_846 ?_
  refine aw_aload_n (i := 0) rfl d_L_847 0 rfl ?_
  refine aw_iload d_L_848 4 rfl ?_
  refine aw_iconst (v := 2) d_L_850 ic_2 ?_
  refine aw_iadd d_L_851 ?_
  refine aw_vi (v2 := 2) (by decide) ?_
  refine aw_sld 2 (by decide) (vin_c (by decide)) d_L_852 ?_
  refine aw_Vi 1 [.int (xs 1), .int (xs 2)] [.int r1] d_L_853 (cV_X12_was (0 + 2) 0 0) kc_12 (ws_1 w1) tw_2462 rfl ⟨⟨Nat.le_of_ble_eq_true rfl, Nat.le_of_ble_eq_true rfl⟩, show 202 + 0 + 0 ≤ 600002 from by decide +kernel, show 318709 + 0 + 0 ≤ 7302232 from by decide +kernel⟩ (Nat.le_of_ble_eq_true rfl) xsL (g_X12_was 0 h1 w1 f1 (xs 1) (xs 2)) (fun r2 h2 k2 => ?_)
  refine aw_icmp_eq (tgt := 2434) d_L_856 rfl (fun _ => ?_) (fun z => absurd (ag_was o1 k2) z)
  exact lt_6 xs _ _ ⟨by decide +kernel, by decide +kernel⟩ h2
theorem lc_14 (xs : Nat → Int32) : AW (ML 6 xs) 202 318709 861 [(0, .ref 1100), (1, .ref 0), (2, .ref 1), (3, .ref 2), (4, .int 0)] [] HF k1_ := by
  refine aw_aload_n (i := 1) rfl d_L_861 1 rfl ?_
  refine aw_aload_n (i := 0) rfl d_L_862 0 rfl ?_
  refine aw_iload d_L_863 4 rfl ?_
  refine aw_iconst (v := 1) d_L_865 ic_1 ?_
  refine aw_iadd d_L_866 ?_
  refine aw_vi (v2 := 1) (by decide) ?_
  refine aw_sld 1 (by decide) (vin_c (by decide)) d_L_867 ?_
  refine aw_aload_n (i := 0) rfl d_L_868 0 rfl ?_
  refine aw_iload d_L_869 4 rfl ?_
  refine aw_iconst (v := 2) d_L_871 ic_2 ?_
  refine aw_iadd d_L_872 ?_
  refine aw_vi (v2 := 2) (by decide) ?_
  refine aw_sld 2 (by decide) (vin_c (by decide)) d_L_873 ?_
  refine aw_aload_n (i := 0) rfl d_L_874 0 rfl ?_
  refine aw_iload d_L_875 4 rfl ?_
  refine aw_iconst (v := 3) d_L_877 ic_3 ?_
  refine aw_iadd d_L_878 ?_
  refine aw_vi (v2 := 3) (by decide) ?_
  refine aw_sld 3 (by decide) (vin_c (by decide)) d_L_879 ?_
  refine aw_Vi 0 [.int (xs 1), .int (xs 2), .int (xs 3)] [] d_L_880 (cV_X11_point (0 + 2) 0 0) kc_11 (ws_0 wHF) tw_1110 rfl ⟨⟨Nat.le_of_ble_eq_true rfl, Nat.le_of_ble_eq_true rfl⟩, show 202 + 0 ≤ 600002 from by decide +kernel, show 318709 + 0 ≤ 7302232 from by decide +kernel⟩ (Nat.le_of_ble_eq_true rfl) xsL (g_X11_point 0 (xs 1) (xs 2) (xs 3)) (fun r1 h1 k1 => ?_)
  obtain ⟨o1, w1, f1⟩ := k1
  refine aw_aload_n (i := 2) rfl d_L_883 2 rfl ?_
  refine aw_aload_n (i := 0) rfl d_L_884 0 rfl ?_
  refine aw_iload d_L_885 4 rfl ?_
  refine aw_iconst (v := 1) d_L_887 ic_1 ?_
  refine aw_iadd d_L_888 ?_
  refine aw_vi (v2 := 1) (by decide) ?_
  refine aw_sld 1 (by decide) (vin_c (by decide)) d_L_889 ?_
  refine aw_aload_n (i := 0) rfl d_L_890 0 rfl ?_
  refine aw_iload d_L_891 4 rfl ?_
  refine aw_iconst (v := 2) d_L_893 ic_2 ?_
  refine aw_iadd d_L_894 ?_
  refine aw_vi (v2 := 2) (by decide) ?_
  refine aw_sld 2 (by decide) (vin_c (by decide)) d_L_895 ?_
  refine aw_aload_n (i := 0) rfl d_L_896 0 rfl ?_
  refine aw_iload d_L_897 4 rfl ?_
  refine aw_iconst (v := 3) d_L_899 ic_3 ?_
  refine aw_iadd d_L_900 ?_
  refine aw_vi (v2 := 3) (by decide) ?_
  refine aw_sld 3 (by decide) (vin_c (by decide)) d_L_901 ?_
  refine aw_Vi 1 [.int (xs 1), .int (xs 2), .int (xs 3)] [.int r1] d_L_902 (cV_X12_point (0 + 1) 0 0) kc_12 (ws_1 w1) tw_2316 rfl ⟨⟨Nat.le_of_ble_eq_true rfl, Nat.le_of_ble_eq_true rfl⟩, show 202 + 0 + 0 ≤ 600002 from by decide +kernel, show 318709 + 0 + 0 ≤ 7302232 from by decide +kernel⟩ (Nat.le_of_ble_eq_true rfl) xsL (g_X12_point 0 h1 w1 f1 (xs 1) (xs 2) (xs 3)) (fun r2 h2 k2 => ?_)
  refine aw_icmp_eq (tgt := 2434) d_L_905 rfl (fun _ => ?_) (fun z => absurd (ag_point o1 k2) z)
  exact lt_6 xs _ _ ⟨by decide +kernel, by decide +kernel⟩ h2
theorem lc_15 (xs : Nat → Int32) : AW (ML 6 xs) 202 318709 910 [(0, .ref 1100), (1, .ref 0), (2, .ref 1), (3, .ref 2), (4, .int 0)] [] HF k1_ := by
  refine aw_aload_n (i := 1) rfl d_L_910 1 rfl ?_
  refine aw_aload_n (i := 0) rfl d_L_911 0 rfl ?_
  refine aw_iload d_L_912 4 rfl ?_
  refine aw_iconst (v := 1) d_L_914 ic_1 ?_
  refine aw_iadd d_L_915 ?_
  refine aw_vi (v2 := 1) (by decide) ?_
  refine aw_sld 1 (by decide) (vin_c (by decide)) d_L_916 ?_
  refine aw_aload_n (i := 0) rfl d_L_917 0 rfl ?_
  refine aw_iload d_L_918 4 rfl ?_
  refine aw_iconst (v := 2) d_L_920 ic_2 ?_
  refine aw_iadd d_L_921 ?_
  refine aw_vi (v2 := 2) (by decide) ?_
  refine aw_sld 2 (by decide) (vin_c (by decide)) d_L_922 ?_
  refine aw_Vi 0 [.int (xs 1), .int (xs 2)] [] d_L_923 (cV_X11_cause (0 + 1) 0 0) kc_11 (ws_0 wHF) tw_1131 rfl ⟨⟨Nat.le_of_ble_eq_true rfl, Nat.le_of_ble_eq_true rfl⟩, show 202 + 0 ≤ 600002 from by decide +kernel, show 318709 + 0 ≤ 7302232 from by decide +kernel⟩ (Nat.le_of_ble_eq_true rfl) xsL (g_X11_cause 0 (xs 1) (xs 2)) (fun r1 h1 k1 => ?_)
  obtain ⟨o1, w1, f1⟩ := k1
  refine aw_aload_n (i := 2) rfl d_L_926 2 rfl ?_
  refine aw_aload_n (i := 0) rfl d_L_927 0 rfl ?_
  refine aw_iload d_L_928 4 rfl ?_
  refine aw_iconst (v := 1) d_L_930 ic_1 ?_
  refine aw_iadd d_L_931 ?_
  refine aw_vi (v2 := 1) (by decide) ?_
  refine aw_sld 1 (by decide) (vin_c (by decide)) d_L_932 ?_
  refine aw_aload_n (i := 0) rfl d_L_933 0 rfl ?_
  refine aw_iload d_L_934 4 rfl ?_
  refine aw_iconst (v := 2) d_L_936 ic_2 ?_
  refine aw_iadd d_L_937 ?_
  refine aw_vi (v2 := 2) (by decide) ?_
  refine aw_sld 2 (by decide) (vin_c (by decide)) d_L_938 ?_
  refine aw_Vi 1 [.int (xs 1), .int (xs 2)] [.int r1] d_L_939 (cV_X12_cause (0 + 1) 0 0) kc_12 (ws_1 w1) tw_2328 rfl ⟨⟨Nat.le_of_ble_eq_true rfl, Nat.le_of_ble_eq_true rfl⟩, show 202 + 0 + 0 ≤ 600002 from by decide +kernel, show 318709 + 0 + 0 ≤ 7302232 from by decide +kernel⟩ (Nat.le_of_ble_eq_true rfl) xsL (g_X12_cause 0 h1 w1 f1 (xs 1) (xs 2)) (fun r2 h2 k2 => ?_)
  refine aw_icmp_eq (tgt := 2434) d_L_942 rfl (fun _ => ?_) (fun z => absurd (ag_cause o1 k2) z)
  exact lt_6 xs _ _ ⟨by decide +kernel, by decide +kernel⟩ h2
theorem lc_16 (xs : Nat → Int32) : AW (ML 6 xs) 202 318709 947 [(0, .ref 1100), (1, .ref 0), (2, .ref 1), (3, .ref 2), (4, .int 0)] [] HF k1_ := by
  refine aw_aload_n (i := 1) rfl d_L_947 1 rfl ?_
  refine aw_aload_n (i := 0) rfl d_L_948 0 rfl ?_
  refine aw_iload d_L_949 4 rfl ?_
  refine aw_iconst (v := 1) d_L_951 ic_1 ?_
  refine aw_iadd d_L_952 ?_
  refine aw_vi (v2 := 1) (by decide) ?_
  refine aw_sld 1 (by decide) (vin_c (by decide)) d_L_953 ?_
  refine aw_aload_n (i := 0) rfl d_L_954 0 rfl ?_
  refine aw_iload d_L_955 4 rfl ?_
  refine aw_iconst (v := 2) d_L_957 ic_2 ?_
  refine aw_iadd d_L_958 ?_
  refine aw_vi (v2 := 2) (by decide) ?_
  refine aw_sld 2 (by decide) (vin_c (by decide)) d_L_959 ?_
  refine aw_Vi 0 [.int (xs 1), .int (xs 2)] [] d_L_960 (cV_X11_causes (0 + 2) 0 0) kc_11 (ws_0 wHF) tw_1139 rfl ⟨⟨Nat.le_of_ble_eq_true rfl, Nat.le_of_ble_eq_true rfl⟩, show 202 + 0 ≤ 600002 from by decide +kernel, show 318709 + 0 ≤ 7302232 from by decide +kernel⟩ (Nat.le_of_ble_eq_true rfl) xsL (g_X11_causes 0 (xs 1) (xs 2)) (fun r1 h1 k1 => ?_)
  obtain ⟨o1, w1, f1⟩ := k1
  refine aw_aload_n (i := 2) rfl d_L_963 2 rfl ?_
  refine aw_aload_n (i := 0) rfl d_L_964 0 rfl ?_
  refine aw_iload d_L_965 4 rfl ?_
  refine aw_iconst (v := 1) d_L_967 ic_1 ?_
  refine aw_iadd d_L_968 ?_
  refine aw_vi (v2 := 1) (by decide) ?_
  refine aw_sld 1 (by decide) (vin_c (by decide)) d_L_969 ?_
  refine aw_aload_n (i := 0) rfl d_L_970 0 rfl ?_
  refine aw_iload d_L_971 4 rfl ?_
  refine aw_iconst (v := 2) d_L_973 ic_2 ?_
  refine aw_iadd d_L_974 ?_
  refine aw_vi (v2 := 2) (by decide) ?_
  refine aw_sld 2 (by decide) (vin_c (by decide)) d_L_975 ?_
  refine aw_Vi 1 [.int (xs 1), .int (xs 2)] [.int r1] d_L_976 (cV_X12_causes (0 + 2) 0 0) kc_12 (ws_1 w1) tw_2332 rfl ⟨⟨Nat.le_of_ble_eq_true rfl, Nat.le_of_ble_eq_true rfl⟩, show 202 + 0 + 0 ≤ 600002 from by decide +kernel, show 318709 + 0 + 0 ≤ 7302232 from by decide +kernel⟩ (Nat.le_of_ble_eq_true rfl) xsL (g_X12_causes 0 h1 w1 f1 (xs 1) (xs 2)) (fun r2 h2 k2 => ?_)
  refine aw_icmp_eq (tgt := 2434) d_L_979 rfl (fun _ => ?_) (fun z => absurd (ag_causes o1 k2) z)
  exact lt_6 xs _ _ ⟨by decide +kernel, by decide +kernel⟩ h2
theorem lc_17 (xs : Nat → Int32) : AW (ML 6 xs) 202 318709 984 [(0, .ref 1100), (1, .ref 0), (2, .ref 1), (3, .ref 2), (4, .int 0)] [] HF k1_ := by
  refine aw_aload_n (i := 1) rfl d_L_984 1 rfl ?_
  refine aw_aload_n (i := 0) rfl d_L_985 0 rfl ?_
  refine aw_iload d_L_986 4 rfl ?_
  refine aw_iconst (v := 1) d_L_988 ic_1 ?_
  refine aw_iadd d_L_989 ?_
  refine aw_vi (v2 := 1) (by decide) ?_
  refine aw_sld 1 (by decide) (vin_c (by decide)) d_L_990 ?_
  refine aw_aload_n (i := 0) rfl d_L_991 0 rfl ?_
  refine aw_iload d_L_992 4 rfl ?_
  refine aw_iconst (v := 2) d_L_994 ic_2 ?_
  refine aw_iadd d_L_995 ?_
  refine aw_vi (v2 := 2) (by decide) ?_
  refine aw_sld 2 (by decide) (vin_c (by decide)) d_L_996 ?_
  refine aw_aload_n (i := 0) rfl d_L_997 0 rfl ?_
  refine aw_iload d_L_998 4 rfl ?_
  refine aw_iconst (v := 3) d_L_1000 ic_3 ?_
  refine aw_iadd d_L_1001 ?_
  refine aw_vi (v2 := 3) (by decide) ?_
  refine aw_sld 3 (by decide) (vin_c (by decide)) d_L_1002 ?_
  refine aw_aload_n (i := 0) rfl d_L_1003 0 rfl ?_
  refine aw_iload d_L_1004 4 rfl ?_
  refine aw_iconst (v := 4) d_L_1006 ic_4 ?_
  refine aw_iadd d_L_1007 ?_
  refine aw_vi (v2 := 4) (by decide) ?_
  refine aw_sld 4 (by decide) (vin_c (by decide)) d_L_1008 ?_
  refine aw_aload_n (i := 0) rfl d_L_1009 0 rfl ?_
  refine aw_iload d_L_1010 4 rfl ?_
  refine aw_iconst (v := 5) d_L_1012 ic_5 ?_
  refine aw_iadd d_L_1013 ?_
  refine aw_vi (v2 := 5) (by decide) ?_
  refine aw_sld 5 (by decide) (vin_c (by decide)) d_L_1014 ?_
  refine aw_Vi 0 [.int (xs 1), .int (xs 2), .int (xs 3), .int (xs 4), .int (xs 5)] [] d_L_1015 (cV_X11_find (0 + 1) 0 0) kc_11 (ws_0 wHF) tw_1147 rfl ⟨⟨Nat.le_of_ble_eq_true rfl, Nat.le_of_ble_eq_true rfl⟩, show 202 + 0 ≤ 600002 from by decide +kernel, show 318709 + 0 ≤ 7302232 from by decide +kernel⟩ (Nat.le_of_ble_eq_true rfl) xsL (g_X11_find 0 (xs 1) (xs 2) (xs 3) (xs 4) (xs 5)) (fun r1 h1 k1 => ?_)
  obtain ⟨o1, w1, f1⟩ := k1
  refine aw_aload_n (i := 2) rfl d_L_1018 2 rfl ?_
  refine aw_aload_n (i := 0) rfl d_L_1019 0 rfl ?_
  refine aw_iload d_L_1020 4 rfl ?_
  refine aw_iconst (v := 1) d_L_1022 ic_1 ?_
  refine aw_iadd d_L_1023 ?_
  refine aw_vi (v2 := 1) (by decide) ?_
  refine aw_sld 1 (by decide) (vin_c (by decide)) d_L_1024 ?_
  refine aw_aload_n (i := 0) rfl d_L_1025 0 rfl ?_
  refine aw_iload d_L_1026 4 rfl ?_
  refine aw_iconst (v := 2) d_L_1028 ic_2 ?_
  refine aw_iadd d_L_1029 ?_
  refine aw_vi (v2 := 2) (by decide) ?_
  refine aw_sld 2 (by decide) (vin_c (by decide)) d_L_1030 ?_
  refine aw_aload_n (i := 0) rfl d_L_1031 0 rfl ?_
  refine aw_iload d_L_1032 4 rfl ?_
  refine aw_iconst (v := 3) d_L_1034 ic_3 ?_
  refine aw_iadd d_L_1035 ?_
  refine aw_vi (v2 := 3) (by decide) ?_
  refine aw_sld 3 (by decide) (vin_c (by decide)) d_L_1036 ?_
  refine aw_aload_n (i := 0) rfl d_L_1037 0 rfl ?_
  refine aw_iload d_L_1038 4 rfl ?_
  refine aw_iconst (v := 4) d_L_1040 ic_4 ?_
  refine aw_iadd d_L_1041 ?_
  refine aw_vi (v2 := 4) (by decide) ?_
  refine aw_sld 4 (by decide) (vin_c (by decide)) d_L_1042 ?_
  refine aw_aload_n (i := 0) rfl d_L_1043 0 rfl ?_
  refine aw_iload d_L_1044 4 rfl ?_
  refine aw_iconst (v := 5) d_L_1046 ic_5 ?_
  refine aw_iadd d_L_1047 ?_
  refine aw_vi (v2 := 5) (by decide) ?_
  refine aw_sld 5 (by decide) (vin_c (by decide)) d_L_1048 ?_
  refine aw_Vi 1 [.int (xs 1), .int (xs 2), .int (xs 3), .int (xs 4), .int (xs 5)] [.int r1] d_L_1049 (cV_X12_find (0 + 2) 0 0) kc_12 (ws_1 w1) tw_2475 rfl ⟨⟨Nat.le_of_ble_eq_true rfl, Nat.le_of_ble_eq_true rfl⟩, show 202 + 0 + 0 ≤ 600002 from by decide +kernel, show 318709 + 0 + 0 ≤ 7302232 from by decide +kernel⟩ (Nat.le_of_ble_eq_true rfl) xsL (g_X12_find 0 h1 w1 f1 (xs 1) (xs 2) (xs 3) (xs 4) (xs 5)) (fun r2 h2 k2 => ?_)
  refine aw_icmp_eq (tgt := 2434) d_L_1052 rfl (fun _ => ?_) (fun z => absurd (ag_find o1 k2) z)
  exact lt_6 xs _ _ ⟨by decide +kernel, by decide +kernel⟩ h2
theorem lc_18 (xs : Nat → Int32) : AW (ML 6 xs) 202 318709 1057 [(0, .ref 1100), (1, .ref 0), (2, .ref 1), (3, .ref 2), (4, .int 0)] [] HF k1_ := by
  refine aw_aload_n (i := 1) rfl d_L_1057 1 rfl ?_
  refine aw_aload_n (i := 0) rfl d_L_1058 0 rfl ?_
  refine aw_iload d_L_1059 4 rfl ?_
  refine aw_iconst (v := 1) d_L_1061 ic_1 ?_
  refine aw_iadd d_L_1062 ?_
  refine aw_vi (v2 := 1) (by decide) ?_
  refine aw_sld 1 (by decide) (vin_c (by decide)) d_L_1063 ?_
  refine aw_Vi 0 [.int (xs 1)] [] d_L_1064 (cV_X11_act (0 + 8) 0 0) kc_11 (ws_0 wHF) tw_1155 rfl ⟨⟨Nat.le_of_ble_eq_true rfl, Nat.le_of_ble_eq_true rfl⟩, show 202 + 0 ≤ 600002 from by decide +kernel, show 318709 + 0 ≤ 7302232 from by decide +kernel⟩ (Nat.le_of_ble_eq_true rfl) xsL (g_X11_act 0 (xs 1)) (fun r1 h1 k1 => ?_)
  obtain ⟨o1, w1, f1⟩ := k1
  refine aw_aload_n (i := 2) rfl d_L_1067 2 rfl ?_
  refine aw_aload_n (i := 0) rfl d_L_1068 0 rfl ?_
  refine aw_iload d_L_1069 4 rfl ?_
  refine aw_iconst (v := 1) d_L_1071 ic_1 ?_
  refine aw_iadd d_L_1072 ?_
  refine aw_vi (v2 := 1) (by decide) ?_
  refine aw_sld 1 (by decide) (vin_c (by decide)) d_L_1073 ?_
  refine aw_Vi 1 [.int (xs 1)] [.int r1] d_L_1074 (cV_X12_act (0 + 11) 0 0) kc_12 (ws_1 w1) tw_2296 rfl ⟨⟨Nat.le_of_ble_eq_true rfl, Nat.le_of_ble_eq_true rfl⟩, show 202 + 0 + 0 ≤ 600002 from by decide +kernel, show 318709 + 0 + 0 ≤ 7302232 from by decide +kernel⟩ (Nat.le_of_ble_eq_true rfl) xsL (g_X12_act 0 h1 w1 f1 (xs 1)) (fun r2 h2 k2 => ?_)
  refine aw_icmp_eq (tgt := 2434) d_L_1077 rfl (fun _ => ?_) (fun z => absurd (ag_act o1 k2) z)
  exact lt_6 xs _ _ ⟨by decide +kernel, by decide +kernel⟩ h2
theorem lc_19 (xs : Nat → Int32) : AW (ML 6 xs) 202 318709 1082 [(0, .ref 1100), (1, .ref 0), (2, .ref 1), (3, .ref 2), (4, .int 0)] [] HF k1_ := by
  refine aw_aload_n (i := 1) rfl d_L_1082 1 rfl ?_
  refine aw_aload_n (i := 0) rfl d_L_1083 0 rfl ?_
  refine aw_iload d_L_1084 4 rfl ?_
  refine aw_iconst (v := 1) d_L_1086 ic_1 ?_
  refine aw_iadd d_L_1087 ?_
  refine aw_vi (v2 := 1) (by decide) ?_
  refine aw_sld 1 (by decide) (vin_c (by decide)) d_L_1088 ?_
  refine aw_aload_n (i := 0) rfl d_L_1089 0 rfl ?_
  refine aw_iload d_L_1090 4 rfl ?_
  refine aw_iconst (v := 2) d_L_1092 ic_2 ?_
  refine aw_iadd d_L_1093 ?_
  refine aw_vi (v2 := 2) (by decide) ?_
  refine aw_sld 2 (by decide) (vin_c (by decide)) d_L_1094 ?_
  refine aw_Vi 0 [.int (xs 1), .int (xs 2)] [] d_L_1095 (cV_X11_force (0 + 2) 0 0) kc_11 (ws_0 wHF) tw_1168 rfl ⟨⟨Nat.le_of_ble_eq_true rfl, Nat.le_of_ble_eq_true rfl⟩, show 202 + 0 ≤ 600002 from by decide +kernel, show 318709 + 0 ≤ 7302232 from by decide +kernel⟩ (Nat.le_of_ble_eq_true rfl) xsL (g_X11_force 0 (xs 1) (xs 2)) (fun r1 h1 k1 => ?_)
  obtain ⟨o1, w1, f1⟩ := k1
  refine aw_aload_n (i := 2) rfl d_L_1098 2 rfl ?_
  refine aw_aload_n (i := 0) rfl d_L_1099 0 rfl ?_
  refine aw_iload d_L_1100 4 rfl ?_
  refine aw_iconst (v := 1) d_L_1102 ic_1 ?_
  refine aw_iadd d_L_1103 ?_
  refine aw_vi (v2 := 1) (by decide) ?_
  refine aw_sld 1 (by decide) (vin_c (by decide)) d_L_1104 ?_
  refine aw_aload_n (i := 0) rfl d_L_1105 0 rfl ?_
  refine aw_iload d_L_1106 4 rfl ?_
  refine aw_iconst (v := 2) d_L_1108 ic_2 ?_
  refine aw_iadd d_L_1109 ?_
  refine aw_vi (v2 := 2) (by decide) ?_
  refine aw_sld 2 (by decide) (vin_c (by decide)) d_L_1110 ?_
  refine aw_Vi 1 [.int (xs 1), .int (xs 2)] [.int r1] d_L_1111 (cV_X12_force (0 + 2) 0 0) kc_12 (ws_1 w1) tw_2308 rfl ⟨⟨Nat.le_of_ble_eq_true rfl, Nat.le_of_ble_eq_true rfl⟩, show 202 + 0 + 0 ≤ 600002 from by decide +kernel, show 318709 + 0 + 0 ≤ 7302232 from by decide +kernel⟩ (Nat.le_of_ble_eq_true rfl) xsL (g_X12_force 0 h1 w1 f1 (xs 1) (xs 2)) (fun r2 h2 k2 => ?_)
  refine aw_icmp_eq (tgt := 2434) d_L_1114 rfl (fun _ => ?_) (fun z => absurd (ag_force o1 k2) z)
  exact lt_6 xs _ _ ⟨by decide +kernel, by decide +kernel⟩ h2
theorem lc_20 (xs : Nat → Int32) : AW (ML 6 xs) 202 318709 1119 [(0, .ref 1100), (1, .ref 0), (2, .ref 1), (3, .ref 2), (4, .int 0)] [] HF k1_ := by
  refine aw_aload_n (i := 1) rfl d_L_1119 1 rfl ?_
  refine aw_aload_n (i := 0) rfl d_L_1120 0 rfl ?_
  refine aw_iload d_L_1121 4 rfl ?_
  refine aw_iconst (v := 1) d_L_1123 ic_1 ?_
  refine aw_iadd d_L_1124 ?_
  refine aw_vi (v2 := 1) (by decide) ?_
  refine aw_sld 1 (by decide) (vin_c (by decide)) d_L_1125 ?_
  refine aw_aload_n (i := 0) rfl d_L_1126 0 rfl ?_
  refine aw_iload d_L_1127 4 rfl ?_
  refine aw_iconst (v := 2) d_L_1129 ic_2 ?_
  refine aw_iadd d_L_1130 ?_
  refine aw_vi (v2 := 2) (by decide) ?_
  refine aw_sld 2 (by decide) (vin_c (by decide)) d_L_1131 ?_
  refine aw_Vi 0 [.int (xs 1), .int (xs 2)] [] d_L_1132 (cV_X11_sighting (0 + 1) 0 0) kc_11 (ws_0 wHF) tw_1172 rfl ⟨⟨Nat.le_of_ble_eq_true rfl, Nat.le_of_ble_eq_true rfl⟩, show 202 + 0 ≤ 600002 from by decide +kernel, show 318709 + 0 ≤ 7302232 from by decide +kernel⟩ (Nat.le_of_ble_eq_true rfl) xsL (g_X11_sighting 0 (xs 1) (xs 2)) (fun r1 h1 k1 => ?_)
  obtain ⟨o1, w1, f1⟩ := k1
  refine aw_aload_n (i := 2) rfl d_L_1135 2 rfl ?_
  refine aw_aload_n (i := 0) rfl d_L_1136 0 rfl ?_
  refine aw_iload d_L_1137 4 rfl ?_
  refine aw_iconst (v := 1) d_L_1139 ic_1 ?_
  refine aw_iadd d_L_1140 ?_
  refine aw_vi (v2 := 1) (by decide) ?_
  refine aw_sld 1 (by decide) (vin_c (by decide)) d_L_1141 ?_
  refine aw_aload_n (i := 0) rfl d_L_1142 0 rfl ?_
  refine aw_iload d_L_1143 4 rfl ?_
  refine aw_iconst (v := 2) d_L_1145 ic_2 ?_
  refine aw_iadd d_L_1146 ?_
  refine aw_vi (v2 := 2) (by decide) ?_
  refine aw_sld 2 (by decide) (vin_c (by decide)) d_L_1147 ?_
  refine aw_Vi 1 [.int (xs 1), .int (xs 2)] [.int r1] d_L_1148 (cV_X12_sighting (0 + 1) 0 0) kc_12 (ws_1 w1) tw_2479 rfl ⟨⟨Nat.le_of_ble_eq_true rfl, Nat.le_of_ble_eq_true rfl⟩, show 202 + 0 + 0 ≤ 600002 from by decide +kernel, show 318709 + 0 + 0 ≤ 7302232 from by decide +kernel⟩ (Nat.le_of_ble_eq_true rfl) xsL (g_X12_sighting 0 h1 w1 f1 (xs 1) (xs 2)) (fun r2 h2 k2 => ?_)
  refine aw_icmp_eq (tgt := 2434) d_L_1151 rfl (fun _ => ?_) (fun z => absurd (ag_sighting o1 k2) z)
  exact lt_6 xs _ _ ⟨by decide +kernel, by decide +kernel⟩ h2
theorem lc_21 (xs : Nat → Int32) : AW (ML 6 xs) 202 318709 1156 [(0, .ref 1100), (1, .ref 0), (2, .ref 1), (3, .ref 2), (4, .int 0)] [] HF k1_ := by
  refine aw_aload_n (i := 1) rfl d_L_1156 1 rfl ?_
  refine aw_aload_n (i := 0) rfl d_L_1157 0 rfl ?_
  refine aw_iload d_L_1158 4 rfl ?_
  refine aw_iconst (v := 1) d_L_1160 ic_1 ?_
  refine aw_iadd d_L_1161 ?_
  refine aw_vi (v2 := 1) (by decide) ?_
  refine aw_sld 1 (by decide) (vin_c (by decide)) d_L_1162 ?_
  refine aw_aload_n (i := 0) rfl d_L_1163 0 rfl ?_
  refine aw_iload d_L_1164 4 rfl ?_
  refine aw_iconst (v := 2) d_L_1166 ic_2 ?_
  refine aw_iadd d_L_1167 ?_
  refine aw_vi (v2 := 2) (by decide) ?_
  refine aw_sld 2 (by decide) (vin_c (by decide)) d_L_1168 ?_
  refine aw_Vi 0 [.int (xs 1), .int (xs 2)] [] d_L_1169 (cV_X11_should (0 + 1) 0 0) kc_11 (ws_0 wHF) tw_1181 rfl ⟨⟨Nat.le_of_ble_eq_true rfl, Nat.le_of_ble_eq_true rfl⟩, show 202 + 0 ≤ 600002 from by decide +kernel, show 318709 + 0 ≤ 7302232 from by decide +kernel⟩ (Nat.le_of_ble_eq_true rfl) xsL (g_X11_should 0 (xs 1) (xs 2)) (fun r1 h1 k1 => ?_)
  obtain ⟨o1, w1, f1⟩ := k1
  refine aw_aload_n (i := 2) rfl d_L_1172 2 rfl ?_
  refine aw_aload_n (i := 0) rfl d_L_1173 0 rfl ?_
  refine aw_iload d_L_1174 4 rfl ?_
  refine aw_iconst (v := 1) d_L_1176 ic_1 ?_
  refine aw_iadd d_L_1177 ?_
  refine aw_vi (v2 := 1) (by decide) ?_
  refine aw_sld 1 (by decide) (vin_c (by decide)) d_L_1178 ?_
  refine aw_aload_n (i := 0) rfl d_L_1179 0 rfl ?_
  refine aw_iload d_L_1180 4 rfl ?_
  refine aw_iconst (v := 2) d_L_1182 ic_2 ?_
  refine aw_iadd d_L_1183 ?_
  refine aw_vi (v2 := 2) (by decide) ?_
  refine aw_sld 2 (by decide) (vin_c (by decide)) d_L_1184 ?_
  refine aw_Vi 1 [.int (xs 1), .int (xs 2)] [.int r1] d_L_1185 (cV_X12_should (0 + 1) 0 0) kc_12 (ws_1 w1) tw_2483 rfl ⟨⟨Nat.le_of_ble_eq_true rfl, Nat.le_of_ble_eq_true rfl⟩, show 202 + 0 + 0 ≤ 600002 from by decide +kernel, show 318709 + 0 + 0 ≤ 7302232 from by decide +kernel⟩ (Nat.le_of_ble_eq_true rfl) xsL (g_X12_should 0 h1 w1 f1 (xs 1) (xs 2)) (fun r2 h2 k2 => ?_)
  refine aw_icmp_eq (tgt := 2434) d_L_1188 rfl (fun _ => ?_) (fun z => absurd (ag_should o1 k2) z)
  exact lt_6 xs _ _ ⟨by decide +kernel, by decide +kernel⟩ h2
theorem lc_22 (xs : Nat → Int32) : AW (ML 6 xs) 202 318709 1193 [(0, .ref 1100), (1, .ref 0), (2, .ref 1), (3, .ref 2), (4, .int 0)] [] HF k1_ := by
  refine aw_aload_n (i := 1) rfl d_L_1193 1 rfl ?_
  refine aw_aload_n (i := 0) rfl d_L_1194 0 rfl ?_
  refine aw_iload d_L_1195 4 rfl ?_
  refine aw_iconst (v := 1) d_L_1197 ic_1 ?_
  refine aw_iadd d_L_1198 ?_
  refine aw_vi (v2 := 1) (by decide) ?_
  refine aw_sld 1 (by decide) (vin_c (by decide)) d_L_1199 ?_
  refine aw_Vi 0 [.int (xs 1)] [] d_L_1200 (cV_X11_heard (0 + 2) 0 0) kc_11 (ws_0 wHF) tw_1195 rfl ⟨⟨Nat.le_of_ble_eq_true rfl, Nat.le_of_ble_eq_true rfl⟩, show 202 + 0 ≤ 600002 from by decide +kernel, show 318709 + 0 ≤ 7302232 from by decide +kernel⟩ (Nat.le_of_ble_eq_true rfl) xsL (g_X11_heard 0 (xs 1)) (fun r1 h1 k1 => ?_)
  obtain ⟨o1, w1, f1⟩ := k1
  refine aw_aload_n (i := 2) rfl d_L_1203 2 rfl ?_
  refine aw_aload_n (i := 0) rfl d_L_1204 0 rfl ?_
  refine aw_iload d_L_1205 4 rfl ?_
  refine aw_iconst (v := 1) d_L_1207 ic_1 ?_
  refine aw_iadd d_L_1208 ?_
  refine aw_vi (v2 := 1) (by decide) ?_
  refine aw_sld 1 (by decide) (vin_c (by decide)) d_L_1209 ?_
  refine aw_Vi 1 [.int (xs 1)] [.int r1] d_L_1210 (cV_X12_heard (0 + 2) 0 0) kc_12 (ws_1 w1) tw_2487 rfl ⟨⟨Nat.le_of_ble_eq_true rfl, Nat.le_of_ble_eq_true rfl⟩, show 202 + 0 + 0 ≤ 600002 from by decide +kernel, show 318709 + 0 + 0 ≤ 7302232 from by decide +kernel⟩ (Nat.le_of_ble_eq_true rfl) xsL (g_X12_heard 0 h1 w1 f1 (xs 1)) (fun r2 h2 k2 => ?_)
  refine aw_icmp_eq (tgt := 2434) d_L_1213 rfl (fun _ => ?_) (fun z => absurd (ag_heard o1 k2) z)
  exact lt_6 xs _ _ ⟨by decide +kernel, by decide +kernel⟩ h2
theorem lc_23 (xs : Nat → Int32) : AW (ML 6 xs) 202 318709 1218 [(0, .ref 1100), (1, .ref 0), (2, .ref 1), (3, .ref 2), (4, .int 0)] [] HF k1_ := by
  refine aw_aload_n (i := 1) rfl d_L_1218 1 rfl ?_
  refine aw_aload_n (i := 0) rfl d_L_1219 0 rfl ?_
  refine aw_iload d_L_1220 4 rfl ?_
  refine aw_iconst (v := 1) d_L_1222 ic_1 ?_
  refine aw_iadd d_L_1223 ?_
  refine aw_vi (v2 := 1) (by decide) ?_
  refine aw_sld 1 (by decide) (vin_c (by decide)) d_L_1224 ?_
  refine aw_Vi 0 [.int (xs 1)] [] d_L_1225 (cV_X11_open (0 + 1) 0 0) kc_11 (ws_0 wHF) tw_1203 rfl ⟨⟨Nat.le_of_ble_eq_true rfl, Nat.le_of_ble_eq_true rfl⟩, show 202 + 0 ≤ 600002 from by decide +kernel, show 318709 + 0 ≤ 7302232 from by decide +kernel⟩ (Nat.le_of_ble_eq_true rfl) xsL (g_X11_open 0 (xs 1)) (fun r1 h1 k1 => ?_)
  obtain ⟨o1, w1, f1⟩ := k1
  refine aw_aload_n (i := 2) rfl d_L_1228 2 rfl ?_
  refine aw_aload_n (i := 0) rfl d_L_1229 0 rfl ?_
  refine aw_iload d_L_1230 4 rfl ?_
  refine aw_iconst (v := 1) d_L_1232 ic_1 ?_
  refine aw_iadd d_L_1233 ?_
  refine aw_vi (v2 := 1) (by decide) ?_
  refine aw_sld 1 (by decide) (vin_c (by decide)) d_L_1234 ?_
  refine aw_Vi 1 [.int (xs 1)] [.int r1] d_L_1235 (cV_X12_open (0 + 1) 0 0) kc_12 (ws_1 w1) tw_2491 rfl ⟨⟨Nat.le_of_ble_eq_true rfl, Nat.le_of_ble_eq_true rfl⟩, show 202 + 0 + 0 ≤ 600002 from by decide +kernel, show 318709 + 0 + 0 ≤ 7302232 from by decide +kernel⟩ (Nat.le_of_ble_eq_true rfl) xsL (g_X12_open 0 h1 w1 f1 (xs 1)) (fun r2 h2 k2 => ?_)
  refine aw_icmp_eq (tgt := 2434) d_L_1238 rfl (fun _ => ?_) (fun z => absurd (ag_open o1 k2) z)
  exact lt_6 xs _ _ ⟨by decide +kernel, by decide +kernel⟩ h2
theorem lc_24 (xs : Nat → Int32) : AW (ML 6 xs) 202 318709 1243 [(0, .ref 1100), (1, .ref 0), (2, .ref 1), (3, .ref 2), (4, .int 0)] [] HF k1_ := by
  refine aw_aload_n (i := 1) rfl d_L_1243 1 rfl ?_
  refine aw_aload_n (i := 0) rfl d_L_1244 0 rfl ?_
  refine aw_iload d_L_1245 4 rfl ?_
  refine aw_iconst (v := 1) d_L_1247 ic_1 ?_
  refine aw_iadd d_L_1248 ?_
  refine aw_vi (v2 := 1) (by decide) ?_
  refine aw_sld 1 (by decide) (vin_c (by decide)) d_L_1249 ?_
  refine aw_aload_n (i := 0) rfl d_L_1250 0 rfl ?_
  refine aw_iload d_L_1251 4 rfl ?_
  refine aw_iconst (v := 2) d_L_1253 ic_2 ?_
  refine aw_iadd d_L_1254 ?_
  refine aw_vi (v2 := 2) (by decide) ?_
  refine aw_sld 2 (by decide) (vin_c (by decide)) d_L_1255 ?_
  refine aw_Vi 0 [.int (xs 1), .int (xs 2)] [] d_L_1256 (cV_X11_need (0 + 1) 0 0) kc_11 (ws_0 wHF) tw_1207 rfl ⟨⟨Nat.le_of_ble_eq_true rfl, Nat.le_of_ble_eq_true rfl⟩, show 202 + 0 ≤ 600002 from by decide +kernel, show 318709 + 0 ≤ 7302232 from by decide +kernel⟩ (Nat.le_of_ble_eq_true rfl) xsL (g_X11_need 0 (xs 1) (xs 2)) (fun r1 h1 k1 => ?_)
  obtain ⟨o1, w1, f1⟩ := k1
  refine aw_aload_n (i := 2) rfl d_L_1259 2 rfl ?_
  refine aw_aload_n (i := 0) rfl d_L_1260 0 rfl ?_
  refine aw_iload d_L_1261 4 rfl ?_
  refine aw_iconst (v := 1) d_L_1263 ic_1 ?_
  refine aw_iadd d_L_1264 ?_
  refine aw_vi (v2 := 1) (by decide) ?_
  refine aw_sld 1 (by decide) (vin_c (by decide)) d_L_1265 ?_
  refine aw_aload_n (i := 0) rfl d_L_1266 0 rfl ?_
  refine aw_iload d_L_1267 4 rfl ?_
  refine aw_iconst (v := 2) d_L_1269 ic_2 ?_
  refine aw_iadd d_L_1270 ?_
  refine aw_vi (v2 := 2) (by decide) ?_
  refine aw_sld 2 (by decide) (vin_c (by decide)) d_L_1271 ?_
  refine aw_Vi 1 [.int (xs 1), .int (xs 2)] [.int r1] d_L_1272 (cV_X12_need (0 + 1) 0 0) kc_12 (ws_1 w1) tw_2495 rfl ⟨⟨Nat.le_of_ble_eq_true rfl, Nat.le_of_ble_eq_true rfl⟩, show 202 + 0 + 0 ≤ 600002 from by decide +kernel, show 318709 + 0 + 0 ≤ 7302232 from by decide +kernel⟩ (Nat.le_of_ble_eq_true rfl) xsL (g_X12_need 0 h1 w1 f1 (xs 1) (xs 2)) (fun r2 h2 k2 => ?_)
  refine aw_icmp_eq (tgt := 2434) d_L_1275 rfl (fun _ => ?_) (fun z => absurd (ag_need o1 k2) z)
  exact lt_6 xs _ _ ⟨by decide +kernel, by decide +kernel⟩ h2
theorem lc_25 (xs : Nat → Int32) : AW (ML 6 xs) 202 318709 1280 [(0, .ref 1100), (1, .ref 0), (2, .ref 1), (3, .ref 2), (4, .int 0)] [] HF k1_ := by
  refine aw_aload_n (i := 1) rfl d_L_1280 1 rfl ?_
  refine aw_aload_n (i := 0) rfl d_L_1281 0 rfl ?_
  refine aw_iload d_L_1282 4 rfl ?_
  refine aw_iconst (v := 1) d_L_1284 ic_1 ?_
  refine aw_iadd d_L_1285 ?_
  refine aw_vi (v2 := 1) (by decide) ?_
  refine aw_sld 1 (by decide) (vin_c (by decide)) d_L_1286 ?_
  refine aw_aload_n (i := 0) rfl d_L_1287 0 rfl ?_
  refine aw_iload d_L_1288 4 rfl ?_
  refine aw_iconst (v := 2) d_L_1290 ic_2 ?_
  refine aw_iadd d_L_1291 ?_
  refine aw_vi (v2 := 2) (by decide) ?_
  refine aw_sld 2 (by decide) (vin_c (by decide)) d_L_1292 ?_
  refine aw_Vi 0 [.int (xs 1), .int (xs 2)] [] d_L_1293 (cV_X11_want (0 + 1) 0 0) kc_11 (ws_0 wHF) tw_1211 rfl ⟨⟨Nat.le_of_ble_eq_true rfl, Nat.le_of_ble_eq_true rfl⟩, show 202 + 0 ≤ 600002 from by decide +kernel, show 318709 + 0 ≤ 7302232 from by decide +kernel⟩ (Nat.le_of_ble_eq_true rfl) xsL (g_X11_want 0 (xs 1) (xs 2)) (fun r1 h1 k1 => ?_)
  obtain ⟨o1, w1, f1⟩ := k1
  refine aw_aload_n (i := 2) rfl d_L_1296 2 rfl ?_
  refine aw_aload_n (i := 0) rfl d_L_1297 0 rfl ?_
  refine aw_iload d_L_1298 4 rfl ?_
  refine aw_iconst (v := 1) d_L_1300 ic_1 ?_
  refine aw_iadd d_L_1301 ?_
  refine aw_vi (v2 := 1) (by decide) ?_
  refine aw_sld 1 (by decide) (vin_c (by decide)) d_L_1302 ?_
  refine aw_aload_n (i := 0) rfl d_L_1303 0 rfl ?_
  refine aw_iload d_L_1304 4 rfl ?_
  refine aw_iconst (v := 2) d_L_1306 ic_2 ?_
  refine aw_iadd d_L_1307 ?_
  refine aw_vi (v2 := 2) (by decide) ?_
  refine aw_sld 2 (by decide) (vin_c (by decide)) d_L_1308 ?_
  refine aw_Vi 1 [.int (xs 1), .int (xs 2)] [.int r1] d_L_1309 (cV_X12_want (0 + 1) 0 0) kc_12 (ws_1 w1) tw_2499 rfl ⟨⟨Nat.le_of_ble_eq_true rfl, Nat.le_of_ble_eq_true rfl⟩, show 202 + 0 + 0 ≤ 600002 from by decide +kernel, show 318709 + 0 + 0 ≤ 7302232 from by decide +kernel⟩ (Nat.le_of_ble_eq_true rfl) xsL (g_X12_want 0 h1 w1 f1 (xs 1) (xs 2)) (fun r2 h2 k2 => ?_)
  refine aw_icmp_eq (tgt := 2434) d_L_1312 rfl (fun _ => ?_) (fun z => absurd (ag_want o1 k2) z)
  exact lt_6 xs _ _ ⟨by decide +kernel, by decide +kernel⟩ h2
theorem lc_26 (xs : Nat → Int32) : AW (ML 6 xs) 202 318709 1317 [(0, .ref 1100), (1, .ref 0), (2, .ref 1), (3, .ref 2), (4, .int 0)] [] HF k1_ := by
  refine aw_aload_n (i := 1) rfl d_L_1317 1 rfl ?_
  refine aw_aload_n (i := 0) rfl d_L_1318 0 rfl ?_
  refine aw_iload d_L_1319 4 rfl ?_
  refine aw_iconst (v := 1) d_L_1321 ic_1 ?_
  refine aw_iadd d_L_1322 ?_
  refine aw_vi (v2 := 1) (by decide) ?_
  refine aw_sld 1 (by decide) (vin_c (by decide)) d_L_1323 ?_
  refine aw_aload_n (i := 0) rfl d_L_1324 0 rfl ?_
  refine aw_iload d_L_1325 4 rfl ?_
  refine aw_iconst (v := 2) d_L_1327 ic_2 ?_
  refine aw_iadd d_L_1328 ?_
  refine aw_vi (v2 := 2) (by decide) ?_
  refine aw_sld 2 (by decide) (vin_c (by decide)) d_L_1329 ?_
  refine aw_aload_n (i := 0) rfl d_L_1330 0 rfl ?_
  refine aw_iload d_L_1331 4 rfl ?_
  refine aw_iconst (v := 3) d_L_1333 ic_3 ?_
  refine aw_iadd d_L_1334 ?_
  refine aw_vi (v2 := 3) (by decide) ?_
  refine aw_sld 3 (by decide) (vin_c (by decide)) d_L_1335 ?_
  refine aw_aload_n (i := 0) rfl d_L_1336 0 rfl ?_
  refine aw_iload d_L_1337 4 rfl ?_
  refine aw_iconst (v := 4) d_L_1339 ic_4 ?_
  refine aw_iadd d_L_1340 ?_
  refine aw_vi (v2 := 4) (by decide) ?_
  refine aw_sld 4 (by decide) (vin_c (by decide)) d_L_1341 ?_
  refine aw_if_eq (tgt := 1349) d_L_1342 rfl (fun b1 => ?_) (fun b1 => ?_)
  · refine aw_iconst (v := 0) d_L_1349 ic_0 ?_
    refine aw_Vi 0 [.int (xs 1), .int (xs 2), .int (xs 3), .int 0] [] d_L_1350 (cV_X11_state (0 + 1) 0 0) kc_11 (ws_0 wHF) tw_1215 rfl ⟨⟨Nat.le_of_ble_eq_true rfl, Nat.le_of_ble_eq_true rfl⟩, show 202 + 0 ≤ 600002 from by decide +kernel, show 318709 + 0 ≤ 7302232 from by decide +kernel⟩ (Nat.le_of_ble_eq_true rfl) xsL (g_X11_state 0 (xs 1) (xs 2) (xs 3) 0) (fun r1 h1 k1 => ?_)
    obtain ⟨o1, w1, f1⟩ := k1
    refine aw_aload_n (i := 2) rfl d_L_1353 2 rfl ?_
    refine aw_aload_n (i := 0) rfl d_L_1354 0 rfl ?_
    refine aw_iload d_L_1355 4 rfl ?_
    refine aw_iconst (v := 1) d_L_1357 ic_1 ?_
    refine aw_iadd d_L_1358 ?_
    refine aw_vi (v2 := 1) (by decide) ?_
    refine aw_sld 1 (by decide) (vin_c (by decide)) d_L_1359 ?_
    refine aw_aload_n (i := 0) rfl d_L_1360 0 rfl ?_
    refine aw_iload d_L_1361 4 rfl ?_
    refine aw_iconst (v := 2) d_L_1363 ic_2 ?_
    refine aw_iadd d_L_1364 ?_
    refine aw_vi (v2 := 2) (by decide) ?_
    refine aw_sld 2 (by decide) (vin_c (by decide)) d_L_1365 ?_
    refine aw_aload_n (i := 0) rfl d_L_1366 0 rfl ?_
    refine aw_iload d_L_1367 4 rfl ?_
    refine aw_iconst (v := 3) d_L_1369 ic_3 ?_
    refine aw_iadd d_L_1370 ?_
    refine aw_vi (v2 := 3) (by decide) ?_
    refine aw_sld 3 (by decide) (vin_c (by decide)) d_L_1371 ?_
    refine aw_aload_n (i := 0) rfl d_L_1372 0 rfl ?_
    refine aw_iload d_L_1373 4 rfl ?_
    refine aw_iconst (v := 4) d_L_1375 ic_4 ?_
    refine aw_iadd d_L_1376 ?_
    refine aw_vi (v2 := 4) (by decide) ?_
    refine aw_sld 4 (by decide) (vin_c (by decide)) d_L_1377 ?_
    refine aw_if_eq (tgt := 1385) d_L_1378 rfl (fun _ => ?_) (fun z => absurd b1 z)
    refine aw_iconst (v := 0) d_L_1385 ic_0 ?_
    refine aw_Vi 1 [.int (xs 1), .int (xs 2), .int (xs 3), .int 0] [.int r1] d_L_1386 (cV_X12_state (0 + 2) 0 0) kc_12 (ws_1 w1) tw_2503 rfl ⟨⟨Nat.le_of_ble_eq_true rfl, Nat.le_of_ble_eq_true rfl⟩, show 202 + 0 + 0 ≤ 600002 from by decide +kernel, show 318709 + 0 + 0 ≤ 7302232 from by decide +kernel⟩ (Nat.le_of_ble_eq_true rfl) xsL (g_X12_state 0 h1 w1 f1 (xs 1) (xs 2) (xs 3) 0) (fun r2 h2 k2 => ?_)
    refine aw_icmp_eq (tgt := 2434) d_L_1389 rfl (fun _ => ?_) (fun z => absurd (ag_state o1 k2) z)
    exact lt_6 xs _ _ ⟨by decide +kernel, by decide +kernel⟩ h2
  · refine aw_iconst (v := 1) d_L_1345 ic_1 ?_
    refine aw_goto (tgt := 1350) d_L_1346 rfl ?_
    refine aw_Vi 0 [.int (xs 1), .int (xs 2), .int (xs 3), .int 1] [] d_L_1350 (cV_X11_state (0 + 1) 0 0) kc_11 (ws_0 wHF) tw_1215 rfl ⟨⟨Nat.le_of_ble_eq_true rfl, Nat.le_of_ble_eq_true rfl⟩, show 202 + 0 ≤ 600002 from by decide +kernel, show 318709 + 0 ≤ 7302232 from by decide +kernel⟩ (Nat.le_of_ble_eq_true rfl) xsL (g_X11_state 0 (xs 1) (xs 2) (xs 3) 1) (fun r1 h1 k1 => ?_)
    obtain ⟨o1, w1, f1⟩ := k1
    refine aw_aload_n (i := 2) rfl d_L_1353 2 rfl ?_
    refine aw_aload_n (i := 0) rfl d_L_1354 0 rfl ?_
    refine aw_iload d_L_1355 4 rfl ?_
    refine aw_iconst (v := 1) d_L_1357 ic_1 ?_
    refine aw_iadd d_L_1358 ?_
    refine aw_vi (v2 := 1) (by decide) ?_
    refine aw_sld 1 (by decide) (vin_c (by decide)) d_L_1359 ?_
    refine aw_aload_n (i := 0) rfl d_L_1360 0 rfl ?_
    refine aw_iload d_L_1361 4 rfl ?_
    refine aw_iconst (v := 2) d_L_1363 ic_2 ?_
    refine aw_iadd d_L_1364 ?_
    refine aw_vi (v2 := 2) (by decide) ?_
    refine aw_sld 2 (by decide) (vin_c (by decide)) d_L_1365 ?_
    refine aw_aload_n (i := 0) rfl d_L_1366 0 rfl ?_
    refine aw_iload d_L_1367 4 rfl ?_
    refine aw_iconst (v := 3) d_L_1369 ic_3 ?_
    refine aw_iadd d_L_1370 ?_
    refine aw_vi (v2 := 3) (by decide) ?_
    refine aw_sld 3 (by decide) (vin_c (by decide)) d_L_1371 ?_
    refine aw_aload_n (i := 0) rfl d_L_1372 0 rfl ?_
    refine aw_iload d_L_1373 4 rfl ?_
    refine aw_iconst (v := 4) d_L_1375 ic_4 ?_
    refine aw_iadd d_L_1376 ?_
    refine aw_vi (v2 := 4) (by decide) ?_
    refine aw_sld 4 (by decide) (vin_c (by decide)) d_L_1377 ?_
    refine aw_if_eq (tgt := 1385) d_L_1378 rfl (fun z => absurd z b1) (fun _ => ?_)
    refine aw_iconst (v := 1) d_L_1381 ic_1 ?_
    refine aw_goto (tgt := 1386) d_L_1382 rfl ?_
    refine aw_Vi 1 [.int (xs 1), .int (xs 2), .int (xs 3), .int 1] [.int r1] d_L_1386 (cV_X12_state (0 + 2) 0 0) kc_12 (ws_1 w1) tw_2503 rfl ⟨⟨Nat.le_of_ble_eq_true rfl, Nat.le_of_ble_eq_true rfl⟩, show 202 + 0 + 0 ≤ 600002 from by decide +kernel, show 318709 + 0 + 0 ≤ 7302232 from by decide +kernel⟩ (Nat.le_of_ble_eq_true rfl) xsL (g_X12_state 0 h1 w1 f1 (xs 1) (xs 2) (xs 3) 1) (fun r2 h2 k2 => ?_)
    refine aw_icmp_eq (tgt := 2434) d_L_1389 rfl (fun _ => ?_) (fun z => absurd (ag_state o1 k2) z)
    exact lt_6 xs _ _ ⟨by decide +kernel, by decide +kernel⟩ h2
theorem lc_27 (xs : Nat → Int32) : AW (ML 6 xs) 202 318709 1394 [(0, .ref 1100), (1, .ref 0), (2, .ref 1), (3, .ref 2), (4, .int 0)] [] HF k1_ := by
  refine aw_aload_n (i := 1) rfl d_L_1394 1 rfl ?_
  refine aw_aload_n (i := 0) rfl d_L_1395 0 rfl ?_
  refine aw_iload d_L_1396 4 rfl ?_
  refine aw_iconst (v := 1) d_L_1398 ic_1 ?_
  refine aw_iadd d_L_1399 ?_
  refine aw_vi (v2 := 1) (by decide) ?_
  refine aw_sld 1 (by decide) (vin_c (by decide)) d_L_1400 ?_
  refine aw_Vi 0 [.int (xs 1)] [] d_L_1401 (cV_X11_withdraw (0 + 2) 0 0) kc_11 (ws_0 wHF) tw_1228 rfl ⟨⟨Nat.le_of_ble_eq_true rfl, Nat.le_of_ble_eq_true rfl⟩, show 202 + 0 ≤ 600002 from by decide +kernel, show 318709 + 0 ≤ 7302232 from by decide +kernel⟩ (Nat.le_of_ble_eq_true rfl) xsL (g_X11_withdraw 0 (xs 1)) (fun r1 h1 k1 => ?_)
  obtain ⟨o1, w1, f1⟩ := k1
  refine aw_aload_n (i := 2) rfl d_L_1404 2 rfl ?_
  refine aw_aload_n (i := 0) rfl d_L_1405 0 rfl ?_
  refine aw_iload d_L_1406 4 rfl ?_
  refine aw_iconst (v := 1) d_L_1408 ic_1 ?_
  refine aw_iadd d_L_1409 ?_
  refine aw_vi (v2 := 1) (by decide) ?_
  refine aw_sld 1 (by decide) (vin_c (by decide)) d_L_1410 ?_
  refine aw_Vi 1 [.int (xs 1)] [.int r1] d_L_1411 (cV_X12_withdraw (0 + 1) 0 0) kc_12 (ws_1 w1) tw_2544 rfl ⟨⟨Nat.le_of_ble_eq_true rfl, Nat.le_of_ble_eq_true rfl⟩, show 202 + 0 + 0 ≤ 600002 from by decide +kernel, show 318709 + 0 + 0 ≤ 7302232 from by decide +kernel⟩ (Nat.le_of_ble_eq_true rfl) xsL (g_X12_withdraw 0 h1 w1 f1 (xs 1)) (fun r2 h2 k2 => ?_)
  refine aw_icmp_eq (tgt := 2434) d_L_1414 rfl (fun _ => ?_) (fun z => absurd (ag_withdraw o1 k2) z)
  exact lt_6 xs _ _ ⟨by decide +kernel, by decide +kernel⟩ h2
theorem lc_28 (xs : Nat → Int32) : AW (ML 6 xs) 202 318709 1419 [(0, .ref 1100), (1, .ref 0), (2, .ref 1), (3, .ref 2), (4, .int 0)] [] HF k1_ := by
  refine aw_aload_n (i := 1) rfl d_L_1419 1 rfl ?_
  refine aw_aload_n (i := 0) rfl d_L_1420 0 rfl ?_
  refine aw_iload d_L_1421 4 rfl ?_
  refine aw_iconst (v := 1) d_L_1423 ic_1 ?_
  refine aw_iadd d_L_1424 ?_
  refine aw_vi (v2 := 1) (by decide) ?_
  refine aw_sld 1 (by decide) (vin_c (by decide)) d_L_1425 ?_
  refine aw_aload_n (i := 0) rfl d_L_1426 0 rfl ?_
  refine aw_iload d_L_1427 4 rfl ?_
  refine aw_iconst (v := 2) d_L_1429 ic_2 ?_
  refine aw_iadd d_L_1430 ?_
  refine aw_vi (v2 := 2) (by decide) ?_
  refine aw_sld 2 (by decide) (vin_c (by decide)) d_L_1431 ?_
  refine aw_aload_n (i := 0) rfl d_L_1432 0 rfl ?_
  refine aw_iload d_L_1433 4 rfl ?_
  refine aw_iconst (v := 3) d_L_1435 ic_3 ?_
  refine aw_iadd d_L_1436 ?_
  refine aw_vi (v2 := 3) (by decide) ?_
  refine aw_sld 3 (by decide) (vin_c (by decide)) d_L_1437 ?_
  refine aw_Vi 0 [.int (xs 1), .int (xs 2), .int (xs 3)] [] d_L_1438 (cV_X11_fact (0 + 2) 0 0) kc_11 (ws_0 wHF) tw_1275 rfl ⟨⟨Nat.le_of_ble_eq_true rfl, Nat.le_of_ble_eq_true rfl⟩, show 202 + 0 ≤ 600002 from by decide +kernel, show 318709 + 0 ≤ 7302232 from by decide +kernel⟩ (Nat.le_of_ble_eq_true rfl) xsL (g_X11_fact 0 (xs 1) (xs 2) (xs 3)) (fun r1 h1 k1 => ?_)
  obtain ⟨o1, w1, f1⟩ := k1
  refine aw_aload_n (i := 2) rfl d_L_1441 2 rfl ?_
  refine aw_aload_n (i := 0) rfl d_L_1442 0 rfl ?_
  refine aw_iload d_L_1443 4 rfl ?_
  refine aw_iconst (v := 1) d_L_1445 ic_1 ?_
  refine aw_iadd d_L_1446 ?_
  refine aw_vi (v2 := 1) (by decide) ?_
  refine aw_sld 1 (by decide) (vin_c (by decide)) d_L_1447 ?_
  refine aw_aload_n (i := 0) rfl d_L_1448 0 rfl ?_
  refine aw_iload d_L_1449 4 rfl ?_
  refine aw_iconst (v := 2) d_L_1451 ic_2 ?_
  refine aw_iadd d_L_1452 ?_
  refine aw_vi (v2 := 2) (by decide) ?_
  refine aw_sld 2 (by decide) (vin_c (by decide)) d_L_1453 ?_
  refine aw_aload_n (i := 0) rfl d_L_1454 0 rfl ?_
  refine aw_iload d_L_1455 4 rfl ?_
  refine aw_iconst (v := 3) d_L_1457 ic_3 ?_
  refine aw_iadd d_L_1458 ?_
  refine aw_vi (v2 := 3) (by decide) ?_
  refine aw_sld 3 (by decide) (vin_c (by decide)) d_L_1459 ?_
  refine aw_Vi 1 [.int (xs 1), .int (xs 2), .int (xs 3)] [.int r1] d_L_1460 (cV_X12_fact (0 + 3) 0 0) kc_12 (ws_1 w1) tw_2511 rfl ⟨⟨Nat.le_of_ble_eq_true rfl, Nat.le_of_ble_eq_true rfl⟩, show 202 + 0 + 0 ≤ 600002 from by decide +kernel, show 318709 + 0 + 0 ≤ 7302232 from by decide +kernel⟩ (Nat.le_of_ble_eq_true rfl) xsL (g_X12_fact 0 h1 w1 f1 (xs 1) (xs 2) (xs 3)) (fun r2 h2 k2 => ?_)
  refine aw_icmp_eq (tgt := 2434) d_L_1463 rfl (fun _ => ?_) (fun z => absurd (ag_fact o1 k2) z)
  exact lt_6 xs _ _ ⟨by decide +kernel, by decide +kernel⟩ h2
theorem lc_29 (xs : Nat → Int32) : AW (ML 6 xs) 202 318709 1468 [(0, .ref 1100), (1, .ref 0), (2, .ref 1), (3, .ref 2), (4, .int 0)] [] HF k1_ := by
  refine aw_aload_n (i := 1) rfl d_L_1468 1 rfl ?_
  refine aw_aload_n (i := 0) rfl d_L_1469 0 rfl ?_
  refine aw_iload d_L_1470 4 rfl ?_
  refine aw_iconst (v := 1) d_L_1472 ic_1 ?_
  refine aw_iadd d_L_1473 ?_
  refine aw_vi (v2 := 1) (by decide) ?_
  refine aw_sld 1 (by decide) (vin_c (by decide)) d_L_1474 ?_
  refine aw_aload_n (i := 0) rfl d_L_1475 0 rfl ?_
  refine aw_iload d_L_1476 4 rfl ?_
  refine aw_iconst (v := 2) d_L_1478 ic_2 ?_
  refine aw_iadd d_L_1479 ?_
  refine aw_vi (v2 := 2) (by decide) ?_
  refine aw_sld 2 (by decide) (vin_c (by decide)) d_L_1480 ?_
  refine aw_aload_n (i := 0) rfl d_L_1481 0 rfl ?_
  refine aw_iload d_L_1482 4 rfl ?_
  refine aw_iconst (v := 3) d_L_1484 ic_3 ?_
  refine aw_iadd d_L_1485 ?_
  refine aw_vi (v2 := 3) (by decide) ?_
  refine aw_sld 3 (by decide) (vin_c (by decide)) d_L_1486 ?_
  refine aw_Vi 0 [.int (xs 1), .int (xs 2), .int (xs 3)] [] d_L_1487 (cV_X11_cased (0 + 2) 0 0) kc_11 (ws_0 wHF) tw_1285 rfl ⟨⟨Nat.le_of_ble_eq_true rfl, Nat.le_of_ble_eq_true rfl⟩, show 202 + 0 ≤ 600002 from by decide +kernel, show 318709 + 0 ≤ 7302232 from by decide +kernel⟩ (Nat.le_of_ble_eq_true rfl) xsL (g_X11_cased 0 (xs 1) (xs 2) (xs 3)) (fun r1 h1 k1 => ?_)
  obtain ⟨o1, w1, f1⟩ := k1
  refine aw_aload_n (i := 2) rfl d_L_1490 2 rfl ?_
  refine aw_aload_n (i := 0) rfl d_L_1491 0 rfl ?_
  refine aw_iload d_L_1492 4 rfl ?_
  refine aw_iconst (v := 1) d_L_1494 ic_1 ?_
  refine aw_iadd d_L_1495 ?_
  refine aw_vi (v2 := 1) (by decide) ?_
  refine aw_sld 1 (by decide) (vin_c (by decide)) d_L_1496 ?_
  refine aw_aload_n (i := 0) rfl d_L_1497 0 rfl ?_
  refine aw_iload d_L_1498 4 rfl ?_
  refine aw_iconst (v := 2) d_L_1500 ic_2 ?_
  refine aw_iadd d_L_1501 ?_
  refine aw_vi (v2 := 2) (by decide) ?_
  refine aw_sld 2 (by decide) (vin_c (by decide)) d_L_1502 ?_
  refine aw_aload_n (i := 0) rfl d_L_1503 0 rfl ?_
  refine aw_iload d_L_1504 4 rfl ?_
  refine aw_iconst (v := 3) d_L_1506 ic_3 ?_
  refine aw_iadd d_L_1507 ?_
  refine aw_vi (v2 := 3) (by decide) ?_
  refine aw_sld 3 (by decide) (vin_c (by decide)) d_L_1508 ?_
  refine aw_Vi 1 [.int (xs 1), .int (xs 2), .int (xs 3)] [.int r1] d_L_1509 (cV_X12_cased (0 + 3) 0 0) kc_12 (ws_1 w1) tw_2523 rfl ⟨⟨Nat.le_of_ble_eq_true rfl, Nat.le_of_ble_eq_true rfl⟩, show 202 + 0 + 0 ≤ 600002 from by decide +kernel, show 318709 + 0 + 0 ≤ 7302232 from by decide +kernel⟩ (Nat.le_of_ble_eq_true rfl) xsL (g_X12_cased 0 h1 w1 f1 (xs 1) (xs 2) (xs 3)) (fun r2 h2 k2 => ?_)
  refine aw_icmp_eq (tgt := 2434) d_L_1512 rfl (fun _ => ?_) (fun z => absurd (ag_cased o1 k2) z)
  exact lt_6 xs _ _ ⟨by decide +kernel, by decide +kernel⟩ h2
theorem lc_30 (xs : Nat → Int32) : AW (ML 6 xs) 202 318709 1517 [(0, .ref 1100), (1, .ref 0), (2, .ref 1), (3, .ref 2), (4, .int 0)] [] HF k1_ := by
  refine aw_aload_n (i := 1) rfl d_L_1517 1 rfl ?_
  refine aw_aload_n (i := 0) rfl d_L_1518 0 rfl ?_
  refine aw_iload d_L_1519 4 rfl ?_
  refine aw_iconst (v := 1) d_L_1521 ic_1 ?_
  refine aw_iadd d_L_1522 ?_
  refine aw_vi (v2 := 1) (by decide) ?_
  refine aw_sld 1 (by decide) (vin_c (by decide)) d_L_1523 ?_
  refine aw_aload_n (i := 0) rfl d_L_1524 0 rfl ?_
  refine aw_iload d_L_1525 4 rfl ?_
  refine aw_iconst (v := 2) d_L_1527 ic_2 ?_
  refine aw_iadd d_L_1528 ?_
  refine aw_vi (v2 := 2) (by decide) ?_
  refine aw_sld 2 (by decide) (vin_c (by decide)) d_L_1529 ?_
  refine aw_aload_n (i := 0) rfl d_L_1530 0 rfl ?_
  refine aw_iload d_L_1531 4 rfl ?_
  refine aw_iconst (v := 3) d_L_1533 ic_3 ?_
  refine aw_iadd d_L_1534 ?_
  refine aw_vi (v2 := 3) (by decide) ?_
  refine aw_sld 3 (by decide) (vin_c (by decide)) d_L_1535 ?_
  refine aw_Vi 0 [.int (xs 1), .int (xs 2), .int (xs 3)] [] d_L_1536 (cV_X11_story (0 + 1) 0 0) kc_11 (ws_0 wHF) tw_1297 rfl ⟨⟨Nat.le_of_ble_eq_true rfl, Nat.le_of_ble_eq_true rfl⟩, show 202 + 0 ≤ 600002 from by decide +kernel, show 318709 + 0 ≤ 7302232 from by decide +kernel⟩ (Nat.le_of_ble_eq_true rfl) xsL (g_X11_story 0 (xs 1) (xs 2) (xs 3)) (fun r1 h1 k1 => ?_)
  obtain ⟨o1, w1, f1⟩ := k1
  refine aw_aload_n (i := 2) rfl d_L_1539 2 rfl ?_
  refine aw_aload_n (i := 0) rfl d_L_1540 0 rfl ?_
  refine aw_iload d_L_1541 4 rfl ?_
  refine aw_iconst (v := 1) d_L_1543 ic_1 ?_
  refine aw_iadd d_L_1544 ?_
  refine aw_vi (v2 := 1) (by decide) ?_
  refine aw_sld 1 (by decide) (vin_c (by decide)) d_L_1545 ?_
  refine aw_aload_n (i := 0) rfl d_L_1546 0 rfl ?_
  refine aw_iload d_L_1547 4 rfl ?_
  refine aw_iconst (v := 2) d_L_1549 ic_2 ?_
  refine aw_iadd d_L_1550 ?_
  refine aw_vi (v2 := 2) (by decide) ?_
  refine aw_sld 2 (by decide) (vin_c (by decide)) d_L_1551 ?_
  refine aw_aload_n (i := 0) rfl d_L_1552 0 rfl ?_
  refine aw_iload d_L_1553 4 rfl ?_
  refine aw_iconst (v := 3) d_L_1555 ic_3 ?_
  refine aw_iadd d_L_1556 ?_
  refine aw_vi (v2 := 3) (by decide) ?_
  refine aw_sld 3 (by decide) (vin_c (by decide)) d_L_1557 ?_
  refine aw_Vi 1 [.int (xs 1), .int (xs 2), .int (xs 3)] [.int r1] d_L_1558 (cV_X12_story (0 + 2) 0 0) kc_12 (ws_1 w1) tw_2548 rfl ⟨⟨Nat.le_of_ble_eq_true rfl, Nat.le_of_ble_eq_true rfl⟩, show 202 + 0 + 0 ≤ 600002 from by decide +kernel, show 318709 + 0 + 0 ≤ 7302232 from by decide +kernel⟩ (Nat.le_of_ble_eq_true rfl) xsL (g_X12_story 0 h1 w1 f1 (xs 1) (xs 2) (xs 3)) (fun r2 h2 k2 => ?_)
  refine aw_icmp_eq (tgt := 2434) d_L_1561 rfl (fun _ => ?_) (fun z => absurd (ag_story o1 k2) z)
  exact lt_6 xs _ _ ⟨by decide +kernel, by decide +kernel⟩ h2
theorem lc_31 (xs : Nat → Int32) : AW (ML 6 xs) 202 318709 1566 [(0, .ref 1100), (1, .ref 0), (2, .ref 1), (3, .ref 2), (4, .int 0)] [] HF k1_ := by
  refine aw_aload_n (i := 1) rfl d_L_1566 1 rfl ?_
  refine aw_aload_n (i := 0) rfl d_L_1567 0 rfl ?_
  refine aw_iload d_L_1568 4 rfl ?_
  refine aw_iconst (v := 1) d_L_1570 ic_1 ?_
  refine aw_iadd d_L_1571 ?_
  refine aw_vi (v2 := 1) (by decide) ?_
  refine aw_sld 1 (by decide) (vin_c (by decide)) d_L_1572 ?_
  refine aw_Vi 0 [.int (xs 1)] [] d_L_1573 (cV_X11_next (0 + 1) 0 0) kc_11 (ws_0 wHF) tw_1305 rfl ⟨⟨Nat.le_of_ble_eq_true rfl, Nat.le_of_ble_eq_true rfl⟩, show 202 + 0 ≤ 600002 from by decide +kernel, show 318709 + 0 ≤ 7302232 from by decide +kernel⟩ (Nat.le_of_ble_eq_true rfl) xsL (g_X11_next 0 (xs 1)) (fun r1 h1 k1 => ?_)
  obtain ⟨o1, w1, f1⟩ := k1
  refine aw_aload_n (i := 2) rfl d_L_1576 2 rfl ?_
  refine aw_aload_n (i := 0) rfl d_L_1577 0 rfl ?_
  refine aw_iload d_L_1578 4 rfl ?_
  refine aw_iconst (v := 1) d_L_1580 ic_1 ?_
  refine aw_iadd d_L_1581 ?_
  refine aw_vi (v2 := 1) (by decide) ?_
  refine aw_sld 1 (by decide) (vin_c (by decide)) d_L_1582 ?_
  refine aw_Vi 1 [.int (xs 1)] [.int r1] d_L_1583 (cV_X12_next (0 + 2) 0 0) kc_12 (ws_1 w1) tw_2552 rfl ⟨⟨Nat.le_of_ble_eq_true rfl, Nat.le_of_ble_eq_true rfl⟩, show 202 + 0 + 0 ≤ 600002 from by decide +kernel, show 318709 + 0 + 0 ≤ 7302232 from by decide +kernel⟩ (Nat.le_of_ble_eq_true rfl) xsL (g_X12_next 0 h1 w1 f1 (xs 1)) (fun r2 h2 k2 => ?_)
  refine aw_icmp_eq (tgt := 2434) d_L_1586 rfl (fun _ => ?_) (fun z => absurd (ag_next o1 k2) z)
  exact lt_6 xs _ _ ⟨by decide +kernel, by decide +kernel⟩ h2
theorem lc_32 (xs : Nat → Int32) : AW (ML 6 xs) 202 318709 1591 [(0, .ref 1100), (1, .ref 0), (2, .ref 1), (3, .ref 2), (4, .int 0)] [] HF k1_ := by
  refine aw_aload_n (i := 1) rfl d_L_1591 1 rfl ?_
  refine aw_aload_n (i := 0) rfl d_L_1592 0 rfl ?_
  refine aw_iload d_L_1593 4 rfl ?_
  refine aw_iconst (v := 1) d_L_1595 ic_1 ?_
  refine aw_iadd d_L_1596 ?_
  refine aw_vi (v2 := 1) (by decide) ?_
  refine aw_sld 1 (by decide) (vin_c (by decide)) d_L_1597 ?_
  refine aw_if_eq (tgt := 1605) d_L_1598 rfl (fun b1 => ?_) (fun b1 => ?_)
  · refine aw_iconst (v := 0) d_L_1605 ic_0 ?_
    refine aw_aload_n (i := 0) rfl d_L_1606 0 rfl ?_
    refine aw_iload d_L_1607 4 rfl ?_
    refine aw_iconst (v := 2) d_L_1609 ic_2 ?_
    refine aw_iadd d_L_1610 ?_
    refine aw_vi (v2 := 2) (by decide) ?_
    refine aw_sld 2 (by decide) (vin_c (by decide)) d_L_1611 ?_
    refine aw_Vi 0 [.int 0, .int (xs 2)] [] d_L_1612 (cV_X11_good (0 + 1) 0 0) kc_11 (ws_0 wHF) tw_1314 rfl ⟨⟨Nat.le_of_ble_eq_true rfl, Nat.le_of_ble_eq_true rfl⟩, show 202 + 0 ≤ 600002 from by decide +kernel, show 318709 + 0 ≤ 7302232 from by decide +kernel⟩ (Nat.le_of_ble_eq_true rfl) xsL (g_X11_good 0 0 (xs 2)) (fun r1 h1 k1 => ?_)
    obtain ⟨o1, w1, f1⟩ := k1
    refine aw_aload_n (i := 2) rfl d_L_1615 2 rfl ?_
    refine aw_aload_n (i := 0) rfl d_L_1616 0 rfl ?_
    refine aw_iload d_L_1617 4 rfl ?_
    refine aw_iconst (v := 1) d_L_1619 ic_1 ?_
    refine aw_iadd d_L_1620 ?_
    refine aw_vi (v2 := 1) (by decide) ?_
    refine aw_sld 1 (by decide) (vin_c (by decide)) d_L_1621 ?_
    refine aw_if_eq (tgt := 1629) d_L_1622 rfl (fun _ => ?_) (fun z => absurd b1 z)
    refine aw_iconst (v := 0) d_L_1629 ic_0 ?_
    refine aw_aload_n (i := 0) rfl d_L_1630 0 rfl ?_
    refine aw_iload d_L_1631 4 rfl ?_
    refine aw_iconst (v := 2) d_L_1633 ic_2 ?_
    refine aw_iadd d_L_1634 ?_
    refine aw_vi (v2 := 2) (by decide) ?_
    refine aw_sld 2 (by decide) (vin_c (by decide)) d_L_1635 ?_
    refine aw_Vi 1 [.int 0, .int (xs 2)] [.int r1] d_L_1636 (cV_X12_good (0 + 1) 0 0) kc_12 (ws_1 w1) tw_2557 rfl ⟨⟨Nat.le_of_ble_eq_true rfl, Nat.le_of_ble_eq_true rfl⟩, show 202 + 0 + 0 ≤ 600002 from by decide +kernel, show 318709 + 0 + 0 ≤ 7302232 from by decide +kernel⟩ (Nat.le_of_ble_eq_true rfl) xsL (g_X12_good 0 h1 w1 f1 0 (xs 2)) (fun r2 h2 k2 => ?_)
    refine aw_icmp_eq (tgt := 2434) d_L_1639 rfl (fun _ => ?_) (fun z => absurd (ag_good o1 k2) z)
    exact lt_6 xs _ _ ⟨by decide +kernel, by decide +kernel⟩ h2
  · refine aw_iconst (v := 1) d_L_1601 ic_1 ?_
    refine aw_goto (tgt := 1606) d_L_1602 rfl ?_
    refine aw_aload_n (i := 0) rfl d_L_1606 0 rfl ?_
    refine aw_iload d_L_1607 4 rfl ?_
    refine aw_iconst (v := 2) d_L_1609 ic_2 ?_
    refine aw_iadd d_L_1610 ?_
    refine aw_vi (v2 := 2) (by decide) ?_
    refine aw_sld 2 (by decide) (vin_c (by decide)) d_L_1611 ?_
    refine aw_Vi 0 [.int 1, .int (xs 2)] [] d_L_1612 (cV_X11_good (0 + 1) 0 0) kc_11 (ws_0 wHF) tw_1314 rfl ⟨⟨Nat.le_of_ble_eq_true rfl, Nat.le_of_ble_eq_true rfl⟩, show 202 + 0 ≤ 600002 from by decide +kernel, show 318709 + 0 ≤ 7302232 from by decide +kernel⟩ (Nat.le_of_ble_eq_true rfl) xsL (g_X11_good 0 1 (xs 2)) (fun r1 h1 k1 => ?_)
    obtain ⟨o1, w1, f1⟩ := k1
    refine aw_aload_n (i := 2) rfl d_L_1615 2 rfl ?_
    refine aw_aload_n (i := 0) rfl d_L_1616 0 rfl ?_
    refine aw_iload d_L_1617 4 rfl ?_
    refine aw_iconst (v := 1) d_L_1619 ic_1 ?_
    refine aw_iadd d_L_1620 ?_
    refine aw_vi (v2 := 1) (by decide) ?_
    refine aw_sld 1 (by decide) (vin_c (by decide)) d_L_1621 ?_
    refine aw_if_eq (tgt := 1629) d_L_1622 rfl (fun z => absurd z b1) (fun _ => ?_)
    refine aw_iconst (v := 1) d_L_1625 ic_1 ?_
    refine aw_goto (tgt := 1630) d_L_1626 rfl ?_
    refine aw_aload_n (i := 0) rfl d_L_1630 0 rfl ?_
    refine aw_iload d_L_1631 4 rfl ?_
    refine aw_iconst (v := 2) d_L_1633 ic_2 ?_
    refine aw_iadd d_L_1634 ?_
    refine aw_vi (v2 := 2) (by decide) ?_
    refine aw_sld 2 (by decide) (vin_c (by decide)) d_L_1635 ?_
    refine aw_Vi 1 [.int 1, .int (xs 2)] [.int r1] d_L_1636 (cV_X12_good (0 + 1) 0 0) kc_12 (ws_1 w1) tw_2557 rfl ⟨⟨Nat.le_of_ble_eq_true rfl, Nat.le_of_ble_eq_true rfl⟩, show 202 + 0 + 0 ≤ 600002 from by decide +kernel, show 318709 + 0 + 0 ≤ 7302232 from by decide +kernel⟩ (Nat.le_of_ble_eq_true rfl) xsL (g_X12_good 0 h1 w1 f1 1 (xs 2)) (fun r2 h2 k2 => ?_)
    refine aw_icmp_eq (tgt := 2434) d_L_1639 rfl (fun _ => ?_) (fun z => absurd (ag_good o1 k2) z)
    exact lt_6 xs _ _ ⟨by decide +kernel, by decide +kernel⟩ h2
theorem lc_33 (xs : Nat → Int32) : AW (ML 6 xs) 202 318709 1644 [(0, .ref 1100), (1, .ref 0), (2, .ref 1), (3, .ref 2), (4, .int 0)] [] HF k1_ := by
  refine aw_aload_n (i := 1) rfl d_L_1644 1 rfl ?_
  refine aw_aload_n (i := 0) rfl d_L_1645 0 rfl ?_
  refine aw_iload d_L_1646 4 rfl ?_
  refine aw_iconst (v := 1) d_L_1648 ic_1 ?_
  refine aw_iadd d_L_1649 ?_
  refine aw_vi (v2 := 1) (by decide) ?_
  refine aw_sld 1 (by decide) (vin_c (by decide)) d_L_1650 ?_
  refine aw_Vi 0 [.int (xs 1)] [] d_L_1651 (cV_X11_least (0 + 1) 0 0) kc_11 (ws_0 wHF) tw_1323 rfl ⟨⟨Nat.le_of_ble_eq_true rfl, Nat.le_of_ble_eq_true rfl⟩, show 202 + 0 ≤ 600002 from by decide +kernel, show 318709 + 0 ≤ 7302232 from by decide +kernel⟩ (Nat.le_of_ble_eq_true rfl) xsL (g_X11_least 0 (xs 1)) (fun r1 h1 k1 => ?_)
  obtain ⟨o1, w1, f1⟩ := k1
  refine aw_aload_n (i := 2) rfl d_L_1654 2 rfl ?_
  refine aw_aload_n (i := 0) rfl d_L_1655 0 rfl ?_
  refine aw_iload d_L_1656 4 rfl ?_
  refine aw_iconst (v := 1) d_L_1658 ic_1 ?_
  refine aw_iadd d_L_1659 ?_
  refine aw_vi (v2 := 1) (by decide) ?_
  refine aw_sld 1 (by decide) (vin_c (by decide)) d_L_1660 ?_
  refine aw_Vi 1 [.int (xs 1)] [.int r1] d_L_1661 (cV_X12_least (0 + 1) 0 0) kc_12 (ws_1 w1) tw_2562 rfl ⟨⟨Nat.le_of_ble_eq_true rfl, Nat.le_of_ble_eq_true rfl⟩, show 202 + 0 + 0 ≤ 600002 from by decide +kernel, show 318709 + 0 + 0 ≤ 7302232 from by decide +kernel⟩ (Nat.le_of_ble_eq_true rfl) xsL (g_X12_least 0 h1 w1 f1 (xs 1)) (fun r2 h2 k2 => ?_)
  refine aw_icmp_eq (tgt := 2434) d_L_1664 rfl (fun _ => ?_) (fun z => absurd (ag_least o1 k2) z)
  exact lt_6 xs _ _ ⟨by decide +kernel, by decide +kernel⟩ h2
theorem lc_34 (xs : Nat → Int32) : AW (ML 6 xs) 202 318709 1669 [(0, .ref 1100), (1, .ref 0), (2, .ref 1), (3, .ref 2), (4, .int 0)] [] HF k1_ := by
  refine aw_aload_n (i := 1) rfl d_L_1669 1 rfl ?_
  refine aw_Vi 0 [] [] d_L_1670 (cV_X11_joining (0 + 5) 0 0) kc_11 (ws_0 wHF) tw_1331 rfl ⟨⟨Nat.le_of_ble_eq_true rfl, Nat.le_of_ble_eq_true rfl⟩, show 202 + 0 ≤ 600002 from by decide +kernel, show 318709 + 0 ≤ 7302232 from by decide +kernel⟩ (Nat.le_of_ble_eq_true rfl) xsL (g_X11_joining 0) (fun r1 h1 k1 => ?_)
  obtain ⟨o1, w1, f1⟩ := k1
  refine aw_aload_n (i := 2) rfl d_L_1673 2 rfl ?_
  refine aw_Vi 1 [] [.int r1] d_L_1674 (cV_X12_joining (0 + 2) 0 0) kc_12 (ws_1 w1) tw_2566 rfl ⟨⟨Nat.le_of_ble_eq_true rfl, Nat.le_of_ble_eq_true rfl⟩, show 202 + 0 + 0 ≤ 600002 from by decide +kernel, show 318709 + 0 + 0 ≤ 7302232 from by decide +kernel⟩ (Nat.le_of_ble_eq_true rfl) xsL (g_X12_joining 0 h1 w1 ((f1.1 101).trans hf_1_101)) (fun r2 h2 k2 => ?_)
  refine aw_icmp_eq (tgt := 2434) d_L_1677 rfl (fun _ => ?_) (fun z => absurd (ag_joining o1 k2) z)
  exact lt_6 xs _ _ ⟨by decide +kernel, by decide +kernel⟩ h2
theorem lc_35 (xs : Nat → Int32) : AW (ML 6 xs) 202 318709 1682 [(0, .ref 1100), (1, .ref 0), (2, .ref 1), (3, .ref 2), (4, .int 0)] [] HF k1_ := by
  refine aw_aload_n (i := 1) rfl d_L_1682 1 rfl ?_
  refine aw_aload_n (i := 0) rfl d_L_1683 0 rfl ?_
  refine aw_iload d_L_1684 4 rfl ?_
  refine aw_iconst (v := 1) d_L_1686 ic_1 ?_
  refine aw_iadd d_L_1687 ?_
  refine aw_vi (v2 := 1) (by decide) ?_
  refine aw_sld 1 (by decide) (vin_c (by decide)) d_L_1688 ?_
  refine aw_Vi 0 [.int (xs 1)] [] d_L_1689 (cV_X11_joined (0 + 1) 0 0) kc_11 (ws_0 wHF) tw_1376 rfl ⟨⟨Nat.le_of_ble_eq_true rfl, Nat.le_of_ble_eq_true rfl⟩, show 202 + 0 ≤ 600002 from by decide +kernel, show 318709 + 0 ≤ 7302232 from by decide +kernel⟩ (Nat.le_of_ble_eq_true rfl) xsL (g_X11_joined 0 (xs 1)) (fun r1 h1 k1 => ?_)
  obtain ⟨o1, w1, f1⟩ := k1
  refine aw_aload_n (i := 2) rfl d_L_1692 2 rfl ?_
  refine aw_aload_n (i := 0) rfl d_L_1693 0 rfl ?_
  refine aw_iload d_L_1694 4 rfl ?_
  refine aw_iconst (v := 1) d_L_1696 ic_1 ?_
  refine aw_iadd d_L_1697 ?_
  refine aw_vi (v2 := 1) (by decide) ?_
  refine aw_sld 1 (by decide) (vin_c (by decide)) d_L_1698 ?_
  refine aw_Vi 1 [.int (xs 1)] [.int r1] d_L_1699 (cV_X12_joined (0 + 2) 0 0) kc_12 (ws_1 w1) tw_2578 rfl ⟨⟨Nat.le_of_ble_eq_true rfl, Nat.le_of_ble_eq_true rfl⟩, show 202 + 0 + 0 ≤ 600002 from by decide +kernel, show 318709 + 0 + 0 ≤ 7302232 from by decide +kernel⟩ (Nat.le_of_ble_eq_true rfl) xsL (g_X12_joined 0 h1 w1 f1 (xs 1)) (fun r2 h2 k2 => ?_)
  refine aw_icmp_eq (tgt := 2434) d_L_1702 rfl (fun _ => ?_) (fun z => absurd (ag_joined o1 k2) z)
  exact lt_6 xs _ _ ⟨by decide +kernel, by decide +kernel⟩ h2
theorem lc_36 (xs : Nat → Int32) : AW (ML 6 xs) 202 318709 1707 [(0, .ref 1100), (1, .ref 0), (2, .ref 1), (3, .ref 2), (4, .int 0)] [] HF k1_ := by
  refine aw_aload_n (i := 1) rfl d_L_1707 1 rfl ?_
  refine aw_aload_n (i := 0) rfl d_L_1708 0 rfl ?_
  refine aw_iload d_L_1709 4 rfl ?_
  refine aw_iconst (v := 1) d_L_1711 ic_1 ?_
  refine aw_iadd d_L_1712 ?_
  refine aw_vi (v2 := 1) (by decide) ?_
  refine aw_sld 1 (by decide) (vin_c (by decide)) d_L_1713 ?_
  refine aw_Vi 0 [.int (xs 1)] [] d_L_1714 (cV_X11_rivals (0 + 1) 0 0) kc_11 (ws_0 wHF) tw_1389 rfl ⟨⟨Nat.le_of_ble_eq_true rfl, Nat.le_of_ble_eq_true rfl⟩, show 202 + 0 ≤ 600002 from by decide +kernel, show 318709 + 0 ≤ 7302232 from by decide +kernel⟩ (Nat.le_of_ble_eq_true rfl) xsL (g_X11_rivals 0 (xs 1)) (fun r1 h1 k1 => ?_)
  obtain ⟨o1, w1, f1⟩ := k1
  refine aw_aload_n (i := 2) rfl d_L_1717 2 rfl ?_
  refine aw_aload_n (i := 0) rfl d_L_1718 0 rfl ?_
  refine aw_iload d_L_1719 4 rfl ?_
  refine aw_iconst (v := 1) d_L_1721 ic_1 ?_
  refine aw_iadd d_L_1722 ?_
  refine aw_vi (v2 := 1) (by decide) ?_
  refine aw_sld 1 (by decide) (vin_c (by decide)) d_L_1723 ?_
  refine aw_Vi 1 [.int (xs 1)] [.int r1] d_L_1724 (cV_X12_rivals (0 + 2) 0 0) kc_12 (ws_1 w1) tw_2586 rfl ⟨⟨Nat.le_of_ble_eq_true rfl, Nat.le_of_ble_eq_true rfl⟩, show 202 + 0 + 0 ≤ 600002 from by decide +kernel, show 318709 + 0 + 0 ≤ 7302232 from by decide +kernel⟩ (Nat.le_of_ble_eq_true rfl) xsL (g_X12_rivals 0 h1 w1 f1 (xs 1)) (fun r2 h2 k2 => ?_)
  refine aw_icmp_eq (tgt := 2434) d_L_1727 rfl (fun _ => ?_) (fun z => absurd (ag_rivals o1 k2) z)
  exact lt_6 xs _ _ ⟨by decide +kernel, by decide +kernel⟩ h2
theorem lc_37 (xs : Nat → Int32) : AW (ML 6 xs) 202 318709 1732 [(0, .ref 1100), (1, .ref 0), (2, .ref 1), (3, .ref 2), (4, .int 0)] [] HF k1_ := by
  refine aw_aload_n (i := 1) rfl d_L_1732 1 rfl ?_
  refine aw_aload_n (i := 0) rfl d_L_1733 0 rfl ?_
  refine aw_iload d_L_1734 4 rfl ?_
  refine aw_iconst (v := 1) d_L_1736 ic_1 ?_
  refine aw_iadd d_L_1737 ?_
  refine aw_vi (v2 := 1) (by decide) ?_
  refine aw_sld 1 (by decide) (vin_c (by decide)) d_L_1738 ?_
  refine aw_Vi 0 [.int (xs 1)] [] d_L_1739 (cV_X11_sure (0 + 1) 0 0) kc_11 (ws_0 wHF) tw_1397 rfl ⟨⟨Nat.le_of_ble_eq_true rfl, Nat.le_of_ble_eq_true rfl⟩, show 202 + 0 ≤ 600002 from by decide +kernel, show 318709 + 0 ≤ 7302232 from by decide +kernel⟩ (Nat.le_of_ble_eq_true rfl) xsL (g_X11_sure 0 (xs 1)) (fun r1 h1 k1 => ?_)
  obtain ⟨o1, w1, f1⟩ := k1
  refine aw_aload_n (i := 2) rfl d_L_1742 2 rfl ?_
  refine aw_aload_n (i := 0) rfl d_L_1743 0 rfl ?_
  refine aw_iload d_L_1744 4 rfl ?_
  refine aw_iconst (v := 1) d_L_1746 ic_1 ?_
  refine aw_iadd d_L_1747 ?_
  refine aw_vi (v2 := 1) (by decide) ?_
  refine aw_sld 1 (by decide) (vin_c (by decide)) d_L_1748 ?_
  refine aw_Vi 1 [.int (xs 1)] [.int r1] d_L_1749 (cV_X12_sure (0 + 2) 0 0) kc_12 (ws_1 w1) tw_2595 rfl ⟨⟨Nat.le_of_ble_eq_true rfl, Nat.le_of_ble_eq_true rfl⟩, show 202 + 0 + 0 ≤ 600002 from by decide +kernel, show 318709 + 0 + 0 ≤ 7302232 from by decide +kernel⟩ (Nat.le_of_ble_eq_true rfl) xsL (g_X12_sure 0 h1 w1 f1 (xs 1)) (fun r2 h2 k2 => ?_)
  refine aw_icmp_eq (tgt := 2434) d_L_1752 rfl (fun _ => ?_) (fun z => absurd (ag_sure o1 k2) z)
  exact lt_6 xs _ _ ⟨by decide +kernel, by decide +kernel⟩ h2
theorem lc_38 (xs : Nat → Int32) : AW (ML 6 xs) 202 318709 1757 [(0, .ref 1100), (1, .ref 0), (2, .ref 1), (3, .ref 2), (4, .int 0)] [] HF k1_ := by
  refine aw_aload_n (i := 1) rfl d_L_1757 1 rfl ?_
  refine aw_aload_n (i := 0) rfl d_L_1758 0 rfl ?_
  refine aw_iload d_L_1759 4 rfl ?_
  refine aw_iconst (v := 1) d_L_1761 ic_1 ?_
  refine aw_iadd d_L_1762 ?_
  refine aw_vi (v2 := 1) (by decide) ?_
  refine aw_sld 1 (by decide) (vin_c (by decide)) d_L_1763 ?_
  refine aw_aload_n (i := 0) rfl d_L_1764 0 rfl ?_
  refine aw_iload d_L_1765 4 rfl ?_
  refine aw_iconst (v := 2) d_L_1767 ic_2 ?_
  refine aw_iadd d_L_1768 ?_
  refine aw_vi (v2 := 2) (by decide) ?_
  refine aw_sld 2 (by decide) (vin_c (by decide)) d_L_1769 ?_
  refine aw_aload_n (i := 0) rfl d_L_1770 0 rfl ?_
  refine aw_iload d_L_1771 4 rfl ?_
  refine aw_iconst (v := 3) d_L_1773 ic_3 ?_
  refine aw_iadd d_L_1774 ?_
  refine aw_vi (v2 := 3) (by decide) ?_
  refine aw_sld 3 (by decide) (vin_c (by decide)) d_L_1775 ?_
  refine aw_Vi 0 [.int (xs 1), .int (xs 2), .int (xs 3)] [] d_L_1776 (cV_X11_watch (0 + 1) 0 0) kc_11 (ws_0 wHF) tw_1406 rfl ⟨⟨Nat.le_of_ble_eq_true rfl, Nat.le_of_ble_eq_true rfl⟩, show 202 + 0 ≤ 600002 from by decide +kernel, show 318709 + 0 ≤ 7302232 from by decide +kernel⟩ (Nat.le_of_ble_eq_true rfl) xsL (g_X11_watch 0 (xs 1) (xs 2) (xs 3)) (fun r1 h1 k1 => ?_)
  obtain ⟨o1, w1, f1⟩ := k1
  refine aw_aload_n (i := 2) rfl d_L_1779 2 rfl ?_
  refine aw_aload_n (i := 0) rfl d_L_1780 0 rfl ?_
  refine aw_iload d_L_1781 4 rfl ?_
  refine aw_iconst (v := 1) d_L_1783 ic_1 ?_
  refine aw_iadd d_L_1784 ?_
  refine aw_vi (v2 := 1) (by decide) ?_
  refine aw_sld 1 (by decide) (vin_c (by decide)) d_L_1785 ?_
  refine aw_aload_n (i := 0) rfl d_L_1786 0 rfl ?_
  refine aw_iload d_L_1787 4 rfl ?_
  refine aw_iconst (v := 2) d_L_1789 ic_2 ?_
  refine aw_iadd d_L_1790 ?_
  refine aw_vi (v2 := 2) (by decide) ?_
  refine aw_sld 2 (by decide) (vin_c (by decide)) d_L_1791 ?_
  refine aw_aload_n (i := 0) rfl d_L_1792 0 rfl ?_
  refine aw_iload d_L_1793 4 rfl ?_
  refine aw_iconst (v := 3) d_L_1795 ic_3 ?_
  refine aw_iadd d_L_1796 ?_
  refine aw_vi (v2 := 3) (by decide) ?_
  refine aw_sld 3 (by decide) (vin_c (by decide)) d_L_1797 ?_
  refine aw_Vi 1 [.int (xs 1), .int (xs 2), .int (xs 3)] [.int r1] d_L_1798 (cV_X12_watch (0 + 2) 0 0) kc_12 (ws_1 w1) tw_2599 rfl ⟨⟨Nat.le_of_ble_eq_true rfl, Nat.le_of_ble_eq_true rfl⟩, show 202 + 0 + 0 ≤ 600002 from by decide +kernel, show 318709 + 0 + 0 ≤ 7302232 from by decide +kernel⟩ (Nat.le_of_ble_eq_true rfl) xsL (g_X12_watch 0 h1 w1 f1 (xs 1) (xs 2) (xs 3)) (fun r2 h2 k2 => ?_)
  refine aw_icmp_eq (tgt := 2434) d_L_1801 rfl (fun _ => ?_) (fun z => absurd (ag_watch o1 k2) z)
  exact lt_6 xs _ _ ⟨by decide +kernel, by decide +kernel⟩ h2
theorem lc_39 (xs : Nat → Int32) : AW (ML 6 xs) 202 318709 1806 [(0, .ref 1100), (1, .ref 0), (2, .ref 1), (3, .ref 2), (4, .int 0)] [] HF k1_ := by
  refine aw_aload_n (i := 1) rfl d_L_1806 1 rfl ?_
  refine aw_aload_n (i := 0) rfl d_L_1807 0 rfl ?_
  refine aw_iload d_L_1808 4 rfl ?_
  refine aw_iconst (v := 1) d_L_1810 ic_1 ?_
  refine aw_iadd d_L_1811 ?_
  refine aw_vi (v2 := 1) (by decide) ?_
  refine aw_sld 1 (by decide) (vin_c (by decide)) d_L_1812 ?_
  refine aw_aload_n (i := 0) rfl d_L_1813 0 rfl ?_
  refine aw_iload d_L_1814 4 rfl ?_
  refine aw_iconst (v := 2) d_L_1816 ic_2 ?_
  refine aw_iadd d_L_1817 ?_
  refine aw_vi (v2 := 2) (by decide) ?_
  refine aw_sld 2 (by decide) (vin_c (by decide)) d_L_1818 ?_
  refine aw_Vi 0 [.int (xs 1), .int (xs 2)] [] d_L_1819 (cV_X11_sees (0 + 1) 0 0) kc_11 (ws_0 wHF) tw_1414 rfl ⟨⟨Nat.le_of_ble_eq_true rfl, Nat.le_of_ble_eq_true rfl⟩, show 202 + 0 ≤ 600002 from by decide +kernel, show 318709 + 0 ≤ 7302232 from by decide +kernel⟩ (Nat.le_of_ble_eq_true rfl) xsL (g_X11_sees 0 (xs 1) (xs 2)) (fun r1 h1 k1 => ?_)
  obtain ⟨o1, w1, f1⟩ := k1
  refine aw_aload_n (i := 2) rfl d_L_1822 2 rfl ?_
  refine aw_aload_n (i := 0) rfl d_L_1823 0 rfl ?_
  refine aw_iload d_L_1824 4 rfl ?_
  refine aw_iconst (v := 1) d_L_1826 ic_1 ?_
  refine aw_iadd d_L_1827 ?_
  refine aw_vi (v2 := 1) (by decide) ?_
  refine aw_sld 1 (by decide) (vin_c (by decide)) d_L_1828 ?_
  refine aw_aload_n (i := 0) rfl d_L_1829 0 rfl ?_
  refine aw_iload d_L_1830 4 rfl ?_
  refine aw_iconst (v := 2) d_L_1832 ic_2 ?_
  refine aw_iadd d_L_1833 ?_
  refine aw_vi (v2 := 2) (by decide) ?_
  refine aw_sld 2 (by decide) (vin_c (by decide)) d_L_1834 ?_
  refine aw_Vi 1 [.int (xs 1), .int (xs 2)] [.int r1] d_L_1835 (cV_X12_sees (0 + 1) 0 0) kc_12 (ws_1 w1) tw_2603 rfl ⟨⟨Nat.le_of_ble_eq_true rfl, Nat.le_of_ble_eq_true rfl⟩, show 202 + 0 + 0 ≤ 600002 from by decide +kernel, show 318709 + 0 + 0 ≤ 7302232 from by decide +kernel⟩ (Nat.le_of_ble_eq_true rfl) xsL (g_X12_sees 0 h1 w1 f1 (xs 1) (xs 2)) (fun r2 h2 k2 => ?_)
  refine aw_icmp_eq (tgt := 2434) d_L_1838 rfl (fun _ => ?_) (fun z => absurd (ag_sees o1 k2) z)
  exact lt_6 xs _ _ ⟨by decide +kernel, by decide +kernel⟩ h2
theorem lc_40 (xs : Nat → Int32) : AW (ML 6 xs) 202 318709 1843 [(0, .ref 1100), (1, .ref 0), (2, .ref 1), (3, .ref 2), (4, .int 0)] [] HF k1_ := by
  refine aw_aload_n (i := 1) rfl d_L_1843 1 rfl ?_
  refine aw_aload_n (i := 0) rfl d_L_1844 0 rfl ?_
  refine aw_iload d_L_1845 4 rfl ?_
  refine aw_iconst (v := 1) d_L_1847 ic_1 ?_
  refine aw_iadd d_L_1848 ?_
  refine aw_vi (v2 := 1) (by decide) ?_
  refine aw_sld 1 (by decide) (vin_c (by decide)) d_L_1849 ?_
  refine aw_Vi 0 [.int (xs 1)] [] d_L_1850 (cV_X11_safe (0 + 1) 0 0) kc_11 (ws_0 wHF) tw_1438 rfl ⟨⟨Nat.le_of_ble_eq_true rfl, Nat.le_of_ble_eq_true rfl⟩, show 202 + 0 ≤ 600002 from by decide +kernel, show 318709 + 0 ≤ 7302232 from by decide +kernel⟩ (Nat.le_of_ble_eq_true rfl) xsL (g_X11_safe 0 (xs 1)) (fun r1 h1 k1 => ?_)
  obtain ⟨o1, w1, f1⟩ := k1
  refine aw_aload_n (i := 2) rfl d_L_1853 2 rfl ?_
  refine aw_aload_n (i := 0) rfl d_L_1854 0 rfl ?_
  refine aw_iload d_L_1855 4 rfl ?_
  refine aw_iconst (v := 1) d_L_1857 ic_1 ?_
  refine aw_iadd d_L_1858 ?_
  refine aw_vi (v2 := 1) (by decide) ?_
  refine aw_sld 1 (by decide) (vin_c (by decide)) d_L_1859 ?_
  refine aw_Vi 1 [.int (xs 1)] [.int r1] d_L_1860 (cV_X12_safe (0 + 2) 0 0) kc_12 (ws_1 w1) tw_2611 rfl ⟨⟨Nat.le_of_ble_eq_true rfl, Nat.le_of_ble_eq_true rfl⟩, show 202 + 0 + 0 ≤ 600002 from by decide +kernel, show 318709 + 0 + 0 ≤ 7302232 from by decide +kernel⟩ (Nat.le_of_ble_eq_true rfl) xsL (g_X12_safe 0 h1 w1 f1 (xs 1)) (fun r2 h2 k2 => ?_)
  refine aw_icmp_eq (tgt := 2434) d_L_1863 rfl (fun _ => ?_) (fun z => absurd (ag_safe o1 k2) z)
  exact lt_6 xs _ _ ⟨by decide +kernel, by decide +kernel⟩ h2
theorem lc_41 (xs : Nat → Int32) : AW (ML 6 xs) 202 318709 1868 [(0, .ref 1100), (1, .ref 0), (2, .ref 1), (3, .ref 2), (4, .int 0)] [] HF k1_ := by
  refine aw_aload_n (i := 1) rfl d_L_1868 1 rfl ?_
  refine aw_aload_n (i := 0) rfl d_L_1869 0 rfl ?_
  refine aw_iload d_L_1870 4 rfl ?_
  refine aw_iconst (v := 1) d_L_1872 ic_1 ?_
  refine aw_iadd d_L_1873 ?_
  refine aw_vi (v2 := 1) (by decide) ?_
  refine aw_sld 1 (by decide) (vin_c (by decide)) d_L_1874 ?_
  refine aw_aload_n (i := 0) rfl d_L_1875 0 rfl ?_
  refine aw_iload d_L_1876 4 rfl ?_
  refine aw_iconst (v := 2) d_L_1878 ic_2 ?_
  refine aw_iadd d_L_1879 ?_
  refine aw_vi (v2 := 2) (by decide) ?_
  refine aw_sld 2 (by decide) (vin_c (by decide)) d_L_1880 ?_
  refine aw_Vi 0 [.int (xs 1), .int (xs 2)] [] d_L_1881 (cV_X11_share (0 + 1) 0 0) kc_11 (ws_0 wHF) tw_1470 rfl ⟨⟨Nat.le_of_ble_eq_true rfl, Nat.le_of_ble_eq_true rfl⟩, show 202 + 0 ≤ 600002 from by decide +kernel, show 318709 + 0 ≤ 7302232 from by decide +kernel⟩ (Nat.le_of_ble_eq_true rfl) xsL (g_X11_share 0 (xs 1) (xs 2)) (fun r1 h1 k1 => ?_)
  obtain ⟨o1, w1, f1⟩ := k1
  refine aw_aload_n (i := 2) rfl d_L_1884 2 rfl ?_
  refine aw_aload_n (i := 0) rfl d_L_1885 0 rfl ?_
  refine aw_iload d_L_1886 4 rfl ?_
  refine aw_iconst (v := 1) d_L_1888 ic_1 ?_
  refine aw_iadd d_L_1889 ?_
  refine aw_vi (v2 := 1) (by decide) ?_
  refine aw_sld 1 (by decide) (vin_c (by decide)) d_L_1890 ?_
  refine aw_aload_n (i := 0) rfl d_L_1891 0 rfl ?_
  refine aw_iload d_L_1892 4 rfl ?_
  refine aw_iconst (v := 2) d_L_1894 ic_2 ?_
  refine aw_iadd d_L_1895 ?_
  refine aw_vi (v2 := 2) (by decide) ?_
  refine aw_sld 2 (by decide) (vin_c (by decide)) d_L_1896 ?_
  refine aw_Vi 1 [.int (xs 1), .int (xs 2)] [.int r1] d_L_1897 (cV_X12_share (0 + 2) 0 0) kc_12 (ws_1 w1) tw_2627 rfl ⟨⟨Nat.le_of_ble_eq_true rfl, Nat.le_of_ble_eq_true rfl⟩, show 202 + 0 + 0 ≤ 600002 from by decide +kernel, show 318709 + 0 + 0 ≤ 7302232 from by decide +kernel⟩ (Nat.le_of_ble_eq_true rfl) xsL (g_X12_share 0 h1 w1 f1 (xs 1) (xs 2)) (fun r2 h2 k2 => ?_)
  refine aw_icmp_eq (tgt := 2434) d_L_1900 rfl (fun _ => ?_) (fun z => absurd (ag_share o1 k2) z)
  exact lt_6 xs _ _ ⟨by decide +kernel, by decide +kernel⟩ h2
theorem lc_42 (xs : Nat → Int32) : AW (ML 6 xs) 202 318709 1905 [(0, .ref 1100), (1, .ref 0), (2, .ref 1), (3, .ref 2), (4, .int 0)] [] HF k1_ := by
  refine aw_aload_n (i := 1) rfl d_L_1905 1 rfl ?_
  refine aw_aload_n (i := 0) rfl d_L_1906 0 rfl ?_
  refine aw_iload d_L_1907 4 rfl ?_
  refine aw_iconst (v := 1) d_L_1909 ic_1 ?_
  refine aw_iadd d_L_1910 ?_
  refine aw_vi (v2 := 1) (by decide) ?_
  refine aw_sld 1 (by decide) (vin_c (by decide)) d_L_1911 ?_
  refine aw_aload_n (i := 0) rfl d_L_1912 0 rfl ?_
  refine aw_iload d_L_1913 4 rfl ?_
  refine aw_iconst (v := 2) d_L_1915 ic_2 ?_
  refine aw_iadd d_L_1916 ?_
  refine aw_vi (v2 := 2) (by decide) ?_
  refine aw_sld 2 (by decide) (vin_c (by decide)) d_L_1917 ?_
  refine aw_aload_n (i := 0) rfl d_L_1918 0 rfl ?_
  refine aw_iload d_L_1919 4 rfl ?_
  refine aw_iconst (v := 3) d_L_1921 ic_3 ?_
  refine aw_iadd d_L_1922 ?_
  refine aw_vi (v2 := 3) (by decide) ?_
  refine aw_sld 3 (by decide) (vin_c (by decide)) d_L_1923 ?_
  refine aw_Vi 0 [.int (xs 1), .int (xs 2), .int (xs 3)] [] d_L_1924 (cV_X11_fair (0 + 1) 0 0) kc_11 (ws_0 wHF) tw_1480 rfl ⟨⟨Nat.le_of_ble_eq_true rfl, Nat.le_of_ble_eq_true rfl⟩, show 202 + 0 ≤ 600002 from by decide +kernel, show 318709 + 0 ≤ 7302232 from by decide +kernel⟩ (Nat.le_of_ble_eq_true rfl) xsL (g_X11_fair 0 (xs 1) (xs 2) (xs 3)) (fun r1 h1 k1 => ?_)
  obtain ⟨o1, w1, f1⟩ := k1
  refine aw_aload_n (i := 2) rfl d_L_1927 2 rfl ?_
  refine aw_aload_n (i := 0) rfl d_L_1928 0 rfl ?_
  refine aw_iload d_L_1929 4 rfl ?_
  refine aw_iconst (v := 1) d_L_1931 ic_1 ?_
  refine aw_iadd d_L_1932 ?_
  refine aw_vi (v2 := 1) (by decide) ?_
  refine aw_sld 1 (by decide) (vin_c (by decide)) d_L_1933 ?_
  refine aw_aload_n (i := 0) rfl d_L_1934 0 rfl ?_
  refine aw_iload d_L_1935 4 rfl ?_
  refine aw_iconst (v := 2) d_L_1937 ic_2 ?_
  refine aw_iadd d_L_1938 ?_
  refine aw_vi (v2 := 2) (by decide) ?_
  refine aw_sld 2 (by decide) (vin_c (by decide)) d_L_1939 ?_
  refine aw_aload_n (i := 0) rfl d_L_1940 0 rfl ?_
  refine aw_iload d_L_1941 4 rfl ?_
  refine aw_iconst (v := 3) d_L_1943 ic_3 ?_
  refine aw_iadd d_L_1944 ?_
  refine aw_vi (v2 := 3) (by decide) ?_
  refine aw_sld 3 (by decide) (vin_c (by decide)) d_L_1945 ?_
  refine aw_Vi 1 [.int (xs 1), .int (xs 2), .int (xs 3)] [.int r1] d_L_1946 (cV_X12_fair (0 + 2) 0 0) kc_12 (ws_1 w1) tw_2631 rfl ⟨⟨Nat.le_of_ble_eq_true rfl, Nat.le_of_ble_eq_true rfl⟩, show 202 + 0 + 0 ≤ 600002 from by decide +kernel, show 318709 + 0 + 0 ≤ 7302232 from by decide +kernel⟩ (Nat.le_of_ble_eq_true rfl) xsL (g_X12_fair 0 h1 w1 f1 (xs 1) (xs 2) (xs 3)) (fun r2 h2 k2 => ?_)
  refine aw_icmp_eq (tgt := 2434) d_L_1949 rfl (fun _ => ?_) (fun z => absurd (ag_fair o1 k2) z)
  exact lt_6 xs _ _ ⟨by decide +kernel, by decide +kernel⟩ h2
theorem lc_43 (xs : Nat → Int32) : AW (ML 6 xs) 202 318709 1954 [(0, .ref 1100), (1, .ref 0), (2, .ref 1), (3, .ref 2), (4, .int 0)] [] HF k1_ := by
  refine aw_aload_n (i := 1) rfl d_L_1954 1 rfl ?_
  refine aw_aload_n (i := 0) rfl d_L_1955 0 rfl ?_
  refine aw_iload d_L_1956 4 rfl ?_
  refine aw_iconst (v := 1) d_L_1958 ic_1 ?_
  refine aw_iadd d_L_1959 ?_
  refine aw_vi (v2 := 1) (by decide) ?_
  refine aw_sld 1 (by decide) (vin_c (by decide)) d_L_1960 ?_
  refine aw_Vi 0 [.int (xs 1)] [] d_L_1961 (cV_X11_lending (0 + 3) 0 0) kc_11 (ws_0 wHF) tw_1488 rfl ⟨⟨Nat.le_of_ble_eq_true rfl, Nat.le_of_ble_eq_true rfl⟩, show 202 + 0 ≤ 600002 from by decide +kernel, show 318709 + 0 ≤ 7302232 from by decide +kernel⟩ (Nat.le_of_ble_eq_true rfl) xsL (g_X11_lending 0 (xs 1)) (fun r1 h1 k1 => ?_)
  obtain ⟨o1, w1, f1⟩ := k1
  refine aw_aload_n (i := 2) rfl d_L_1964 2 rfl ?_
  refine aw_aload_n (i := 0) rfl d_L_1965 0 rfl ?_
  refine aw_iload d_L_1966 4 rfl ?_
  refine aw_iconst (v := 1) d_L_1968 ic_1 ?_
  refine aw_iadd d_L_1969 ?_
  refine aw_vi (v2 := 1) (by decide) ?_
  refine aw_sld 1 (by decide) (vin_c (by decide)) d_L_1970 ?_
  refine aw_Vi 1 [.int (xs 1)] [.int r1] d_L_1971 (cV_X12_lending (0 + 3) 0 0) kc_12 (ws_1 w1) tw_2639 rfl ⟨⟨Nat.le_of_ble_eq_true rfl, Nat.le_of_ble_eq_true rfl⟩, show 202 + 0 + 0 ≤ 600002 from by decide +kernel, show 318709 + 0 + 0 ≤ 7302232 from by decide +kernel⟩ (Nat.le_of_ble_eq_true rfl) xsL (g_X12_lending 0 h1 w1 ((f1.1 7).trans hf_1_7) ((f1.1 119).trans hf_1_119) (xs 1)) (fun r2 h2 k2 => ?_)
  refine aw_icmp_eq (tgt := 2434) d_L_1974 rfl (fun _ => ?_) (fun z => absurd (ag_lending o1 k2) z)
  exact lt_6 xs _ _ ⟨by decide +kernel, by decide +kernel⟩ h2
theorem lc_44 (xs : Nat → Int32) : AW (ML 6 xs) 202 318709 1979 [(0, .ref 1100), (1, .ref 0), (2, .ref 1), (3, .ref 2), (4, .int 0)] [] HF k1_ := by
  refine aw_aload_n (i := 1) rfl d_L_1979 1 rfl ?_
  refine aw_aload_n (i := 0) rfl d_L_1980 0 rfl ?_
  refine aw_iload d_L_1981 4 rfl ?_
  refine aw_iconst (v := 1) d_L_1983 ic_1 ?_
  refine aw_iadd d_L_1984 ?_
  refine aw_vi (v2 := 1) (by decide) ?_
  refine aw_sld 1 (by decide) (vin_c (by decide)) d_L_1985 ?_
  refine aw_Vi 0 [.int (xs 1)] [] d_L_1986 (cV_X11_lent (0 + 3) 0 0) kc_11 (ws_0 wHF) tw_1545 rfl ⟨⟨Nat.le_of_ble_eq_true rfl, Nat.le_of_ble_eq_true rfl⟩, show 202 + 0 ≤ 600002 from by decide +kernel, show 318709 + 0 ≤ 7302232 from by decide +kernel⟩ (Nat.le_of_ble_eq_true rfl) xsL (g_X11_lent 0 (xs 1)) (fun r1 h1 k1 => ?_)
  obtain ⟨o1, w1, f1⟩ := k1
  refine aw_aload_n (i := 2) rfl d_L_1989 2 rfl ?_
  refine aw_aload_n (i := 0) rfl d_L_1990 0 rfl ?_
  refine aw_iload d_L_1991 4 rfl ?_
  refine aw_iconst (v := 1) d_L_1993 ic_1 ?_
  refine aw_iadd d_L_1994 ?_
  refine aw_vi (v2 := 1) (by decide) ?_
  refine aw_sld 1 (by decide) (vin_c (by decide)) d_L_1995 ?_
  refine aw_Vi 1 [.int (xs 1)] [.int r1] d_L_1996 (cV_X12_lent (0 + 2) 0 0) kc_12 (ws_1 w1) tw_2660 rfl ⟨⟨Nat.le_of_ble_eq_true rfl, Nat.le_of_ble_eq_true rfl⟩, show 202 + 0 + 0 ≤ 600002 from by decide +kernel, show 318709 + 0 + 0 ≤ 7302232 from by decide +kernel⟩ (Nat.le_of_ble_eq_true rfl) xsL (g_X12_lent 0 h1 w1 f1 (xs 1)) (fun r2 h2 k2 => ?_)
  refine aw_icmp_eq (tgt := 2434) d_L_1999 rfl (fun _ => ?_) (fun z => absurd (ag_lent o1 k2) z)
  exact lt_6 xs _ _ ⟨by decide +kernel, by decide +kernel⟩ h2
theorem lc_45 (xs : Nat → Int32) : AW (ML 6 xs) 202 318709 2004 [(0, .ref 1100), (1, .ref 0), (2, .ref 1), (3, .ref 2), (4, .int 0)] [] HF k1_ := by
  refine aw_aload_n (i := 1) rfl d_L_2004 1 rfl ?_
  refine aw_Vv 0 [] [] d_L_2005 (cV_X11_fairs (0 + 1) 0 0) kc_11 (ws_0 wHF) tw_1553 rfl ⟨⟨Nat.le_of_ble_eq_true rfl, Nat.le_of_ble_eq_true rfl⟩, show 202 + 0 ≤ 600002 from by decide +kernel, show 318709 + 0 ≤ 7302232 from by decide +kernel⟩ (Nat.le_of_ble_eq_true rfl) xsL (g_X11_fairs 0) (fun h1 k1 => ?_)
  obtain ⟨w1, f1⟩ := k1
  refine aw_aload_n (i := 2) rfl d_L_2008 2 rfl ?_
  refine aw_Vv 1 [] [] d_L_2009 (cV_X12_fairs (0 + 0) 0 0) kc_12 (ws_1 w1) tw_2635 rfl ⟨⟨Nat.le_of_ble_eq_true rfl, Nat.le_of_ble_eq_true rfl⟩, show 202 + 0 + 0 ≤ 600002 from by decide +kernel, show 318709 + 0 + 0 ≤ 7302232 from by decide +kernel⟩ (Nat.le_of_ble_eq_true rfl) xsL (g_X12_fairs 0 h1 w1 f1) (fun h2 _ => ?_)
  refine aw_goto (tgt := 2434) d_L_2012 rfl ?_
  exact lt_6 xs _ _ ⟨by decide +kernel, by decide +kernel⟩ h2
theorem lc_46 (xs : Nat → Int32) : AW (ML 6 xs) 202 318709 2015 [(0, .ref 1100), (1, .ref 0), (2, .ref 1), (3, .ref 2), (4, .int 0)] [] HF k1_ := by
  refine aw_aload_n (i := 1) rfl d_L_2015 1 rfl ?_
  refine aw_aload_n (i := 0) rfl d_L_2016 0 rfl ?_
  refine aw_iload d_L_2017 4 rfl ?_
  refine aw_iconst (v := 1) d_L_2019 ic_1 ?_
  refine aw_iadd d_L_2020 ?_
  refine aw_vi (v2 := 1) (by decide) ?_
  refine aw_sld 1 (by decide) (vin_c (by decide)) d_L_2021 ?_
  refine aw_Vi 0 [.int (xs 1)] [] d_L_2022 (cV_X11_pay (0 + 6) 0 0) kc_11 (ws_0 wHF) tw_1561 rfl ⟨⟨Nat.le_of_ble_eq_true rfl, Nat.le_of_ble_eq_true rfl⟩, show 202 + 0 ≤ 600002 from by decide +kernel, show 318709 + 0 ≤ 7302232 from by decide +kernel⟩ (Nat.le_of_ble_eq_true rfl) xsL (g_X11_pay 0 (xs 1)) (fun r1 h1 k1 => ?_)
  obtain ⟨o1, w1, f1⟩ := k1
  refine aw_aload_n (i := 2) rfl d_L_2025 2 rfl ?_
  refine aw_aload_n (i := 0) rfl d_L_2026 0 rfl ?_
  refine aw_iload d_L_2027 4 rfl ?_
  refine aw_iconst (v := 1) d_L_2029 ic_1 ?_
  refine aw_iadd d_L_2030 ?_
  refine aw_vi (v2 := 1) (by decide) ?_
  refine aw_sld 1 (by decide) (vin_c (by decide)) d_L_2031 ?_
  refine aw_Vi 1 [.int (xs 1)] [.int r1] d_L_2032 (cV_X12_pay (0 + 8) 0 0) kc_12 (ws_1 w1) tw_2304 rfl ⟨⟨Nat.le_of_ble_eq_true rfl, Nat.le_of_ble_eq_true rfl⟩, show 202 + 0 + 0 ≤ 600002 from by decide +kernel, show 318709 + 0 + 0 ≤ 7302232 from by decide +kernel⟩ (Nat.le_of_ble_eq_true rfl) xsL (g_X12_pay 0 h1 w1 f1 (xs 1)) (fun r2 h2 k2 => ?_)
  refine aw_icmp_eq (tgt := 2434) d_L_2035 rfl (fun _ => ?_) (fun z => absurd (ag_pay o1 k2) z)
  exact lt_6 xs _ _ ⟨by decide +kernel, by decide +kernel⟩ h2
theorem lc_47 (xs : Nat → Int32) : AW (ML 6 xs) 202 318709 2040 [(0, .ref 1100), (1, .ref 0), (2, .ref 1), (3, .ref 2), (4, .int 0)] [] HF k1_ := by
  refine aw_aload_n (i := 1) rfl d_L_2040 1 rfl ?_
  refine aw_aload_n (i := 0) rfl d_L_2041 0 rfl ?_
  refine aw_iload d_L_2042 4 rfl ?_
  refine aw_iconst (v := 1) d_L_2044 ic_1 ?_
  refine aw_iadd d_L_2045 ?_
  refine aw_vi (v2 := 1) (by decide) ?_
  refine aw_sld 1 (by decide) (vin_c (by decide)) d_L_2046 ?_
  refine aw_aload_n (i := 0) rfl d_L_2047 0 rfl ?_
  refine aw_iload d_L_2048 4 rfl ?_
  refine aw_iconst (v := 2) d_L_2050 ic_2 ?_
  refine aw_iadd d_L_2051 ?_
  refine aw_vi (v2 := 2) (by decide) ?_
  refine aw_sld 2 (by decide) (vin_c (by decide)) d_L_2052 ?_
  refine aw_aload_n (i := 0) rfl d_L_2053 0 rfl ?_
  refine aw_iload d_L_2054 4 rfl ?_
  refine aw_iconst (v := 3) d_L_2056 ic_3 ?_
  refine aw_iadd d_L_2057 ?_
  refine aw_vi (v2 := 3) (by decide) ?_
  refine aw_sld 3 (by decide) (vin_c (by decide)) d_L_2058 ?_
  refine aw_Vi 0 [.int (xs 1), .int (xs 2), .int (xs 3)] [] d_L_2059 (cV_X11_rank (0 + 3) 0 0) kc_11 (ws_0 wHF) tw_1565 rfl ⟨⟨Nat.le_of_ble_eq_true rfl, Nat.le_of_ble_eq_true rfl⟩, show 202 + 0 ≤ 600002 from by decide +kernel, show 318709 + 0 ≤ 7302232 from by decide +kernel⟩ (Nat.le_of_ble_eq_true rfl) xsL (g_X11_rank 0 (xs 1) (xs 2) (xs 3)) (fun r1 h1 k1 => ?_)
  obtain ⟨o1, w1, f1⟩ := k1
  refine aw_aload_n (i := 2) rfl d_L_2062 2 rfl ?_
  refine aw_aload_n (i := 0) rfl d_L_2063 0 rfl ?_
  refine aw_iload d_L_2064 4 rfl ?_
  refine aw_iconst (v := 1) d_L_2066 ic_1 ?_
  refine aw_iadd d_L_2067 ?_
  refine aw_vi (v2 := 1) (by decide) ?_
  refine aw_sld 1 (by decide) (vin_c (by decide)) d_L_2068 ?_
  refine aw_aload_n (i := 0) rfl d_L_2069 0 rfl ?_
  refine aw_iload d_L_2070 4 rfl ?_
  refine aw_iconst (v := 2) d_L_2072 ic_2 ?_
  refine aw_iadd d_L_2073 ?_
  refine aw_vi (v2 := 2) (by decide) ?_
  refine aw_sld 2 (by decide) (vin_c (by decide)) d_L_2074 ?_
  refine aw_aload_n (i := 0) rfl d_L_2075 0 rfl ?_
  refine aw_iload d_L_2076 4 rfl ?_
  refine aw_iconst (v := 3) d_L_2078 ic_3 ?_
  refine aw_iadd d_L_2079 ?_
  refine aw_vi (v2 := 3) (by decide) ?_
  refine aw_sld 3 (by decide) (vin_c (by decide)) d_L_2080 ?_
  refine aw_Vi 1 [.int (xs 1), .int (xs 2), .int (xs 3)] [.int r1] d_L_2081 (cV_X12_rank (0 + 2) 0 0) kc_12 (ws_1 w1) tw_2163 rfl ⟨⟨Nat.le_of_ble_eq_true rfl, Nat.le_of_ble_eq_true rfl⟩, show 202 + 0 + 0 ≤ 600002 from by decide +kernel, show 318709 + 0 + 0 ≤ 7302232 from by decide +kernel⟩ (Nat.le_of_ble_eq_true rfl) xsL (g_X12_rank 0 h1 w1 f1 (xs 1) (xs 2) (xs 3)) (fun r2 h2 k2 => ?_)
  refine aw_icmp_eq (tgt := 2434) d_L_2084 rfl (fun _ => ?_) (fun z => absurd (ag_rank o1 k2) z)
  exact lt_6 xs _ _ ⟨by decide +kernel, by decide +kernel⟩ h2
theorem lc_48 (xs : Nat → Int32) : AW (ML 6 xs) 202 318709 2089 [(0, .ref 1100), (1, .ref 0), (2, .ref 1), (3, .ref 2), (4, .int 0)] [] HF k1_ := by
  refine aw_aload_n (i := 1) rfl d_L_2089 1 rfl ?_
  refine aw_aload_n (i := 0) rfl d_L_2090 0 rfl ?_
  refine aw_iload d_L_2091 4 rfl ?_
  refine aw_iconst (v := 1) d_L_2093 ic_1 ?_
  refine aw_iadd d_L_2094 ?_
  refine aw_vi (v2 := 1) (by decide) ?_
  refine aw_sld 1 (by decide) (vin_c (by decide)) d_L_2095 ?_
  refine aw_aload_n (i := 0) rfl d_L_2096 0 rfl ?_
  refine aw_iload d_L_2097 4 rfl ?_
  refine aw_iconst (v := 2) d_L_2099 ic_2 ?_
  refine aw_iadd d_L_2100 ?_
  refine aw_vi (v2 := 2) (by decide) ?_
  refine aw_sld 2 (by decide) (vin_c (by decide)) d_L_2101 ?_
  refine aw_aload_n (i := 0) rfl d_L_2102 0 rfl ?_
  refine aw_iload d_L_2103 4 rfl ?_
  refine aw_iconst (v := 3) d_L_2105 ic_3 ?_
  refine aw_iadd d_L_2106 ?_
  refine aw_vi (v2 := 3) (by decide) ?_
  refine aw_sld 3 (by decide) (vin_c (by decide)) d_L_2107 ?_
  refine aw_Vi 0 [.int (xs 1), .int (xs 2), .int (xs 3)] [] d_L_2108 (cV_X11_ranked (0 + 2) 0 0) kc_11 (ws_0 wHF) tw_1573 rfl ⟨⟨Nat.le_of_ble_eq_true rfl, Nat.le_of_ble_eq_true rfl⟩, show 202 + 0 ≤ 600002 from by decide +kernel, show 318709 + 0 ≤ 7302232 from by decide +kernel⟩ (Nat.le_of_ble_eq_true rfl) xsL (g_X11_ranked 0 (xs 1) (xs 2) (xs 3)) (fun r1 h1 k1 => ?_)
  obtain ⟨o1, w1, f1⟩ := k1
  refine aw_aload_n (i := 2) rfl d_L_2111 2 rfl ?_
  refine aw_aload_n (i := 0) rfl d_L_2112 0 rfl ?_
  refine aw_iload d_L_2113 4 rfl ?_
  refine aw_iconst (v := 1) d_L_2115 ic_1 ?_
  refine aw_iadd d_L_2116 ?_
  refine aw_vi (v2 := 1) (by decide) ?_
  refine aw_sld 1 (by decide) (vin_c (by decide)) d_L_2117 ?_
  refine aw_aload_n (i := 0) rfl d_L_2118 0 rfl ?_
  refine aw_iload d_L_2119 4 rfl ?_
  refine aw_iconst (v := 2) d_L_2121 ic_2 ?_
  refine aw_iadd d_L_2122 ?_
  refine aw_vi (v2 := 2) (by decide) ?_
  refine aw_sld 2 (by decide) (vin_c (by decide)) d_L_2123 ?_
  refine aw_aload_n (i := 0) rfl d_L_2124 0 rfl ?_
  refine aw_iload d_L_2125 4 rfl ?_
  refine aw_iconst (v := 3) d_L_2127 ic_3 ?_
  refine aw_iadd d_L_2128 ?_
  refine aw_vi (v2 := 3) (by decide) ?_
  refine aw_sld 3 (by decide) (vin_c (by decide)) d_L_2129 ?_
  refine aw_Vi 1 [.int (xs 1), .int (xs 2), .int (xs 3)] [.int r1] d_L_2130 (cV_X12_ranked (0 + 2) 0 0) kc_12 (ws_1 w1) tw_2171 rfl ⟨⟨Nat.le_of_ble_eq_true rfl, Nat.le_of_ble_eq_true rfl⟩, show 202 + 0 + 0 ≤ 600002 from by decide +kernel, show 318709 + 0 + 0 ≤ 7302232 from by decide +kernel⟩ (Nat.le_of_ble_eq_true rfl) xsL (g_X12_ranked 0 h1 w1 f1 (xs 1) (xs 2) (xs 3)) (fun r2 h2 k2 => ?_)
  refine aw_icmp_eq (tgt := 2434) d_L_2133 rfl (fun _ => ?_) (fun z => absurd (ag_ranked o1 k2) z)
  exact lt_6 xs _ _ ⟨by decide +kernel, by decide +kernel⟩ h2
theorem lc_49 (xs : Nat → Int32) : AW (ML 6 xs) 202 318709 2138 [(0, .ref 1100), (1, .ref 0), (2, .ref 1), (3, .ref 2), (4, .int 0)] [] HF k1_ := by
  refine aw_aload_n (i := 1) rfl d_L_2138 1 rfl ?_
  refine aw_aload_n (i := 0) rfl d_L_2139 0 rfl ?_
  refine aw_iload d_L_2140 4 rfl ?_
  refine aw_iconst (v := 1) d_L_2142 ic_1 ?_
  refine aw_iadd d_L_2143 ?_
  refine aw_vi (v2 := 1) (by decide) ?_
  refine aw_sld 1 (by decide) (vin_c (by decide)) d_L_2144 ?_
  refine aw_aload_n (i := 0) rfl d_L_2145 0 rfl ?_
  refine aw_iload d_L_2146 4 rfl ?_
  refine aw_iconst (v := 2) d_L_2148 ic_2 ?_
  refine aw_iadd d_L_2149 ?_
  refine aw_vi (v2 := 2) (by decide) ?_
  refine aw_sld 2 (by decide) (vin_c (by decide)) d_L_2150 ?_
  refine aw_aload_n (i := 0) rfl d_L_2151 0 rfl ?_
  refine aw_iload d_L_2152 4 rfl ?_
  refine aw_iconst (v := 3) d_L_2154 ic_3 ?_
  refine aw_iadd d_L_2155 ?_
  refine aw_vi (v2 := 3) (by decide) ?_
  refine aw_sld 3 (by decide) (vin_c (by decide)) d_L_2156 ?_
  refine aw_Vi 0 [.int (xs 1), .int (xs 2), .int (xs 3)] [] d_L_2157 (cV_X11_paid (0 + 2) 0 0) kc_11 (ws_0 wHF) tw_1577 rfl ⟨⟨Nat.le_of_ble_eq_true rfl, Nat.le_of_ble_eq_true rfl⟩, show 202 + 0 ≤ 600002 from by decide +kernel, show 318709 + 0 ≤ 7302232 from by decide +kernel⟩ (Nat.le_of_ble_eq_true rfl) xsL (g_X11_paid 0 (xs 1) (xs 2) (xs 3)) (fun r1 h1 k1 => ?_)
  obtain ⟨o1, w1, f1⟩ := k1
  refine aw_aload_n (i := 2) rfl d_L_2160 2 rfl ?_
  refine aw_aload_n (i := 0) rfl d_L_2161 0 rfl ?_
  refine aw_iload d_L_2162 4 rfl ?_
  refine aw_iconst (v := 1) d_L_2164 ic_1 ?_
  refine aw_iadd d_L_2165 ?_
  refine aw_vi (v2 := 1) (by decide) ?_
  refine aw_sld 1 (by decide) (vin_c (by decide)) d_L_2166 ?_
  refine aw_aload_n (i := 0) rfl d_L_2167 0 rfl ?_
  refine aw_iload d_L_2168 4 rfl ?_
  refine aw_iconst (v := 2) d_L_2170 ic_2 ?_
  refine aw_iadd d_L_2171 ?_
  refine aw_vi (v2 := 2) (by decide) ?_
  refine aw_sld 2 (by decide) (vin_c (by decide)) d_L_2172 ?_
  refine aw_aload_n (i := 0) rfl d_L_2173 0 rfl ?_
  refine aw_iload d_L_2174 4 rfl ?_
  refine aw_iconst (v := 3) d_L_2176 ic_3 ?_
  refine aw_iadd d_L_2177 ?_
  refine aw_vi (v2 := 3) (by decide) ?_
  refine aw_sld 3 (by decide) (vin_c (by decide)) d_L_2178 ?_
  refine aw_Vi 1 [.int (xs 1), .int (xs 2), .int (xs 3)] [.int r1] d_L_2179 (cV_X12_paid (0 + 2) 0 0) kc_12 (ws_1 w1) tw_2664 rfl ⟨⟨Nat.le_of_ble_eq_true rfl, Nat.le_of_ble_eq_true rfl⟩, show 202 + 0 + 0 ≤ 600002 from by decide +kernel, show 318709 + 0 + 0 ≤ 7302232 from by decide +kernel⟩ (Nat.le_of_ble_eq_true rfl) xsL (g_X12_paid 0 h1 w1 f1 (xs 1) (xs 2) (xs 3)) (fun r2 h2 k2 => ?_)
  refine aw_icmp_eq (tgt := 2434) d_L_2182 rfl (fun _ => ?_) (fun z => absurd (ag_paid o1 k2) z)
  exact lt_6 xs _ _ ⟨by decide +kernel, by decide +kernel⟩ h2
theorem lc_50 (xs : Nat → Int32) : AW (ML 6 xs) 202 318709 2187 [(0, .ref 1100), (1, .ref 0), (2, .ref 1), (3, .ref 2), (4, .int 0)] [] HF k1_ := by
  refine aw_aload_n (i := 1) rfl d_L_2187 1 rfl ?_
  refine aw_Vi 0 [] [] d_L_2188 (cV_X11_book (0 + 2) 0 0) kc_11 (ws_0 wHF) tw_1602 rfl ⟨⟨Nat.le_of_ble_eq_true rfl, Nat.le_of_ble_eq_true rfl⟩, show 202 + 0 ≤ 600002 from by decide +kernel, show 318709 + 0 ≤ 7302232 from by decide +kernel⟩ (Nat.le_of_ble_eq_true rfl) xsL (g_X11_book 0) (fun r1 h1 k1 => ?_)
  obtain ⟨o1, w1, f1⟩ := k1
  refine aw_aload_n (i := 2) rfl d_L_2191 2 rfl ?_
  refine aw_Vi 1 [] [.int r1] d_L_2192 (cV_X12_book (0 + 0) 0 0) kc_12 (ws_1 w1) tw_2672 rfl ⟨⟨Nat.le_of_ble_eq_true rfl, Nat.le_of_ble_eq_true rfl⟩, show 202 + 0 + 0 ≤ 600002 from by decide +kernel, show 318709 + 0 + 0 ≤ 7302232 from by decide +kernel⟩ (Nat.le_of_ble_eq_true rfl) xsL (g_X12_book 0 h1 w1 f1) (fun r2 h2 k2 => ?_)
  refine aw_icmp_eq (tgt := 2434) d_L_2195 rfl (fun _ => ?_) (fun z => absurd (ag_book o1 k2) z)
  exact lt_6 xs _ _ ⟨by decide +kernel, by decide +kernel⟩ h2
theorem lc_51 (xs : Nat → Int32) : AW (ML 6 xs) 202 318709 2200 [(0, .ref 1100), (1, .ref 0), (2, .ref 1), (3, .ref 2), (4, .int 0)] [] HF k1_ := by
  refine aw_aload_n (i := 1) rfl d_L_2200 1 rfl ?_
  refine aw_aload_n (i := 0) rfl d_L_2201 0 rfl ?_
  refine aw_iload d_L_2202 4 rfl ?_
  refine aw_iconst (v := 1) d_L_2204 ic_1 ?_
  refine aw_iadd d_L_2205 ?_
  refine aw_vi (v2 := 1) (by decide) ?_
  refine aw_sld 1 (by decide) (vin_c (by decide)) d_L_2206 ?_
  refine aw_aload_n (i := 0) rfl d_L_2207 0 rfl ?_
  refine aw_iload d_L_2208 4 rfl ?_
  refine aw_iconst (v := 2) d_L_2210 ic_2 ?_
  refine aw_iadd d_L_2211 ?_
  refine aw_vi (v2 := 2) (by decide) ?_
  refine aw_sld 2 (by decide) (vin_c (by decide)) d_L_2212 ?_
  refine aw_Vi 0 [.int (xs 1), .int (xs 2)] [] d_L_2213 (cV_X11_line (0 + 2) 0 0) kc_11 (ws_0 wHF) tw_1619 rfl ⟨⟨Nat.le_of_ble_eq_true rfl, Nat.le_of_ble_eq_true rfl⟩, show 202 + 0 ≤ 600002 from by decide +kernel, show 318709 + 0 ≤ 7302232 from by decide +kernel⟩ (Nat.le_of_ble_eq_true rfl) xsL (g_X11_line 0 (xs 1) (xs 2)) (fun r1 h1 k1 => ?_)
  obtain ⟨o1, w1, f1⟩ := k1
  refine aw_aload_n (i := 2) rfl d_L_2216 2 rfl ?_
  refine aw_aload_n (i := 0) rfl d_L_2217 0 rfl ?_
  refine aw_iload d_L_2218 4 rfl ?_
  refine aw_iconst (v := 1) d_L_2220 ic_1 ?_
  refine aw_iadd d_L_2221 ?_
  refine aw_vi (v2 := 1) (by decide) ?_
  refine aw_sld 1 (by decide) (vin_c (by decide)) d_L_2222 ?_
  refine aw_aload_n (i := 0) rfl d_L_2223 0 rfl ?_
  refine aw_iload d_L_2224 4 rfl ?_
  refine aw_iconst (v := 2) d_L_2226 ic_2 ?_
  refine aw_iadd d_L_2227 ?_
  refine aw_vi (v2 := 2) (by decide) ?_
  refine aw_sld 2 (by decide) (vin_c (by decide)) d_L_2228 ?_
  refine aw_Vi 1 [.int (xs 1), .int (xs 2)] [.int r1] d_L_2229 (cV_X12_line (0 + 1) 0 0) kc_12 (ws_1 w1) tw_2676 rfl ⟨⟨Nat.le_of_ble_eq_true rfl, Nat.le_of_ble_eq_true rfl⟩, show 202 + 0 + 0 ≤ 600002 from by decide +kernel, show 318709 + 0 + 0 ≤ 7302232 from by decide +kernel⟩ (Nat.le_of_ble_eq_true rfl) xsL (g_X12_line 0 h1 w1 f1 (xs 1) (xs 2)) (fun r2 h2 k2 => ?_)
  refine aw_icmp_eq (tgt := 2434) d_L_2232 rfl (fun _ => ?_) (fun z => absurd (ag_line o1 k2) z)
  exact lt_6 xs _ _ ⟨by decide +kernel, by decide +kernel⟩ h2
theorem lc_52 (xs : Nat → Int32) : AW (ML 6 xs) 202 318709 2237 [(0, .ref 1100), (1, .ref 0), (2, .ref 1), (3, .ref 2), (4, .int 0)] [] HF k1_ := by
  refine aw_aload_n (i := 1) rfl d_L_2237 1 rfl ?_
  refine aw_aload_n (i := 0) rfl d_L_2238 0 rfl ?_
  refine aw_iload d_L_2239 4 rfl ?_
  refine aw_iconst (v := 1) d_L_2241 ic_1 ?_
  refine aw_iadd d_L_2242 ?_
  refine aw_vi (v2 := 1) (by decide) ?_
  refine aw_sld 1 (by decide) (vin_c (by decide)) d_L_2243 ?_
  refine aw_aload_n (i := 0) rfl d_L_2244 0 rfl ?_
  refine aw_iload d_L_2245 4 rfl ?_
  refine aw_iconst (v := 2) d_L_2247 ic_2 ?_
  refine aw_iadd d_L_2248 ?_
  refine aw_vi (v2 := 2) (by decide) ?_
  refine aw_sld 2 (by decide) (vin_c (by decide)) d_L_2249 ?_
  refine aw_aload_n (i := 0) rfl d_L_2250 0 rfl ?_
  refine aw_iload d_L_2251 4 rfl ?_
  refine aw_iconst (v := 3) d_L_2253 ic_3 ?_
  refine aw_iadd d_L_2254 ?_
  refine aw_vi (v2 := 3) (by decide) ?_
  refine aw_sld 3 (by decide) (vin_c (by decide)) d_L_2255 ?_
  refine aw_Vi 0 [.int (xs 1), .int (xs 2), .int (xs 3)] [] d_L_2256 (cV_X11_mark (0 + 3) 0 0) kc_11 (ws_0 wHF) tw_1628 rfl ⟨⟨Nat.le_of_ble_eq_true rfl, Nat.le_of_ble_eq_true rfl⟩, show 202 + 0 ≤ 600002 from by decide +kernel, show 318709 + 0 ≤ 7302232 from by decide +kernel⟩ (Nat.le_of_ble_eq_true rfl) xsL (g_X11_mark 0 (xs 1) (xs 2) (xs 3)) (fun r1 h1 k1 => ?_)
  obtain ⟨o1, w1, f1⟩ := k1
  refine aw_aload_n (i := 2) rfl d_L_2259 2 rfl ?_
  refine aw_aload_n (i := 0) rfl d_L_2260 0 rfl ?_
  refine aw_iload d_L_2261 4 rfl ?_
  refine aw_iconst (v := 1) d_L_2263 ic_1 ?_
  refine aw_iadd d_L_2264 ?_
  refine aw_vi (v2 := 1) (by decide) ?_
  refine aw_sld 1 (by decide) (vin_c (by decide)) d_L_2265 ?_
  refine aw_aload_n (i := 0) rfl d_L_2266 0 rfl ?_
  refine aw_iload d_L_2267 4 rfl ?_
  refine aw_iconst (v := 2) d_L_2269 ic_2 ?_
  refine aw_iadd d_L_2270 ?_
  refine aw_vi (v2 := 2) (by decide) ?_
  refine aw_sld 2 (by decide) (vin_c (by decide)) d_L_2271 ?_
  refine aw_aload_n (i := 0) rfl d_L_2272 0 rfl ?_
  refine aw_iload d_L_2273 4 rfl ?_
  refine aw_iconst (v := 3) d_L_2275 ic_3 ?_
  refine aw_iadd d_L_2276 ?_
  refine aw_vi (v2 := 3) (by decide) ?_
  refine aw_sld 3 (by decide) (vin_c (by decide)) d_L_2277 ?_
  refine aw_Vi 1 [.int (xs 1), .int (xs 2), .int (xs 3)] [.int r1] d_L_2278 (cV_X12_mark (0 + 2) 0 0) kc_12 (ws_1 w1) tw_2681 rfl ⟨⟨Nat.le_of_ble_eq_true rfl, Nat.le_of_ble_eq_true rfl⟩, show 202 + 0 + 0 ≤ 600002 from by decide +kernel, show 318709 + 0 + 0 ≤ 7302232 from by decide +kernel⟩ (Nat.le_of_ble_eq_true rfl) xsL (g_X12_mark 0 h1 w1 f1 (xs 1) (xs 2) (xs 3)) (fun r2 h2 k2 => ?_)
  refine aw_icmp_eq (tgt := 2434) d_L_2281 rfl (fun _ => ?_) (fun z => absurd (ag_mark o1 k2) z)
  exact lt_6 xs _ _ ⟨by decide +kernel, by decide +kernel⟩ h2
theorem lc_53 (xs : Nat → Int32) : AW (ML 6 xs) 202 318709 2286 [(0, .ref 1100), (1, .ref 0), (2, .ref 1), (3, .ref 2), (4, .int 0)] [] HF k1_ := by
  refine aw_aload_n (i := 1) rfl d_L_2286 1 rfl ?_
  refine aw_aload_n (i := 0) rfl d_L_2287 0 rfl ?_
  refine aw_iload d_L_2288 4 rfl ?_
  refine aw_iconst (v := 1) d_L_2290 ic_1 ?_
  refine aw_iadd d_L_2291 ?_
  refine aw_vi (v2 := 1) (by decide) ?_
  refine aw_sld 1 (by decide) (vin_c (by decide)) d_L_2292 ?_
  refine aw_Vi 0 [.int (xs 1)] [] d_L_2293 (cV_X11_size (0 + 1) 0 0) kc_11 (ws_0 wHF) tw_1636 rfl ⟨⟨Nat.le_of_ble_eq_true rfl, Nat.le_of_ble_eq_true rfl⟩, show 202 + 0 ≤ 600002 from by decide +kernel, show 318709 + 0 ≤ 7302232 from by decide +kernel⟩ (Nat.le_of_ble_eq_true rfl) xsL (g_X11_size 0 (xs 1)) (fun r1 h1 k1 => ?_)
  obtain ⟨o1, w1, f1⟩ := k1
  refine aw_aload_n (i := 2) rfl d_L_2296 2 rfl ?_
  refine aw_aload_n (i := 0) rfl d_L_2297 0 rfl ?_
  refine aw_iload d_L_2298 4 rfl ?_
  refine aw_iconst (v := 1) d_L_2300 ic_1 ?_
  refine aw_iadd d_L_2301 ?_
  refine aw_vi (v2 := 1) (by decide) ?_
  refine aw_sld 1 (by decide) (vin_c (by decide)) d_L_2302 ?_
  refine aw_Vi 1 [.int (xs 1)] [.int r1] d_L_2303 (cV_X12_size (0 + 1) 0 0) kc_12 (ws_1 w1) tw_2685 rfl ⟨⟨Nat.le_of_ble_eq_true rfl, Nat.le_of_ble_eq_true rfl⟩, show 202 + 0 + 0 ≤ 600002 from by decide +kernel, show 318709 + 0 + 0 ≤ 7302232 from by decide +kernel⟩ (Nat.le_of_ble_eq_true rfl) xsL (g_X12_size 0 h1 w1 f1 (xs 1)) (fun r2 h2 k2 => ?_)
  refine aw_icmp_eq (tgt := 2434) d_L_2306 rfl (fun _ => ?_) (fun z => absurd (ag_size o1 k2) z)
  exact lt_6 xs _ _ ⟨by decide +kernel, by decide +kernel⟩ h2
theorem lc_54 (xs : Nat → Int32) : AW (ML 6 xs) 202 318709 2311 [(0, .ref 1100), (1, .ref 0), (2, .ref 1), (3, .ref 2), (4, .int 0)] [] HF k1_ := by
  refine aw_aload_n (i := 1) rfl d_L_2311 1 rfl ?_
  refine aw_aload_n (i := 0) rfl d_L_2312 0 rfl ?_
  refine aw_iload d_L_2313 4 rfl ?_
  refine aw_iconst (v := 1) d_L_2315 ic_1 ?_
  refine aw_iadd d_L_2316 ?_
  refine aw_vi (v2 := 1) (by decide) ?_
  refine aw_sld 1 (by decide) (vin_c (by decide)) d_L_2317 ?_
  refine aw_aload_n (i := 0) rfl d_L_2318 0 rfl ?_
  refine aw_iload d_L_2319 4 rfl ?_
  refine aw_iconst (v := 2) d_L_2321 ic_2 ?_
  refine aw_iadd d_L_2322 ?_
  refine aw_vi (v2 := 2) (by decide) ?_
  refine aw_sld 2 (by decide) (vin_c (by decide)) d_L_2323 ?_
  refine aw_Vi 0 [.int (xs 1), .int (xs 2)] [] d_L_2324 (cV_X11_habit (0 + 2) 0 0) kc_11 (ws_0 wHF) tw_1640 rfl ⟨⟨Nat.le_of_ble_eq_true rfl, Nat.le_of_ble_eq_true rfl⟩, show 202 + 0 ≤ 600002 from by decide +kernel, show 318709 + 0 ≤ 7302232 from by decide +kernel⟩ (Nat.le_of_ble_eq_true rfl) xsL (g_X11_habit 0 (xs 1) (xs 2)) (fun r1 h1 k1 => ?_)
  obtain ⟨o1, w1, f1⟩ := k1
  refine aw_aload_n (i := 2) rfl d_L_2327 2 rfl ?_
  refine aw_aload_n (i := 0) rfl d_L_2328 0 rfl ?_
  refine aw_iload d_L_2329 4 rfl ?_
  refine aw_iconst (v := 1) d_L_2331 ic_1 ?_
  refine aw_iadd d_L_2332 ?_
  refine aw_vi (v2 := 1) (by decide) ?_
  refine aw_sld 1 (by decide) (vin_c (by decide)) d_L_2333 ?_
  refine aw_aload_n (i := 0) rfl d_L_2334 0 rfl ?_
  refine aw_iload d_L_2335 4 rfl ?_
  refine aw_iconst (v := 2) d_L_2337 ic_2 ?_
  refine aw_iadd d_L_2338 ?_
  refine aw_vi (v2 := 2) (by decide) ?_
  refine aw_sld 2 (by decide) (vin_c (by decide)) d_L_2339 ?_
  refine aw_Vi 1 [.int (xs 1), .int (xs 2)] [.int r1] d_L_2340 (cV_X12_habit (0 + 1) 0 0) kc_12 (ws_1 w1) tw_2689 rfl ⟨⟨Nat.le_of_ble_eq_true rfl, Nat.le_of_ble_eq_true rfl⟩, show 202 + 0 + 0 ≤ 600002 from by decide +kernel, show 318709 + 0 + 0 ≤ 7302232 from by decide +kernel⟩ (Nat.le_of_ble_eq_true rfl) xsL (g_X12_habit 0 h1 w1 f1 (xs 1) (xs 2)) (fun r2 h2 k2 => ?_)
  refine aw_icmp_eq (tgt := 2434) d_L_2343 rfl (fun _ => ?_) (fun z => absurd (ag_habit o1 k2) z)
  exact lt_6 xs _ _ ⟨by decide +kernel, by decide +kernel⟩ h2
theorem lc_55 (xs : Nat → Int32) : AW (ML 6 xs) 202 318709 2348 [(0, .ref 1100), (1, .ref 0), (2, .ref 1), (3, .ref 2), (4, .int 0)] [] HF k1_ := by
  refine aw_aload_n (i := 1) rfl d_L_2348 1 rfl ?_
  refine aw_aload_n (i := 0) rfl d_L_2349 0 rfl ?_
  refine aw_iload d_L_2350 4 rfl ?_
  refine aw_iconst (v := 1) d_L_2352 ic_1 ?_
  refine aw_iadd d_L_2353 ?_
  refine aw_vi (v2 := 1) (by decide) ?_
  refine aw_sld 1 (by decide) (vin_c (by decide)) d_L_2354 ?_
  refine aw_aload_n (i := 0) rfl d_L_2355 0 rfl ?_
  refine aw_iload d_L_2356 4 rfl ?_
  refine aw_iconst (v := 2) d_L_2358 ic_2 ?_
  refine aw_iadd d_L_2359 ?_
  refine aw_vi (v2 := 2) (by decide) ?_
  refine aw_sld 2 (by decide) (vin_c (by decide)) d_L_2360 ?_
  refine aw_aload_n (i := 0) rfl d_L_2361 0 rfl ?_
  refine aw_iload d_L_2362 4 rfl ?_
  refine aw_iconst (v := 3) d_L_2364 ic_3 ?_
  refine aw_iadd d_L_2365 ?_
  refine aw_vi (v2 := 3) (by decide) ?_
  refine aw_sld 3 (by decide) (vin_c (by decide)) d_L_2366 ?_
  refine aw_aload_n (i := 0) rfl d_L_2367 0 rfl ?_
  refine aw_iload d_L_2368 4 rfl ?_
  refine aw_iconst (v := 4) d_L_2370 ic_4 ?_
  refine aw_iadd d_L_2371 ?_
  refine aw_vi (v2 := 4) (by decide) ?_
  refine aw_sld 4 (by decide) (vin_c (by decide)) d_L_2372 ?_
  refine aw_Vi 0 [.int (xs 1), .int (xs 2), .int (xs 3), .int (xs 4)] [] d_L_2373 (cV_X11_complain (0 + 3) 0 0) kc_11 (ws_0 wHF) tw_1649 rfl ⟨⟨Nat.le_of_ble_eq_true rfl, Nat.le_of_ble_eq_true rfl⟩, show 202 + 0 ≤ 600002 from by decide +kernel, show 318709 + 0 ≤ 7302232 from by decide +kernel⟩ (Nat.le_of_ble_eq_true rfl) xsL (g_X11_complain 0 (xs 1) (xs 2) (xs 3) (xs 4)) (fun r1 h1 k1 => ?_)
  obtain ⟨o1, w1, f1⟩ := k1
  refine aw_aload_n (i := 2) rfl d_L_2376 2 rfl ?_
  refine aw_aload_n (i := 0) rfl d_L_2377 0 rfl ?_
  refine aw_iload d_L_2378 4 rfl ?_
  refine aw_iconst (v := 1) d_L_2380 ic_1 ?_
  refine aw_iadd d_L_2381 ?_
  refine aw_vi (v2 := 1) (by decide) ?_
  refine aw_sld 1 (by decide) (vin_c (by decide)) d_L_2382 ?_
  refine aw_aload_n (i := 0) rfl d_L_2383 0 rfl ?_
  refine aw_iload d_L_2384 4 rfl ?_
  refine aw_iconst (v := 2) d_L_2386 ic_2 ?_
  refine aw_iadd d_L_2387 ?_
  refine aw_vi (v2 := 2) (by decide) ?_
  refine aw_sld 2 (by decide) (vin_c (by decide)) d_L_2388 ?_
  refine aw_aload_n (i := 0) rfl d_L_2389 0 rfl ?_
  refine aw_iload d_L_2390 4 rfl ?_
  refine aw_iconst (v := 3) d_L_2392 ic_3 ?_
  refine aw_iadd d_L_2393 ?_
  refine aw_vi (v2 := 3) (by decide) ?_
  refine aw_sld 3 (by decide) (vin_c (by decide)) d_L_2394 ?_
  refine aw_aload_n (i := 0) rfl d_L_2395 0 rfl ?_
  refine aw_iload d_L_2396 4 rfl ?_
  refine aw_iconst (v := 4) d_L_2398 ic_4 ?_
  refine aw_iadd d_L_2399 ?_
  refine aw_vi (v2 := 4) (by decide) ?_
  refine aw_sld 4 (by decide) (vin_c (by decide)) d_L_2400 ?_
  refine aw_Vi 1 [.int (xs 1), .int (xs 2), .int (xs 3), .int (xs 4)] [.int r1] d_L_2401 (cV_X12_complain (0 + 2) 0 0) kc_12 (ws_1 w1) tw_2470 rfl ⟨⟨Nat.le_of_ble_eq_true rfl, Nat.le_of_ble_eq_true rfl⟩, show 202 + 0 + 0 ≤ 600002 from by decide +kernel, show 318709 + 0 + 0 ≤ 7302232 from by decide +kernel⟩ (Nat.le_of_ble_eq_true rfl) xsL (g_X12_complain 0 h1 w1 f1 (xs 1) (xs 2) (xs 3) (xs 4)) (fun r2 h2 k2 => ?_)
  refine aw_icmp_eq (tgt := 2434) d_L_2404 rfl (fun _ => ?_) (fun z => absurd (ag_complain o1 k2) z)
  exact lt_6 xs _ _ ⟨by decide +kernel, by decide +kernel⟩ h2
theorem lc_56 (xs : Nat → Int32) : AW (ML 6 xs) 202 318709 2409 [(0, .ref 1100), (1, .ref 0), (2, .ref 1), (3, .ref 2), (4, .int 0)] [] HF k1_ := by
  refine aw_aload_n (i := 1) rfl d_L_2409 1 rfl ?_
  refine aw_aload_n (i := 0) rfl d_L_2410 0 rfl ?_
  refine aw_iload d_L_2411 4 rfl ?_
  refine aw_iconst (v := 1) d_L_2413 ic_1 ?_
  refine aw_iadd d_L_2414 ?_
  refine aw_vi (v2 := 1) (by decide) ?_
  refine aw_sld 1 (by decide) (vin_c (by decide)) d_L_2415 ?_
  refine aw_Vi 0 [.int (xs 1)] [] d_L_2416 (cV_X11_count (0 + 1) 0 0) kc_11 (ws_0 wHF) tw_1653 rfl ⟨⟨Nat.le_of_ble_eq_true rfl, Nat.le_of_ble_eq_true rfl⟩, show 202 + 0 ≤ 600002 from by decide +kernel, show 318709 + 0 ≤ 7302232 from by decide +kernel⟩ (Nat.le_of_ble_eq_true rfl) xsL (g_X11_count 0 (xs 1)) (fun r1 h1 k1 => ?_)
  obtain ⟨o1, w1, f1⟩ := k1
  refine aw_aload_n (i := 2) rfl d_L_2419 2 rfl ?_
  refine aw_aload_n (i := 0) rfl d_L_2420 0 rfl ?_
  refine aw_iload d_L_2421 4 rfl ?_
  refine aw_iconst (v := 1) d_L_2423 ic_1 ?_
  refine aw_iadd d_L_2424 ?_
  refine aw_vi (v2 := 1) (by decide) ?_
  refine aw_sld 1 (by decide) (vin_c (by decide)) d_L_2425 ?_
  refine aw_Vi 1 [.int (xs 1)] [.int r1] d_L_2426 (cV_X12_count (0 + 0) 0 0) kc_12 (ws_1 w1) tw_2693 rfl ⟨⟨Nat.le_of_ble_eq_true rfl, Nat.le_of_ble_eq_true rfl⟩, show 202 + 0 + 0 ≤ 600002 from by decide +kernel, show 318709 + 0 + 0 ≤ 7302232 from by decide +kernel⟩ (Nat.le_of_ble_eq_true rfl) xsL (g_X12_count 0 h1 w1 f1 (xs 1)) (fun r2 h2 k2 => ?_)
  refine aw_icmp_eq (tgt := 2434) d_L_2429 rfl (fun _ => ?_) (fun z => absurd (ag_count o1 k2) z)
  exact lt_6 xs _ _ ⟨by decide +kernel, by decide +kernel⟩ h2
