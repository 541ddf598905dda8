theorem lc_0 {L t N kc ks : Nat} {xs : Nat → Int32} {h : Hp_} (hL : 6 * t + 6 ≤ L) (lL : L ≤ 3072) (L0 : Li N h) (R : Rm t N kc ks) (O : ∀ N kc ks h, Li N h → Rm (t + 1) N kc ks → AW (ML L xs) kc ks 2406 (lv5 (6 * t)) [] h k1_) : AW (ML L xs) kc ks 284 (lv5 (6 * t)) [] h k1_ := by
  have hk := R.ok (by omega)
  refine aw_aload_n (i := 1) rfl d_L_284 1 rfl ?_
  refine aw_arg (j := 1) d_L_285 d_L_286 d_L_288 d_L_289 d_L_290 ic_1 (oa_1 (by omega)) (by omega) lL ?_
  refine aw_arg (j := 2) d_L_291 d_L_292 d_L_294 d_L_295 d_L_296 ic_2 (oa_2 (by omega)) (by omega) lL ?_
  refine aw_arg (j := 3) d_L_297 d_L_298 d_L_300 d_L_301 d_L_302 ic_3 (oa_3 (by omega)) (by omega) lL ?_
  refine aw_Vi 0 [.int (xs (6 * t + 1)), .int (xs (6 * t + 2)), .int (xs (6 * t + 3))] [] d_L_303 (cV_X11_path (0 + 2) 0 0) kc_11 (ws_0 L0.1.1) tw_536 rfl ⟨⟨show 0 + 2 + 1 ≤ 2048 from by decide, show 8 + (4 + 11) + 100 * (0 + 2) ≤ 84000 from by decide⟩, show kc + 0 ≤ 494584 by omega, show ks + 0 ≤ 7612352 by omega⟩ (Nat.le_of_ble_eq_true rfl) xsL (c_ptX 0 L0.1 L0.q.1.2 _ _ _) (fun r1 h1 k1 => ?_)
  refine aw_pop d_L_306 rfl ?_
  refine aw_aload_n (i := 2) rfl d_L_307 2 rfl ?_
  refine aw_arg (j := 1) d_L_308 d_L_309 d_L_311 d_L_312 d_L_313 ic_1 (oa_1 (by omega)) (by omega) lL ?_
  refine aw_arg (j := 2) d_L_314 d_L_315 d_L_317 d_L_318 d_L_319 ic_2 (oa_2 (by omega)) (by omega) lL ?_
  refine aw_arg (j := 3) d_L_320 d_L_321 d_L_323 d_L_324 d_L_325 ic_3 (oa_3 (by omega)) (by omega) lL ?_
  refine aw_Vi 1 [.int (xs (6 * t + 1)), .int (xs (6 * t + 2)), .int (xs (6 * t + 3))] [] d_L_326 (cV_X12_path (0 + 2) 0 0) kc_12 (ws_1 k1.1.1) tw_2136 rfl ⟨⟨show 0 + 2 + 1 ≤ 2048 from by decide, show 8 + (4 + 11) + 100 * (0 + 2) ≤ 84000 from by decide⟩, show kc + 0 ≤ 494584 by omega, show ks + 0 ≤ 7612352 by omega⟩ (Nat.le_of_ble_eq_true rfl) xsL (c_ptM 0 k1.1 _ _ _) (fun r2 h2 k2 => ?_)
  refine aw_pop d_L_329 rfl ?_
  have L2 := (L0.pt k1 k2).1
  refine aw_goto (tgt := 2406) d_L_330 rfl ?_
  exact O _ _ _ _ L2 R.up
theorem lc_1 {L t N kc ks : Nat} {xs : Nat → Int32} {h : Hp_} (hL : 6 * t + 6 ≤ L) (lL : L ≤ 3072) (L0 : Li N h) (R : Rm t N kc ks) (O : ∀ N kc ks h, Li N h → Rm (t + 1) N kc ks → AW (ML L xs) kc ks 2406 (lv5 (6 * t)) [] h k1_) : AW (ML L xs) kc ks 333 (lv5 (6 * t)) [] h k1_ := by
  have hk := R.ok (by omega)
  refine aw_aload_n (i := 1) rfl d_L_333 1 rfl ?_
  refine aw_arg (j := 1) d_L_334 d_L_335 d_L_337 d_L_338 d_L_339 ic_1 (oa_1 (by omega)) (by omega) lL ?_
  refine aw_arg (j := 2) d_L_340 d_L_341 d_L_343 d_L_344 d_L_345 ic_2 (oa_2 (by omega)) (by omega) lL ?_
  refine aw_Kp (M' := m_X11_walk (0 + 2) 0 0) (a := 0) [.int (xs (6 * t + 1)), .int (xs (6 * t + 2))] (hc_X11_walk 0) ⟨⟨_, rfl, rtop_in _, fun _ y => (nomatch y)⟩, ⟨_, rfl, rtop_in _, fun _ y => (nomatch y)⟩, rfl, trivial⟩ L0.1 (fun _ y => (nomatch y)) d_L_346 (cV_X11_walk (0 + 2) 0 0) kc_11 (ws_0 L0.1.1) tw_553 rfl ⟨⟨show 0 + 2 + 1 ≤ 2048 from by decide, show 8 + (3 + 11) + 100 * (0 + 2) ≤ 84000 from by decide⟩, rfl, rfl⟩ ⟨show kc ≤ 494584 by omega, show ks ≤ 7612352 by omega⟩ ⟨_, rfl⟩ d_L_349 (fun h1 I1 F1 => ?_)
  have L1 := L0.fr I1 F1 (by decide +kernel)
  refine aw_aload_n (i := 2) rfl d_L_350 2 rfl ?_
  refine aw_arg (j := 1) d_L_351 d_L_352 d_L_354 d_L_355 d_L_356 ic_1 (oa_1 (by omega)) (by omega) lL ?_
  refine aw_arg (j := 2) d_L_357 d_L_358 d_L_360 d_L_361 d_L_362 ic_2 (oa_2 (by omega)) (by omega) lL ?_
  refine aw_Kp (M' := m_X12_walk (0 + 2) 0 0) (a := 1) [.int (xs (6 * t + 1)), .int (xs (6 * t + 2))] (hc_X12_walk 0) ⟨⟨_, rfl, rtop_in _, fun _ y => (nomatch y)⟩, ⟨_, rfl, rtop_in _, fun _ y => (nomatch y)⟩, rfl, trivial⟩ L1.1 (fun _ y => (nomatch y)) d_L_363 (cV_X12_walk (0 + 2) 0 0) kc_12 (ws_1 L1.1.1) tw_2146 rfl ⟨⟨show 0 + 2 + 1 ≤ 2048 from by decide, show 8 + (3 + 11) + 100 * (0 + 2) ≤ 84000 from by decide⟩, rfl, rfl⟩ ⟨show kc ≤ 494584 by omega, show ks ≤ 7612352 by omega⟩ ⟨_, rfl⟩ d_L_366 (fun h2 I2 F2 => ?_)
  have L2 := L1.fr I2 F2 (by decide +kernel)
  refine aw_goto (tgt := 2406) d_L_367 rfl ?_
  exact O _ _ _ _ L2 R.up
theorem lc_2 {L t N kc ks : Nat} {xs : Nat → Int32} {h : Hp_} (hL : 6 * t + 6 ≤ L) (lL : L ≤ 3072) (L0 : Li N h) (R : Rm t N kc ks) (O : ∀ N kc ks h, Li N h → Rm (t + 1) N kc ks → AW (ML L xs) kc ks 2406 (lv5 (6 * t)) [] h k1_) : AW (ML L xs) kc ks 370 (lv5 (6 * t)) [] h k1_ := by
  have hk := R.ok (by omega)
  refine aw_aload_n (i := 1) rfl d_L_370 1 rfl ?_
  refine aw_arg (j := 1) d_L_371 d_L_372 d_L_374 d_L_375 d_L_376 ic_1 (oa_1 (by omega)) (by omega) lL ?_
  refine aw_arg (j := 2) d_L_377 d_L_378 d_L_380 d_L_381 d_L_382 ic_2 (oa_2 (by omega)) (by omega) lL ?_
  refine aw_arg (j := 3) d_L_383 d_L_384 d_L_386 d_L_387 d_L_388 ic_3 (oa_3 (by omega)) (by omega) lL ?_
  refine aw_Vi 0 [.int (xs (6 * t + 1)), .int (xs (6 * t + 2)), .int (xs (6 * t + 3))] [] d_L_389 (cV_X11_constable (0 + 2) 1 17) kc_11 (ws_0 L0.1.1) tw_562 rfl ⟨⟨show 0 + 2 + 1 ≤ 2048 from by decide, show 8 + (6 + 11) + 100 * (0 + 2) ≤ 84000 from by decide⟩, show kc + 1 ≤ 494584 by omega, show ks + 17 ≤ 7612352 by omega⟩ (Nat.le_of_ble_eq_true rfl) xsL (c_con2 0 L0.1 _ _ _) (fun r1 h1 k1 => ?_)
  refine aw_pop d_L_392 rfl ?_
  have Z1 := L0.z.con k1.1.1
  refine aw_aload_n (i := 2) rfl d_L_393 2 rfl ?_
  refine aw_arg (j := 1) d_L_394 d_L_395 d_L_397 d_L_398 d_L_399 ic_1 (oa_1 (by omega)) (by omega) lL ?_
  refine aw_arg (j := 2) d_L_400 d_L_401 d_L_403 d_L_404 d_L_405 ic_2 (oa_2 (by omega)) (by omega) lL ?_
  refine aw_arg (j := 3) d_L_406 d_L_407 d_L_409 d_L_410 d_L_411 ic_3 (oa_3 (by omega)) (by omega) lL ?_
  refine aw_Vi 1 [.int (xs (6 * t + 1)), .int (xs (6 * t + 2)), .int (xs (6 * t + 3))] [] d_L_412 (cV_X12_constable (0 + 2) 0 0) kc_12 (ws_1 Z1.1.1) tw_2155 rfl ⟨⟨show 0 + 2 + 1 ≤ 2048 from by decide, show 8 + (4 + 11) + 100 * (0 + 2) ≤ 84000 from by decide⟩, show (kc + 1) + 0 ≤ 494584 by omega, show (ks + 17) + 0 ≤ 7612352 by omega⟩ (Nat.le_of_ble_eq_true rfl) xsL (m_con2 0 Z1.1 Z1.2.1 _ _ _) (fun r2 h2 k2 => ?_)
  refine aw_pop d_L_415 rfl ?_
  have L2 := L0.cn k1 k2
  refine aw_goto (tgt := 2406) d_L_416 rfl ?_
  exact O _ _ _ _ L2 R.con
theorem lc_3 {L t N kc ks : Nat} {xs : Nat → Int32} {h : Hp_} (hL : 6 * t + 6 ≤ L) (lL : L ≤ 3072) (L0 : Li N h) (R : Rm t N kc ks) (O : ∀ N kc ks h, Li N h → Rm (t + 1) N kc ks → AW (ML L xs) kc ks 2406 (lv5 (6 * t)) [] h k1_) : AW (ML L xs) kc ks 419 (lv5 (6 * t)) [] h k1_ := by
  have hk := R.ok (by omega)
  refine aw_aload_n (i := 1) rfl d_L_419 1 rfl ?_
  refine aw_arg (j := 1) d_L_420 d_L_421 d_L_423 d_L_424 d_L_425 ic_1 (oa_1 (by omega)) (by omega) lL ?_
  refine aw_arg (j := 2) d_L_426 d_L_427 d_L_429 d_L_430 d_L_431 ic_2 (oa_2 (by omega)) (by omega) lL ?_
  refine aw_arg (j := 3) d_L_432 d_L_433 d_L_435 d_L_436 d_L_437 ic_3 (oa_3 (by omega)) (by omega) lL ?_
  refine aw_arg (j := 4) d_L_438 d_L_439 d_L_441 d_L_442 d_L_443 ic_4 (oa_4 (by omega)) (by omega) lL ?_
  refine aw_arg (j := 5) d_L_444 d_L_445 d_L_447 d_L_448 d_L_449 ic_5 (oa_5 (by omega)) (by omega) lL ?_
  refine aw_Vi 0 [.int (xs (6 * t + 1)), .int (xs (6 * t + 2)), .int (xs (6 * t + 3)), .int (xs (6 * t + 4)), .int (xs (6 * t + 5))] [] d_L_450 (cV_X11_feed (0 + 2) 0 0) kc_11 (ws_0 L0.1.1) tw_641 rfl ⟨⟨show 0 + 2 + 1 ≤ 2048 from by decide, show 8 + (6 + 11) + 100 * (0 + 2) ≤ 84000 from by decide⟩, show kc + 0 ≤ 494584 by omega, show ks + 0 ≤ 7612352 by omega⟩ (Nat.le_of_ble_eq_true rfl) xsL (c_fdX 0 L0.1 _ _ _ _ _) (fun r1 h1 k1 => ?_)
  refine aw_pop d_L_453 rfl ?_
  refine aw_aload_n (i := 2) rfl d_L_454 2 rfl ?_
  refine aw_arg (j := 1) d_L_455 d_L_456 d_L_458 d_L_459 d_L_460 ic_1 (oa_1 (by omega)) (by omega) lL ?_
  refine aw_arg (j := 2) d_L_461 d_L_462 d_L_464 d_L_465 d_L_466 ic_2 (oa_2 (by omega)) (by omega) lL ?_
  refine aw_arg (j := 3) d_L_467 d_L_468 d_L_470 d_L_471 d_L_472 ic_3 (oa_3 (by omega)) (by omega) lL ?_
  refine aw_arg (j := 4) d_L_473 d_L_474 d_L_476 d_L_477 d_L_478 ic_4 (oa_4 (by omega)) (by omega) lL ?_
  refine aw_arg (j := 5) d_L_479 d_L_480 d_L_482 d_L_483 d_L_484 ic_5 (oa_5 (by omega)) (by omega) lL ?_
  refine aw_Vi 1 [.int (xs (6 * t + 1)), .int (xs (6 * t + 2)), .int (xs (6 * t + 3)), .int (xs (6 * t + 4)), .int (xs (6 * t + 5))] [] d_L_485 (cV_X12_feed (0 + 1) 0 0) kc_12 (ws_1 k1.1.1) tw_2179 rfl ⟨⟨show 0 + 1 + 1 ≤ 2048 from by decide, show 8 + (9 + 11) + 100 * (0 + 1) ≤ 84000 from by decide⟩, show kc + 0 ≤ 494584 by omega, show ks + 0 ≤ 7612352 by omega⟩ (Nat.le_of_ble_eq_true rfl) xsL (c_fdM 0 k1.1 _ _ _ _ _) (fun r2 h2 k2 => ?_)
  refine aw_pop d_L_488 rfl ?_
  have L2 := (L0.fd k1 k2).1
  refine aw_goto (tgt := 2406) d_L_489 rfl ?_
  exact O _ _ _ _ L2 R.up
theorem lc_4 {L t N kc ks : Nat} {xs : Nat → Int32} {h : Hp_} (hL : 6 * t + 6 ≤ L) (lL : L ≤ 3072) (L0 : Li N h) (R : Rm t N kc ks) (O : ∀ N kc ks h, Li N h → Rm (t + 1) N kc ks → AW (ML L xs) kc ks 2406 (lv5 (6 * t)) [] h k1_) : AW (ML L xs) kc ks 492 (lv5 (6 * t)) [] h k1_ := by
  have hk := R.ok (by omega)
  refine aw_aload_n (i := 1) rfl d_L_492 1 rfl ?_
  refine aw_arg (j := 1) d_L_493 d_L_494 d_L_496 d_L_497 d_L_498 ic_1 (oa_1 (by omega)) (by omega) lL ?_
  refine aw_Vi 0 [.int (xs (6 * t + 1))] [] d_L_499 (cV_X11_end (0 + 2) 0 0) kc_11 (ws_0 L0.1.1) tw_656 rfl ⟨⟨show 0 + 2 + 1 ≤ 2048 from by decide, show 8 + (2 + 11) + 100 * (0 + 2) ≤ 84000 from by decide⟩, show kc + 0 ≤ 494584 by omega, show ks + 0 ≤ 7612352 by omega⟩ (Nat.le_of_ble_eq_true rfl) xsL (c_enX 0 L0.1 _) (fun r1 h1 k1 => ?_)
  refine aw_pop d_L_502 rfl ?_
  refine aw_aload_n (i := 2) rfl d_L_503 2 rfl ?_
  refine aw_arg (j := 1) d_L_504 d_L_505 d_L_507 d_L_508 d_L_509 ic_1 (oa_1 (by omega)) (by omega) lL ?_
  refine aw_Vi 1 [.int (xs (6 * t + 1))] [] d_L_510 (cV_X12_end (0 + 0) 0 0) kc_12 (ws_1 k1.1.1) tw_2186 rfl ⟨⟨show 0 + 0 + 1 ≤ 2048 from by decide, show 8 + (2 + 11) + 100 * (0 + 0) ≤ 84000 from by decide⟩, show kc + 0 ≤ 494584 by omega, show ks + 0 ≤ 7612352 by omega⟩ (Nat.le_of_ble_eq_true rfl) xsL (c_enM 0 k1.1 _) (fun r2 h2 k2 => ?_)
  refine aw_pop d_L_513 rfl ?_
  have L2 := (L0.en k1 k2).1
  refine aw_goto (tgt := 2406) d_L_514 rfl ?_
  exact O _ _ _ _ L2 R.up
theorem lc_5 {L t N kc ks : Nat} {xs : Nat → Int32} {h : Hp_} (hL : 6 * t + 6 ≤ L) (lL : L ≤ 3072) (L0 : Li N h) (R : Rm t N kc ks) (O : ∀ N kc ks h, Li N h → Rm (t + 1) N kc ks → AW (ML L xs) kc ks 2406 (lv5 (6 * t)) [] h k1_) : AW (ML L xs) kc ks 517 (lv5 (6 * t)) [] h k1_ := by
  have hk := R.ok (by omega)
  refine aw_aload_n (i := 1) rfl d_L_517 1 rfl ?_
  refine aw_arg (j := 1) d_L_518 d_L_519 d_L_521 d_L_522 d_L_523 ic_1 (oa_1 (by omega)) (by omega) lL ?_
  refine aw_Kp (M' := m_X11_fault (0 + 38) 0 0) (a := 0) [.int (xs (6 * t + 1))] (hc_X11_fault 0) ⟨⟨_, rfl, rtop_in _, fun _ y => (nomatch y)⟩, rfl, trivial⟩ L0.1 (fun _ y => (nomatch y)) d_L_524 (cV_X11_fault (0 + 38) 0 0) kc_11 (ws_0 L0.1.1) tw_665 rfl ⟨⟨show 0 + 38 + 1 ≤ 2048 from by decide, show 8 + (2 + 11) + 100 * (0 + 38) ≤ 84000 from by decide⟩, rfl, rfl⟩ ⟨show kc ≤ 494584 by omega, show ks ≤ 7612352 by omega⟩ ⟨_, rfl⟩ d_L_527 (fun h1 I1 F1 => ?_)
  have L1 := L0.fr I1 F1 (by decide +kernel)
  refine aw_aload_n (i := 2) rfl d_L_528 2 rfl ?_
  refine aw_arg (j := 1) d_L_529 d_L_530 d_L_532 d_L_533 d_L_534 ic_1 (oa_1 (by omega)) (by omega) lL ?_
  refine aw_Vi 1 [.int (xs (6 * t + 1))] [] d_L_535 (cV_X12_fault (0 + 80 + 59) 0 0) kc_12 (ws_1 L1.1.1) tw_2291 rfl ⟨⟨show 0 + 80 + 59 + 1 ≤ 2048 from by decide, show 8 + (2 + 11) + 100 * (0 + 80 + 59) ≤ 84000 from by decide⟩, show kc + 0 ≤ 494584 by omega, show ks + 0 ≤ 7612352 by omega⟩ (Nat.le_of_ble_eq_true rfl) xsL (c_fault 0 L1.1 _) (fun r2 h2 k2 => ?_)
  refine aw_pop d_L_538 rfl ?_
  have L2 := L1.fr k2.1 k2.2.1 (by decide +kernel)
  refine aw_goto (tgt := 2406) d_L_539 rfl ?_
  exact O _ _ _ _ L2 R.up
theorem lc_6 {L t N kc ks : Nat} {xs : Nat → Int32} {h : Hp_} (hL : 6 * t + 6 ≤ L) (lL : L ≤ 3072) (L0 : Li N h) (R : Rm t N kc ks) (O : ∀ N kc ks h, Li N h → Rm (t + 1) N kc ks → AW (ML L xs) kc ks 2406 (lv5 (6 * t)) [] h k1_) : AW (ML L xs) kc ks 542 (lv5 (6 * t)) [] h k1_ := by
  have hk := R.ok (by omega)
  refine aw_aload_n (i := 1) rfl d_L_542 1 rfl ?_
  refine aw_Vi 0 [] [] d_L_543 (cV_X11_beat (0 + 105) 0 0) kc_11 (ws_0 L0.1.1) tw_872 rfl ⟨⟨show 0 + 105 + 1 ≤ 2048 from by decide, show 8 + (2 + 11) + 100 * (0 + 105) ≤ 84000 from by decide⟩, show kc + 0 ≤ 494584 by omega, show ks + 0 ≤ 7612352 by omega⟩ (Nat.le_of_ble_eq_true rfl) xsL (c_btX 0 L0.1) (fun r1 h1 k1 => ?_)
  refine aw_pop d_L_546 rfl ?_
  refine aw_aload_n (i := 2) rfl d_L_547 2 rfl ?_
  refine aw_Vi 1 [] [] d_L_548 (cV_X12_beat (0 + 80 + 60) 0 0) kc_12 (ws_1 k1.1.1) tw_2190 rfl ⟨⟨show 0 + 80 + 60 + 1 ≤ 2048 from by decide, show 8 + (1 + 11) + 100 * (0 + 80 + 60) ≤ 84000 from by decide⟩, show kc + 0 ≤ 494584 by omega, show ks + 0 ≤ 7612352 by omega⟩ (Nat.le_of_ble_eq_true rfl) xsL (c_btM 0 k1.1 (L0.t.q k1.2.1 (by decide +kernel))) (fun r2 h2 k2 => ?_)
  refine aw_pop d_L_551 rfl ?_
  have L2 := (L0.bt k1 k2).1
  refine aw_goto (tgt := 2406) d_L_552 rfl ?_
  exact O _ _ _ _ L2 R.up
theorem lc_7 {L t N kc ks : Nat} {xs : Nat → Int32} {h : Hp_} (hL : 6 * t + 6 ≤ L) (lL : L ≤ 3072) (L0 : Li N h) (R : Rm t N kc ks) (O : ∀ N kc ks h, Li N h → Rm (t + 1) N kc ks → AW (ML L xs) kc ks 2406 (lv5 (6 * t)) [] h k1_) : AW (ML L xs) kc ks 555 (lv5 (6 * t)) [] h k1_ := by
  have hk := R.ok (by omega)
  refine aw_aload_n (i := 1) rfl d_L_555 1 rfl ?_
  refine aw_arg (j := 1) d_L_556 d_L_557 d_L_559 d_L_560 d_L_561 ic_1 (oa_1 (by omega)) (by omega) lL ?_
  refine aw_arg (j := 2) d_L_562 d_L_563 d_L_565 d_L_566 d_L_567 ic_2 (oa_2 (by omega)) (by omega) lL ?_
  refine aw_Kp (M' := m_X11_beaten (0 + 2) 0 0) (a := 0) [.int (xs (6 * t + 1)), .int (xs (6 * t + 2))] (hc_X11_beaten 0) ⟨⟨_, rfl, rtop_in _, fun _ y => (nomatch y)⟩, ⟨_, rfl, rtop_in _, fun _ y => (nomatch y)⟩, rfl, trivial⟩ L0.1 (fun _ y => (nomatch y)) d_L_568 (cV_X11_beaten (0 + 2) 0 0) kc_11 (ws_0 L0.1.1) tw_883 rfl ⟨⟨show 0 + 2 + 1 ≤ 2048 from by decide, show 8 + (3 + 11) + 100 * (0 + 2) ≤ 84000 from by decide⟩, rfl, rfl⟩ ⟨show kc ≤ 494584 by omega, show ks ≤ 7612352 by omega⟩ ⟨_, rfl⟩ d_L_571 (fun h1 I1 F1 => ?_)
  have L1 := L0.fr I1 F1 (by decide +kernel)
  refine aw_aload_n (i := 2) rfl d_L_572 2 rfl ?_
  refine aw_arg (j := 1) d_L_573 d_L_574 d_L_576 d_L_577 d_L_578 ic_1 (oa_1 (by omega)) (by omega) lL ?_
  refine aw_arg (j := 2) d_L_579 d_L_580 d_L_582 d_L_583 d_L_584 ic_2 (oa_2 (by omega)) (by omega) lL ?_
  refine aw_Kp (M' := m_X12_beaten (0 + 1) 0 0) (a := 1) [.int (xs (6 * t + 1)), .int (xs (6 * t + 2))] (hc_X12_beaten 0) ⟨⟨_, rfl, rtop_in _, fun _ y => (nomatch y)⟩, ⟨_, rfl, rtop_in _, fun _ y => (nomatch y)⟩, rfl, trivial⟩ L1.1 (fun _ y => (nomatch y)) d_L_585 (cV_X12_beaten (0 + 1) 0 0) kc_12 (ws_1 L1.1.1) tw_2283 rfl ⟨⟨show 0 + 1 + 1 ≤ 2048 from by decide, show 8 + (3 + 11) + 100 * (0 + 1) ≤ 84000 from by decide⟩, rfl, rfl⟩ ⟨show kc ≤ 494584 by omega, show ks ≤ 7612352 by omega⟩ ⟨_, rfl⟩ d_L_588 (fun h2 I2 F2 => ?_)
  have L2 := L1.fr I2 F2 (by decide +kernel)
  refine aw_goto (tgt := 2406) d_L_589 rfl ?_
  exact O _ _ _ _ L2 R.up
theorem lc_8 {L t N kc ks : Nat} {xs : Nat → Int32} {h : Hp_} (hL : 6 * t + 6 ≤ L) (lL : L ≤ 3072) (L0 : Li N h) (R : Rm t N kc ks) (O : ∀ N kc ks h, Li N h → Rm (t + 1) N kc ks → AW (ML L xs) kc ks 2406 (lv5 (6 * t)) [] h k1_) : AW (ML L xs) kc ks 592 (lv5 (6 * t)) [] h k1_ := by
  have hk := R.ok (by omega)
  refine aw_aload_n (i := 1) rfl d_L_592 1 rfl ?_
  refine aw_arg (j := 1) d_L_593 d_L_594 d_L_596 d_L_597 d_L_598 ic_1 (oa_1 (by omega)) (by omega) lL ?_
  refine aw_arg (j := 2) d_L_599 d_L_600 d_L_602 d_L_603 d_L_604 ic_2 (oa_2 (by omega)) (by omega) lL ?_
  refine aw_Vi 0 [.int (xs (6 * t + 1)), .int (xs (6 * t + 2))] [] d_L_605 (cV_X11_begin (0 + 6) 0 0) kc_11 (ws_0 L0.1.1) tw_900 rfl ⟨⟨show 0 + 6 + 1 ≤ 2048 from by decide, show 8 + (4 + 11) + 100 * (0 + 6) ≤ 84000 from by decide⟩, show kc + 0 ≤ 494584 by omega, show ks + 0 ≤ 7612352 by omega⟩ (Nat.le_of_ble_eq_true rfl) xsL (c_bgL 0 L0.1 L0 _ _) (fun r1 h1 k1 => ?_)
  refine aw_pop d_L_608 rfl ?_
  refine aw_aload_n (i := 2) rfl d_L_609 2 rfl ?_
  refine aw_arg (j := 1) d_L_610 d_L_611 d_L_613 d_L_614 d_L_615 ic_1 (oa_1 (by omega)) (by omega) lL ?_
  refine aw_arg (j := 2) d_L_616 d_L_617 d_L_619 d_L_620 d_L_621 ic_2 (oa_2 (by omega)) (by omega) lL ?_
  refine aw_Vi 1 [.int (xs (6 * t + 1)), .int (xs (6 * t + 2))] [] d_L_622 (cV_X12_begin (0 + 4) 0 0) kc_12 (ws_1 k1.1.1) tw_2332 rfl ⟨⟨show 0 + 4 + 1 ≤ 2048 from by decide, show 8 + (4 + 11) + 100 * (0 + 4) ≤ 84000 from by decide⟩, show kc + 0 ≤ 494584 by omega, show ks + 0 ≤ 7612352 by omega⟩ (Nat.le_of_ble_eq_true rfl) xsL (c_bgN 0 k1.1 L0 k1.2.1 _ _) (fun r2 h2 k2 => ?_)
  refine aw_pop d_L_625 rfl ?_
  have L2 := (L0.bg k1 k2).1
  refine aw_goto (tgt := 2406) d_L_626 rfl ?_
  exact O _ _ _ _ L2 R.up
theorem lc_9 {L t N kc ks : Nat} {xs : Nat → Int32} {h : Hp_} (hL : 6 * t + 6 ≤ L) (lL : L ≤ 3072) (L0 : Li N h) (R : Rm t N kc ks) (O : ∀ N kc ks h, Li N h → Rm (t + 1) N kc ks → AW (ML L xs) kc ks 2406 (lv5 (6 * t)) [] h k1_) : AW (ML L xs) kc ks 629 (lv5 (6 * t)) [] h k1_ := by
  have hk := R.ok (by omega)
  refine aw_aload_n (i := 1) rfl d_L_629 1 rfl ?_
  refine aw_arg (j := 1) d_L_630 d_L_631 d_L_633 d_L_634 d_L_635 ic_1 (oa_1 (by omega)) (by omega) lL ?_
  refine aw_arg (j := 2) d_L_636 d_L_637 d_L_639 d_L_640 d_L_641 ic_2 (oa_2 (by omega)) (by omega) lL ?_
  refine aw_arg (j := 3) d_L_642 d_L_643 d_L_645 d_L_646 d_L_647 ic_3 (oa_3 (by omega)) (by omega) lL ?_
  refine aw_Vi 0 [.int (xs (6 * t + 1)), .int (xs (6 * t + 2)), .int (xs (6 * t + 3))] [] d_L_648 (cV_X11_draw (0 + 5) 0 0) kc_11 (ws_0 L0.1.1) tw_971 rfl ⟨⟨show 0 + 5 + 1 ≤ 2048 from by decide, show 8 + (5 + 11) + 100 * (0 + 5) ≤ 84000 from by decide⟩, show kc + 0 ≤ 494584 by omega, show ks + 0 ≤ 7612352 by omega⟩ (Nat.le_of_ble_eq_true rfl) xsL (c_dwL 0 L0.1 L0 _ _ _) (fun r1 h1 k1 => ?_)
  refine aw_pop d_L_651 rfl ?_
  refine aw_aload_n (i := 2) rfl d_L_652 2 rfl ?_
  refine aw_arg (j := 1) d_L_653 d_L_654 d_L_656 d_L_657 d_L_658 ic_1 (oa_1 (by omega)) (by omega) lL ?_
  refine aw_arg (j := 2) d_L_659 d_L_660 d_L_662 d_L_663 d_L_664 ic_2 (oa_2 (by omega)) (by omega) lL ?_
  refine aw_arg (j := 3) d_L_665 d_L_666 d_L_668 d_L_669 d_L_670 ic_3 (oa_3 (by omega)) (by omega) lL ?_
  refine aw_Vi 1 [.int (xs (6 * t + 1)), .int (xs (6 * t + 2)), .int (xs (6 * t + 3))] [] d_L_671 (cV_X12_draw (0 + 5) 0 0) kc_12 (ws_1 k1.1.1) tw_2360 rfl ⟨⟨show 0 + 5 + 1 ≤ 2048 from by decide, show 8 + (4 + 11) + 100 * (0 + 5) ≤ 84000 from by decide⟩, show kc + 0 ≤ 494584 by omega, show ks + 0 ≤ 7612352 by omega⟩ (Nat.le_of_ble_eq_true rfl) xsL (c_dwN 0 k1.1 L0 k1.2.1 _ _ _) (fun r2 h2 k2 => ?_)
  refine aw_pop d_L_674 rfl ?_
  have L2 := (L0.dw k1 k2).1
  refine aw_goto (tgt := 2406) d_L_675 rfl ?_
  exact O _ _ _ _ L2 R.up
theorem lc_10 {L t N kc ks : Nat} {xs : Nat → Int32} {h : Hp_} (hL : 6 * t + 6 ≤ L) (lL : L ≤ 3072) (L0 : Li N h) (R : Rm t N kc ks) (O : ∀ N kc ks h, Li N h → Rm (t + 1) N kc ks → AW (ML L xs) kc ks 2406 (lv5 (6 * t)) [] h k1_) : AW (ML L xs) kc ks 678 (lv5 (6 * t)) [] h k1_ := by
  have hk := R.ok (by omega)
  refine aw_aload_n (i := 1) rfl d_L_678 1 rfl ?_
  refine aw_arg (j := 1) d_L_679 d_L_680 d_L_682 d_L_683 d_L_684 ic_1 (oa_1 (by omega)) (by omega) lL ?_
  refine aw_arg (j := 2) d_L_685 d_L_686 d_L_688 d_L_689 d_L_690 ic_2 (oa_2 (by omega)) (by omega) lL ?_
  refine aw_if_eq (tgt := 698) d_L_691 rfl (fun y691 => ?_) (fun y691 => ?_)
  · refine aw_iconst (v := 0) d_L_698 ic_0 ?_
    refine aw_Vi 0 [.int (xs (6 * t + 1)), .int 0] [] d_L_699 (cV_X11_ill (0 + 3) 0 0) kc_11 (ws_0 L0.1.1) tw_987 rfl ⟨⟨show 0 + 3 + 1 ≤ 2048 from by decide, show 8 + (4 + 11) + 100 * (0 + 3) ≤ 84000 from by decide⟩, show kc + 0 ≤ 494584 by omega, show ks + 0 ≤ 7612352 by omega⟩ (Nat.le_of_ble_eq_true rfl) xsL (c_ilL 0 L0.1 L0 _ _) (fun r1 h1 k1 => ?_)
    refine aw_pop d_L_702 rfl ?_
    refine aw_aload_n (i := 2) rfl d_L_703 2 rfl ?_
    refine aw_arg (j := 1) d_L_704 d_L_705 d_L_707 d_L_708 d_L_709 ic_1 (oa_1 (by omega)) (by omega) lL ?_
    refine aw_arg (j := 2) d_L_710 d_L_711 d_L_713 d_L_714 d_L_715 ic_2 (oa_2 (by omega)) (by omega) lL ?_
    refine aw_if_eq (tgt := 723) d_L_716 rfl (fun _ => ?_) (fun z => absurd y691 z)
    refine aw_iconst (v := 0) d_L_723 ic_0 ?_
    refine aw_Vi 1 [.int (xs (6 * t + 1)), .int 0] [] d_L_724 (cV_X12_ill (0 + 2) 0 0) kc_12 (ws_1 k1.1.1) tw_2376 rfl ⟨⟨show 0 + 2 + 1 ≤ 2048 from by decide, show 8 + (3 + 11) + 100 * (0 + 2) ≤ 84000 from by decide⟩, show kc + 0 ≤ 494584 by omega, show ks + 0 ≤ 7612352 by omega⟩ (Nat.le_of_ble_eq_true rfl) xsL (c_ilN 0 k1.1 L0 k1.2.1 _ _) (fun r2 h2 k2 => ?_)
    refine aw_pop d_L_727 rfl ?_
    have L2 := (L0.il k1 k2).1
    refine aw_goto (tgt := 2406) d_L_728 rfl ?_
    exact O _ _ _ _ L2 R.up
  · refine aw_iconst (v := 1) d_L_694 ic_1 ?_
    refine aw_goto (tgt := 699) d_L_695 rfl ?_
    refine aw_Vi 0 [.int (xs (6 * t + 1)), .int 1] [] d_L_699 (cV_X11_ill (0 + 3) 0 0) kc_11 (ws_0 L0.1.1) tw_987 rfl ⟨⟨show 0 + 3 + 1 ≤ 2048 from by decide, show 8 + (4 + 11) + 100 * (0 + 3) ≤ 84000 from by decide⟩, show kc + 0 ≤ 494584 by omega, show ks + 0 ≤ 7612352 by omega⟩ (Nat.le_of_ble_eq_true rfl) xsL (c_ilL 0 L0.1 L0 _ _) (fun r1 h1 k1 => ?_)
    refine aw_pop d_L_702 rfl ?_
    refine aw_aload_n (i := 2) rfl d_L_703 2 rfl ?_
    refine aw_arg (j := 1) d_L_704 d_L_705 d_L_707 d_L_708 d_L_709 ic_1 (oa_1 (by omega)) (by omega) lL ?_
    refine aw_arg (j := 2) d_L_710 d_L_711 d_L_713 d_L_714 d_L_715 ic_2 (oa_2 (by omega)) (by omega) lL ?_
    refine aw_if_eq (tgt := 723) d_L_716 rfl (fun z => absurd z y691) (fun _ => ?_)
    refine aw_iconst (v := 1) d_L_719 ic_1 ?_
    refine aw_goto (tgt := 724) d_L_720 rfl ?_
    refine aw_Vi 1 [.int (xs (6 * t + 1)), .int 1] [] d_L_724 (cV_X12_ill (0 + 2) 0 0) kc_12 (ws_1 k1.1.1) tw_2376 rfl ⟨⟨show 0 + 2 + 1 ≤ 2048 from by decide, show 8 + (3 + 11) + 100 * (0 + 2) ≤ 84000 from by decide⟩, show kc + 0 ≤ 494584 by omega, show ks + 0 ≤ 7612352 by omega⟩ (Nat.le_of_ble_eq_true rfl) xsL (c_ilN 0 k1.1 L0 k1.2.1 _ _) (fun r2 h2 k2 => ?_)
    refine aw_pop d_L_727 rfl ?_
    have L2 := (L0.il k1 k2).1
    refine aw_goto (tgt := 2406) d_L_728 rfl ?_
    exact O _ _ _ _ L2 R.up
theorem lc_11 {L t N kc ks : Nat} {xs : Nat → Int32} {h : Hp_} (hL : 6 * t + 6 ≤ L) (lL : L ≤ 3072) (L0 : Li N h) (R : Rm t N kc ks) (O : ∀ N kc ks h, Li N h → Rm (t + 1) N kc ks → AW (ML L xs) kc ks 2406 (lv5 (6 * t)) [] h k1_) : AW (ML L xs) kc ks 731 (lv5 (6 * t)) [] h k1_ := by
  have hk := R.ok (by omega)
  refine aw_aload_n (i := 1) rfl d_L_731 1 rfl ?_
  refine aw_arg (j := 1) d_L_732 d_L_733 d_L_735 d_L_736 d_L_737 ic_1 (oa_1 (by omega)) (by omega) lL ?_
  obtain ⟨c0, r0, s0⟩ := L0.2.2.2.1
  obtain ⟨mc, ms, N2, lN, hq, C⟩ := c_tkL 0 L0.1 L0 (xs (6 * t + 1)) r0 s0 R.2.2
  have hq2 : mc ≤ 1 ∧ ms ≤ 20000 := hcost_le hq lN
  refine aw_Vi 0 [.int (xs (6 * t + 1))] [] d_L_738 (cV_X11_tick (0 + 8) mc ms) kc_11 (ws_0 L0.1.1) tw_991 rfl ⟨⟨show 0 + 8 + 1 ≤ 2048 from by decide, show 8 + (5 + 11) + 100 * (0 + 8) ≤ 84000 from by decide⟩, show kc + mc ≤ 494584 by omega, show ks + ms ≤ 7612352 by omega⟩ (Nat.le_of_ble_eq_true rfl) xsL C (fun r1 h1 k1 => ?_)
  refine aw_pop d_L_741 rfl ?_
  have Z1 : Li0 N2 h1 := L0.z.tick k1.1
  refine aw_aload_n (i := 2) rfl d_L_742 2 rfl ?_
  refine aw_arg (j := 1) d_L_743 d_L_744 d_L_746 d_L_747 d_L_748 ic_1 (oa_1 (by omega)) (by omega) lL ?_
  refine aw_Vi 1 [.int (xs (6 * t + 1))] [] d_L_749 (cV_X12_tick (0 + 10) 0 0) kc_12 (ws_1 Z1.1.1) tw_2380 rfl ⟨⟨show 0 + 10 + 1 ≤ 2048 from by decide, show 8 + (4 + 11) + 100 * (0 + 10) ≤ 84000 from by decide⟩, show (kc + mc) + 0 ≤ 494584 by omega, show (ks + ms) + 0 ≤ 7612352 by omega⟩ (Nat.le_of_ble_eq_true rfl) xsL (c_tmL 0 Z1.1 Z1.2.1 L0 k1.1.2.1 _) (fun r2 h2 k2 => ?_)
  refine aw_pop d_L_752 rfl ?_
  have L2 := L0.tk k1 k2
  refine aw_goto (tgt := 2406) d_L_753 rfl ?_
  exact O _ _ _ _ L2 (R.tick hq lN)
theorem lc_12 {L t N kc ks : Nat} {xs : Nat → Int32} {h : Hp_} (hL : 6 * t + 6 ≤ L) (lL : L ≤ 3072) (L0 : Li N h) (R : Rm t N kc ks) (O : ∀ N kc ks h, Li N h → Rm (t + 1) N kc ks → AW (ML L xs) kc ks 2406 (lv5 (6 * t)) [] h k1_) : AW (ML L xs) kc ks 756 (lv5 (6 * t)) [] h k1_ := by
  have hk := R.ok (by omega)
  refine aw_aload_n (i := 1) rfl d_L_756 1 rfl ?_
  refine aw_arg (j := 1) d_L_757 d_L_758 d_L_760 d_L_761 d_L_762 ic_1 (oa_1 (by omega)) (by omega) lL ?_
  refine aw_arg (j := 2) d_L_763 d_L_764 d_L_766 d_L_767 d_L_768 ic_2 (oa_2 (by omega)) (by omega) lL ?_
  refine aw_aload_n (i := 3) rfl d_L_769 3 rfl ?_
  refine aw_La L0.1 L0.2.2.1 (xs (6 * t + 1)) (xs (6 * t + 2)) d_L_770 ⟨show kc + 1 ≤ 494584 by omega, show ks + 6 ≤ 7612352 by omega⟩ (fun r1 h1 I1 F1 => ?_)
  have L1 := L0.fr I1 F1 (by decide +kernel)
  refine aw_istore [(0, .ref 1100), (1, .ref 0), (2, .ref 1), (3, .ref 2), (4, .int (Int32.ofNat (6 * t))), (5, .int r1)] d_L_773 (Nat.le_of_ble_eq_true rfl) rfl rfl ?_
  refine aw_aload_n (i := 2) rfl d_L_775 2 rfl ?_
  refine aw_arg2 (j := 1) d_L_776 d_L_777 d_L_779 d_L_780 d_L_781 ic_1 (oa_1 (by omega)) (by omega) lL ?_
  refine aw_arg2 (j := 2) d_L_782 d_L_783 d_L_785 d_L_786 d_L_787 ic_2 (oa_2 (by omega)) (by omega) lL ?_
  refine aw_Vk (M' := m_X12_about (0 + 2) 0 0) (a := 1) (rest := []) [.int (xs (6 * t + 1)), .int (xs (6 * t + 2))] (hc_X12_about 0) ⟨⟨_, rfl, rtop_in _, fun _ y => (nomatch y)⟩, ⟨_, rfl, rtop_in _, fun _ y => (nomatch y)⟩, rfl, trivial⟩ L1.1 (fun _ y => (nomatch y)) d_L_788 (cV_X12_about (0 + 2) 0 0) kc_12 (ws_1 L1.1.1) tw_2450 rfl (Nat.le_of_ble_eq_true rfl) ⟨⟨show 0 + 2 + 1 ≤ 2048 from by decide, show 8 + (3 + 11) + 100 * (0 + 2) ≤ 84000 from by decide⟩, rfl, rfl, xsL⟩ ⟨show (kc + 1) ≤ 494584 by omega, show (ks + 6) ≤ 7612352 by omega⟩ (fun v2 h2 k2 => ?_)
  obtain ⟨I2, F2, _, x2, ev, y2, ey, _⟩ := k2
  subst ev ey
  have L2 := L1.fr I2 F2 (by decide +kernel)
  refine aw_istore [(0, .ref 1100), (1, .ref 0), (2, .ref 1), (3, .ref 2), (4, .int (Int32.ofNat (6 * t))), (5, .int r1), (6, .int y2)] d_L_791 (Nat.le_of_ble_eq_true rfl) rfl rfl ?_
  refine aw_goto (tgt := 2406) d_L_793 rfl ?_
  refine aw_lvp [0, 1, 2, 3, 4] (lv5 (6 * t)) rfl ?_
  exact O _ _ _ _ L2 R.abt
theorem lc_13 {L t N kc ks : Nat} {xs : Nat → Int32} {h : Hp_} (hL : 6 * t + 6 ≤ L) (lL : L ≤ 3072) (L0 : Li N h) (R : Rm t N kc ks) (O : ∀ N kc ks h, Li N h → Rm (t + 1) N kc ks → AW (ML L xs) kc ks 2406 (lv5 (6 * t)) [] h k1_) : AW (ML L xs) kc ks 796 (lv5 (6 * t)) [] h k1_ := by
  have hk := R.ok (by omega)
  refine aw_aload_n (i := 1) rfl d_L_796 1 rfl ?_
  refine aw_arg (j := 1) d_L_797 d_L_798 d_L_800 d_L_801 d_L_802 ic_1 (oa_1 (by omega)) (by omega) lL ?_
  refine aw_arg (j := 2) d_L_803 d_L_804 d_L_806 d_L_807 d_L_808 ic_2 (oa_2 (by omega)) (by omega) lL ?_
  refine aw_Kp (M' := m_X11_was (0 + 3) 0 0) (a := 0) [.int (xs (6 * t + 1)), .int (xs (6 * t + 2))] (hc_X11_was 0) ⟨⟨_, rfl, rtop_in _, fun _ y => (nomatch y)⟩, ⟨_, rfl, rtop_in _, fun _ y => (nomatch y)⟩, rfl, trivial⟩ L0.1 (fun _ y => (nomatch y)) d_L_809 (cV_X11_was (0 + 3) 0 0) kc_11 (ws_0 L0.1.1) tw_1094 rfl ⟨⟨show 0 + 3 + 1 ≤ 2048 from by decide, show 8 + (4 + 11) + 100 * (0 + 3) ≤ 84000 from by decide⟩, rfl, rfl⟩ ⟨show kc ≤ 494584 by omega, show ks ≤ 7612352 by omega⟩ ⟨_, rfl⟩ d_L_812 (fun h1 I1 F1 => ?_)
  have L1 := L0.fr I1 F1 (by decide +kernel)
  refine aw_aload_n (i := 2) rfl d_L_813 2 rfl ?_
  refine aw_arg (j := 1) d_L_814 d_L_815 d_L_817 d_L_818 d_L_819 ic_1 (oa_1 (by omega)) (by omega) lL ?_
  refine aw_arg (j := 2) d_L_820 d_L_821 d_L_823 d_L_824 d_L_825 ic_2 (oa_2 (by omega)) (by omega) lL ?_
  refine aw_Kp (M' := m_X12_was (0 + 2) 0 0) (a := 1) [.int (xs (6 * t + 1)), .int (xs (6 * t + 2))] (hc_X12_was 0) ⟨⟨_, rfl, rtop_in _, fun _ y => (nomatch y)⟩, ⟨_, rfl, rtop_in _, fun _ y => (nomatch y)⟩, rfl, trivial⟩ L1.1 (fun _ y => (nomatch y)) d_L_826 (cV_X12_was (0 + 2) 0 0) kc_12 (ws_1 L1.1.1) tw_2458 rfl ⟨⟨show 0 + 2 + 1 ≤ 2048 from by decide, show 8 + (3 + 11) + 100 * (0 + 2) ≤ 84000 from by decide⟩, rfl, rfl⟩ ⟨show kc ≤ 494584 by omega, show ks ≤ 7612352 by omega⟩ ⟨_, rfl⟩ d_L_829 (fun h2 I2 F2 => ?_)
  have L2 := L1.fr I2 F2 (by decide +kernel)
  refine aw_goto (tgt := 2406) d_L_830 rfl ?_
  exact O _ _ _ _ L2 R.up
theorem lc_14 {L t N kc ks : Nat} {xs : Nat → Int32} {h : Hp_} (hL : 6 * t + 6 ≤ L) (lL : L ≤ 3072) (L0 : Li N h) (R : Rm t N kc ks) (O : ∀ N kc ks h, Li N h → Rm (t + 1) N kc ks → AW (ML L xs) kc ks 2406 (lv5 (6 * t)) [] h k1_) : AW (ML L xs) kc ks 833 (lv5 (6 * t)) [] h k1_ := by
  have hk := R.ok (by omega)
  refine aw_aload_n (i := 1) rfl d_L_833 1 rfl ?_
  refine aw_arg (j := 1) d_L_834 d_L_835 d_L_837 d_L_838 d_L_839 ic_1 (oa_1 (by omega)) (by omega) lL ?_
  refine aw_arg (j := 2) d_L_840 d_L_841 d_L_843 d_L_844 d_L_845 ic_2 (oa_2 (by omega)) (by omega) lL ?_
  refine aw_arg (j := 3) d_L_846 d_L_847 d_L_849 d_L_850 d_L_851 ic_3 (oa_3 (by omega)) (by omega) lL ?_
  refine aw_Kp (M' := m_X11_point (0 + 3) 0 0) (a := 0) [.int (xs (6 * t + 1)), .int (xs (6 * t + 2)), .int (xs (6 * t + 3))] (hc_X11_point 0) ⟨⟨_, rfl, rtop_in _, fun _ y => (nomatch y)⟩, ⟨_, rfl, rtop_in _, fun _ y => (nomatch y)⟩, ⟨_, rfl, rtop_in _, fun _ y => (nomatch y)⟩, rfl, trivial⟩ L0.1 (fun _ y => (nomatch y)) d_L_852 (cV_X11_point (0 + 3) 0 0) kc_11 (ws_0 L0.1.1) tw_1110 rfl ⟨⟨show 0 + 3 + 1 ≤ 2048 from by decide, show 8 + (4 + 11) + 100 * (0 + 3) ≤ 84000 from by decide⟩, rfl, rfl⟩ ⟨show kc ≤ 494584 by omega, show ks ≤ 7612352 by omega⟩ ⟨_, rfl⟩ d_L_855 (fun h1 I1 F1 => ?_)
  have L1 := L0.fr I1 F1 (by decide +kernel)
  refine aw_aload_n (i := 2) rfl d_L_856 2 rfl ?_
  refine aw_arg (j := 1) d_L_857 d_L_858 d_L_860 d_L_861 d_L_862 ic_1 (oa_1 (by omega)) (by omega) lL ?_
  refine aw_arg (j := 2) d_L_863 d_L_864 d_L_866 d_L_867 d_L_868 ic_2 (oa_2 (by omega)) (by omega) lL ?_
  refine aw_arg (j := 3) d_L_869 d_L_870 d_L_872 d_L_873 d_L_874 ic_3 (oa_3 (by omega)) (by omega) lL ?_
  refine aw_Kp (M' := m_X12_point (0 + 2) 0 0) (a := 1) [.int (xs (6 * t + 1)), .int (xs (6 * t + 2)), .int (xs (6 * t + 3))] (hc_X12_point 0) ⟨⟨_, rfl, rtop_in _, fun _ y => (nomatch y)⟩, ⟨_, rfl, rtop_in _, fun _ y => (nomatch y)⟩, ⟨_, rfl, rtop_in _, fun _ y => (nomatch y)⟩, rfl, trivial⟩ L1.1 (fun _ y => (nomatch y)) d_L_875 (cV_X12_point (0 + 2) 0 0) kc_12 (ws_1 L1.1.1) tw_2312 rfl ⟨⟨show 0 + 2 + 1 ≤ 2048 from by decide, show 8 + (4 + 11) + 100 * (0 + 2) ≤ 84000 from by decide⟩, rfl, rfl⟩ ⟨show kc ≤ 494584 by omega, show ks ≤ 7612352 by omega⟩ ⟨_, rfl⟩ d_L_878 (fun h2 I2 F2 => ?_)
  have L2 := L1.fr I2 F2 (by decide +kernel)
  refine aw_goto (tgt := 2406) d_L_879 rfl ?_
  exact O _ _ _ _ L2 R.up
theorem lc_15 {L t N kc ks : Nat} {xs : Nat → Int32} {h : Hp_} (hL : 6 * t + 6 ≤ L) (lL : L ≤ 3072) (L0 : Li N h) (R : Rm t N kc ks) (O : ∀ N kc ks h, Li N h → Rm (t + 1) N kc ks → AW (ML L xs) kc ks 2406 (lv5 (6 * t)) [] h k1_) : AW (ML L xs) kc ks 882 (lv5 (6 * t)) [] h k1_ := by
  have hk := R.ok (by omega)
  refine aw_aload_n (i := 1) rfl d_L_882 1 rfl ?_
  refine aw_arg (j := 1) d_L_883 d_L_884 d_L_886 d_L_887 d_L_888 ic_1 (oa_1 (by omega)) (by omega) lL ?_
  refine aw_arg (j := 2) d_L_889 d_L_890 d_L_892 d_L_893 d_L_894 ic_2 (oa_2 (by omega)) (by omega) lL ?_
  refine aw_Kp (M' := m_X11_cause (0 + 2) 0 0) (a := 0) [.int (xs (6 * t + 1)), .int (xs (6 * t + 2))] (hc_X11_cause 0) ⟨⟨_, rfl, rtop_in _, fun _ y => (nomatch y)⟩, ⟨_, rfl, rtop_in _, fun _ y => (nomatch y)⟩, rfl, trivial⟩ L0.1 (fun _ y => (nomatch y)) d_L_895 (cV_X11_cause (0 + 2) 0 0) kc_11 (ws_0 L0.1.1) tw_1131 rfl ⟨⟨show 0 + 2 + 1 ≤ 2048 from by decide, show 8 + (3 + 11) + 100 * (0 + 2) ≤ 84000 from by decide⟩, rfl, rfl⟩ ⟨show kc ≤ 494584 by omega, show ks ≤ 7612352 by omega⟩ ⟨_, rfl⟩ d_L_898 (fun h1 I1 F1 => ?_)
  have L1 := L0.fr I1 F1 (by decide +kernel)
  refine aw_aload_n (i := 2) rfl d_L_899 2 rfl ?_
  refine aw_arg (j := 1) d_L_900 d_L_901 d_L_903 d_L_904 d_L_905 ic_1 (oa_1 (by omega)) (by omega) lL ?_
  refine aw_arg (j := 2) d_L_906 d_L_907 d_L_909 d_L_910 d_L_911 ic_2 (oa_2 (by omega)) (by omega) lL ?_
  refine aw_Kp (M' := m_X12_cause (0 + 1) 0 0) (a := 1) [.int (xs (6 * t + 1)), .int (xs (6 * t + 2))] (hc_X12_cause 0) ⟨⟨_, rfl, rtop_in _, fun _ y => (nomatch y)⟩, ⟨_, rfl, rtop_in _, fun _ y => (nomatch y)⟩, rfl, trivial⟩ L1.1 (fun _ y => (nomatch y)) d_L_912 (cV_X12_cause (0 + 1) 0 0) kc_12 (ws_1 L1.1.1) tw_2324 rfl ⟨⟨show 0 + 1 + 1 ≤ 2048 from by decide, show 8 + (3 + 11) + 100 * (0 + 1) ≤ 84000 from by decide⟩, rfl, rfl⟩ ⟨show kc ≤ 494584 by omega, show ks ≤ 7612352 by omega⟩ ⟨_, rfl⟩ d_L_915 (fun h2 I2 F2 => ?_)
  have L2 := L1.fr I2 F2 (by decide +kernel)
  refine aw_goto (tgt := 2406) d_L_916 rfl ?_
  exact O _ _ _ _ L2 R.up
theorem lc_16 {L t N kc ks : Nat} {xs : Nat → Int32} {h : Hp_} (hL : 6 * t + 6 ≤ L) (lL : L ≤ 3072) (L0 : Li N h) (R : Rm t N kc ks) (O : ∀ N kc ks h, Li N h → Rm (t + 1) N kc ks → AW (ML L xs) kc ks 2406 (lv5 (6 * t)) [] h k1_) : AW (ML L xs) kc ks 919 (lv5 (6 * t)) [] h k1_ := by
  have hk := R.ok (by omega)
  refine aw_aload_n (i := 1) rfl d_L_919 1 rfl ?_
  refine aw_arg (j := 1) d_L_920 d_L_921 d_L_923 d_L_924 d_L_925 ic_1 (oa_1 (by omega)) (by omega) lL ?_
  refine aw_arg (j := 2) d_L_926 d_L_927 d_L_929 d_L_930 d_L_931 ic_2 (oa_2 (by omega)) (by omega) lL ?_
  refine aw_Kp (M' := m_X11_causes (0 + 3) 0 0) (a := 0) [.int (xs (6 * t + 1)), .int (xs (6 * t + 2))] (hc_X11_causes 0) ⟨⟨_, rfl, rtop_in _, fun _ y => (nomatch y)⟩, ⟨_, rfl, rtop_in _, fun _ y => (nomatch y)⟩, rfl, trivial⟩ L0.1 (fun _ y => (nomatch y)) d_L_932 (cV_X11_causes (0 + 3) 0 0) kc_11 (ws_0 L0.1.1) tw_1139 rfl ⟨⟨show 0 + 3 + 1 ≤ 2048 from by decide, show 8 + (3 + 11) + 100 * (0 + 3) ≤ 84000 from by decide⟩, rfl, rfl⟩ ⟨show kc ≤ 494584 by omega, show ks ≤ 7612352 by omega⟩ ⟨_, rfl⟩ d_L_935 (fun h1 I1 F1 => ?_)
  have L1 := L0.fr I1 F1 (by decide +kernel)
  refine aw_aload_n (i := 2) rfl d_L_936 2 rfl ?_
  refine aw_arg (j := 1) d_L_937 d_L_938 d_L_940 d_L_941 d_L_942 ic_1 (oa_1 (by omega)) (by omega) lL ?_
  refine aw_arg (j := 2) d_L_943 d_L_944 d_L_946 d_L_947 d_L_948 ic_2 (oa_2 (by omega)) (by omega) lL ?_
  refine aw_Kp (M' := m_X12_causes (0 + 2) 0 0) (a := 1) [.int (xs (6 * t + 1)), .int (xs (6 * t + 2))] (hc_X12_causes 0) ⟨⟨_, rfl, rtop_in _, fun _ y => (nomatch y)⟩, ⟨_, rfl, rtop_in _, fun _ y => (nomatch y)⟩, rfl, trivial⟩ L1.1 (fun _ y => (nomatch y)) d_L_949 (cV_X12_causes (0 + 2) 0 0) kc_12 (ws_1 L1.1.1) tw_2328 rfl ⟨⟨show 0 + 2 + 1 ≤ 2048 from by decide, show 8 + (5 + 11) + 100 * (0 + 2) ≤ 84000 from by decide⟩, rfl, rfl⟩ ⟨show kc ≤ 494584 by omega, show ks ≤ 7612352 by omega⟩ ⟨_, rfl⟩ d_L_952 (fun h2 I2 F2 => ?_)
  have L2 := L1.fr I2 F2 (by decide +kernel)
  refine aw_goto (tgt := 2406) d_L_953 rfl ?_
  exact O _ _ _ _ L2 R.up
theorem lc_17 {L t N kc ks : Nat} {xs : Nat → Int32} {h : Hp_} (hL : 6 * t + 6 ≤ L) (lL : L ≤ 3072) (L0 : Li N h) (R : Rm t N kc ks) (O : ∀ N kc ks h, Li N h → Rm (t + 1) N kc ks → AW (ML L xs) kc ks 2406 (lv5 (6 * t)) [] h k1_) : AW (ML L xs) kc ks 956 (lv5 (6 * t)) [] h k1_ := by
  have hk := R.ok (by omega)
  refine aw_aload_n (i := 1) rfl d_L_956 1 rfl ?_
  refine aw_arg (j := 1) d_L_957 d_L_958 d_L_960 d_L_961 d_L_962 ic_1 (oa_1 (by omega)) (by omega) lL ?_
  refine aw_arg (j := 2) d_L_963 d_L_964 d_L_966 d_L_967 d_L_968 ic_2 (oa_2 (by omega)) (by omega) lL ?_
  refine aw_arg (j := 3) d_L_969 d_L_970 d_L_972 d_L_973 d_L_974 ic_3 (oa_3 (by omega)) (by omega) lL ?_
  refine aw_arg (j := 4) d_L_975 d_L_976 d_L_978 d_L_979 d_L_980 ic_4 (oa_4 (by omega)) (by omega) lL ?_
  refine aw_arg (j := 5) d_L_981 d_L_982 d_L_984 d_L_985 d_L_986 ic_5 (oa_5 (by omega)) (by omega) lL ?_
  refine aw_Vi 0 [.int (xs (6 * t + 1)), .int (xs (6 * t + 2)), .int (xs (6 * t + 3)), .int (xs (6 * t + 4)), .int (xs (6 * t + 5))] [] d_L_987 (cV_X11_find (0 + 1) 0 0) kc_11 (ws_0 L0.1.1) tw_1147 rfl ⟨⟨show 0 + 1 + 1 ≤ 2048 from by decide, show 8 + (6 + 11) + 100 * (0 + 1) ≤ 84000 from by decide⟩, show kc + 0 ≤ 494584 by omega, show ks + 0 ≤ 7612352 by omega⟩ (Nat.le_of_ble_eq_true rfl) xsL (c_fnX 0 L0.1 _ _ _ _ _) (fun r1 h1 k1 => ?_)
  refine aw_pop d_L_990 rfl ?_
  refine aw_aload_n (i := 2) rfl d_L_991 2 rfl ?_
  refine aw_arg (j := 1) d_L_992 d_L_993 d_L_995 d_L_996 d_L_997 ic_1 (oa_1 (by omega)) (by omega) lL ?_
  refine aw_arg (j := 2) d_L_998 d_L_999 d_L_1001 d_L_1002 d_L_1003 ic_2 (oa_2 (by omega)) (by omega) lL ?_
  refine aw_arg (j := 3) d_L_1004 d_L_1005 d_L_1007 d_L_1008 d_L_1009 ic_3 (oa_3 (by omega)) (by omega) lL ?_
  refine aw_arg (j := 4) d_L_1010 d_L_1011 d_L_1013 d_L_1014 d_L_1015 ic_4 (oa_4 (by omega)) (by omega) lL ?_
  refine aw_arg (j := 5) d_L_1016 d_L_1017 d_L_1019 d_L_1020 d_L_1021 ic_5 (oa_5 (by omega)) (by omega) lL ?_
  refine aw_Vi 1 [.int (xs (6 * t + 1)), .int (xs (6 * t + 2)), .int (xs (6 * t + 3)), .int (xs (6 * t + 4)), .int (xs (6 * t + 5))] [] d_L_1022 (cV_X12_find (0 + 2) 0 0) kc_12 (ws_1 k1.1.1) tw_2471 rfl ⟨⟨show 0 + 2 + 1 ≤ 2048 from by decide, show 8 + (6 + 11) + 100 * (0 + 2) ≤ 84000 from by decide⟩, show kc + 0 ≤ 494584 by omega, show ks + 0 ≤ 7612352 by omega⟩ (Nat.le_of_ble_eq_true rfl) xsL (c_fnM 0 k1.1 _ _ _ _ _) (fun r2 h2 k2 => ?_)
  refine aw_pop d_L_1025 rfl ?_
  have L2 := (L0.fn k1 k2).1
  refine aw_goto (tgt := 2406) d_L_1026 rfl ?_
  exact O _ _ _ _ L2 R.up
theorem lc_18 {L t N kc ks : Nat} {xs : Nat → Int32} {h : Hp_} (hL : 6 * t + 6 ≤ L) (lL : L ≤ 3072) (L0 : Li N h) (R : Rm t N kc ks) (O : ∀ N kc ks h, Li N h → Rm (t + 1) N kc ks → AW (ML L xs) kc ks 2406 (lv5 (6 * t)) [] h k1_) : AW (ML L xs) kc ks 1029 (lv5 (6 * t)) [] h k1_ := by
  have hk := R.ok (by omega)
  refine aw_aload_n (i := 1) rfl d_L_1029 1 rfl ?_
  refine aw_arg (j := 1) d_L_1030 d_L_1031 d_L_1033 d_L_1034 d_L_1035 ic_1 (oa_1 (by omega)) (by omega) lL ?_
  refine aw_Vi 0 [.int (xs (6 * t + 1))] [] d_L_1036 (cV_X11_act (0 + 141) 0 0) kc_11 (ws_0 L0.1.1) tw_1155 rfl ⟨⟨show 0 + 141 + 1 ≤ 2048 from by decide, show 8 + (2 + 11) + 100 * (0 + 141) ≤ 84000 from by decide⟩, show kc + 0 ≤ 494584 by omega, show ks + 0 ≤ 7612352 by omega⟩ (Nat.le_of_ble_eq_true rfl) xsL (c_acX 0 L0.1 _) (fun r1 h1 k1 => ?_)
  refine aw_pop d_L_1039 rfl ?_
  refine aw_aload_n (i := 2) rfl d_L_1040 2 rfl ?_
  refine aw_arg (j := 1) d_L_1041 d_L_1042 d_L_1044 d_L_1045 d_L_1046 ic_1 (oa_1 (by omega)) (by omega) lL ?_
  refine aw_Vi 1 [.int (xs (6 * t + 1))] [] d_L_1047 (cV_X12_act (0 + 80 + 61) 0 0) kc_12 (ws_1 k1.1.1) tw_2292 rfl ⟨⟨show 0 + 80 + 61 + 1 ≤ 2048 from by decide, show 8 + (2 + 11) + 100 * (0 + 80 + 61) ≤ 84000 from by decide⟩, show kc + 0 ≤ 494584 by omega, show ks + 0 ≤ 7612352 by omega⟩ (Nat.le_of_ble_eq_true rfl) xsL (c_acM 0 k1.1 (L0.t.q k1.2.1 (by decide +kernel)) _) (fun r2 h2 k2 => ?_)
  refine aw_pop d_L_1050 rfl ?_
  have L2 := (L0.ac k1 k2).1
  refine aw_goto (tgt := 2406) d_L_1051 rfl ?_
  exact O _ _ _ _ L2 R.up
theorem lc_19 {L t N kc ks : Nat} {xs : Nat → Int32} {h : Hp_} (hL : 6 * t + 6 ≤ L) (lL : L ≤ 3072) (L0 : Li N h) (R : Rm t N kc ks) (O : ∀ N kc ks h, Li N h → Rm (t + 1) N kc ks → AW (ML L xs) kc ks 2406 (lv5 (6 * t)) [] h k1_) : AW (ML L xs) kc ks 1054 (lv5 (6 * t)) [] h k1_ := by
  have hk := R.ok (by omega)
  refine aw_aload_n (i := 1) rfl d_L_1054 1 rfl ?_
  refine aw_arg (j := 1) d_L_1055 d_L_1056 d_L_1058 d_L_1059 d_L_1060 ic_1 (oa_1 (by omega)) (by omega) lL ?_
  refine aw_arg (j := 2) d_L_1061 d_L_1062 d_L_1064 d_L_1065 d_L_1066 ic_2 (oa_2 (by omega)) (by omega) lL ?_
  refine aw_Kp (M' := m_X11_force (0 + 2) 0 0) (a := 0) [.int (xs (6 * t + 1)), .int (xs (6 * t + 2))] (hc_X11_force 0) ⟨⟨_, rfl, rtop_in _, fun _ y => (nomatch y)⟩, ⟨_, rfl, rtop_in _, fun _ y => (nomatch y)⟩, rfl, trivial⟩ L0.1 (fun _ y => (nomatch y)) d_L_1067 (cV_X11_force (0 + 2) 0 0) kc_11 (ws_0 L0.1.1) tw_1168 rfl ⟨⟨show 0 + 2 + 1 ≤ 2048 from by decide, show 8 + (3 + 11) + 100 * (0 + 2) ≤ 84000 from by decide⟩, rfl, rfl⟩ ⟨show kc ≤ 494584 by omega, show ks ≤ 7612352 by omega⟩ ⟨_, rfl⟩ d_L_1070 (fun h1 I1 F1 => ?_)
  have L1 := L0.fr I1 F1 (by decide +kernel)
  refine aw_aload_n (i := 2) rfl d_L_1071 2 rfl ?_
  refine aw_arg (j := 1) d_L_1072 d_L_1073 d_L_1075 d_L_1076 d_L_1077 ic_1 (oa_1 (by omega)) (by omega) lL ?_
  refine aw_arg (j := 2) d_L_1078 d_L_1079 d_L_1081 d_L_1082 d_L_1083 ic_2 (oa_2 (by omega)) (by omega) lL ?_
  refine aw_Kp (M' := m_X12_force (0 + 2) 0 0) (a := 1) [.int (xs (6 * t + 1)), .int (xs (6 * t + 2))] (hc_X12_force 0) ⟨⟨_, rfl, rtop_in _, fun _ y => (nomatch y)⟩, ⟨_, rfl, rtop_in _, fun _ y => (nomatch y)⟩, rfl, trivial⟩ L1.1 (fun _ y => (nomatch y)) d_L_1084 (cV_X12_force (0 + 2) 0 0) kc_12 (ws_1 L1.1.1) tw_2304 rfl ⟨⟨show 0 + 2 + 1 ≤ 2048 from by decide, show 8 + (3 + 11) + 100 * (0 + 2) ≤ 84000 from by decide⟩, rfl, rfl⟩ ⟨show kc ≤ 494584 by omega, show ks ≤ 7612352 by omega⟩ ⟨_, rfl⟩ d_L_1087 (fun h2 I2 F2 => ?_)
  have L2 := L1.fr I2 F2 (by decide +kernel)
  refine aw_goto (tgt := 2406) d_L_1088 rfl ?_
  exact O _ _ _ _ L2 R.up
