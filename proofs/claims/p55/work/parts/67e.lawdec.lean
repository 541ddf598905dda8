theorem d_L_0 : decode code 0 = .ok (.new 8, 3) := by decide +kernel
theorem d_L_3 : decode code 3 = .ok (.dup, 1) := by decide +kernel
theorem d_L_4 : decode code 4 = .ok (.invokespecial 15, 3) := by decide +kernel
theorem d_L_7 : decode code 7 = .ok (.astore_n 1, 1) := by decide +kernel
theorem d_L_8 : decode code 8 = .ok (.new 16, 3) := by decide +kernel
theorem d_L_11 : decode code 11 = .ok (.dup, 1) := by decide +kernel
theorem d_L_12 : decode code 12 = .ok (.invokespecial 18, 3) := by decide +kernel
theorem d_L_15 : decode code 15 = .ok (.astore_n 2, 1) := by decide +kernel
theorem d_L_16 : decode code 16 = .ok (.iconst 1, 1) := by decide +kernel
theorem d_L_17 : decode code 17 = .ok (.newarray .long, 2) := by decide +kernel
theorem d_L_19 : decode code 19 = .ok (.astore_n 3, 1) := by decide +kernel
theorem d_L_20 : decode code 20 = .ok (.iconst 0, 1) := by decide +kernel
theorem d_L_21 : decode code 21 = .ok (.istore 4, 2) := by decide +kernel
theorem d_L_23 : decode code 23 = .ok (.iload 4, 2) := by decide +kernel
theorem d_L_25 : decode code 25 = .ok (.aload_n 0, 1) := by decide +kernel
theorem d_L_26 : decode code 26 = .ok (.arraylength, 1) := by decide +kernel
theorem d_L_27 : decode code 27 = .ok (.bipush 6, 2) := by decide +kernel
theorem d_L_29 : decode code 29 = .ok (.isub, 1) := by decide +kernel
theorem d_L_30 : decode code 30 = .ok (.if_icmp .gt 2382, 3) := by decide +kernel
theorem d_L_33 : decode code 33 = .ok (.aload_n 0, 1) := by decide +kernel
theorem d_L_34 : decode code 34 = .ok (.iload 4, 2) := by decide +kernel
theorem d_L_36 : decode code 36 = .ok (.iaload, 1) := by decide +kernel
theorem d_L_37 : decode code 37 = .ok (.bipush 63, 2) := by decide +kernel
theorem d_L_39 : decode code 39 = .ok (.iand, 1) := by decide +kernel
theorem d_L_40 : decode code 40 = .ok (.tableswitch 2366 0 56 #[244, 293, 330, 379, 452, 477, 502, 515, 552, 589, 638, 691, 716, 756, 793, 842, 879, 916, 989, 1014, 1051, 1088, 1125, 1150, 1175, 1212, 1249, 1326, 1351, 1400, 1449, 1498, 1523, 1576, 1601, 1614, 1639, 1664, 1689, 1738, 1775, 1800, 1837, 1886, 1911, 1936, 1947, 1972, 2021, 2070, 2119, 2132, 2169, 2218, 2243, 2280, 2341], 244) := by decide +kernel
theorem d_L_284 : decode code 284 = .ok (.aload_n 1, 1) := by decide +kernel
theorem d_L_285 : decode code 285 = .ok (.aload_n 0, 1) := by decide +kernel
theorem d_L_286 : decode code 286 = .ok (.iload 4, 2) := by decide +kernel
theorem d_L_288 : decode code 288 = .ok (.iconst 1, 1) := by decide +kernel
theorem d_L_289 : decode code 289 = .ok (.iadd, 1) := by decide +kernel
theorem d_L_290 : decode code 290 = .ok (.iaload, 1) := by decide +kernel
theorem d_L_291 : decode code 291 = .ok (.aload_n 0, 1) := by decide +kernel
theorem d_L_292 : decode code 292 = .ok (.iload 4, 2) := by decide +kernel
theorem d_L_294 : decode code 294 = .ok (.iconst 2, 1) := by decide +kernel
theorem d_L_295 : decode code 295 = .ok (.iadd, 1) := by decide +kernel
theorem d_L_296 : decode code 296 = .ok (.iaload, 1) := by decide +kernel
theorem d_L_297 : decode code 297 = .ok (.aload_n 0, 1) := by decide +kernel
theorem d_L_298 : decode code 298 = .ok (.iload 4, 2) := by decide +kernel
theorem d_L_300 : decode code 300 = .ok (.iconst 3, 1) := by decide +kernel
theorem d_L_301 : decode code 301 = .ok (.iadd, 1) := by decide +kernel
theorem d_L_302 : decode code 302 = .ok (.iaload, 1) := by decide +kernel
theorem d_L_303 : decode code 303 = .ok (.invokevirtual 19, 3) := by decide +kernel
theorem d_L_306 : decode code 306 = .ok (.pop, 1) := by decide +kernel
theorem d_L_307 : decode code 307 = .ok (.aload_n 2, 1) := by decide +kernel
theorem d_L_308 : decode code 308 = .ok (.aload_n 0, 1) := by decide +kernel
theorem d_L_309 : decode code 309 = .ok (.iload 4, 2) := by decide +kernel
theorem d_L_311 : decode code 311 = .ok (.iconst 1, 1) := by decide +kernel
theorem d_L_312 : decode code 312 = .ok (.iadd, 1) := by decide +kernel
theorem d_L_313 : decode code 313 = .ok (.iaload, 1) := by decide +kernel
theorem d_L_314 : decode code 314 = .ok (.aload_n 0, 1) := by decide +kernel
theorem d_L_315 : decode code 315 = .ok (.iload 4, 2) := by decide +kernel
theorem d_L_317 : decode code 317 = .ok (.iconst 2, 1) := by decide +kernel
theorem d_L_318 : decode code 318 = .ok (.iadd, 1) := by decide +kernel
theorem d_L_319 : decode code 319 = .ok (.iaload, 1) := by decide +kernel
theorem d_L_320 : decode code 320 = .ok (.aload_n 0, 1) := by decide +kernel
theorem d_L_321 : decode code 321 = .ok (.iload 4, 2) := by decide +kernel
theorem d_L_323 : decode code 323 = .ok (.iconst 3, 1) := by decide +kernel
theorem d_L_324 : decode code 324 = .ok (.iadd, 1) := by decide +kernel
theorem d_L_325 : decode code 325 = .ok (.iaload, 1) := by decide +kernel
theorem d_L_326 : decode code 326 = .ok (.invokevirtual 23, 3) := by decide +kernel
theorem d_L_329 : decode code 329 = .ok (.pop, 1) := by decide +kernel
theorem d_L_330 : decode code 330 = .ok (.goto 2076, 3) := by decide +kernel
theorem d_L_333 : decode code 333 = .ok (.aload_n 1, 1) := by decide +kernel
theorem d_L_334 : decode code 334 = .ok (.aload_n 0, 1) := by decide +kernel
theorem d_L_335 : decode code 335 = .ok (.iload 4, 2) := by decide +kernel
theorem d_L_337 : decode code 337 = .ok (.iconst 1, 1) := by decide +kernel
theorem d_L_338 : decode code 338 = .ok (.iadd, 1) := by decide +kernel
theorem d_L_339 : decode code 339 = .ok (.iaload, 1) := by decide +kernel
theorem d_L_340 : decode code 340 = .ok (.aload_n 0, 1) := by decide +kernel
theorem d_L_341 : decode code 341 = .ok (.iload 4, 2) := by decide +kernel
theorem d_L_343 : decode code 343 = .ok (.iconst 2, 1) := by decide +kernel
theorem d_L_344 : decode code 344 = .ok (.iadd, 1) := by decide +kernel
theorem d_L_345 : decode code 345 = .ok (.iaload, 1) := by decide +kernel
theorem d_L_346 : decode code 346 = .ok (.invokevirtual 24, 3) := by decide +kernel
theorem d_L_349 : decode code 349 = .ok (.pop, 1) := by decide +kernel
theorem d_L_350 : decode code 350 = .ok (.aload_n 2, 1) := by decide +kernel
theorem d_L_351 : decode code 351 = .ok (.aload_n 0, 1) := by decide +kernel
theorem d_L_352 : decode code 352 = .ok (.iload 4, 2) := by decide +kernel
theorem d_L_354 : decode code 354 = .ok (.iconst 1, 1) := by decide +kernel
theorem d_L_355 : decode code 355 = .ok (.iadd, 1) := by decide +kernel
theorem d_L_356 : decode code 356 = .ok (.iaload, 1) := by decide +kernel
theorem d_L_357 : decode code 357 = .ok (.aload_n 0, 1) := by decide +kernel
theorem d_L_358 : decode code 358 = .ok (.iload 4, 2) := by decide +kernel
theorem d_L_360 : decode code 360 = .ok (.iconst 2, 1) := by decide +kernel
theorem d_L_361 : decode code 361 = .ok (.iadd, 1) := by decide +kernel
theorem d_L_362 : decode code 362 = .ok (.iaload, 1) := by decide +kernel
theorem d_L_363 : decode code 363 = .ok (.invokevirtual 27, 3) := by decide +kernel
theorem d_L_366 : decode code 366 = .ok (.pop, 1) := by decide +kernel
theorem d_L_367 : decode code 367 = .ok (.goto 2039, 3) := by decide +kernel
theorem d_L_370 : decode code 370 = .ok (.aload_n 1, 1) := by decide +kernel
theorem d_L_371 : decode code 371 = .ok (.aload_n 0, 1) := by decide +kernel
theorem d_L_372 : decode code 372 = .ok (.iload 4, 2) := by decide +kernel
theorem d_L_374 : decode code 374 = .ok (.iconst 1, 1) := by decide +kernel
theorem d_L_375 : decode code 375 = .ok (.iadd, 1) := by decide +kernel
theorem d_L_376 : decode code 376 = .ok (.iaload, 1) := by decide +kernel
theorem d_L_377 : decode code 377 = .ok (.aload_n 0, 1) := by decide +kernel
theorem d_L_378 : decode code 378 = .ok (.iload 4, 2) := by decide +kernel
theorem d_L_380 : decode code 380 = .ok (.iconst 2, 1) := by decide +kernel
theorem d_L_381 : decode code 381 = .ok (.iadd, 1) := by decide +kernel
theorem d_L_382 : decode code 382 = .ok (.iaload, 1) := by decide +kernel
theorem d_L_383 : decode code 383 = .ok (.aload_n 0, 1) := by decide +kernel
theorem d_L_384 : decode code 384 = .ok (.iload 4, 2) := by decide +kernel
theorem d_L_386 : decode code 386 = .ok (.iconst 3, 1) := by decide +kernel
theorem d_L_387 : decode code 387 = .ok (.iadd, 1) := by decide +kernel
theorem d_L_388 : decode code 388 = .ok (.iaload, 1) := by decide +kernel
theorem d_L_389 : decode code 389 = .ok (.invokevirtual 28, 3) := by decide +kernel
theorem d_L_392 : decode code 392 = .ok (.pop, 1) := by decide +kernel
theorem d_L_393 : decode code 393 = .ok (.aload_n 2, 1) := by decide +kernel
theorem d_L_394 : decode code 394 = .ok (.aload_n 0, 1) := by decide +kernel
theorem d_L_395 : decode code 395 = .ok (.iload 4, 2) := by decide +kernel
theorem d_L_397 : decode code 397 = .ok (.iconst 1, 1) := by decide +kernel
theorem d_L_398 : decode code 398 = .ok (.iadd, 1) := by decide +kernel
theorem d_L_399 : decode code 399 = .ok (.iaload, 1) := by decide +kernel
theorem d_L_400 : decode code 400 = .ok (.aload_n 0, 1) := by decide +kernel
theorem d_L_401 : decode code 401 = .ok (.iload 4, 2) := by decide +kernel
theorem d_L_403 : decode code 403 = .ok (.iconst 2, 1) := by decide +kernel
theorem d_L_404 : decode code 404 = .ok (.iadd, 1) := by decide +kernel
theorem d_L_405 : decode code 405 = .ok (.iaload, 1) := by decide +kernel
theorem d_L_406 : decode code 406 = .ok (.aload_n 0, 1) := by decide +kernel
theorem d_L_407 : decode code 407 = .ok (.iload 4, 2) := by decide +kernel
theorem d_L_409 : decode code 409 = .ok (.iconst 3, 1) := by decide +kernel
theorem d_L_410 : decode code 410 = .ok (.iadd, 1) := by decide +kernel
theorem d_L_411 : decode code 411 = .ok (.iaload, 1) := by decide +kernel
theorem d_L_412 : decode code 412 = .ok (.invokevirtual 31, 3) := by decide +kernel
theorem d_L_415 : decode code 415 = .ok (.pop, 1) := by decide +kernel
theorem d_L_416 : decode code 416 = .ok (.goto 1990, 3) := by decide +kernel
theorem d_L_419 : decode code 419 = .ok (.aload_n 1, 1) := by decide +kernel
theorem d_L_420 : decode code 420 = .ok (.aload_n 0, 1) := by decide +kernel
theorem d_L_421 : decode code 421 = .ok (.iload 4, 2) := by decide +kernel
theorem d_L_423 : decode code 423 = .ok (.iconst 1, 1) := by decide +kernel
theorem d_L_424 : decode code 424 = .ok (.iadd, 1) := by decide +kernel
theorem d_L_425 : decode code 425 = .ok (.iaload, 1) := by decide +kernel
theorem d_L_426 : decode code 426 = .ok (.aload_n 0, 1) := by decide +kernel
theorem d_L_427 : decode code 427 = .ok (.iload 4, 2) := by decide +kernel
theorem d_L_429 : decode code 429 = .ok (.iconst 2, 1) := by decide +kernel
theorem d_L_430 : decode code 430 = .ok (.iadd, 1) := by decide +kernel
theorem d_L_431 : decode code 431 = .ok (.iaload, 1) := by decide +kernel
theorem d_L_432 : decode code 432 = .ok (.aload_n 0, 1) := by decide +kernel
theorem d_L_433 : decode code 433 = .ok (.iload 4, 2) := by decide +kernel
theorem d_L_435 : decode code 435 = .ok (.iconst 3, 1) := by decide +kernel
theorem d_L_436 : decode code 436 = .ok (.iadd, 1) := by decide +kernel
theorem d_L_437 : decode code 437 = .ok (.iaload, 1) := by decide +kernel
theorem d_L_438 : decode code 438 = .ok (.aload_n 0, 1) := by decide +kernel
theorem d_L_439 : decode code 439 = .ok (.iload 4, 2) := by decide +kernel
theorem d_L_441 : decode code 441 = .ok (.iconst 4, 1) := by decide +kernel
theorem d_L_442 : decode code 442 = .ok (.iadd, 1) := by decide +kernel
theorem d_L_443 : decode code 443 = .ok (.iaload, 1) := by decide +kernel
theorem d_L_444 : decode code 444 = .ok (.aload_n 0, 1) := by decide +kernel
theorem d_L_445 : decode code 445 = .ok (.iload 4, 2) := by decide +kernel
theorem d_L_447 : decode code 447 = .ok (.iconst 5, 1) := by decide +kernel
theorem d_L_448 : decode code 448 = .ok (.iadd, 1) := by decide +kernel
theorem d_L_449 : decode code 449 = .ok (.iaload, 1) := by decide +kernel
theorem d_L_450 : decode code 450 = .ok (.invokevirtual 32, 3) := by decide +kernel
theorem d_L_453 : decode code 453 = .ok (.pop, 1) := by decide +kernel
theorem d_L_454 : decode code 454 = .ok (.aload_n 2, 1) := by decide +kernel
theorem d_L_455 : decode code 455 = .ok (.aload_n 0, 1) := by decide +kernel
theorem d_L_456 : decode code 456 = .ok (.iload 4, 2) := by decide +kernel
theorem d_L_458 : decode code 458 = .ok (.iconst 1, 1) := by decide +kernel
theorem d_L_459 : decode code 459 = .ok (.iadd, 1) := by decide +kernel
theorem d_L_460 : decode code 460 = .ok (.iaload, 1) := by decide +kernel
theorem d_L_461 : decode code 461 = .ok (.aload_n 0, 1) := by decide +kernel
theorem d_L_462 : decode code 462 = .ok (.iload 4, 2) := by decide +kernel
theorem d_L_464 : decode code 464 = .ok (.iconst 2, 1) := by decide +kernel
theorem d_L_465 : decode code 465 = .ok (.iadd, 1) := by decide +kernel
theorem d_L_466 : decode code 466 = .ok (.iaload, 1) := by decide +kernel
theorem d_L_467 : decode code 467 = .ok (.aload_n 0, 1) := by decide +kernel
theorem d_L_468 : decode code 468 = .ok (.iload 4, 2) := by decide +kernel
theorem d_L_470 : decode code 470 = .ok (.iconst 3, 1) := by decide +kernel
theorem d_L_471 : decode code 471 = .ok (.iadd, 1) := by decide +kernel
theorem d_L_472 : decode code 472 = .ok (.iaload, 1) := by decide +kernel
theorem d_L_473 : decode code 473 = .ok (.aload_n 0, 1) := by decide +kernel
theorem d_L_474 : decode code 474 = .ok (.iload 4, 2) := by decide +kernel
theorem d_L_476 : decode code 476 = .ok (.iconst 4, 1) := by decide +kernel
theorem d_L_477 : decode code 477 = .ok (.iadd, 1) := by decide +kernel
theorem d_L_478 : decode code 478 = .ok (.iaload, 1) := by decide +kernel
theorem d_L_479 : decode code 479 = .ok (.aload_n 0, 1) := by decide +kernel
theorem d_L_480 : decode code 480 = .ok (.iload 4, 2) := by decide +kernel
theorem d_L_482 : decode code 482 = .ok (.iconst 5, 1) := by decide +kernel
theorem d_L_483 : decode code 483 = .ok (.iadd, 1) := by decide +kernel
theorem d_L_484 : decode code 484 = .ok (.iaload, 1) := by decide +kernel
theorem d_L_485 : decode code 485 = .ok (.invokevirtual 36, 3) := by decide +kernel
theorem d_L_488 : decode code 488 = .ok (.pop, 1) := by decide +kernel
theorem d_L_489 : decode code 489 = .ok (.goto 1917, 3) := by decide +kernel
theorem d_L_492 : decode code 492 = .ok (.aload_n 1, 1) := by decide +kernel
theorem d_L_493 : decode code 493 = .ok (.aload_n 0, 1) := by decide +kernel
theorem d_L_494 : decode code 494 = .ok (.iload 4, 2) := by decide +kernel
theorem d_L_496 : decode code 496 = .ok (.iconst 1, 1) := by decide +kernel
theorem d_L_497 : decode code 497 = .ok (.iadd, 1) := by decide +kernel
theorem d_L_498 : decode code 498 = .ok (.iaload, 1) := by decide +kernel
theorem d_L_499 : decode code 499 = .ok (.invokevirtual 37, 3) := by decide +kernel
theorem d_L_502 : decode code 502 = .ok (.pop, 1) := by decide +kernel
theorem d_L_503 : decode code 503 = .ok (.aload_n 2, 1) := by decide +kernel
theorem d_L_504 : decode code 504 = .ok (.aload_n 0, 1) := by decide +kernel
theorem d_L_505 : decode code 505 = .ok (.iload 4, 2) := by decide +kernel
theorem d_L_507 : decode code 507 = .ok (.iconst 1, 1) := by decide +kernel
theorem d_L_508 : decode code 508 = .ok (.iadd, 1) := by decide +kernel
theorem d_L_509 : decode code 509 = .ok (.iaload, 1) := by decide +kernel
theorem d_L_510 : decode code 510 = .ok (.invokevirtual 41, 3) := by decide +kernel
theorem d_L_513 : decode code 513 = .ok (.pop, 1) := by decide +kernel
theorem d_L_514 : decode code 514 = .ok (.goto 1892, 3) := by decide +kernel
theorem d_L_517 : decode code 517 = .ok (.aload_n 1, 1) := by decide +kernel
theorem d_L_518 : decode code 518 = .ok (.aload_n 0, 1) := by decide +kernel
theorem d_L_519 : decode code 519 = .ok (.iload 4, 2) := by decide +kernel
theorem d_L_521 : decode code 521 = .ok (.iconst 1, 1) := by decide +kernel
theorem d_L_522 : decode code 522 = .ok (.iadd, 1) := by decide +kernel
theorem d_L_523 : decode code 523 = .ok (.iaload, 1) := by decide +kernel
theorem d_L_524 : decode code 524 = .ok (.invokevirtual 42, 3) := by decide +kernel
theorem d_L_527 : decode code 527 = .ok (.pop, 1) := by decide +kernel
theorem d_L_528 : decode code 528 = .ok (.aload_n 2, 1) := by decide +kernel
theorem d_L_529 : decode code 529 = .ok (.aload_n 0, 1) := by decide +kernel
theorem d_L_530 : decode code 530 = .ok (.iload 4, 2) := by decide +kernel
theorem d_L_532 : decode code 532 = .ok (.iconst 1, 1) := by decide +kernel
theorem d_L_533 : decode code 533 = .ok (.iadd, 1) := by decide +kernel
theorem d_L_534 : decode code 534 = .ok (.iaload, 1) := by decide +kernel
theorem d_L_535 : decode code 535 = .ok (.invokevirtual 46, 3) := by decide +kernel
theorem d_L_538 : decode code 538 = .ok (.pop, 1) := by decide +kernel
theorem d_L_539 : decode code 539 = .ok (.goto 1867, 3) := by decide +kernel
theorem d_L_542 : decode code 542 = .ok (.aload_n 1, 1) := by decide +kernel
theorem d_L_543 : decode code 543 = .ok (.invokevirtual 47, 3) := by decide +kernel
theorem d_L_546 : decode code 546 = .ok (.pop, 1) := by decide +kernel
theorem d_L_547 : decode code 547 = .ok (.aload_n 2, 1) := by decide +kernel
theorem d_L_548 : decode code 548 = .ok (.invokevirtual 51, 3) := by decide +kernel
theorem d_L_551 : decode code 551 = .ok (.pop, 1) := by decide +kernel
theorem d_L_552 : decode code 552 = .ok (.goto 1854, 3) := by decide +kernel
theorem d_L_555 : decode code 555 = .ok (.aload_n 1, 1) := by decide +kernel
theorem d_L_556 : decode code 556 = .ok (.aload_n 0, 1) := by decide +kernel
theorem d_L_557 : decode code 557 = .ok (.iload 4, 2) := by decide +kernel
theorem d_L_559 : decode code 559 = .ok (.iconst 1, 1) := by decide +kernel
theorem d_L_560 : decode code 560 = .ok (.iadd, 1) := by decide +kernel
theorem d_L_561 : decode code 561 = .ok (.iaload, 1) := by decide +kernel
theorem d_L_562 : decode code 562 = .ok (.aload_n 0, 1) := by decide +kernel
theorem d_L_563 : decode code 563 = .ok (.iload 4, 2) := by decide +kernel
theorem d_L_565 : decode code 565 = .ok (.iconst 2, 1) := by decide +kernel
theorem d_L_566 : decode code 566 = .ok (.iadd, 1) := by decide +kernel
theorem d_L_567 : decode code 567 = .ok (.iaload, 1) := by decide +kernel
theorem d_L_568 : decode code 568 = .ok (.invokevirtual 52, 3) := by decide +kernel
theorem d_L_571 : decode code 571 = .ok (.pop, 1) := by decide +kernel
theorem d_L_572 : decode code 572 = .ok (.aload_n 2, 1) := by decide +kernel
theorem d_L_573 : decode code 573 = .ok (.aload_n 0, 1) := by decide +kernel
theorem d_L_574 : decode code 574 = .ok (.iload 4, 2) := by decide +kernel
theorem d_L_576 : decode code 576 = .ok (.iconst 1, 1) := by decide +kernel
theorem d_L_577 : decode code 577 = .ok (.iadd, 1) := by decide +kernel
theorem d_L_578 : decode code 578 = .ok (.iaload, 1) := by decide +kernel
theorem d_L_579 : decode code 579 = .ok (.aload_n 0, 1) := by decide +kernel
theorem d_L_580 : decode code 580 = .ok (.iload 4, 2) := by decide +kernel
theorem d_L_582 : decode code 582 = .ok (.iconst 2, 1) := by decide +kernel
theorem d_L_583 : decode code 583 = .ok (.iadd, 1) := by decide +kernel
theorem d_L_584 : decode code 584 = .ok (.iaload, 1) := by decide +kernel
theorem d_L_585 : decode code 585 = .ok (.invokevirtual 55, 3) := by decide +kernel
theorem d_L_588 : decode code 588 = .ok (.pop, 1) := by decide +kernel
theorem d_L_589 : decode code 589 = .ok (.goto 1817, 3) := by decide +kernel
theorem d_L_592 : decode code 592 = .ok (.aload_n 1, 1) := by decide +kernel
theorem d_L_593 : decode code 593 = .ok (.aload_n 0, 1) := by decide +kernel
theorem d_L_594 : decode code 594 = .ok (.iload 4, 2) := by decide +kernel
theorem d_L_596 : decode code 596 = .ok (.iconst 1, 1) := by decide +kernel
theorem d_L_597 : decode code 597 = .ok (.iadd, 1) := by decide +kernel
theorem d_L_598 : decode code 598 = .ok (.iaload, 1) := by decide +kernel
theorem d_L_599 : decode code 599 = .ok (.aload_n 0, 1) := by decide +kernel
theorem d_L_600 : decode code 600 = .ok (.iload 4, 2) := by decide +kernel
theorem d_L_602 : decode code 602 = .ok (.iconst 2, 1) := by decide +kernel
theorem d_L_603 : decode code 603 = .ok (.iadd, 1) := by decide +kernel
theorem d_L_604 : decode code 604 = .ok (.iaload, 1) := by decide +kernel
theorem d_L_605 : decode code 605 = .ok (.invokevirtual 56, 3) := by decide +kernel
theorem d_L_608 : decode code 608 = .ok (.pop, 1) := by decide +kernel
theorem d_L_609 : decode code 609 = .ok (.aload_n 2, 1) := by decide +kernel
theorem d_L_610 : decode code 610 = .ok (.aload_n 0, 1) := by decide +kernel
theorem d_L_611 : decode code 611 = .ok (.iload 4, 2) := by decide +kernel
theorem d_L_613 : decode code 613 = .ok (.iconst 1, 1) := by decide +kernel
theorem d_L_614 : decode code 614 = .ok (.iadd, 1) := by decide +kernel
theorem d_L_615 : decode code 615 = .ok (.iaload, 1) := by decide +kernel
theorem d_L_616 : decode code 616 = .ok (.aload_n 0, 1) := by decide +kernel
theorem d_L_617 : decode code 617 = .ok (.iload 4, 2) := by decide +kernel
theorem d_L_619 : decode code 619 = .ok (.iconst 2, 1) := by decide +kernel
theorem d_L_620 : decode code 620 = .ok (.iadd, 1) := by decide +kernel
theorem d_L_621 : decode code 621 = .ok (.iaload, 1) := by decide +kernel
theorem d_L_622 : decode code 622 = .ok (.invokevirtual 60, 3) := by decide +kernel
theorem d_L_625 : decode code 625 = .ok (.pop, 1) := by decide +kernel
theorem d_L_626 : decode code 626 = .ok (.goto 1780, 3) := by decide +kernel
theorem d_L_629 : decode code 629 = .ok (.aload_n 1, 1) := by decide +kernel
theorem d_L_630 : decode code 630 = .ok (.aload_n 0, 1) := by decide +kernel
theorem d_L_631 : decode code 631 = .ok (.iload 4, 2) := by decide +kernel
theorem d_L_633 : decode code 633 = .ok (.iconst 1, 1) := by decide +kernel
theorem d_L_634 : decode code 634 = .ok (.iadd, 1) := by decide +kernel
theorem d_L_635 : decode code 635 = .ok (.iaload, 1) := by decide +kernel
theorem d_L_636 : decode code 636 = .ok (.aload_n 0, 1) := by decide +kernel
theorem d_L_637 : decode code 637 = .ok (.iload 4, 2) := by decide +kernel
theorem d_L_639 : decode code 639 = .ok (.iconst 2, 1) := by decide +kernel
theorem d_L_640 : decode code 640 = .ok (.iadd, 1) := by decide +kernel
theorem d_L_641 : decode code 641 = .ok (.iaload, 1) := by decide +kernel
theorem d_L_642 : decode code 642 = .ok (.aload_n 0, 1) := by decide +kernel
theorem d_L_643 : decode code 643 = .ok (.iload 4, 2) := by decide +kernel
theorem d_L_645 : decode code 645 = .ok (.iconst 3, 1) := by decide +kernel
theorem d_L_646 : decode code 646 = .ok (.iadd, 1) := by decide +kernel
theorem d_L_647 : decode code 647 = .ok (.iaload, 1) := by decide +kernel
theorem d_L_648 : decode code 648 = .ok (.invokevirtual 61, 3) := by decide +kernel
theorem d_L_651 : decode code 651 = .ok (.pop, 1) := by decide +kernel
theorem d_L_652 : decode code 652 = .ok (.aload_n 2, 1) := by decide +kernel
theorem d_L_653 : decode code 653 = .ok (.aload_n 0, 1) := by decide +kernel
theorem d_L_654 : decode code 654 = .ok (.iload 4, 2) := by decide +kernel
theorem d_L_656 : decode code 656 = .ok (.iconst 1, 1) := by decide +kernel
theorem d_L_657 : decode code 657 = .ok (.iadd, 1) := by decide +kernel
theorem d_L_658 : decode code 658 = .ok (.iaload, 1) := by decide +kernel
theorem d_L_659 : decode code 659 = .ok (.aload_n 0, 1) := by decide +kernel
theorem d_L_660 : decode code 660 = .ok (.iload 4, 2) := by decide +kernel
theorem d_L_662 : decode code 662 = .ok (.iconst 2, 1) := by decide +kernel
theorem d_L_663 : decode code 663 = .ok (.iadd, 1) := by decide +kernel
theorem d_L_664 : decode code 664 = .ok (.iaload, 1) := by decide +kernel
theorem d_L_665 : decode code 665 = .ok (.aload_n 0, 1) := by decide +kernel
theorem d_L_666 : decode code 666 = .ok (.iload 4, 2) := by decide +kernel
theorem d_L_668 : decode code 668 = .ok (.iconst 3, 1) := by decide +kernel
theorem d_L_669 : decode code 669 = .ok (.iadd, 1) := by decide +kernel
theorem d_L_670 : decode code 670 = .ok (.iaload, 1) := by decide +kernel
theorem d_L_671 : decode code 671 = .ok (.invokevirtual 65, 3) := by decide +kernel
theorem d_L_674 : decode code 674 = .ok (.pop, 1) := by decide +kernel
theorem d_L_675 : decode code 675 = .ok (.goto 1731, 3) := by decide +kernel
theorem d_L_678 : decode code 678 = .ok (.aload_n 1, 1) := by decide +kernel
theorem d_L_679 : decode code 679 = .ok (.aload_n 0, 1) := by decide +kernel
theorem d_L_680 : decode code 680 = .ok (.iload 4, 2) := by decide +kernel
theorem d_L_682 : decode code 682 = .ok (.iconst 1, 1) := by decide +kernel
theorem d_L_683 : decode code 683 = .ok (.iadd, 1) := by decide +kernel
theorem d_L_684 : decode code 684 = .ok (.iaload, 1) := by decide +kernel
theorem d_L_685 : decode code 685 = .ok (.aload_n 0, 1) := by decide +kernel
theorem d_L_686 : decode code 686 = .ok (.iload 4, 2) := by decide +kernel
theorem d_L_688 : decode code 688 = .ok (.iconst 2, 1) := by decide +kernel
theorem d_L_689 : decode code 689 = .ok (.iadd, 1) := by decide +kernel
theorem d_L_690 : decode code 690 = .ok (.iaload, 1) := by decide +kernel
theorem d_L_691 : decode code 691 = .ok (.ifCond .eq 7, 3) := by decide +kernel
theorem d_L_694 : decode code 694 = .ok (.iconst 1, 1) := by decide +kernel
theorem d_L_695 : decode code 695 = .ok (.goto 4, 3) := by decide +kernel
theorem d_L_698 : decode code 698 = .ok (.iconst 0, 1) := by decide +kernel
theorem d_L_699 : decode code 699 = .ok (.invokevirtual 66, 3) := by decide +kernel
theorem d_L_702 : decode code 702 = .ok (.pop, 1) := by decide +kernel
theorem d_L_703 : decode code 703 = .ok (.aload_n 2, 1) := by decide +kernel
theorem d_L_704 : decode code 704 = .ok (.aload_n 0, 1) := by decide +kernel
theorem d_L_705 : decode code 705 = .ok (.iload 4, 2) := by decide +kernel
theorem d_L_707 : decode code 707 = .ok (.iconst 1, 1) := by decide +kernel
theorem d_L_708 : decode code 708 = .ok (.iadd, 1) := by decide +kernel
theorem d_L_709 : decode code 709 = .ok (.iaload, 1) := by decide +kernel
theorem d_L_710 : decode code 710 = .ok (.aload_n 0, 1) := by decide +kernel
theorem d_L_711 : decode code 711 = .ok (.iload 4, 2) := by decide +kernel
theorem d_L_713 : decode code 713 = .ok (.iconst 2, 1) := by decide +kernel
theorem d_L_714 : decode code 714 = .ok (.iadd, 1) := by decide +kernel
theorem d_L_715 : decode code 715 = .ok (.iaload, 1) := by decide +kernel
theorem d_L_716 : decode code 716 = .ok (.ifCond .eq 7, 3) := by decide +kernel
theorem d_L_719 : decode code 719 = .ok (.iconst 1, 1) := by decide +kernel
theorem d_L_720 : decode code 720 = .ok (.goto 4, 3) := by decide +kernel
theorem d_L_723 : decode code 723 = .ok (.iconst 0, 1) := by decide +kernel
theorem d_L_724 : decode code 724 = .ok (.invokevirtual 70, 3) := by decide +kernel
theorem d_L_727 : decode code 727 = .ok (.pop, 1) := by decide +kernel
theorem d_L_728 : decode code 728 = .ok (.goto 1678, 3) := by decide +kernel
theorem d_L_731 : decode code 731 = .ok (.aload_n 1, 1) := by decide +kernel
theorem d_L_732 : decode code 732 = .ok (.aload_n 0, 1) := by decide +kernel
theorem d_L_733 : decode code 733 = .ok (.iload 4, 2) := by decide +kernel
theorem d_L_735 : decode code 735 = .ok (.iconst 1, 1) := by decide +kernel
theorem d_L_736 : decode code 736 = .ok (.iadd, 1) := by decide +kernel
theorem d_L_737 : decode code 737 = .ok (.iaload, 1) := by decide +kernel
theorem d_L_738 : decode code 738 = .ok (.invokevirtual 71, 3) := by decide +kernel
theorem d_L_741 : decode code 741 = .ok (.pop, 1) := by decide +kernel
theorem d_L_742 : decode code 742 = .ok (.aload_n 2, 1) := by decide +kernel
theorem d_L_743 : decode code 743 = .ok (.aload_n 0, 1) := by decide +kernel
theorem d_L_744 : decode code 744 = .ok (.iload 4, 2) := by decide +kernel
theorem d_L_746 : decode code 746 = .ok (.iconst 1, 1) := by decide +kernel
theorem d_L_747 : decode code 747 = .ok (.iadd, 1) := by decide +kernel
theorem d_L_748 : decode code 748 = .ok (.iaload, 1) := by decide +kernel
theorem d_L_749 : decode code 749 = .ok (.invokevirtual 74, 3) := by decide +kernel
theorem d_L_752 : decode code 752 = .ok (.pop, 1) := by decide +kernel
theorem d_L_753 : decode code 753 = .ok (.goto 1653, 3) := by decide +kernel
theorem d_L_756 : decode code 756 = .ok (.aload_n 1, 1) := by decide +kernel
theorem d_L_757 : decode code 757 = .ok (.aload_n 0, 1) := by decide +kernel
theorem d_L_758 : decode code 758 = .ok (.iload 4, 2) := by decide +kernel
theorem d_L_760 : decode code 760 = .ok (.iconst 1, 1) := by decide +kernel
theorem d_L_761 : decode code 761 = .ok (.iadd, 1) := by decide +kernel
theorem d_L_762 : decode code 762 = .ok (.iaload, 1) := by decide +kernel
theorem d_L_763 : decode code 763 = .ok (.aload_n 0, 1) := by decide +kernel
theorem d_L_764 : decode code 764 = .ok (.iload 4, 2) := by decide +kernel
theorem d_L_766 : decode code 766 = .ok (.iconst 2, 1) := by decide +kernel
theorem d_L_767 : decode code 767 = .ok (.iadd, 1) := by decide +kernel
theorem d_L_768 : decode code 768 = .ok (.iaload, 1) := by decide +kernel
theorem d_L_769 : decode code 769 = .ok (.aload_n 3, 1) := by decide +kernel
theorem d_L_770 : decode code 770 = .ok (.invokestatic 75, 3) := by decide +kernel
theorem d_L_773 : decode code 773 = .ok (.istore 5, 2) := by decide +kernel
theorem d_L_775 : decode code 775 = .ok (.aload_n 2, 1) := by decide +kernel
theorem d_L_776 : decode code 776 = .ok (.aload_n 0, 1) := by decide +kernel
theorem d_L_777 : decode code 777 = .ok (.iload 4, 2) := by decide +kernel
theorem d_L_779 : decode code 779 = .ok (.iconst 1, 1) := by decide +kernel
theorem d_L_780 : decode code 780 = .ok (.iadd, 1) := by decide +kernel
theorem d_L_781 : decode code 781 = .ok (.iaload, 1) := by decide +kernel
theorem d_L_782 : decode code 782 = .ok (.aload_n 0, 1) := by decide +kernel
theorem d_L_783 : decode code 783 = .ok (.iload 4, 2) := by decide +kernel
theorem d_L_785 : decode code 785 = .ok (.iconst 2, 1) := by decide +kernel
