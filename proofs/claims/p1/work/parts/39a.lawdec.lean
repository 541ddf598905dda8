theorem d_L_0 : decode code 0 = .ok (.new 8, 3) := by decide +kernel
theorem d_L_3 : decode code 3 = .ok (.dup, 1) := by decide +kernel
theorem d_L_4 : decode code 4 = .ok (.invokespecial 15, 3) := by decide +kernel
theorem d_L_7 : decode code 7 = .ok (.astore_n 1, 1) := by decide +kernel
theorem d_L_8 : decode code 8 = .ok (.new 16, 3) := by decide +kernel
theorem d_L_11 : decode code 11 = .ok (.dup, 1) := by decide +kernel
theorem d_L_12 : decode code 12 = .ok (.invokespecial 18, 3) := by decide +kernel
theorem d_L_15 : decode code 15 = .ok (.astore_n 2, 1) := by decide +kernel
theorem d_L_16 : decode code 16 = .ok (.iconst 1, 1) := by decide +kernel
theorem d_L_17 : decode code 17 = .ok (.newarray .long, 2) := by decide +kernel
theorem d_L_19 : decode code 19 = .ok (.astore_n 3, 1) := by decide +kernel
theorem d_L_20 : decode code 20 = .ok (.iconst 0, 1) := by decide +kernel
theorem d_L_21 : decode code 21 = .ok (.istore 4, 2) := by decide +kernel
theorem d_L_23 : decode code 23 = .ok (.iload 4, 2) := by decide +kernel
theorem d_L_25 : decode code 25 = .ok (.aload_n 0, 1) := by decide +kernel
theorem d_L_26 : decode code 26 = .ok (.arraylength, 1) := by decide +kernel
theorem d_L_27 : decode code 27 = .ok (.bipush 6, 2) := by decide +kernel
theorem d_L_29 : decode code 29 = .ok (.isub, 1) := by decide +kernel
theorem d_L_30 : decode code 30 = .ok (.if_icmp .gt 2410, 3) := by decide +kernel
theorem d_L_33 : decode code 33 = .ok (.aload_n 0, 1) := by decide +kernel
theorem d_L_34 : decode code 34 = .ok (.iload 4, 2) := by decide +kernel
theorem d_L_36 : decode code 36 = .ok (.iaload, 1) := by decide +kernel
theorem d_L_37 : decode code 37 = .ok (.bipush 63, 2) := by decide +kernel
theorem d_L_39 : decode code 39 = .ok (.iand, 1) := by decide +kernel
theorem d_L_40 : decode code 40 = .ok (.tableswitch 2394 0 56 #[244, 293, 330, 379, 452, 477, 502, 515, 552, 589, 638, 691, 716, 784, 821, 870, 907, 944, 1017, 1042, 1079, 1116, 1153, 1178, 1203, 1240, 1277, 1354, 1379, 1428, 1477, 1526, 1551, 1604, 1629, 1642, 1667, 1692, 1717, 1766, 1803, 1828, 1865, 1914, 1939, 1964, 1975, 2000, 2049, 2098, 2147, 2160, 2197, 2246, 2271, 2308, 2369], 244) := by decide +kernel
theorem d_L_284 : decode code 284 = .ok (.aload_n 1, 1) := by decide +kernel
theorem d_L_285 : decode code 285 = .ok (.aload_n 0, 1) := by decide +kernel
theorem d_L_286 : decode code 286 = .ok (.iload 4, 2) := by decide +kernel
theorem d_L_288 : decode code 288 = .ok (.iconst 1, 1) := by decide +kernel
theorem d_L_289 : decode code 289 = .ok (.iadd, 1) := by decide +kernel
theorem d_L_290 : decode code 290 = .ok (.iaload, 1) := by decide +kernel
theorem d_L_291 : decode code 291 = .ok (.aload_n 0, 1) := by decide +kernel
theorem d_L_292 : decode code 292 = .ok (.iload 4, 2) := by decide +kernel
theorem d_L_294 : decode code 294 = .ok (.iconst 2, 1) := by decide +kernel
theorem d_L_295 : decode code 295 = .ok (.iadd, 1) := by decide +kernel
theorem d_L_296 : decode code 296 = .ok (.iaload, 1) := by decide +kernel
theorem d_L_297 : decode code 297 = .ok (.aload_n 0, 1) := by decide +kernel
theorem d_L_298 : decode code 298 = .ok (.iload 4, 2) := by decide +kernel
theorem d_L_300 : decode code 300 = .ok (.iconst 3, 1) := by decide +kernel
theorem d_L_301 : decode code 301 = .ok (.iadd, 1) := by decide +kernel
theorem d_L_302 : decode code 302 = .ok (.iaload, 1) := by decide +kernel
theorem d_L_303 : decode code 303 = .ok (.invokevirtual 19, 3) := by decide +kernel
theorem d_L_306 : decode code 306 = .ok (.aload_n 2, 1) := by decide +kernel
theorem d_L_307 : decode code 307 = .ok (.aload_n 0, 1) := by decide +kernel
theorem d_L_308 : decode code 308 = .ok (.iload 4, 2) := by decide +kernel
theorem d_L_310 : decode code 310 = .ok (.iconst 1, 1) := by decide +kernel
theorem d_L_311 : decode code 311 = .ok (.iadd, 1) := by decide +kernel
theorem d_L_312 : decode code 312 = .ok (.iaload, 1) := by decide +kernel
theorem d_L_313 : decode code 313 = .ok (.aload_n 0, 1) := by decide +kernel
theorem d_L_314 : decode code 314 = .ok (.iload 4, 2) := by decide +kernel
theorem d_L_316 : decode code 316 = .ok (.iconst 2, 1) := by decide +kernel
theorem d_L_317 : decode code 317 = .ok (.iadd, 1) := by decide +kernel
theorem d_L_318 : decode code 318 = .ok (.iaload, 1) := by decide +kernel
theorem d_L_319 : decode code 319 = .ok (.aload_n 0, 1) := by decide +kernel
theorem d_L_320 : decode code 320 = .ok (.iload 4, 2) := by decide +kernel
theorem d_L_322 : decode code 322 = .ok (.iconst 3, 1) := by decide +kernel
theorem d_L_323 : decode code 323 = .ok (.iadd, 1) := by decide +kernel
theorem d_L_324 : decode code 324 = .ok (.iaload, 1) := by decide +kernel
theorem d_L_325 : decode code 325 = .ok (.invokevirtual 23, 3) := by decide +kernel
theorem d_L_328 : decode code 328 = .ok (.if_icmp .eq 2106, 3) := by decide +kernel
theorem d_L_331 : decode code 331 = .ok (.iconst 0, 1) := by decide +kernel
theorem d_L_332 : decode code 332 = .ok (.ireturn, 1) := by decide +kernel
theorem d_L_333 : decode code 333 = .ok (.aload_n 1, 1) := by decide +kernel
theorem d_L_334 : decode code 334 = .ok (.aload_n 0, 1) := by decide +kernel
theorem d_L_335 : decode code 335 = .ok (.iload 4, 2) := by decide +kernel
theorem d_L_337 : decode code 337 = .ok (.iconst 1, 1) := by decide +kernel
theorem d_L_338 : decode code 338 = .ok (.iadd, 1) := by decide +kernel
theorem d_L_339 : decode code 339 = .ok (.iaload, 1) := by decide +kernel
theorem d_L_340 : decode code 340 = .ok (.aload_n 0, 1) := by decide +kernel
theorem d_L_341 : decode code 341 = .ok (.iload 4, 2) := by decide +kernel
theorem d_L_343 : decode code 343 = .ok (.iconst 2, 1) := by decide +kernel
theorem d_L_344 : decode code 344 = .ok (.iadd, 1) := by decide +kernel
theorem d_L_345 : decode code 345 = .ok (.iaload, 1) := by decide +kernel
theorem d_L_346 : decode code 346 = .ok (.invokevirtual 24, 3) := by decide +kernel
theorem d_L_349 : decode code 349 = .ok (.aload_n 2, 1) := by decide +kernel
theorem d_L_350 : decode code 350 = .ok (.aload_n 0, 1) := by decide +kernel
theorem d_L_351 : decode code 351 = .ok (.iload 4, 2) := by decide +kernel
theorem d_L_353 : decode code 353 = .ok (.iconst 1, 1) := by decide +kernel
theorem d_L_354 : decode code 354 = .ok (.iadd, 1) := by decide +kernel
theorem d_L_355 : decode code 355 = .ok (.iaload, 1) := by decide +kernel
theorem d_L_356 : decode code 356 = .ok (.aload_n 0, 1) := by decide +kernel
theorem d_L_357 : decode code 357 = .ok (.iload 4, 2) := by decide +kernel
theorem d_L_359 : decode code 359 = .ok (.iconst 2, 1) := by decide +kernel
theorem d_L_360 : decode code 360 = .ok (.iadd, 1) := by decide +kernel
theorem d_L_361 : decode code 361 = .ok (.iaload, 1) := by decide +kernel
theorem d_L_362 : decode code 362 = .ok (.invokevirtual 27, 3) := by decide +kernel
theorem d_L_365 : decode code 365 = .ok (.if_icmp .eq 2069, 3) := by decide +kernel
theorem d_L_368 : decode code 368 = .ok (.iconst 0, 1) := by decide +kernel
theorem d_L_369 : decode code 369 = .ok (.ireturn, 1) := by decide +kernel
theorem d_L_370 : decode code 370 = .ok (.aload_n 1, 1) := by decide +kernel
theorem d_L_371 : decode code 371 = .ok (.aload_n 0, 1) := by decide +kernel
theorem d_L_372 : decode code 372 = .ok (.iload 4, 2) := by decide +kernel
theorem d_L_374 : decode code 374 = .ok (.iconst 1, 1) := by decide +kernel
theorem d_L_375 : decode code 375 = .ok (.iadd, 1) := by decide +kernel
theorem d_L_376 : decode code 376 = .ok (.iaload, 1) := by decide +kernel
theorem d_L_377 : decode code 377 = .ok (.aload_n 0, 1) := by decide +kernel
theorem d_L_378 : decode code 378 = .ok (.iload 4, 2) := by decide +kernel
theorem d_L_380 : decode code 380 = .ok (.iconst 2, 1) := by decide +kernel
theorem d_L_381 : decode code 381 = .ok (.iadd, 1) := by decide +kernel
theorem d_L_382 : decode code 382 = .ok (.iaload, 1) := by decide +kernel
theorem d_L_383 : decode code 383 = .ok (.aload_n 0, 1) := by decide +kernel
theorem d_L_384 : decode code 384 = .ok (.iload 4, 2) := by decide +kernel
theorem d_L_386 : decode code 386 = .ok (.iconst 3, 1) := by decide +kernel
theorem d_L_387 : decode code 387 = .ok (.iadd, 1) := by decide +kernel
theorem d_L_388 : decode code 388 = .ok (.iaload, 1) := by decide +kernel
theorem d_L_389 : decode code 389 = .ok (.invokevirtual 28, 3) := by decide +kernel
theorem d_L_392 : decode code 392 = .ok (.aload_n 2, 1) := by decide +kernel
theorem d_L_393 : decode code 393 = .ok (.aload_n 0, 1) := by decide +kernel
theorem d_L_394 : decode code 394 = .ok (.iload 4, 2) := by decide +kernel
theorem d_L_396 : decode code 396 = .ok (.iconst 1, 1) := by decide +kernel
theorem d_L_397 : decode code 397 = .ok (.iadd, 1) := by decide +kernel
theorem d_L_398 : decode code 398 = .ok (.iaload, 1) := by decide +kernel
theorem d_L_399 : decode code 399 = .ok (.aload_n 0, 1) := by decide +kernel
theorem d_L_400 : decode code 400 = .ok (.iload 4, 2) := by decide +kernel
theorem d_L_402 : decode code 402 = .ok (.iconst 2, 1) := by decide +kernel
theorem d_L_403 : decode code 403 = .ok (.iadd, 1) := by decide +kernel
theorem d_L_404 : decode code 404 = .ok (.iaload, 1) := by decide +kernel
theorem d_L_405 : decode code 405 = .ok (.aload_n 0, 1) := by decide +kernel
theorem d_L_406 : decode code 406 = .ok (.iload 4, 2) := by decide +kernel
theorem d_L_408 : decode code 408 = .ok (.iconst 3, 1) := by decide +kernel
theorem d_L_409 : decode code 409 = .ok (.iadd, 1) := by decide +kernel
theorem d_L_410 : decode code 410 = .ok (.iaload, 1) := by decide +kernel
theorem d_L_411 : decode code 411 = .ok (.invokevirtual 31, 3) := by decide +kernel
theorem d_L_414 : decode code 414 = .ok (.if_icmp .eq 2020, 3) := by decide +kernel
theorem d_L_417 : decode code 417 = .ok (.iconst 0, 1) := by decide +kernel
theorem d_L_418 : decode code 418 = .ok (.ireturn, 1) := by decide +kernel
theorem d_L_419 : decode code 419 = .ok (.aload_n 1, 1) := by decide +kernel
theorem d_L_420 : decode code 420 = .ok (.aload_n 0, 1) := by decide +kernel
theorem d_L_421 : decode code 421 = .ok (.iload 4, 2) := by decide +kernel
theorem d_L_423 : decode code 423 = .ok (.iconst 1, 1) := by decide +kernel
theorem d_L_424 : decode code 424 = .ok (.iadd, 1) := by decide +kernel
theorem d_L_425 : decode code 425 = .ok (.iaload, 1) := by decide +kernel
theorem d_L_426 : decode code 426 = .ok (.aload_n 0, 1) := by decide +kernel
theorem d_L_427 : decode code 427 = .ok (.iload 4, 2) := by decide +kernel
theorem d_L_429 : decode code 429 = .ok (.iconst 2, 1) := by decide +kernel
theorem d_L_430 : decode code 430 = .ok (.iadd, 1) := by decide +kernel
theorem d_L_431 : decode code 431 = .ok (.iaload, 1) := by decide +kernel
theorem d_L_432 : decode code 432 = .ok (.aload_n 0, 1) := by decide +kernel
theorem d_L_433 : decode code 433 = .ok (.iload 4, 2) := by decide +kernel
theorem d_L_435 : decode code 435 = .ok (.iconst 3, 1) := by decide +kernel
theorem d_L_436 : decode code 436 = .ok (.iadd, 1) := by decide +kernel
theorem d_L_437 : decode code 437 = .ok (.iaload, 1) := by decide +kernel
theorem d_L_438 : decode code 438 = .ok (.aload_n 0, 1) := by decide +kernel
theorem d_L_439 : decode code 439 = .ok (.iload 4, 2) := by decide +kernel
theorem d_L_441 : decode code 441 = .ok (.iconst 4, 1) := by decide +kernel
theorem d_L_442 : decode code 442 = .ok (.iadd, 1) := by decide +kernel
theorem d_L_443 : decode code 443 = .ok (.iaload, 1) := by decide +kernel
theorem d_L_444 : decode code 444 = .ok (.aload_n 0, 1) := by decide +kernel
theorem d_L_445 : decode code 445 = .ok (.iload 4, 2) := by decide +kernel
theorem d_L_447 : decode code 447 = .ok (.iconst 5, 1) := by decide +kernel
theorem d_L_448 : decode code 448 = .ok (.iadd, 1) := by decide +kernel
theorem d_L_449 : decode code 449 = .ok (.iaload, 1) := by decide +kernel
theorem d_L_450 : decode code 450 = .ok (.invokevirtual 32, 3) := by decide +kernel
theorem d_L_453 : decode code 453 = .ok (.aload_n 2, 1) := by decide +kernel
theorem d_L_454 : decode code 454 = .ok (.aload_n 0, 1) := by decide +kernel
theorem d_L_455 : decode code 455 = .ok (.iload 4, 2) := by decide +kernel
theorem d_L_457 : decode code 457 = .ok (.iconst 1, 1) := by decide +kernel
theorem d_L_458 : decode code 458 = .ok (.iadd, 1) := by decide +kernel
theorem d_L_459 : decode code 459 = .ok (.iaload, 1) := by decide +kernel
theorem d_L_460 : decode code 460 = .ok (.aload_n 0, 1) := by decide +kernel
theorem d_L_461 : decode code 461 = .ok (.iload 4, 2) := by decide +kernel
theorem d_L_463 : decode code 463 = .ok (.iconst 2, 1) := by decide +kernel
theorem d_L_464 : decode code 464 = .ok (.iadd, 1) := by decide +kernel
theorem d_L_465 : decode code 465 = .ok (.iaload, 1) := by decide +kernel
theorem d_L_466 : decode code 466 = .ok (.aload_n 0, 1) := by decide +kernel
theorem d_L_467 : decode code 467 = .ok (.iload 4, 2) := by decide +kernel
theorem d_L_469 : decode code 469 = .ok (.iconst 3, 1) := by decide +kernel
theorem d_L_470 : decode code 470 = .ok (.iadd, 1) := by decide +kernel
theorem d_L_471 : decode code 471 = .ok (.iaload, 1) := by decide +kernel
theorem d_L_472 : decode code 472 = .ok (.aload_n 0, 1) := by decide +kernel
theorem d_L_473 : decode code 473 = .ok (.iload 4, 2) := by decide +kernel
theorem d_L_475 : decode code 475 = .ok (.iconst 4, 1) := by decide +kernel
theorem d_L_476 : decode code 476 = .ok (.iadd, 1) := by decide +kernel
theorem d_L_477 : decode code 477 = .ok (.iaload, 1) := by decide +kernel
theorem d_L_478 : decode code 478 = .ok (.aload_n 0, 1) := by decide +kernel
theorem d_L_479 : decode code 479 = .ok (.iload 4, 2) := by decide +kernel
theorem d_L_481 : decode code 481 = .ok (.iconst 5, 1) := by decide +kernel
theorem d_L_482 : decode code 482 = .ok (.iadd, 1) := by decide +kernel
theorem d_L_483 : decode code 483 = .ok (.iaload, 1) := by decide +kernel
theorem d_L_484 : decode code 484 = .ok (.invokevirtual 36, 3) := by decide +kernel
theorem d_L_487 : decode code 487 = .ok (.if_icmp .eq 1947, 3) := by decide +kernel
theorem d_L_490 : decode code 490 = .ok (.iconst 0, 1) := by decide +kernel
theorem d_L_491 : decode code 491 = .ok (.ireturn, 1) := by decide +kernel
theorem d_L_492 : decode code 492 = .ok (.aload_n 1, 1) := by decide +kernel
theorem d_L_493 : decode code 493 = .ok (.aload_n 0, 1) := by decide +kernel
theorem d_L_494 : decode code 494 = .ok (.iload 4, 2) := by decide +kernel
theorem d_L_496 : decode code 496 = .ok (.iconst 1, 1) := by decide +kernel
theorem d_L_497 : decode code 497 = .ok (.iadd, 1) := by decide +kernel
theorem d_L_498 : decode code 498 = .ok (.iaload, 1) := by decide +kernel
theorem d_L_499 : decode code 499 = .ok (.invokevirtual 37, 3) := by decide +kernel
theorem d_L_502 : decode code 502 = .ok (.aload_n 2, 1) := by decide +kernel
theorem d_L_503 : decode code 503 = .ok (.aload_n 0, 1) := by decide +kernel
theorem d_L_504 : decode code 504 = .ok (.iload 4, 2) := by decide +kernel
theorem d_L_506 : decode code 506 = .ok (.iconst 1, 1) := by decide +kernel
theorem d_L_507 : decode code 507 = .ok (.iadd, 1) := by decide +kernel
theorem d_L_508 : decode code 508 = .ok (.iaload, 1) := by decide +kernel
theorem d_L_509 : decode code 509 = .ok (.invokevirtual 41, 3) := by decide +kernel
theorem d_L_512 : decode code 512 = .ok (.if_icmp .eq 1922, 3) := by decide +kernel
theorem d_L_515 : decode code 515 = .ok (.iconst 0, 1) := by decide +kernel
theorem d_L_516 : decode code 516 = .ok (.ireturn, 1) := by decide +kernel
theorem d_L_517 : decode code 517 = .ok (.aload_n 1, 1) := by decide +kernel
theorem d_L_518 : decode code 518 = .ok (.aload_n 0, 1) := by decide +kernel
theorem d_L_519 : decode code 519 = .ok (.iload 4, 2) := by decide +kernel
theorem d_L_521 : decode code 521 = .ok (.iconst 1, 1) := by decide +kernel
theorem d_L_522 : decode code 522 = .ok (.iadd, 1) := by decide +kernel
theorem d_L_523 : decode code 523 = .ok (.iaload, 1) := by decide +kernel
theorem d_L_524 : decode code 524 = .ok (.invokevirtual 42, 3) := by decide +kernel
theorem d_L_527 : decode code 527 = .ok (.aload_n 2, 1) := by decide +kernel
theorem d_L_528 : decode code 528 = .ok (.aload_n 0, 1) := by decide +kernel
theorem d_L_529 : decode code 529 = .ok (.iload 4, 2) := by decide +kernel
theorem d_L_531 : decode code 531 = .ok (.iconst 1, 1) := by decide +kernel
theorem d_L_532 : decode code 532 = .ok (.iadd, 1) := by decide +kernel
theorem d_L_533 : decode code 533 = .ok (.iaload, 1) := by decide +kernel
theorem d_L_534 : decode code 534 = .ok (.invokevirtual 46, 3) := by decide +kernel
theorem d_L_537 : decode code 537 = .ok (.if_icmp .eq 1897, 3) := by decide +kernel
theorem d_L_540 : decode code 540 = .ok (.iconst 0, 1) := by decide +kernel
theorem d_L_541 : decode code 541 = .ok (.ireturn, 1) := by decide +kernel
theorem d_L_542 : decode code 542 = .ok (.aload_n 1, 1) := by decide +kernel
theorem d_L_543 : decode code 543 = .ok (.invokevirtual 47, 3) := by decide +kernel
theorem d_L_546 : decode code 546 = .ok (.aload_n 2, 1) := by decide +kernel
theorem d_L_547 : decode code 547 = .ok (.invokevirtual 51, 3) := by decide +kernel
theorem d_L_550 : decode code 550 = .ok (.if_icmp .eq 1884, 3) := by decide +kernel
theorem d_L_553 : decode code 553 = .ok (.iconst 0, 1) := by decide +kernel
theorem d_L_554 : decode code 554 = .ok (.ireturn, 1) := by decide +kernel
theorem d_L_555 : decode code 555 = .ok (.aload_n 1, 1) := by decide +kernel
theorem d_L_556 : decode code 556 = .ok (.aload_n 0, 1) := by decide +kernel
theorem d_L_557 : decode code 557 = .ok (.iload 4, 2) := by decide +kernel
theorem d_L_559 : decode code 559 = .ok (.iconst 1, 1) := by decide +kernel
theorem d_L_560 : decode code 560 = .ok (.iadd, 1) := by decide +kernel
theorem d_L_561 : decode code 561 = .ok (.iaload, 1) := by decide +kernel
theorem d_L_562 : decode code 562 = .ok (.aload_n 0, 1) := by decide +kernel
theorem d_L_563 : decode code 563 = .ok (.iload 4, 2) := by decide +kernel
theorem d_L_565 : decode code 565 = .ok (.iconst 2, 1) := by decide +kernel
theorem d_L_566 : decode code 566 = .ok (.iadd, 1) := by decide +kernel
theorem d_L_567 : decode code 567 = .ok (.iaload, 1) := by decide +kernel
theorem d_L_568 : decode code 568 = .ok (.invokevirtual 52, 3) := by decide +kernel
theorem d_L_571 : decode code 571 = .ok (.aload_n 2, 1) := by decide +kernel
theorem d_L_572 : decode code 572 = .ok (.aload_n 0, 1) := by decide +kernel
theorem d_L_573 : decode code 573 = .ok (.iload 4, 2) := by decide +kernel
theorem d_L_575 : decode code 575 = .ok (.iconst 1, 1) := by decide +kernel
theorem d_L_576 : decode code 576 = .ok (.iadd, 1) := by decide +kernel
theorem d_L_577 : decode code 577 = .ok (.iaload, 1) := by decide +kernel
theorem d_L_578 : decode code 578 = .ok (.aload_n 0, 1) := by decide +kernel
theorem d_L_579 : decode code 579 = .ok (.iload 4, 2) := by decide +kernel
theorem d_L_581 : decode code 581 = .ok (.iconst 2, 1) := by decide +kernel
theorem d_L_582 : decode code 582 = .ok (.iadd, 1) := by decide +kernel
theorem d_L_583 : decode code 583 = .ok (.iaload, 1) := by decide +kernel
theorem d_L_584 : decode code 584 = .ok (.invokevirtual 55, 3) := by decide +kernel
theorem d_L_587 : decode code 587 = .ok (.if_icmp .eq 1847, 3) := by decide +kernel
theorem d_L_590 : decode code 590 = .ok (.iconst 0, 1) := by decide +kernel
theorem d_L_591 : decode code 591 = .ok (.ireturn, 1) := by decide +kernel
theorem d_L_592 : decode code 592 = .ok (.aload_n 1, 1) := by decide +kernel
theorem d_L_593 : decode code 593 = .ok (.aload_n 0, 1) := by decide +kernel
theorem d_L_594 : decode code 594 = .ok (.iload 4, 2) := by decide +kernel
theorem d_L_596 : decode code 596 = .ok (.iconst 1, 1) := by decide +kernel
theorem d_L_597 : decode code 597 = .ok (.iadd, 1) := by decide +kernel
theorem d_L_598 : decode code 598 = .ok (.iaload, 1) := by decide +kernel
theorem d_L_599 : decode code 599 = .ok (.aload_n 0, 1) := by decide +kernel
theorem d_L_600 : decode code 600 = .ok (.iload 4, 2) := by decide +kernel
theorem d_L_602 : decode code 602 = .ok (.iconst 2, 1) := by decide +kernel
theorem d_L_603 : decode code 603 = .ok (.iadd, 1) := by decide +kernel
theorem d_L_604 : decode code 604 = .ok (.iaload, 1) := by decide +kernel
theorem d_L_605 : decode code 605 = .ok (.invokevirtual 56, 3) := by decide +kernel
theorem d_L_608 : decode code 608 = .ok (.aload_n 2, 1) := by decide +kernel
theorem d_L_609 : decode code 609 = .ok (.aload_n 0, 1) := by decide +kernel
theorem d_L_610 : decode code 610 = .ok (.iload 4, 2) := by decide +kernel
theorem d_L_612 : decode code 612 = .ok (.iconst 1, 1) := by decide +kernel
theorem d_L_613 : decode code 613 = .ok (.iadd, 1) := by decide +kernel
theorem d_L_614 : decode code 614 = .ok (.iaload, 1) := by decide +kernel
theorem d_L_615 : decode code 615 = .ok (.aload_n 0, 1) := by decide +kernel
theorem d_L_616 : decode code 616 = .ok (.iload 4, 2) := by decide +kernel
theorem d_L_618 : decode code 618 = .ok (.iconst 2, 1) := by decide +kernel
theorem d_L_619 : decode code 619 = .ok (.iadd, 1) := by decide +kernel
theorem d_L_620 : decode code 620 = .ok (.iaload, 1) := by decide +kernel
theorem d_L_621 : decode code 621 = .ok (.invokevirtual 60, 3) := by decide +kernel
theorem d_L_624 : decode code 624 = .ok (.if_icmp .eq 1810, 3) := by decide +kernel
theorem d_L_627 : decode code 627 = .ok (.iconst 0, 1) := by decide +kernel
theorem d_L_628 : decode code 628 = .ok (.ireturn, 1) := by decide +kernel
theorem d_L_629 : decode code 629 = .ok (.aload_n 1, 1) := by decide +kernel
theorem d_L_630 : decode code 630 = .ok (.aload_n 0, 1) := by decide +kernel
theorem d_L_631 : decode code 631 = .ok (.iload 4, 2) := by decide +kernel
theorem d_L_633 : decode code 633 = .ok (.iconst 1, 1) := by decide +kernel
theorem d_L_634 : decode code 634 = .ok (.iadd, 1) := by decide +kernel
theorem d_L_635 : decode code 635 = .ok (.iaload, 1) := by decide +kernel
theorem d_L_636 : decode code 636 = .ok (.aload_n 0, 1) := by decide +kernel
theorem d_L_637 : decode code 637 = .ok (.iload 4, 2) := by decide +kernel
theorem d_L_639 : decode code 639 = .ok (.iconst 2, 1) := by decide +kernel
theorem d_L_640 : decode code 640 = .ok (.iadd, 1) := by decide +kernel
theorem d_L_641 : decode code 641 = .ok (.iaload, 1) := by decide +kernel
theorem d_L_642 : decode code 642 = .ok (.aload_n 0, 1) := by decide +kernel
theorem d_L_643 : decode code 643 = .ok (.iload 4, 2) := by decide +kernel
theorem d_L_645 : decode code 645 = .ok (.iconst 3, 1) := by decide +kernel
theorem d_L_646 : decode code 646 = .ok (.iadd, 1) := by decide +kernel
theorem d_L_647 : decode code 647 = .ok (.iaload, 1) := by decide +kernel
theorem d_L_648 : decode code 648 = .ok (.invokevirtual 61, 3) := by decide +kernel
theorem d_L_651 : decode code 651 = .ok (.aload_n 2, 1) := by decide +kernel
theorem d_L_652 : decode code 652 = .ok (.aload_n 0, 1) := by decide +kernel
theorem d_L_653 : decode code 653 = .ok (.iload 4, 2) := by decide +kernel
theorem d_L_655 : decode code 655 = .ok (.iconst 1, 1) := by decide +kernel
theorem d_L_656 : decode code 656 = .ok (.iadd, 1) := by decide +kernel
theorem d_L_657 : decode code 657 = .ok (.iaload, 1) := by decide +kernel
theorem d_L_658 : decode code 658 = .ok (.aload_n 0, 1) := by decide +kernel
theorem d_L_659 : decode code 659 = .ok (.iload 4, 2) := by decide +kernel
theorem d_L_661 : decode code 661 = .ok (.iconst 2, 1) := by decide +kernel
theorem d_L_662 : decode code 662 = .ok (.iadd, 1) := by decide +kernel
theorem d_L_663 : decode code 663 = .ok (.iaload, 1) := by decide +kernel
theorem d_L_664 : decode code 664 = .ok (.aload_n 0, 1) := by decide +kernel
theorem d_L_665 : decode code 665 = .ok (.iload 4, 2) := by decide +kernel
theorem d_L_667 : decode code 667 = .ok (.iconst 3, 1) := by decide +kernel
theorem d_L_668 : decode code 668 = .ok (.iadd, 1) := by decide +kernel
theorem d_L_669 : decode code 669 = .ok (.iaload, 1) := by decide +kernel
theorem d_L_670 : decode code 670 = .ok (.invokevirtual 65, 3) := by decide +kernel
theorem d_L_673 : decode code 673 = .ok (.if_icmp .eq 1761, 3) := by decide +kernel
theorem d_L_676 : decode code 676 = .ok (.iconst 0, 1) := by decide +kernel
theorem d_L_677 : decode code 677 = .ok (.ireturn, 1) := by decide +kernel
theorem d_L_678 : decode code 678 = .ok (.aload_n 1, 1) := by decide +kernel
theorem d_L_679 : decode code 679 = .ok (.aload_n 0, 1) := by decide +kernel
theorem d_L_680 : decode code 680 = .ok (.iload 4, 2) := by decide +kernel
theorem d_L_682 : decode code 682 = .ok (.iconst 1, 1) := by decide +kernel
theorem d_L_683 : decode code 683 = .ok (.iadd, 1) := by decide +kernel
theorem d_L_684 : decode code 684 = .ok (.iaload, 1) := by decide +kernel
theorem d_L_685 : decode code 685 = .ok (.aload_n 0, 1) := by decide +kernel
theorem d_L_686 : decode code 686 = .ok (.iload 4, 2) := by decide +kernel
theorem d_L_688 : decode code 688 = .ok (.iconst 2, 1) := by decide +kernel
theorem d_L_689 : decode code 689 = .ok (.iadd, 1) := by decide +kernel
theorem d_L_690 : decode code 690 = .ok (.iaload, 1) := by decide +kernel
theorem d_L_691 : decode code 691 = .ok (.ifCond .eq 7, 3) := by decide +kernel
theorem d_L_694 : decode code 694 = .ok (.iconst 1, 1) := by decide +kernel
theorem d_L_695 : decode code 695 = .ok (.goto 4, 3) := by decide +kernel
theorem d_L_698 : decode code 698 = .ok (.iconst 0, 1) := by decide +kernel
theorem d_L_699 : decode code 699 = .ok (.invokevirtual 66, 3) := by decide +kernel
theorem d_L_702 : decode code 702 = .ok (.aload_n 2, 1) := by decide +kernel
theorem d_L_703 : decode code 703 = .ok (.aload_n 0, 1) := by decide +kernel
theorem d_L_704 : decode code 704 = .ok (.iload 4, 2) := by decide +kernel
theorem d_L_706 : decode code 706 = .ok (.iconst 1, 1) := by decide +kernel
theorem d_L_707 : decode code 707 = .ok (.iadd, 1) := by decide +kernel
theorem d_L_708 : decode code 708 = .ok (.iaload, 1) := by decide +kernel
theorem d_L_709 : decode code 709 = .ok (.aload_n 0, 1) := by decide +kernel
theorem d_L_710 : decode code 710 = .ok (.iload 4, 2) := by decide +kernel
theorem d_L_712 : decode code 712 = .ok (.iconst 2, 1) := by decide +kernel
theorem d_L_713 : decode code 713 = .ok (.iadd, 1) := by decide +kernel
theorem d_L_714 : decode code 714 = .ok (.iaload, 1) := by decide +kernel
theorem d_L_715 : decode code 715 = .ok (.ifCond .eq 7, 3) := by decide +kernel
theorem d_L_718 : decode code 718 = .ok (.iconst 1, 1) := by decide +kernel
theorem d_L_719 : decode code 719 = .ok (.goto 4, 3) := by decide +kernel
theorem d_L_722 : decode code 722 = .ok (.iconst 0, 1) := by decide +kernel
theorem d_L_723 : decode code 723 = .ok (.invokevirtual 70, 3) := by decide +kernel
theorem d_L_726 : decode code 726 = .ok (.if_icmp .eq 1708, 3) := by decide +kernel
theorem d_L_729 : decode code 729 = .ok (.iconst 0, 1) := by decide +kernel
theorem d_L_730 : decode code 730 = .ok (.ireturn, 1) := by decide +kernel
theorem d_L_731 : decode code 731 = .ok (.aload_n 1, 1) := by decide +kernel
theorem d_L_732 : decode code 732 = .ok (.aload_n 0, 1) := by decide +kernel
theorem d_L_733 : decode code 733 = .ok (.iload 4, 2) := by decide +kernel
theorem d_L_735 : decode code 735 = .ok (.iconst 1, 1) := by decide +kernel
theorem d_L_736 : decode code 736 = .ok (.iadd, 1) := by decide +kernel
theorem d_L_737 : decode code 737 = .ok (.iaload, 1) := by decide +kernel
theorem d_L_738 : decode code 738 = .ok (.invokevirtual 71, 3) := by decide +kernel
theorem d_L_741 : decode code 741 = .ok (.aload_n 2, 1) := by decide +kernel
theorem d_L_742 : decode code 742 = .ok (.aload_n 0, 1) := by decide +kernel
theorem d_L_743 : decode code 743 = .ok (.iload 4, 2) := by decide +kernel
theorem d_L_745 : decode code 745 = .ok (.iconst 1, 1) := by decide +kernel
theorem d_L_746 : decode code 746 = .ok (.iadd, 1) := by decide +kernel
theorem d_L_747 : decode code 747 = .ok (.iaload, 1) := by decide +kernel
theorem d_L_748 : decode code 748 = .ok (.invokevirtual 74, 3) := by decide +kernel
theorem d_L_751 : decode code 751 = .ok (.if_icmp .eq 1683, 3) := by decide +kernel
theorem d_L_754 : decode code 754 = .ok (.iconst 0, 1) := by decide +kernel
theorem d_L_755 : decode code 755 = .ok (.ireturn, 1) := by decide +kernel
theorem d_L_756 : decode code 756 = .ok (.aload_n 1, 1) := by decide +kernel
theorem d_L_757 : decode code 757 = .ok (.aload_n 0, 1) := by decide +kernel
theorem d_L_758 : decode code 758 = .ok (.iload 4, 2) := by decide +kernel
theorem d_L_760 : decode code 760 = .ok (.iconst 1, 1) := by decide +kernel
theorem d_L_761 : decode code 761 = .ok (.iadd, 1) := by decide +kernel
theorem d_L_762 : decode code 762 = .ok (.iaload, 1) := by decide +kernel
theorem d_L_763 : decode code 763 = .ok (.aload_n 0, 1) := by decide +kernel
theorem d_L_764 : decode code 764 = .ok (.iload 4, 2) := by decide +kernel
theorem d_L_766 : decode code 766 = .ok (.iconst 2, 1) := by decide +kernel
theorem d_L_767 : decode code 767 = .ok (.iadd, 1) := by decide +kernel
theorem d_L_768 : decode code 768 = .ok (.iaload, 1) := by decide +kernel
theorem d_L_769 : decode code 769 = .ok (.aload_n 3, 1) := by decide +kernel
theorem d_L_770 : decode code 770 = .ok (.invokestatic 75, 3) := by decide +kernel
theorem d_L_773 : decode code 773 = .ok (.istore 5, 2) := by decide +kernel
theorem d_L_775 : decode code 775 = .ok (.aload_n 2, 1) := by decide +kernel
theorem d_L_776 : decode code 776 = .ok (.aload_n 0, 1) := by decide +kernel
theorem d_L_777 : decode code 777 = .ok (.iload 4, 2) := by decide +kernel
theorem d_L_779 : decode code 779 = .ok (.iconst 1, 1) := by decide +kernel
theorem d_L_780 : decode code 780 = .ok (.iadd, 1) := by decide +kernel
theorem d_L_781 : decode code 781 = .ok (.iaload, 1) := by decide +kernel
theorem d_L_782 : decode code 782 = .ok (.aload_n 0, 1) := by decide +kernel
theorem d_L_783 : decode code 783 = .ok (.iload 4, 2) := by decide +kernel
theorem d_L_785 : decode code 785 = .ok (.iconst 2, 1) := by decide +kernel
theorem d_L_786 : decode code 786 = .ok (.iadd, 1) := by decide +kernel
theorem d_L_787 : decode code 787 = .ok (.iaload, 1) := by decide +kernel
theorem d_L_788 : decode code 788 = .ok (.invokevirtual 80, 3) := by decide +kernel
theorem d_L_791 : decode code 791 = .ok (.istore 6, 2) := by decide +kernel
theorem d_L_793 : decode code 793 = .ok (.aload_n 2, 1) := by decide +kernel
theorem d_L_794 : decode code 794 = .ok (.invokevirtual 81, 3) := by decide +kernel
theorem d_L_797 : decode code 797 = .ok (.iload 5, 2) := by decide +kernel
theorem d_L_799 : decode code 799 = .ok (.if_icmp .eq 5, 3) := by decide +kernel
theorem d_L_802 : decode code 802 = .ok (.iconst 0, 1) := by decide +kernel
theorem d_L_803 : decode code 803 = .ok (.ireturn, 1) := by decide +kernel
theorem d_L_804 : decode code 804 = .ok (.iload 5, 2) := by decide +kernel
theorem d_L_806 : decode code 806 = .ok (.ifCond .ne 15, 3) := by decide +kernel
theorem d_L_809 : decode code 809 = .ok (.aload_n 3, 1) := by decide +kernel
theorem d_L_810 : decode code 810 = .ok (.iconst 0, 1) := by decide +kernel
theorem d_L_811 : decode code 811 = .ok (.laload, 1) := by decide +kernel
theorem d_L_812 : decode code 812 = .ok (.iload 6, 2) := by decide +kernel
theorem d_L_814 : decode code 814 = .ok (.i2l, 1) := by decide +kernel
theorem d_L_815 : decode code 815 = .ok (.lcmp, 1) := by decide +kernel
theorem d_L_816 : decode code 816 = .ok (.ifCond .eq 5, 3) := by decide +kernel
theorem d_L_819 : decode code 819 = .ok (.iconst 0, 1) := by decide +kernel
theorem d_L_820 : decode code 820 = .ok (.ireturn, 1) := by decide +kernel
theorem d_L_821 : decode code 821 = .ok (.goto 1613, 3) := by decide +kernel
theorem d_L_824 : decode code 824 = .ok (.aload_n 1, 1) := by decide +kernel
theorem d_L_825 : decode code 825 = .ok (.aload_n 0, 1) := by decide +kernel
theorem d_L_826 : decode code 826 = .ok (.iload 4, 2) := by decide +kernel
theorem d_L_828 : decode code 828 = .ok (.iconst 1, 1) := by decide +kernel
theorem d_L_829 : decode code 829 = .ok (.iadd, 1) := by decide +kernel
theorem d_L_830 : decode code 830 = .ok (.iaload, 1) := by decide +kernel
theorem d_L_831 : decode code 831 = .ok (.aload_n 0, 1) := by decide +kernel
theorem d_L_832 : decode code 832 = .ok (.iload 4, 2) := by decide +kernel
theorem d_L_834 : decode code 834 = .ok (.iconst 2, 1) := by decide +kernel
theorem d_L_835 : decode code 835 = .ok (.iadd, 1) := by decide +kernel
theorem d_L_836 : decode code 836 = .ok (.iaload, 1) := by decide +kernel
theorem d_L_837 : decode code 837 = .ok (.invokevirtual 84, 3) := by decide +kernel
theorem d_L_840 : decode code 840 = .ok (.aload_n 2, 1) := by decide +kernel
theorem d_L_841 : decode code 841 = .ok (.aload_n 0, 1) := by decide +kernel
theorem d_L_842 : decode code 842 = .ok (.iload 4, 2) := by decide +kernel
theorem d_L_844 : decode code 844 = .ok (.iconst 1, 1) := by decide +kernel
theorem d_L_845 : decode code 845 = .ok (.iadd, 1) := by decide +kernel
theorem d_L_846 : decode code 846 = .ok (.iaload, 1) := by decide +kernel
theorem d_L_847 : decode code 847 = .ok (.aload_n 0, 1) := by decide +kernel
theorem d_L_848 : decode code 848 = .ok (.iload 4, 2) := by decide +kernel
theorem d_L_850 : decode code 850 = .ok (.iconst 2, 1) := by decide +kernel
theorem d_L_851 : decode code 851 = .ok (.iadd, 1) := by decide +kernel
theorem d_L_852 : decode code 852 = .ok (.iaload, 1) := by decide +kernel
theorem d_L_853 : decode code 853 = .ok (.invokevirtual 87, 3) := by decide +kernel
theorem d_L_856 : decode code 856 = .ok (.if_icmp .eq 1578, 3) := by decide +kernel
theorem d_L_859 : decode code 859 = .ok (.iconst 0, 1) := by decide +kernel
theorem d_L_860 : decode code 860 = .ok (.ireturn, 1) := by decide +kernel
theorem d_L_861 : decode code 861 = .ok (.aload_n 1, 1) := by decide +kernel
theorem d_L_862 : decode code 862 = .ok (.aload_n 0, 1) := by decide +kernel
theorem d_L_863 : decode code 863 = .ok (.iload 4, 2) := by decide +kernel
theorem d_L_865 : decode code 865 = .ok (.iconst 1, 1) := by decide +kernel
theorem d_L_866 : decode code 866 = .ok (.iadd, 1) := by decide +kernel
theorem d_L_867 : decode code 867 = .ok (.iaload, 1) := by decide +kernel
theorem d_L_868 : decode code 868 = .ok (.aload_n 0, 1) := by decide +kernel
theorem d_L_869 : decode code 869 = .ok (.iload 4, 2) := by decide +kernel
theorem d_L_871 : decode code 871 = .ok (.iconst 2, 1) := by decide +kernel
theorem d_L_872 : decode code 872 = .ok (.iadd, 1) := by decide +kernel
theorem d_L_873 : decode code 873 = .ok (.iaload, 1) := by decide +kernel
theorem d_L_874 : decode code 874 = .ok (.aload_n 0, 1) := by decide +kernel
theorem d_L_875 : decode code 875 = .ok (.iload 4, 2) := by decide +kernel
theorem d_L_877 : decode code 877 = .ok (.iconst 3, 1) := by decide +kernel
theorem d_L_878 : decode code 878 = .ok (.iadd, 1) := by decide +kernel
theorem d_L_879 : decode code 879 = .ok (.iaload, 1) := by decide +kernel
theorem d_L_880 : decode code 880 = .ok (.invokevirtual 88, 3) := by decide +kernel
theorem d_L_883 : decode code 883 = .ok (.aload_n 2, 1) := by decide +kernel
theorem d_L_884 : decode code 884 = .ok (.aload_n 0, 1) := by decide +kernel
theorem d_L_885 : decode code 885 = .ok (.iload 4, 2) := by decide +kernel
theorem d_L_887 : decode code 887 = .ok (.iconst 1, 1) := by decide +kernel
theorem d_L_888 : decode code 888 = .ok (.iadd, 1) := by decide +kernel
theorem d_L_889 : decode code 889 = .ok (.iaload, 1) := by decide +kernel
theorem d_L_890 : decode code 890 = .ok (.aload_n 0, 1) := by decide +kernel
theorem d_L_891 : decode code 891 = .ok (.iload 4, 2) := by decide +kernel
theorem d_L_893 : decode code 893 = .ok (.iconst 2, 1) := by decide +kernel
theorem d_L_894 : decode code 894 = .ok (.iadd, 1) := by decide +kernel
theorem d_L_895 : decode code 895 = .ok (.iaload, 1) := by decide +kernel
theorem d_L_896 : decode code 896 = .ok (.aload_n 0, 1) := by decide +kernel
theorem d_L_897 : decode code 897 = .ok (.iload 4, 2) := by decide +kernel
theorem d_L_899 : decode code 899 = .ok (.iconst 3, 1) := by decide +kernel
theorem d_L_900 : decode code 900 = .ok (.iadd, 1) := by decide +kernel
theorem d_L_901 : decode code 901 = .ok (.iaload, 1) := by decide +kernel
theorem d_L_902 : decode code 902 = .ok (.invokevirtual 91, 3) := by decide +kernel
theorem d_L_905 : decode code 905 = .ok (.if_icmp .eq 1529, 3) := by decide +kernel
theorem d_L_908 : decode code 908 = .ok (.iconst 0, 1) := by decide +kernel
theorem d_L_909 : decode code 909 = .ok (.ireturn, 1) := by decide +kernel
theorem d_L_910 : decode code 910 = .ok (.aload_n 1, 1) := by decide +kernel
theorem d_L_911 : decode code 911 = .ok (.aload_n 0, 1) := by decide +kernel
theorem d_L_912 : decode code 912 = .ok (.iload 4, 2) := by decide +kernel
theorem d_L_914 : decode code 914 = .ok (.iconst 1, 1) := by decide +kernel
theorem d_L_915 : decode code 915 = .ok (.iadd, 1) := by decide +kernel
theorem d_L_916 : decode code 916 = .ok (.iaload, 1) := by decide +kernel
theorem d_L_917 : decode code 917 = .ok (.aload_n 0, 1) := by decide +kernel
theorem d_L_918 : decode code 918 = .ok (.iload 4, 2) := by decide +kernel
theorem d_L_920 : decode code 920 = .ok (.iconst 2, 1) := by decide +kernel
theorem d_L_921 : decode code 921 = .ok (.iadd, 1) := by decide +kernel
theorem d_L_922 : decode code 922 = .ok (.iaload, 1) := by decide +kernel
theorem d_L_923 : decode code 923 = .ok (.invokevirtual 92, 3) := by decide +kernel
theorem d_L_926 : decode code 926 = .ok (.aload_n 2, 1) := by decide +kernel
theorem d_L_927 : decode code 927 = .ok (.aload_n 0, 1) := by decide +kernel
theorem d_L_928 : decode code 928 = .ok (.iload 4, 2) := by decide +kernel
theorem d_L_930 : decode code 930 = .ok (.iconst 1, 1) := by decide +kernel
theorem d_L_931 : decode code 931 = .ok (.iadd, 1) := by decide +kernel
theorem d_L_932 : decode code 932 = .ok (.iaload, 1) := by decide +kernel
theorem d_L_933 : decode code 933 = .ok (.aload_n 0, 1) := by decide +kernel
theorem d_L_934 : decode code 934 = .ok (.iload 4, 2) := by decide +kernel
theorem d_L_936 : decode code 936 = .ok (.iconst 2, 1) := by decide +kernel
theorem d_L_937 : decode code 937 = .ok (.iadd, 1) := by decide +kernel
theorem d_L_938 : decode code 938 = .ok (.iaload, 1) := by decide +kernel
theorem d_L_939 : decode code 939 = .ok (.invokevirtual 95, 3) := by decide +kernel
theorem d_L_942 : decode code 942 = .ok (.if_icmp .eq 1492, 3) := by decide +kernel
theorem d_L_945 : decode code 945 = .ok (.iconst 0, 1) := by decide +kernel
theorem d_L_946 : decode code 946 = .ok (.ireturn, 1) := by decide +kernel
theorem d_L_947 : decode code 947 = .ok (.aload_n 1, 1) := by decide +kernel
theorem d_L_948 : decode code 948 = .ok (.aload_n 0, 1) := by decide +kernel
theorem d_L_949 : decode code 949 = .ok (.iload 4, 2) := by decide +kernel
theorem d_L_951 : decode code 951 = .ok (.iconst 1, 1) := by decide +kernel
theorem d_L_952 : decode code 952 = .ok (.iadd, 1) := by decide +kernel
theorem d_L_953 : decode code 953 = .ok (.iaload, 1) := by decide +kernel
theorem d_L_954 : decode code 954 = .ok (.aload_n 0, 1) := by decide +kernel
theorem d_L_955 : decode code 955 = .ok (.iload 4, 2) := by decide +kernel
theorem d_L_957 : decode code 957 = .ok (.iconst 2, 1) := by decide +kernel
theorem d_L_958 : decode code 958 = .ok (.iadd, 1) := by decide +kernel
theorem d_L_959 : decode code 959 = .ok (.iaload, 1) := by decide +kernel
theorem d_L_960 : decode code 960 = .ok (.invokevirtual 96, 3) := by decide +kernel
theorem d_L_963 : decode code 963 = .ok (.aload_n 2, 1) := by decide +kernel
theorem d_L_964 : decode code 964 = .ok (.aload_n 0, 1) := by decide +kernel
theorem d_L_965 : decode code 965 = .ok (.iload 4, 2) := by decide +kernel
theorem d_L_967 : decode code 967 = .ok (.iconst 1, 1) := by decide +kernel
theorem d_L_968 : decode code 968 = .ok (.iadd, 1) := by decide +kernel
theorem d_L_969 : decode code 969 = .ok (.iaload, 1) := by decide +kernel
theorem d_L_970 : decode code 970 = .ok (.aload_n 0, 1) := by decide +kernel
theorem d_L_971 : decode code 971 = .ok (.iload 4, 2) := by decide +kernel
theorem d_L_973 : decode code 973 = .ok (.iconst 2, 1) := by decide +kernel
theorem d_L_974 : decode code 974 = .ok (.iadd, 1) := by decide +kernel
theorem d_L_975 : decode code 975 = .ok (.iaload, 1) := by decide +kernel
theorem d_L_976 : decode code 976 = .ok (.invokevirtual 99, 3) := by decide +kernel
theorem d_L_979 : decode code 979 = .ok (.if_icmp .eq 1455, 3) := by decide +kernel
theorem d_L_982 : decode code 982 = .ok (.iconst 0, 1) := by decide +kernel
theorem d_L_983 : decode code 983 = .ok (.ireturn, 1) := by decide +kernel
theorem d_L_984 : decode code 984 = .ok (.aload_n 1, 1) := by decide +kernel
theorem d_L_985 : decode code 985 = .ok (.aload_n 0, 1) := by decide +kernel
theorem d_L_986 : decode code 986 = .ok (.iload 4, 2) := by decide +kernel
theorem d_L_988 : decode code 988 = .ok (.iconst 1, 1) := by decide +kernel
theorem d_L_989 : decode code 989 = .ok (.iadd, 1) := by decide +kernel
theorem d_L_990 : decode code 990 = .ok (.iaload, 1) := by decide +kernel
theorem d_L_991 : decode code 991 = .ok (.aload_n 0, 1) := by decide +kernel
theorem d_L_992 : decode code 992 = .ok (.iload 4, 2) := by decide +kernel
theorem d_L_994 : decode code 994 = .ok (.iconst 2, 1) := by decide +kernel
theorem d_L_995 : decode code 995 = .ok (.iadd, 1) := by decide +kernel
theorem d_L_996 : decode code 996 = .ok (.iaload, 1) := by decide +kernel
theorem d_L_997 : decode code 997 = .ok (.aload_n 0, 1) := by decide +kernel
theorem d_L_998 : decode code 998 = .ok (.iload 4, 2) := by decide +kernel
theorem d_L_1000 : decode code 1000 = .ok (.iconst 3, 1) := by decide +kernel
theorem d_L_1001 : decode code 1001 = .ok (.iadd, 1) := by decide +kernel
theorem d_L_1002 : decode code 1002 = .ok (.iaload, 1) := by decide +kernel
theorem d_L_1003 : decode code 1003 = .ok (.aload_n 0, 1) := by decide +kernel
theorem d_L_1004 : decode code 1004 = .ok (.iload 4, 2) := by decide +kernel
theorem d_L_1006 : decode code 1006 = .ok (.iconst 4, 1) := by decide +kernel
theorem d_L_1007 : decode code 1007 = .ok (.iadd, 1) := by decide +kernel
theorem d_L_1008 : decode code 1008 = .ok (.iaload, 1) := by decide +kernel
theorem d_L_1009 : decode code 1009 = .ok (.aload_n 0, 1) := by decide +kernel
theorem d_L_1010 : decode code 1010 = .ok (.iload 4, 2) := by decide +kernel
theorem d_L_1012 : decode code 1012 = .ok (.iconst 5, 1) := by decide +kernel
theorem d_L_1013 : decode code 1013 = .ok (.iadd, 1) := by decide +kernel
theorem d_L_1014 : decode code 1014 = .ok (.iaload, 1) := by decide +kernel
theorem d_L_1015 : decode code 1015 = .ok (.invokevirtual 100, 3) := by decide +kernel
theorem d_L_1018 : decode code 1018 = .ok (.aload_n 2, 1) := by decide +kernel
theorem d_L_1019 : decode code 1019 = .ok (.aload_n 0, 1) := by decide +kernel
theorem d_L_1020 : decode code 1020 = .ok (.iload 4, 2) := by decide +kernel
theorem d_L_1022 : decode code 1022 = .ok (.iconst 1, 1) := by decide +kernel
theorem d_L_1023 : decode code 1023 = .ok (.iadd, 1) := by decide +kernel
theorem d_L_1024 : decode code 1024 = .ok (.iaload, 1) := by decide +kernel
theorem d_L_1025 : decode code 1025 = .ok (.aload_n 0, 1) := by decide +kernel
theorem d_L_1026 : decode code 1026 = .ok (.iload 4, 2) := by decide +kernel
theorem d_L_1028 : decode code 1028 = .ok (.iconst 2, 1) := by decide +kernel
theorem d_L_1029 : decode code 1029 = .ok (.iadd, 1) := by decide +kernel
theorem d_L_1030 : decode code 1030 = .ok (.iaload, 1) := by decide +kernel
theorem d_L_1031 : decode code 1031 = .ok (.aload_n 0, 1) := by decide +kernel
theorem d_L_1032 : decode code 1032 = .ok (.iload 4, 2) := by decide +kernel
theorem d_L_1034 : decode code 1034 = .ok (.iconst 3, 1) := by decide +kernel
theorem d_L_1035 : decode code 1035 = .ok (.iadd, 1) := by decide +kernel
theorem d_L_1036 : decode code 1036 = .ok (.iaload, 1) := by decide +kernel
theorem d_L_1037 : decode code 1037 = .ok (.aload_n 0, 1) := by decide +kernel
theorem d_L_1038 : decode code 1038 = .ok (.iload 4, 2) := by decide +kernel
theorem d_L_1040 : decode code 1040 = .ok (.iconst 4, 1) := by decide +kernel
theorem d_L_1041 : decode code 1041 = .ok (.iadd, 1) := by decide +kernel
theorem d_L_1042 : decode code 1042 = .ok (.iaload, 1) := by decide +kernel
theorem d_L_1043 : decode code 1043 = .ok (.aload_n 0, 1) := by decide +kernel
theorem d_L_1044 : decode code 1044 = .ok (.iload 4, 2) := by decide +kernel
theorem d_L_1046 : decode code 1046 = .ok (.iconst 5, 1) := by decide +kernel
theorem d_L_1047 : decode code 1047 = .ok (.iadd, 1) := by decide +kernel
theorem d_L_1048 : decode code 1048 = .ok (.iaload, 1) := by decide +kernel
theorem d_L_1049 : decode code 1049 = .ok (.invokevirtual 103, 3) := by decide +kernel
theorem d_L_1052 : decode code 1052 = .ok (.if_icmp .eq 1382, 3) := by decide +kernel
theorem d_L_1055 : decode code 1055 = .ok (.iconst 0, 1) := by decide +kernel
theorem d_L_1056 : decode code 1056 = .ok (.ireturn, 1) := by decide +kernel
theorem d_L_1057 : decode code 1057 = .ok (.aload_n 1, 1) := by decide +kernel
theorem d_L_1058 : decode code 1058 = .ok (.aload_n 0, 1) := by decide +kernel
theorem d_L_1059 : decode code 1059 = .ok (.iload 4, 2) := by decide +kernel
theorem d_L_1061 : decode code 1061 = .ok (.iconst 1, 1) := by decide +kernel
theorem d_L_1062 : decode code 1062 = .ok (.iadd, 1) := by decide +kernel
theorem d_L_1063 : decode code 1063 = .ok (.iaload, 1) := by decide +kernel
theorem d_L_1064 : decode code 1064 = .ok (.invokevirtual 104, 3) := by decide +kernel
theorem d_L_1067 : decode code 1067 = .ok (.aload_n 2, 1) := by decide +kernel
theorem d_L_1068 : decode code 1068 = .ok (.aload_n 0, 1) := by decide +kernel
theorem d_L_1069 : decode code 1069 = .ok (.iload 4, 2) := by decide +kernel
theorem d_L_1071 : decode code 1071 = .ok (.iconst 1, 1) := by decide +kernel
theorem d_L_1072 : decode code 1072 = .ok (.iadd, 1) := by decide +kernel
theorem d_L_1073 : decode code 1073 = .ok (.iaload, 1) := by decide +kernel
theorem d_L_1074 : decode code 1074 = .ok (.invokevirtual 107, 3) := by decide +kernel
theorem d_L_1077 : decode code 1077 = .ok (.if_icmp .eq 1357, 3) := by decide +kernel
theorem d_L_1080 : decode code 1080 = .ok (.iconst 0, 1) := by decide +kernel
theorem d_L_1081 : decode code 1081 = .ok (.ireturn, 1) := by decide +kernel
theorem d_L_1082 : decode code 1082 = .ok (.aload_n 1, 1) := by decide +kernel
theorem d_L_1083 : decode code 1083 = .ok (.aload_n 0, 1) := by decide +kernel
theorem d_L_1084 : decode code 1084 = .ok (.iload 4, 2) := by decide +kernel
theorem d_L_1086 : decode code 1086 = .ok (.iconst 1, 1) := by decide +kernel
theorem d_L_1087 : decode code 1087 = .ok (.iadd, 1) := by decide +kernel
theorem d_L_1088 : decode code 1088 = .ok (.iaload, 1) := by decide +kernel
theorem d_L_1089 : decode code 1089 = .ok (.aload_n 0, 1) := by decide +kernel
theorem d_L_1090 : decode code 1090 = .ok (.iload 4, 2) := by decide +kernel
theorem d_L_1092 : decode code 1092 = .ok (.iconst 2, 1) := by decide +kernel
theorem d_L_1093 : decode code 1093 = .ok (.iadd, 1) := by decide +kernel
theorem d_L_1094 : decode code 1094 = .ok (.iaload, 1) := by decide +kernel
theorem d_L_1095 : decode code 1095 = .ok (.invokevirtual 108, 3) := by decide +kernel
theorem d_L_1098 : decode code 1098 = .ok (.aload_n 2, 1) := by decide +kernel
theorem d_L_1099 : decode code 1099 = .ok (.aload_n 0, 1) := by decide +kernel
theorem d_L_1100 : decode code 1100 = .ok (.iload 4, 2) := by decide +kernel
theorem d_L_1102 : decode code 1102 = .ok (.iconst 1, 1) := by decide +kernel
theorem d_L_1103 : decode code 1103 = .ok (.iadd, 1) := by decide +kernel
theorem d_L_1104 : decode code 1104 = .ok (.iaload, 1) := by decide +kernel
theorem d_L_1105 : decode code 1105 = .ok (.aload_n 0, 1) := by decide +kernel
theorem d_L_1106 : decode code 1106 = .ok (.iload 4, 2) := by decide +kernel
theorem d_L_1108 : decode code 1108 = .ok (.iconst 2, 1) := by decide +kernel
theorem d_L_1109 : decode code 1109 = .ok (.iadd, 1) := by decide +kernel
theorem d_L_1110 : decode code 1110 = .ok (.iaload, 1) := by decide +kernel
theorem d_L_1111 : decode code 1111 = .ok (.invokevirtual 111, 3) := by decide +kernel
theorem d_L_1114 : decode code 1114 = .ok (.if_icmp .eq 1320, 3) := by decide +kernel
theorem d_L_1117 : decode code 1117 = .ok (.iconst 0, 1) := by decide +kernel
theorem d_L_1118 : decode code 1118 = .ok (.ireturn, 1) := by decide +kernel
theorem d_L_1119 : decode code 1119 = .ok (.aload_n 1, 1) := by decide +kernel
theorem d_L_1120 : decode code 1120 = .ok (.aload_n 0, 1) := by decide +kernel
theorem d_L_1121 : decode code 1121 = .ok (.iload 4, 2) := by decide +kernel
theorem d_L_1123 : decode code 1123 = .ok (.iconst 1, 1) := by decide +kernel
theorem d_L_1124 : decode code 1124 = .ok (.iadd, 1) := by decide +kernel
theorem d_L_1125 : decode code 1125 = .ok (.iaload, 1) := by decide +kernel
theorem d_L_1126 : decode code 1126 = .ok (.aload_n 0, 1) := by decide +kernel
theorem d_L_1127 : decode code 1127 = .ok (.iload 4, 2) := by decide +kernel
theorem d_L_1129 : decode code 1129 = .ok (.iconst 2, 1) := by decide +kernel
theorem d_L_1130 : decode code 1130 = .ok (.iadd, 1) := by decide +kernel
theorem d_L_1131 : decode code 1131 = .ok (.iaload, 1) := by decide +kernel
theorem d_L_1132 : decode code 1132 = .ok (.invokevirtual 112, 3) := by decide +kernel
theorem d_L_1135 : decode code 1135 = .ok (.aload_n 2, 1) := by decide +kernel
theorem d_L_1136 : decode code 1136 = .ok (.aload_n 0, 1) := by decide +kernel
theorem d_L_1137 : decode code 1137 = .ok (.iload 4, 2) := by decide +kernel
theorem d_L_1139 : decode code 1139 = .ok (.iconst 1, 1) := by decide +kernel
theorem d_L_1140 : decode code 1140 = .ok (.iadd, 1) := by decide +kernel
theorem d_L_1141 : decode code 1141 = .ok (.iaload, 1) := by decide +kernel
theorem d_L_1142 : decode code 1142 = .ok (.aload_n 0, 1) := by decide +kernel
theorem d_L_1143 : decode code 1143 = .ok (.iload 4, 2) := by decide +kernel
theorem d_L_1145 : decode code 1145 = .ok (.iconst 2, 1) := by decide +kernel
theorem d_L_1146 : decode code 1146 = .ok (.iadd, 1) := by decide +kernel
theorem d_L_1147 : decode code 1147 = .ok (.iaload, 1) := by decide +kernel
theorem d_L_1148 : decode code 1148 = .ok (.invokevirtual 115, 3) := by decide +kernel
theorem d_L_1151 : decode code 1151 = .ok (.if_icmp .eq 1283, 3) := by decide +kernel
theorem d_L_1154 : decode code 1154 = .ok (.iconst 0, 1) := by decide +kernel
theorem d_L_1155 : decode code 1155 = .ok (.ireturn, 1) := by decide +kernel
theorem d_L_1156 : decode code 1156 = .ok (.aload_n 1, 1) := by decide +kernel
theorem d_L_1157 : decode code 1157 = .ok (.aload_n 0, 1) := by decide +kernel
theorem d_L_1158 : decode code 1158 = .ok (.iload 4, 2) := by decide +kernel
theorem d_L_1160 : decode code 1160 = .ok (.iconst 1, 1) := by decide +kernel
theorem d_L_1161 : decode code 1161 = .ok (.iadd, 1) := by decide +kernel
theorem d_L_1162 : decode code 1162 = .ok (.iaload, 1) := by decide +kernel
theorem d_L_1163 : decode code 1163 = .ok (.aload_n 0, 1) := by decide +kernel
theorem d_L_1164 : decode code 1164 = .ok (.iload 4, 2) := by decide +kernel
theorem d_L_1166 : decode code 1166 = .ok (.iconst 2, 1) := by decide +kernel
theorem d_L_1167 : decode code 1167 = .ok (.iadd, 1) := by decide +kernel
theorem d_L_1168 : decode code 1168 = .ok (.iaload, 1) := by decide +kernel
theorem d_L_1169 : decode code 1169 = .ok (.invokevirtual 116, 3) := by decide +kernel
theorem d_L_1172 : decode code 1172 = .ok (.aload_n 2, 1) := by decide +kernel
theorem d_L_1173 : decode code 1173 = .ok (.aload_n 0, 1) := by decide +kernel
theorem d_L_1174 : decode code 1174 = .ok (.iload 4, 2) := by decide +kernel
theorem d_L_1176 : decode code 1176 = .ok (.iconst 1, 1) := by decide +kernel
theorem d_L_1177 : decode code 1177 = .ok (.iadd, 1) := by decide +kernel
theorem d_L_1178 : decode code 1178 = .ok (.iaload, 1) := by decide +kernel
theorem d_L_1179 : decode code 1179 = .ok (.aload_n 0, 1) := by decide +kernel
theorem d_L_1180 : decode code 1180 = .ok (.iload 4, 2) := by decide +kernel
theorem d_L_1182 : decode code 1182 = .ok (.iconst 2, 1) := by decide +kernel
theorem d_L_1183 : decode code 1183 = .ok (.iadd, 1) := by decide +kernel
theorem d_L_1184 : decode code 1184 = .ok (.iaload, 1) := by decide +kernel
theorem d_L_1185 : decode code 1185 = .ok (.invokevirtual 119, 3) := by decide +kernel
theorem d_L_1188 : decode code 1188 = .ok (.if_icmp .eq 1246, 3) := by decide +kernel
theorem d_L_1191 : decode code 1191 = .ok (.iconst 0, 1) := by decide +kernel
theorem d_L_1192 : decode code 1192 = .ok (.ireturn, 1) := by decide +kernel
theorem d_L_1193 : decode code 1193 = .ok (.aload_n 1, 1) := by decide +kernel
theorem d_L_1194 : decode code 1194 = .ok (.aload_n 0, 1) := by decide +kernel
theorem d_L_1195 : decode code 1195 = .ok (.iload 4, 2) := by decide +kernel
theorem d_L_1197 : decode code 1197 = .ok (.iconst 1, 1) := by decide +kernel
theorem d_L_1198 : decode code 1198 = .ok (.iadd, 1) := by decide +kernel
theorem d_L_1199 : decode code 1199 = .ok (.iaload, 1) := by decide +kernel
theorem d_L_1200 : decode code 1200 = .ok (.invokevirtual 120, 3) := by decide +kernel
theorem d_L_1203 : decode code 1203 = .ok (.aload_n 2, 1) := by decide +kernel
theorem d_L_1204 : decode code 1204 = .ok (.aload_n 0, 1) := by decide +kernel
theorem d_L_1205 : decode code 1205 = .ok (.iload 4, 2) := by decide +kernel
theorem d_L_1207 : decode code 1207 = .ok (.iconst 1, 1) := by decide +kernel
theorem d_L_1208 : decode code 1208 = .ok (.iadd, 1) := by decide +kernel
theorem d_L_1209 : decode code 1209 = .ok (.iaload, 1) := by decide +kernel
theorem d_L_1210 : decode code 1210 = .ok (.invokevirtual 123, 3) := by decide +kernel
theorem d_L_1213 : decode code 1213 = .ok (.if_icmp .eq 1221, 3) := by decide +kernel
theorem d_L_1216 : decode code 1216 = .ok (.iconst 0, 1) := by decide +kernel
theorem d_L_1217 : decode code 1217 = .ok (.ireturn, 1) := by decide +kernel
theorem d_L_1218 : decode code 1218 = .ok (.aload_n 1, 1) := by decide +kernel
theorem d_L_1219 : decode code 1219 = .ok (.aload_n 0, 1) := by decide +kernel
theorem d_L_1220 : decode code 1220 = .ok (.iload 4, 2) := by decide +kernel
theorem d_L_1222 : decode code 1222 = .ok (.iconst 1, 1) := by decide +kernel
theorem d_L_1223 : decode code 1223 = .ok (.iadd, 1) := by decide +kernel
theorem d_L_1224 : decode code 1224 = .ok (.iaload, 1) := by decide +kernel
theorem d_L_1225 : decode code 1225 = .ok (.invokevirtual 124, 3) := by decide +kernel
theorem d_L_1228 : decode code 1228 = .ok (.aload_n 2, 1) := by decide +kernel
theorem d_L_1229 : decode code 1229 = .ok (.aload_n 0, 1) := by decide +kernel
theorem d_L_1230 : decode code 1230 = .ok (.iload 4, 2) := by decide +kernel
theorem d_L_1232 : decode code 1232 = .ok (.iconst 1, 1) := by decide +kernel
theorem d_L_1233 : decode code 1233 = .ok (.iadd, 1) := by decide +kernel
theorem d_L_1234 : decode code 1234 = .ok (.iaload, 1) := by decide +kernel
theorem d_L_1235 : decode code 1235 = .ok (.invokevirtual 127, 3) := by decide +kernel
theorem d_L_1238 : decode code 1238 = .ok (.if_icmp .eq 1196, 3) := by decide +kernel
theorem d_L_1241 : decode code 1241 = .ok (.iconst 0, 1) := by decide +kernel
theorem d_L_1242 : decode code 1242 = .ok (.ireturn, 1) := by decide +kernel
theorem d_L_1243 : decode code 1243 = .ok (.aload_n 1, 1) := by decide +kernel
theorem d_L_1244 : decode code 1244 = .ok (.aload_n 0, 1) := by decide +kernel
theorem d_L_1245 : decode code 1245 = .ok (.iload 4, 2) := by decide +kernel
theorem d_L_1247 : decode code 1247 = .ok (.iconst 1, 1) := by decide +kernel
theorem d_L_1248 : decode code 1248 = .ok (.iadd, 1) := by decide +kernel
theorem d_L_1249 : decode code 1249 = .ok (.iaload, 1) := by decide +kernel
theorem d_L_1250 : decode code 1250 = .ok (.aload_n 0, 1) := by decide +kernel
theorem d_L_1251 : decode code 1251 = .ok (.iload 4, 2) := by decide +kernel
theorem d_L_1253 : decode code 1253 = .ok (.iconst 2, 1) := by decide +kernel
theorem d_L_1254 : decode code 1254 = .ok (.iadd, 1) := by decide +kernel
theorem d_L_1255 : decode code 1255 = .ok (.iaload, 1) := by decide +kernel
theorem d_L_1256 : decode code 1256 = .ok (.invokevirtual 128, 3) := by decide +kernel
theorem d_L_1259 : decode code 1259 = .ok (.aload_n 2, 1) := by decide +kernel
theorem d_L_1260 : decode code 1260 = .ok (.aload_n 0, 1) := by decide +kernel
theorem d_L_1261 : decode code 1261 = .ok (.iload 4, 2) := by decide +kernel
theorem d_L_1263 : decode code 1263 = .ok (.iconst 1, 1) := by decide +kernel
theorem d_L_1264 : decode code 1264 = .ok (.iadd, 1) := by decide +kernel
theorem d_L_1265 : decode code 1265 = .ok (.iaload, 1) := by decide +kernel
theorem d_L_1266 : decode code 1266 = .ok (.aload_n 0, 1) := by decide +kernel
theorem d_L_1267 : decode code 1267 = .ok (.iload 4, 2) := by decide +kernel
theorem d_L_1269 : decode code 1269 = .ok (.iconst 2, 1) := by decide +kernel
theorem d_L_1270 : decode code 1270 = .ok (.iadd, 1) := by decide +kernel
theorem d_L_1271 : decode code 1271 = .ok (.iaload, 1) := by decide +kernel
theorem d_L_1272 : decode code 1272 = .ok (.invokevirtual 131, 3) := by decide +kernel
theorem d_L_1275 : decode code 1275 = .ok (.if_icmp .eq 1159, 3) := by decide +kernel
theorem d_L_1278 : decode code 1278 = .ok (.iconst 0, 1) := by decide +kernel
theorem d_L_1279 : decode code 1279 = .ok (.ireturn, 1) := by decide +kernel
theorem d_L_1280 : decode code 1280 = .ok (.aload_n 1, 1) := by decide +kernel
theorem d_L_1281 : decode code 1281 = .ok (.aload_n 0, 1) := by decide +kernel
theorem d_L_1282 : decode code 1282 = .ok (.iload 4, 2) := by decide +kernel
theorem d_L_1284 : decode code 1284 = .ok (.iconst 1, 1) := by decide +kernel
theorem d_L_1285 : decode code 1285 = .ok (.iadd, 1) := by decide +kernel
theorem d_L_1286 : decode code 1286 = .ok (.iaload, 1) := by decide +kernel
theorem d_L_1287 : decode code 1287 = .ok (.aload_n 0, 1) := by decide +kernel
theorem d_L_1288 : decode code 1288 = .ok (.iload 4, 2) := by decide +kernel
theorem d_L_1290 : decode code 1290 = .ok (.iconst 2, 1) := by decide +kernel
theorem d_L_1291 : decode code 1291 = .ok (.iadd, 1) := by decide +kernel
theorem d_L_1292 : decode code 1292 = .ok (.iaload, 1) := by decide +kernel
theorem d_L_1293 : decode code 1293 = .ok (.invokevirtual 132, 3) := by decide +kernel
theorem d_L_1296 : decode code 1296 = .ok (.aload_n 2, 1) := by decide +kernel
theorem d_L_1297 : decode code 1297 = .ok (.aload_n 0, 1) := by decide +kernel
theorem d_L_1298 : decode code 1298 = .ok (.iload 4, 2) := by decide +kernel
theorem d_L_1300 : decode code 1300 = .ok (.iconst 1, 1) := by decide +kernel
theorem d_L_1301 : decode code 1301 = .ok (.iadd, 1) := by decide +kernel
theorem d_L_1302 : decode code 1302 = .ok (.iaload, 1) := by decide +kernel
theorem d_L_1303 : decode code 1303 = .ok (.aload_n 0, 1) := by decide +kernel
theorem d_L_1304 : decode code 1304 = .ok (.iload 4, 2) := by decide +kernel
theorem d_L_1306 : decode code 1306 = .ok (.iconst 2, 1) := by decide +kernel
theorem d_L_1307 : decode code 1307 = .ok (.iadd, 1) := by decide +kernel
theorem d_L_1308 : decode code 1308 = .ok (.iaload, 1) := by decide +kernel
theorem d_L_1309 : decode code 1309 = .ok (.invokevirtual 135, 3) := by decide +kernel
theorem d_L_1312 : decode code 1312 = .ok (.if_icmp .eq 1122, 3) := by decide +kernel
theorem d_L_1315 : decode code 1315 = .ok (.iconst 0, 1) := by decide +kernel
theorem d_L_1316 : decode code 1316 = .ok (.ireturn, 1) := by decide +kernel
theorem d_L_1317 : decode code 1317 = .ok (.aload_n 1, 1) := by decide +kernel
theorem d_L_1318 : decode code 1318 = .ok (.aload_n 0, 1) := by decide +kernel
theorem d_L_1319 : decode code 1319 = .ok (.iload 4, 2) := by decide +kernel
theorem d_L_1321 : decode code 1321 = .ok (.iconst 1, 1) := by decide +kernel
theorem d_L_1322 : decode code 1322 = .ok (.iadd, 1) := by decide +kernel
theorem d_L_1323 : decode code 1323 = .ok (.iaload, 1) := by decide +kernel
theorem d_L_1324 : decode code 1324 = .ok (.aload_n 0, 1) := by decide +kernel
theorem d_L_1325 : decode code 1325 = .ok (.iload 4, 2) := by decide +kernel
theorem d_L_1327 : decode code 1327 = .ok (.iconst 2, 1) := by decide +kernel
theorem d_L_1328 : decode code 1328 = .ok (.iadd, 1) := by decide +kernel
theorem d_L_1329 : decode code 1329 = .ok (.iaload, 1) := by decide +kernel
theorem d_L_1330 : decode code 1330 = .ok (.aload_n 0, 1) := by decide +kernel
theorem d_L_1331 : decode code 1331 = .ok (.iload 4, 2) := by decide +kernel
theorem d_L_1333 : decode code 1333 = .ok (.iconst 3, 1) := by decide +kernel
theorem d_L_1334 : decode code 1334 = .ok (.iadd, 1) := by decide +kernel
theorem d_L_1335 : decode code 1335 = .ok (.iaload, 1) := by decide +kernel
theorem d_L_1336 : decode code 1336 = .ok (.aload_n 0, 1) := by decide +kernel
theorem d_L_1337 : decode code 1337 = .ok (.iload 4, 2) := by decide +kernel
theorem d_L_1339 : decode code 1339 = .ok (.iconst 4, 1) := by decide +kernel
theorem d_L_1340 : decode code 1340 = .ok (.iadd, 1) := by decide +kernel
theorem d_L_1341 : decode code 1341 = .ok (.iaload, 1) := by decide +kernel
theorem d_L_1342 : decode code 1342 = .ok (.ifCond .eq 7, 3) := by decide +kernel
theorem d_L_1345 : decode code 1345 = .ok (.iconst 1, 1) := by decide +kernel
theorem d_L_1346 : decode code 1346 = .ok (.goto 4, 3) := by decide +kernel
theorem d_L_1349 : decode code 1349 = .ok (.iconst 0, 1) := by decide +kernel
theorem d_L_1350 : decode code 1350 = .ok (.invokevirtual 136, 3) := by decide +kernel
theorem d_L_1353 : decode code 1353 = .ok (.aload_n 2, 1) := by decide +kernel
