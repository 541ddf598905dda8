section
theorem d_L_7 : decode code 7 = .ok (.astore_n 1, 1) := by decide +kernel
theorem d_L_15 : decode code 15 = .ok (.astore_n 2, 1) := by decide +kernel
theorem d_L_17 : decode code 17 = .ok (.newarray .long, 2) := by decide +kernel
theorem d_L_19 : decode code 19 = .ok (.astore_n 3, 1) := by decide +kernel
theorem d_L_40 : decode code 40 = .ok (.tableswitch 2366 0 56 #[244, 293, 330, 379, 452, 477, 502, 515, 552, 589, 638, 691, 716, 756, 793, 842, 879, 916, 989, 1014, 1051, 1088, 1125, 1150, 1175, 1212, 1249, 1326, 1351, 1400, 1449, 1498, 1523, 1576, 1601, 1614, 1639, 1664, 1689, 1738, 1775, 1800, 1837, 1886, 1911, 1936, 1947, 1972, 2021, 2070, 2119, 2132, 2169, 2218, 2243, 2280, 2341], 244) := by decide +kernel
theorem db67e_0 : Ad_ code [(0, .new 8, 3), (3, .dup, 1), (4, .invokespecial 15, 3), (8, .new 16, 3), (11, .dup, 1), (12, .invokespecial 18, 3), (16, .iconst 1, 1), (20, .iconst 0, 1), (21, .istore 4, 2), (23, .iload 4, 2), (25, .aload_n 0, 1), (26, .arraylength, 1), (27, .bipush 6, 2), (29, .isub, 1), (30, .if_icmp .gt 2382, 3), (33, .aload_n 0, 1), (34, .iload 4, 2), (36, .iaload, 1), (37, .bipush 63, 2), (39, .iand, 1), (284, .aload_n 1, 1), (285, .aload_n 0, 1), (286, .iload 4, 2), (288, .iconst 1, 1)] := bch_ok code _ 0 (by decide +kernel)
theorem d_L_0 : decode code 0 = .ok (.new 8, 3) := gd_0 db67e_0
theorem d_L_3 : decode code 3 = .ok (.dup, 1) := gd_1 db67e_0
theorem d_L_4 : decode code 4 = .ok (.invokespecial 15, 3) := gd_2 db67e_0
theorem d_L_8 : decode code 8 = .ok (.new 16, 3) := gd_3 db67e_0
theorem d_L_11 : decode code 11 = .ok (.dup, 1) := gd_4 db67e_0
theorem d_L_12 : decode code 12 = .ok (.invokespecial 18, 3) := gd_5 db67e_0
theorem d_L_16 : decode code 16 = .ok (.iconst 1, 1) := gd_6 db67e_0
theorem d_L_20 : decode code 20 = .ok (.iconst 0, 1) := gd_7 db67e_0
theorem d_L_21 : decode code 21 = .ok (.istore 4, 2) := gd_8 db67e_0
theorem d_L_23 : decode code 23 = .ok (.iload 4, 2) := gd_9 db67e_0
theorem d_L_25 : decode code 25 = .ok (.aload_n 0, 1) := gd_10 db67e_0
theorem d_L_26 : decode code 26 = .ok (.arraylength, 1) := gd_11 db67e_0
theorem d_L_27 : decode code 27 = .ok (.bipush 6, 2) := gd_12 db67e_0
theorem d_L_29 : decode code 29 = .ok (.isub, 1) := gd_13 db67e_0
theorem d_L_30 : decode code 30 = .ok (.if_icmp .gt 2382, 3) := gd_14 db67e_0
theorem d_L_33 : decode code 33 = .ok (.aload_n 0, 1) := gd_15 db67e_0
theorem d_L_34 : decode code 34 = .ok (.iload 4, 2) := gd_16 db67e_0
theorem d_L_36 : decode code 36 = .ok (.iaload, 1) := gd_17 db67e_0
theorem d_L_37 : decode code 37 = .ok (.bipush 63, 2) := gd_18 db67e_0
theorem d_L_39 : decode code 39 = .ok (.iand, 1) := gd_19 db67e_0
theorem d_L_284 : decode code 284 = .ok (.aload_n 1, 1) := gd_20 db67e_0
theorem d_L_285 : decode code 285 = .ok (.aload_n 0, 1) := gd_21 db67e_0
theorem d_L_286 : decode code 286 = .ok (.iload 4, 2) := gd_22 db67e_0
theorem d_L_288 : decode code 288 = .ok (.iconst 1, 1) := gd_23 db67e_0
theorem db67e_1 : Ad_ code [(289, .iadd, 1), (290, .iaload, 1), (291, .aload_n 0, 1), (292, .iload 4, 2), (294, .iconst 2, 1), (295, .iadd, 1), (296, .iaload, 1), (297, .aload_n 0, 1), (298, .iload 4, 2), (300, .iconst 3, 1), (301, .iadd, 1), (302, .iaload, 1), (303, .invokevirtual 19, 3), (306, .pop, 1), (307, .aload_n 2, 1), (308, .aload_n 0, 1), (309, .iload 4, 2), (311, .iconst 1, 1), (312, .iadd, 1), (313, .iaload, 1), (314, .aload_n 0, 1), (315, .iload 4, 2), (317, .iconst 2, 1), (318, .iadd, 1)] := bch_ok code _ 289 (by decide +kernel)
theorem d_L_289 : decode code 289 = .ok (.iadd, 1) := gd_0 db67e_1
theorem d_L_290 : decode code 290 = .ok (.iaload, 1) := gd_1 db67e_1
theorem d_L_291 : decode code 291 = .ok (.aload_n 0, 1) := gd_2 db67e_1
theorem d_L_292 : decode code 292 = .ok (.iload 4, 2) := gd_3 db67e_1
theorem d_L_294 : decode code 294 = .ok (.iconst 2, 1) := gd_4 db67e_1
theorem d_L_295 : decode code 295 = .ok (.iadd, 1) := gd_5 db67e_1
theorem d_L_296 : decode code 296 = .ok (.iaload, 1) := gd_6 db67e_1
theorem d_L_297 : decode code 297 = .ok (.aload_n 0, 1) := gd_7 db67e_1
theorem d_L_298 : decode code 298 = .ok (.iload 4, 2) := gd_8 db67e_1
theorem d_L_300 : decode code 300 = .ok (.iconst 3, 1) := gd_9 db67e_1
theorem d_L_301 : decode code 301 = .ok (.iadd, 1) := gd_10 db67e_1
theorem d_L_302 : decode code 302 = .ok (.iaload, 1) := gd_11 db67e_1
theorem d_L_303 : decode code 303 = .ok (.invokevirtual 19, 3) := gd_12 db67e_1
theorem d_L_306 : decode code 306 = .ok (.pop, 1) := gd_13 db67e_1
theorem d_L_307 : decode code 307 = .ok (.aload_n 2, 1) := gd_14 db67e_1
theorem d_L_308 : decode code 308 = .ok (.aload_n 0, 1) := gd_15 db67e_1
theorem d_L_309 : decode code 309 = .ok (.iload 4, 2) := gd_16 db67e_1
theorem d_L_311 : decode code 311 = .ok (.iconst 1, 1) := gd_17 db67e_1
theorem d_L_312 : decode code 312 = .ok (.iadd, 1) := gd_18 db67e_1
theorem d_L_313 : decode code 313 = .ok (.iaload, 1) := gd_19 db67e_1
theorem d_L_314 : decode code 314 = .ok (.aload_n 0, 1) := gd_20 db67e_1
theorem d_L_315 : decode code 315 = .ok (.iload 4, 2) := gd_21 db67e_1
theorem d_L_317 : decode code 317 = .ok (.iconst 2, 1) := gd_22 db67e_1
theorem d_L_318 : decode code 318 = .ok (.iadd, 1) := gd_23 db67e_1
theorem db67e_2 : Ad_ code [(319, .iaload, 1), (320, .aload_n 0, 1), (321, .iload 4, 2), (323, .iconst 3, 1), (324, .iadd, 1), (325, .iaload, 1), (326, .invokevirtual 23, 3), (329, .pop, 1), (330, .goto 2076, 3), (333, .aload_n 1, 1), (334, .aload_n 0, 1), (335, .iload 4, 2), (337, .iconst 1, 1), (338, .iadd, 1), (339, .iaload, 1), (340, .aload_n 0, 1), (341, .iload 4, 2), (343, .iconst 2, 1), (344, .iadd, 1), (345, .iaload, 1), (346, .invokevirtual 24, 3), (349, .pop, 1), (350, .aload_n 2, 1), (351, .aload_n 0, 1)] := bch_ok code _ 319 (by decide +kernel)
theorem d_L_319 : decode code 319 = .ok (.iaload, 1) := gd_0 db67e_2
theorem d_L_320 : decode code 320 = .ok (.aload_n 0, 1) := gd_1 db67e_2
theorem d_L_321 : decode code 321 = .ok (.iload 4, 2) := gd_2 db67e_2
theorem d_L_323 : decode code 323 = .ok (.iconst 3, 1) := gd_3 db67e_2
theorem d_L_324 : decode code 324 = .ok (.iadd, 1) := gd_4 db67e_2
theorem d_L_325 : decode code 325 = .ok (.iaload, 1) := gd_5 db67e_2
theorem d_L_326 : decode code 326 = .ok (.invokevirtual 23, 3) := gd_6 db67e_2
theorem d_L_329 : decode code 329 = .ok (.pop, 1) := gd_7 db67e_2
theorem d_L_330 : decode code 330 = .ok (.goto 2076, 3) := gd_8 db67e_2
theorem d_L_333 : decode code 333 = .ok (.aload_n 1, 1) := gd_9 db67e_2
theorem d_L_334 : decode code 334 = .ok (.aload_n 0, 1) := gd_10 db67e_2
theorem d_L_335 : decode code 335 = .ok (.iload 4, 2) := gd_11 db67e_2
theorem d_L_337 : decode code 337 = .ok (.iconst 1, 1) := gd_12 db67e_2
theorem d_L_338 : decode code 338 = .ok (.iadd, 1) := gd_13 db67e_2
theorem d_L_339 : decode code 339 = .ok (.iaload, 1) := gd_14 db67e_2
theorem d_L_340 : decode code 340 = .ok (.aload_n 0, 1) := gd_15 db67e_2
theorem d_L_341 : decode code 341 = .ok (.iload 4, 2) := gd_16 db67e_2
theorem d_L_343 : decode code 343 = .ok (.iconst 2, 1) := gd_17 db67e_2
theorem d_L_344 : decode code 344 = .ok (.iadd, 1) := gd_18 db67e_2
theorem d_L_345 : decode code 345 = .ok (.iaload, 1) := gd_19 db67e_2
theorem d_L_346 : decode code 346 = .ok (.invokevirtual 24, 3) := gd_20 db67e_2
theorem d_L_349 : decode code 349 = .ok (.pop, 1) := gd_21 db67e_2
theorem d_L_350 : decode code 350 = .ok (.aload_n 2, 1) := gd_22 db67e_2
theorem d_L_351 : decode code 351 = .ok (.aload_n 0, 1) := gd_23 db67e_2
theorem db67e_3 : Ad_ code [(352, .iload 4, 2), (354, .iconst 1, 1), (355, .iadd, 1), (356, .iaload, 1), (357, .aload_n 0, 1), (358, .iload 4, 2), (360, .iconst 2, 1), (361, .iadd, 1), (362, .iaload, 1), (363, .invokevirtual 27, 3), (366, .pop, 1), (367, .goto 2039, 3), (370, .aload_n 1, 1), (371, .aload_n 0, 1), (372, .iload 4, 2), (374, .iconst 1, 1), (375, .iadd, 1), (376, .iaload, 1), (377, .aload_n 0, 1), (378, .iload 4, 2), (380, .iconst 2, 1), (381, .iadd, 1), (382, .iaload, 1), (383, .aload_n 0, 1)] := bch_ok code _ 352 (by decide +kernel)
theorem d_L_352 : decode code 352 = .ok (.iload 4, 2) := gd_0 db67e_3
theorem d_L_354 : decode code 354 = .ok (.iconst 1, 1) := gd_1 db67e_3
theorem d_L_355 : decode code 355 = .ok (.iadd, 1) := gd_2 db67e_3
theorem d_L_356 : decode code 356 = .ok (.iaload, 1) := gd_3 db67e_3
theorem d_L_357 : decode code 357 = .ok (.aload_n 0, 1) := gd_4 db67e_3
theorem d_L_358 : decode code 358 = .ok (.iload 4, 2) := gd_5 db67e_3
theorem d_L_360 : decode code 360 = .ok (.iconst 2, 1) := gd_6 db67e_3
theorem d_L_361 : decode code 361 = .ok (.iadd, 1) := gd_7 db67e_3
theorem d_L_362 : decode code 362 = .ok (.iaload, 1) := gd_8 db67e_3
theorem d_L_363 : decode code 363 = .ok (.invokevirtual 27, 3) := gd_9 db67e_3
theorem d_L_366 : decode code 366 = .ok (.pop, 1) := gd_10 db67e_3
theorem d_L_367 : decode code 367 = .ok (.goto 2039, 3) := gd_11 db67e_3
theorem d_L_370 : decode code 370 = .ok (.aload_n 1, 1) := gd_12 db67e_3
theorem d_L_371 : decode code 371 = .ok (.aload_n 0, 1) := gd_13 db67e_3
theorem d_L_372 : decode code 372 = .ok (.iload 4, 2) := gd_14 db67e_3
theorem d_L_374 : decode code 374 = .ok (.iconst 1, 1) := gd_15 db67e_3
theorem d_L_375 : decode code 375 = .ok (.iadd, 1) := gd_16 db67e_3
theorem d_L_376 : decode code 376 = .ok (.iaload, 1) := gd_17 db67e_3
theorem d_L_377 : decode code 377 = .ok (.aload_n 0, 1) := gd_18 db67e_3
theorem d_L_378 : decode code 378 = .ok (.iload 4, 2) := gd_19 db67e_3
theorem d_L_380 : decode code 380 = .ok (.iconst 2, 1) := gd_20 db67e_3
theorem d_L_381 : decode code 381 = .ok (.iadd, 1) := gd_21 db67e_3
theorem d_L_382 : decode code 382 = .ok (.iaload, 1) := gd_22 db67e_3
theorem d_L_383 : decode code 383 = .ok (.aload_n 0, 1) := gd_23 db67e_3
theorem db67e_4 : Ad_ code [(384, .iload 4, 2), (386, .iconst 3, 1), (387, .iadd, 1), (388, .iaload, 1), (389, .invokevirtual 28, 3), (392, .pop, 1), (393, .aload_n 2, 1), (394, .aload_n 0, 1), (395, .iload 4, 2), (397, .iconst 1, 1), (398, .iadd, 1), (399, .iaload, 1), (400, .aload_n 0, 1), (401, .iload 4, 2), (403, .iconst 2, 1), (404, .iadd, 1), (405, .iaload, 1), (406, .aload_n 0, 1), (407, .iload 4, 2), (409, .iconst 3, 1), (410, .iadd, 1), (411, .iaload, 1), (412, .invokevirtual 31, 3), (415, .pop, 1)] := bch_ok code _ 384 (by decide +kernel)
theorem d_L_384 : decode code 384 = .ok (.iload 4, 2) := gd_0 db67e_4
theorem d_L_386 : decode code 386 = .ok (.iconst 3, 1) := gd_1 db67e_4
theorem d_L_387 : decode code 387 = .ok (.iadd, 1) := gd_2 db67e_4
theorem d_L_388 : decode code 388 = .ok (.iaload, 1) := gd_3 db67e_4
theorem d_L_389 : decode code 389 = .ok (.invokevirtual 28, 3) := gd_4 db67e_4
theorem d_L_392 : decode code 392 = .ok (.pop, 1) := gd_5 db67e_4
theorem d_L_393 : decode code 393 = .ok (.aload_n 2, 1) := gd_6 db67e_4
theorem d_L_394 : decode code 394 = .ok (.aload_n 0, 1) := gd_7 db67e_4
theorem d_L_395 : decode code 395 = .ok (.iload 4, 2) := gd_8 db67e_4
theorem d_L_397 : decode code 397 = .ok (.iconst 1, 1) := gd_9 db67e_4
theorem d_L_398 : decode code 398 = .ok (.iadd, 1) := gd_10 db67e_4
theorem d_L_399 : decode code 399 = .ok (.iaload, 1) := gd_11 db67e_4
theorem d_L_400 : decode code 400 = .ok (.aload_n 0, 1) := gd_12 db67e_4
theorem d_L_401 : decode code 401 = .ok (.iload 4, 2) := gd_13 db67e_4
theorem d_L_403 : decode code 403 = .ok (.iconst 2, 1) := gd_14 db67e_4
theorem d_L_404 : decode code 404 = .ok (.iadd, 1) := gd_15 db67e_4
theorem d_L_405 : decode code 405 = .ok (.iaload, 1) := gd_16 db67e_4
theorem d_L_406 : decode code 406 = .ok (.aload_n 0, 1) := gd_17 db67e_4
theorem d_L_407 : decode code 407 = .ok (.iload 4, 2) := gd_18 db67e_4
theorem d_L_409 : decode code 409 = .ok (.iconst 3, 1) := gd_19 db67e_4
theorem d_L_410 : decode code 410 = .ok (.iadd, 1) := gd_20 db67e_4
theorem d_L_411 : decode code 411 = .ok (.iaload, 1) := gd_21 db67e_4
theorem d_L_412 : decode code 412 = .ok (.invokevirtual 31, 3) := gd_22 db67e_4
theorem d_L_415 : decode code 415 = .ok (.pop, 1) := gd_23 db67e_4
theorem db67e_5 : Ad_ code [(416, .goto 1990, 3), (419, .aload_n 1, 1), (420, .aload_n 0, 1), (421, .iload 4, 2), (423, .iconst 1, 1), (424, .iadd, 1), (425, .iaload, 1), (426, .aload_n 0, 1), (427, .iload 4, 2), (429, .iconst 2, 1), (430, .iadd, 1), (431, .iaload, 1), (432, .aload_n 0, 1), (433, .iload 4, 2), (435, .iconst 3, 1), (436, .iadd, 1), (437, .iaload, 1), (438, .aload_n 0, 1), (439, .iload 4, 2), (441, .iconst 4, 1), (442, .iadd, 1), (443, .iaload, 1), (444, .aload_n 0, 1), (445, .iload 4, 2)] := bch_ok code _ 416 (by decide +kernel)
theorem d_L_416 : decode code 416 = .ok (.goto 1990, 3) := gd_0 db67e_5
theorem d_L_419 : decode code 419 = .ok (.aload_n 1, 1) := gd_1 db67e_5
theorem d_L_420 : decode code 420 = .ok (.aload_n 0, 1) := gd_2 db67e_5
theorem d_L_421 : decode code 421 = .ok (.iload 4, 2) := gd_3 db67e_5
theorem d_L_423 : decode code 423 = .ok (.iconst 1, 1) := gd_4 db67e_5
theorem d_L_424 : decode code 424 = .ok (.iadd, 1) := gd_5 db67e_5
theorem d_L_425 : decode code 425 = .ok (.iaload, 1) := gd_6 db67e_5
theorem d_L_426 : decode code 426 = .ok (.aload_n 0, 1) := gd_7 db67e_5
theorem d_L_427 : decode code 427 = .ok (.iload 4, 2) := gd_8 db67e_5
theorem d_L_429 : decode code 429 = .ok (.iconst 2, 1) := gd_9 db67e_5
theorem d_L_430 : decode code 430 = .ok (.iadd, 1) := gd_10 db67e_5
theorem d_L_431 : decode code 431 = .ok (.iaload, 1) := gd_11 db67e_5
theorem d_L_432 : decode code 432 = .ok (.aload_n 0, 1) := gd_12 db67e_5
theorem d_L_433 : decode code 433 = .ok (.iload 4, 2) := gd_13 db67e_5
theorem d_L_435 : decode code 435 = .ok (.iconst 3, 1) := gd_14 db67e_5
theorem d_L_436 : decode code 436 = .ok (.iadd, 1) := gd_15 db67e_5
theorem d_L_437 : decode code 437 = .ok (.iaload, 1) := gd_16 db67e_5
theorem d_L_438 : decode code 438 = .ok (.aload_n 0, 1) := gd_17 db67e_5
theorem d_L_439 : decode code 439 = .ok (.iload 4, 2) := gd_18 db67e_5
theorem d_L_441 : decode code 441 = .ok (.iconst 4, 1) := gd_19 db67e_5
theorem d_L_442 : decode code 442 = .ok (.iadd, 1) := gd_20 db67e_5
theorem d_L_443 : decode code 443 = .ok (.iaload, 1) := gd_21 db67e_5
theorem d_L_444 : decode code 444 = .ok (.aload_n 0, 1) := gd_22 db67e_5
theorem d_L_445 : decode code 445 = .ok (.iload 4, 2) := gd_23 db67e_5
theorem db67e_6 : Ad_ code [(447, .iconst 5, 1), (448, .iadd, 1), (449, .iaload, 1), (450, .invokevirtual 32, 3), (453, .pop, 1), (454, .aload_n 2, 1), (455, .aload_n 0, 1), (456, .iload 4, 2), (458, .iconst 1, 1), (459, .iadd, 1), (460, .iaload, 1), (461, .aload_n 0, 1), (462, .iload 4, 2), (464, .iconst 2, 1), (465, .iadd, 1), (466, .iaload, 1), (467, .aload_n 0, 1), (468, .iload 4, 2), (470, .iconst 3, 1), (471, .iadd, 1), (472, .iaload, 1), (473, .aload_n 0, 1), (474, .iload 4, 2), (476, .iconst 4, 1)] := bch_ok code _ 447 (by decide +kernel)
theorem d_L_447 : decode code 447 = .ok (.iconst 5, 1) := gd_0 db67e_6
theorem d_L_448 : decode code 448 = .ok (.iadd, 1) := gd_1 db67e_6
theorem d_L_449 : decode code 449 = .ok (.iaload, 1) := gd_2 db67e_6
theorem d_L_450 : decode code 450 = .ok (.invokevirtual 32, 3) := gd_3 db67e_6
theorem d_L_453 : decode code 453 = .ok (.pop, 1) := gd_4 db67e_6
theorem d_L_454 : decode code 454 = .ok (.aload_n 2, 1) := gd_5 db67e_6
theorem d_L_455 : decode code 455 = .ok (.aload_n 0, 1) := gd_6 db67e_6
theorem d_L_456 : decode code 456 = .ok (.iload 4, 2) := gd_7 db67e_6
theorem d_L_458 : decode code 458 = .ok (.iconst 1, 1) := gd_8 db67e_6
theorem d_L_459 : decode code 459 = .ok (.iadd, 1) := gd_9 db67e_6
theorem d_L_460 : decode code 460 = .ok (.iaload, 1) := gd_10 db67e_6
theorem d_L_461 : decode code 461 = .ok (.aload_n 0, 1) := gd_11 db67e_6
theorem d_L_462 : decode code 462 = .ok (.iload 4, 2) := gd_12 db67e_6
theorem d_L_464 : decode code 464 = .ok (.iconst 2, 1) := gd_13 db67e_6
theorem d_L_465 : decode code 465 = .ok (.iadd, 1) := gd_14 db67e_6
theorem d_L_466 : decode code 466 = .ok (.iaload, 1) := gd_15 db67e_6
theorem d_L_467 : decode code 467 = .ok (.aload_n 0, 1) := gd_16 db67e_6
theorem d_L_468 : decode code 468 = .ok (.iload 4, 2) := gd_17 db67e_6
theorem d_L_470 : decode code 470 = .ok (.iconst 3, 1) := gd_18 db67e_6
theorem d_L_471 : decode code 471 = .ok (.iadd, 1) := gd_19 db67e_6
theorem d_L_472 : decode code 472 = .ok (.iaload, 1) := gd_20 db67e_6
theorem d_L_473 : decode code 473 = .ok (.aload_n 0, 1) := gd_21 db67e_6
theorem d_L_474 : decode code 474 = .ok (.iload 4, 2) := gd_22 db67e_6
theorem d_L_476 : decode code 476 = .ok (.iconst 4, 1) := gd_23 db67e_6
theorem db67e_7 : Ad_ code [(477, .iadd, 1), (478, .iaload, 1), (479, .aload_n 0, 1), (480, .iload 4, 2), (482, .iconst 5, 1), (483, .iadd, 1), (484, .iaload, 1), (485, .invokevirtual 36, 3), (488, .pop, 1), (489, .goto 1917, 3), (492, .aload_n 1, 1), (493, .aload_n 0, 1), (494, .iload 4, 2), (496, .iconst 1, 1), (497, .iadd, 1), (498, .iaload, 1), (499, .invokevirtual 37, 3), (502, .pop, 1), (503, .aload_n 2, 1), (504, .aload_n 0, 1), (505, .iload 4, 2), (507, .iconst 1, 1), (508, .iadd, 1), (509, .iaload, 1)] := bch_ok code _ 477 (by decide +kernel)
theorem d_L_477 : decode code 477 = .ok (.iadd, 1) := gd_0 db67e_7
theorem d_L_478 : decode code 478 = .ok (.iaload, 1) := gd_1 db67e_7
theorem d_L_479 : decode code 479 = .ok (.aload_n 0, 1) := gd_2 db67e_7
theorem d_L_480 : decode code 480 = .ok (.iload 4, 2) := gd_3 db67e_7
theorem d_L_482 : decode code 482 = .ok (.iconst 5, 1) := gd_4 db67e_7
theorem d_L_483 : decode code 483 = .ok (.iadd, 1) := gd_5 db67e_7
theorem d_L_484 : decode code 484 = .ok (.iaload, 1) := gd_6 db67e_7
theorem d_L_485 : decode code 485 = .ok (.invokevirtual 36, 3) := gd_7 db67e_7
theorem d_L_488 : decode code 488 = .ok (.pop, 1) := gd_8 db67e_7
theorem d_L_489 : decode code 489 = .ok (.goto 1917, 3) := gd_9 db67e_7
theorem d_L_492 : decode code 492 = .ok (.aload_n 1, 1) := gd_10 db67e_7
theorem d_L_493 : decode code 493 = .ok (.aload_n 0, 1) := gd_11 db67e_7
theorem d_L_494 : decode code 494 = .ok (.iload 4, 2) := gd_12 db67e_7
theorem d_L_496 : decode code 496 = .ok (.iconst 1, 1) := gd_13 db67e_7
theorem d_L_497 : decode code 497 = .ok (.iadd, 1) := gd_14 db67e_7
theorem d_L_498 : decode code 498 = .ok (.iaload, 1) := gd_15 db67e_7
theorem d_L_499 : decode code 499 = .ok (.invokevirtual 37, 3) := gd_16 db67e_7
theorem d_L_502 : decode code 502 = .ok (.pop, 1) := gd_17 db67e_7
theorem d_L_503 : decode code 503 = .ok (.aload_n 2, 1) := gd_18 db67e_7
theorem d_L_504 : decode code 504 = .ok (.aload_n 0, 1) := gd_19 db67e_7
theorem d_L_505 : decode code 505 = .ok (.iload 4, 2) := gd_20 db67e_7
theorem d_L_507 : decode code 507 = .ok (.iconst 1, 1) := gd_21 db67e_7
theorem d_L_508 : decode code 508 = .ok (.iadd, 1) := gd_22 db67e_7
theorem d_L_509 : decode code 509 = .ok (.iaload, 1) := gd_23 db67e_7
theorem db67e_8 : Ad_ code [(510, .invokevirtual 41, 3), (513, .pop, 1), (514, .goto 1892, 3), (517, .aload_n 1, 1), (518, .aload_n 0, 1), (519, .iload 4, 2), (521, .iconst 1, 1), (522, .iadd, 1), (523, .iaload, 1), (524, .invokevirtual 42, 3), (527, .pop, 1), (528, .aload_n 2, 1), (529, .aload_n 0, 1), (530, .iload 4, 2), (532, .iconst 1, 1), (533, .iadd, 1), (534, .iaload, 1), (535, .invokevirtual 46, 3), (538, .pop, 1), (539, .goto 1867, 3), (542, .aload_n 1, 1), (543, .invokevirtual 47, 3), (546, .pop, 1), (547, .aload_n 2, 1)] := bch_ok code _ 510 (by decide +kernel)
theorem d_L_510 : decode code 510 = .ok (.invokevirtual 41, 3) := gd_0 db67e_8
theorem d_L_513 : decode code 513 = .ok (.pop, 1) := gd_1 db67e_8
theorem d_L_514 : decode code 514 = .ok (.goto 1892, 3) := gd_2 db67e_8
theorem d_L_517 : decode code 517 = .ok (.aload_n 1, 1) := gd_3 db67e_8
theorem d_L_518 : decode code 518 = .ok (.aload_n 0, 1) := gd_4 db67e_8
theorem d_L_519 : decode code 519 = .ok (.iload 4, 2) := gd_5 db67e_8
theorem d_L_521 : decode code 521 = .ok (.iconst 1, 1) := gd_6 db67e_8
theorem d_L_522 : decode code 522 = .ok (.iadd, 1) := gd_7 db67e_8
theorem d_L_523 : decode code 523 = .ok (.iaload, 1) := gd_8 db67e_8
theorem d_L_524 : decode code 524 = .ok (.invokevirtual 42, 3) := gd_9 db67e_8
theorem d_L_527 : decode code 527 = .ok (.pop, 1) := gd_10 db67e_8
theorem d_L_528 : decode code 528 = .ok (.aload_n 2, 1) := gd_11 db67e_8
theorem d_L_529 : decode code 529 = .ok (.aload_n 0, 1) := gd_12 db67e_8
theorem d_L_530 : decode code 530 = .ok (.iload 4, 2) := gd_13 db67e_8
theorem d_L_532 : decode code 532 = .ok (.iconst 1, 1) := gd_14 db67e_8
theorem d_L_533 : decode code 533 = .ok (.iadd, 1) := gd_15 db67e_8
theorem d_L_534 : decode code 534 = .ok (.iaload, 1) := gd_16 db67e_8
theorem d_L_535 : decode code 535 = .ok (.invokevirtual 46, 3) := gd_17 db67e_8
theorem d_L_538 : decode code 538 = .ok (.pop, 1) := gd_18 db67e_8
theorem d_L_539 : decode code 539 = .ok (.goto 1867, 3) := gd_19 db67e_8
theorem d_L_542 : decode code 542 = .ok (.aload_n 1, 1) := gd_20 db67e_8
theorem d_L_543 : decode code 543 = .ok (.invokevirtual 47, 3) := gd_21 db67e_8
theorem d_L_546 : decode code 546 = .ok (.pop, 1) := gd_22 db67e_8
theorem d_L_547 : decode code 547 = .ok (.aload_n 2, 1) := gd_23 db67e_8
theorem db67e_9 : Ad_ code [(548, .invokevirtual 51, 3), (551, .pop, 1), (552, .goto 1854, 3), (555, .aload_n 1, 1), (556, .aload_n 0, 1), (557, .iload 4, 2), (559, .iconst 1, 1), (560, .iadd, 1), (561, .iaload, 1), (562, .aload_n 0, 1), (563, .iload 4, 2), (565, .iconst 2, 1), (566, .iadd, 1), (567, .iaload, 1), (568, .invokevirtual 52, 3), (571, .pop, 1), (572, .aload_n 2, 1), (573, .aload_n 0, 1), (574, .iload 4, 2), (576, .iconst 1, 1), (577, .iadd, 1), (578, .iaload, 1), (579, .aload_n 0, 1), (580, .iload 4, 2)] := bch_ok code _ 548 (by decide +kernel)
theorem d_L_548 : decode code 548 = .ok (.invokevirtual 51, 3) := gd_0 db67e_9
theorem d_L_551 : decode code 551 = .ok (.pop, 1) := gd_1 db67e_9
theorem d_L_552 : decode code 552 = .ok (.goto 1854, 3) := gd_2 db67e_9
theorem d_L_555 : decode code 555 = .ok (.aload_n 1, 1) := gd_3 db67e_9
theorem d_L_556 : decode code 556 = .ok (.aload_n 0, 1) := gd_4 db67e_9
theorem d_L_557 : decode code 557 = .ok (.iload 4, 2) := gd_5 db67e_9
theorem d_L_559 : decode code 559 = .ok (.iconst 1, 1) := gd_6 db67e_9
theorem d_L_560 : decode code 560 = .ok (.iadd, 1) := gd_7 db67e_9
theorem d_L_561 : decode code 561 = .ok (.iaload, 1) := gd_8 db67e_9
theorem d_L_562 : decode code 562 = .ok (.aload_n 0, 1) := gd_9 db67e_9
theorem d_L_563 : decode code 563 = .ok (.iload 4, 2) := gd_10 db67e_9
theorem d_L_565 : decode code 565 = .ok (.iconst 2, 1) := gd_11 db67e_9
theorem d_L_566 : decode code 566 = .ok (.iadd, 1) := gd_12 db67e_9
theorem d_L_567 : decode code 567 = .ok (.iaload, 1) := gd_13 db67e_9
theorem d_L_568 : decode code 568 = .ok (.invokevirtual 52, 3) := gd_14 db67e_9
theorem d_L_571 : decode code 571 = .ok (.pop, 1) := gd_15 db67e_9
theorem d_L_572 : decode code 572 = .ok (.aload_n 2, 1) := gd_16 db67e_9
theorem d_L_573 : decode code 573 = .ok (.aload_n 0, 1) := gd_17 db67e_9
theorem d_L_574 : decode code 574 = .ok (.iload 4, 2) := gd_18 db67e_9
theorem d_L_576 : decode code 576 = .ok (.iconst 1, 1) := gd_19 db67e_9
theorem d_L_577 : decode code 577 = .ok (.iadd, 1) := gd_20 db67e_9
theorem d_L_578 : decode code 578 = .ok (.iaload, 1) := gd_21 db67e_9
theorem d_L_579 : decode code 579 = .ok (.aload_n 0, 1) := gd_22 db67e_9
theorem d_L_580 : decode code 580 = .ok (.iload 4, 2) := gd_23 db67e_9
theorem db67e_10 : Ad_ code [(582, .iconst 2, 1), (583, .iadd, 1), (584, .iaload, 1), (585, .invokevirtual 55, 3), (588, .pop, 1), (589, .goto 1817, 3), (592, .aload_n 1, 1), (593, .aload_n 0, 1), (594, .iload 4, 2), (596, .iconst 1, 1), (597, .iadd, 1), (598, .iaload, 1), (599, .aload_n 0, 1), (600, .iload 4, 2), (602, .iconst 2, 1), (603, .iadd, 1), (604, .iaload, 1), (605, .invokevirtual 56, 3), (608, .pop, 1), (609, .aload_n 2, 1), (610, .aload_n 0, 1), (611, .iload 4, 2), (613, .iconst 1, 1), (614, .iadd, 1)] := bch_ok code _ 582 (by decide +kernel)
theorem d_L_582 : decode code 582 = .ok (.iconst 2, 1) := gd_0 db67e_10
theorem d_L_583 : decode code 583 = .ok (.iadd, 1) := gd_1 db67e_10
theorem d_L_584 : decode code 584 = .ok (.iaload, 1) := gd_2 db67e_10
theorem d_L_585 : decode code 585 = .ok (.invokevirtual 55, 3) := gd_3 db67e_10
theorem d_L_588 : decode code 588 = .ok (.pop, 1) := gd_4 db67e_10
theorem d_L_589 : decode code 589 = .ok (.goto 1817, 3) := gd_5 db67e_10
theorem d_L_592 : decode code 592 = .ok (.aload_n 1, 1) := gd_6 db67e_10
theorem d_L_593 : decode code 593 = .ok (.aload_n 0, 1) := gd_7 db67e_10
theorem d_L_594 : decode code 594 = .ok (.iload 4, 2) := gd_8 db67e_10
theorem d_L_596 : decode code 596 = .ok (.iconst 1, 1) := gd_9 db67e_10
theorem d_L_597 : decode code 597 = .ok (.iadd, 1) := gd_10 db67e_10
theorem d_L_598 : decode code 598 = .ok (.iaload, 1) := gd_11 db67e_10
theorem d_L_599 : decode code 599 = .ok (.aload_n 0, 1) := gd_12 db67e_10
theorem d_L_600 : decode code 600 = .ok (.iload 4, 2) := gd_13 db67e_10
theorem d_L_602 : decode code 602 = .ok (.iconst 2, 1) := gd_14 db67e_10
theorem d_L_603 : decode code 603 = .ok (.iadd, 1) := gd_15 db67e_10
theorem d_L_604 : decode code 604 = .ok (.iaload, 1) := gd_16 db67e_10
theorem d_L_605 : decode code 605 = .ok (.invokevirtual 56, 3) := gd_17 db67e_10
theorem d_L_608 : decode code 608 = .ok (.pop, 1) := gd_18 db67e_10
theorem d_L_609 : decode code 609 = .ok (.aload_n 2, 1) := gd_19 db67e_10
theorem d_L_610 : decode code 610 = .ok (.aload_n 0, 1) := gd_20 db67e_10
theorem d_L_611 : decode code 611 = .ok (.iload 4, 2) := gd_21 db67e_10
theorem d_L_613 : decode code 613 = .ok (.iconst 1, 1) := gd_22 db67e_10
theorem d_L_614 : decode code 614 = .ok (.iadd, 1) := gd_23 db67e_10
theorem db67e_11 : Ad_ code [(615, .iaload, 1), (616, .aload_n 0, 1), (617, .iload 4, 2), (619, .iconst 2, 1), (620, .iadd, 1), (621, .iaload, 1), (622, .invokevirtual 60, 3), (625, .pop, 1), (626, .goto 1780, 3), (629, .aload_n 1, 1), (630, .aload_n 0, 1), (631, .iload 4, 2), (633, .iconst 1, 1), (634, .iadd, 1), (635, .iaload, 1), (636, .aload_n 0, 1), (637, .iload 4, 2), (639, .iconst 2, 1), (640, .iadd, 1), (641, .iaload, 1), (642, .aload_n 0, 1), (643, .iload 4, 2), (645, .iconst 3, 1), (646, .iadd, 1)] := bch_ok code _ 615 (by decide +kernel)
theorem d_L_615 : decode code 615 = .ok (.iaload, 1) := gd_0 db67e_11
theorem d_L_616 : decode code 616 = .ok (.aload_n 0, 1) := gd_1 db67e_11
theorem d_L_617 : decode code 617 = .ok (.iload 4, 2) := gd_2 db67e_11
theorem d_L_619 : decode code 619 = .ok (.iconst 2, 1) := gd_3 db67e_11
theorem d_L_620 : decode code 620 = .ok (.iadd, 1) := gd_4 db67e_11
theorem d_L_621 : decode code 621 = .ok (.iaload, 1) := gd_5 db67e_11
theorem d_L_622 : decode code 622 = .ok (.invokevirtual 60, 3) := gd_6 db67e_11
theorem d_L_625 : decode code 625 = .ok (.pop, 1) := gd_7 db67e_11
theorem d_L_626 : decode code 626 = .ok (.goto 1780, 3) := gd_8 db67e_11
theorem d_L_629 : decode code 629 = .ok (.aload_n 1, 1) := gd_9 db67e_11
theorem d_L_630 : decode code 630 = .ok (.aload_n 0, 1) := gd_10 db67e_11
theorem d_L_631 : decode code 631 = .ok (.iload 4, 2) := gd_11 db67e_11
theorem d_L_633 : decode code 633 = .ok (.iconst 1, 1) := gd_12 db67e_11
theorem d_L_634 : decode code 634 = .ok (.iadd, 1) := gd_13 db67e_11
theorem d_L_635 : decode code 635 = .ok (.iaload, 1) := gd_14 db67e_11
theorem d_L_636 : decode code 636 = .ok (.aload_n 0, 1) := gd_15 db67e_11
theorem d_L_637 : decode code 637 = .ok (.iload 4, 2) := gd_16 db67e_11
theorem d_L_639 : decode code 639 = .ok (.iconst 2, 1) := gd_17 db67e_11
theorem d_L_640 : decode code 640 = .ok (.iadd, 1) := gd_18 db67e_11
theorem d_L_641 : decode code 641 = .ok (.iaload, 1) := gd_19 db67e_11
theorem d_L_642 : decode code 642 = .ok (.aload_n 0, 1) := gd_20 db67e_11
theorem d_L_643 : decode code 643 = .ok (.iload 4, 2) := gd_21 db67e_11
theorem d_L_645 : decode code 645 = .ok (.iconst 3, 1) := gd_22 db67e_11
theorem d_L_646 : decode code 646 = .ok (.iadd, 1) := gd_23 db67e_11
theorem db67e_12 : Ad_ code [(647, .iaload, 1), (648, .invokevirtual 61, 3), (651, .pop, 1), (652, .aload_n 2, 1), (653, .aload_n 0, 1), (654, .iload 4, 2), (656, .iconst 1, 1), (657, .iadd, 1), (658, .iaload, 1), (659, .aload_n 0, 1), (660, .iload 4, 2), (662, .iconst 2, 1), (663, .iadd, 1), (664, .iaload, 1), (665, .aload_n 0, 1), (666, .iload 4, 2), (668, .iconst 3, 1), (669, .iadd, 1), (670, .iaload, 1), (671, .invokevirtual 65, 3), (674, .pop, 1), (675, .goto 1731, 3), (678, .aload_n 1, 1), (679, .aload_n 0, 1)] := bch_ok code _ 647 (by decide +kernel)
theorem d_L_647 : decode code 647 = .ok (.iaload, 1) := gd_0 db67e_12
theorem d_L_648 : decode code 648 = .ok (.invokevirtual 61, 3) := gd_1 db67e_12
theorem d_L_651 : decode code 651 = .ok (.pop, 1) := gd_2 db67e_12
theorem d_L_652 : decode code 652 = .ok (.aload_n 2, 1) := gd_3 db67e_12
theorem d_L_653 : decode code 653 = .ok (.aload_n 0, 1) := gd_4 db67e_12
theorem d_L_654 : decode code 654 = .ok (.iload 4, 2) := gd_5 db67e_12
theorem d_L_656 : decode code 656 = .ok (.iconst 1, 1) := gd_6 db67e_12
theorem d_L_657 : decode code 657 = .ok (.iadd, 1) := gd_7 db67e_12
theorem d_L_658 : decode code 658 = .ok (.iaload, 1) := gd_8 db67e_12
theorem d_L_659 : decode code 659 = .ok (.aload_n 0, 1) := gd_9 db67e_12
theorem d_L_660 : decode code 660 = .ok (.iload 4, 2) := gd_10 db67e_12
theorem d_L_662 : decode code 662 = .ok (.iconst 2, 1) := gd_11 db67e_12
theorem d_L_663 : decode code 663 = .ok (.iadd, 1) := gd_12 db67e_12
theorem d_L_664 : decode code 664 = .ok (.iaload, 1) := gd_13 db67e_12
theorem d_L_665 : decode code 665 = .ok (.aload_n 0, 1) := gd_14 db67e_12
theorem d_L_666 : decode code 666 = .ok (.iload 4, 2) := gd_15 db67e_12
theorem d_L_668 : decode code 668 = .ok (.iconst 3, 1) := gd_16 db67e_12
theorem d_L_669 : decode code 669 = .ok (.iadd, 1) := gd_17 db67e_12
theorem d_L_670 : decode code 670 = .ok (.iaload, 1) := gd_18 db67e_12
theorem d_L_671 : decode code 671 = .ok (.invokevirtual 65, 3) := gd_19 db67e_12
theorem d_L_674 : decode code 674 = .ok (.pop, 1) := gd_20 db67e_12
theorem d_L_675 : decode code 675 = .ok (.goto 1731, 3) := gd_21 db67e_12
theorem d_L_678 : decode code 678 = .ok (.aload_n 1, 1) := gd_22 db67e_12
theorem d_L_679 : decode code 679 = .ok (.aload_n 0, 1) := gd_23 db67e_12
theorem db67e_13 : Ad_ code [(680, .iload 4, 2), (682, .iconst 1, 1), (683, .iadd, 1), (684, .iaload, 1), (685, .aload_n 0, 1), (686, .iload 4, 2), (688, .iconst 2, 1), (689, .iadd, 1), (690, .iaload, 1), (691, .ifCond .eq 7, 3), (694, .iconst 1, 1), (695, .goto 4, 3), (698, .iconst 0, 1), (699, .invokevirtual 66, 3), (702, .pop, 1), (703, .aload_n 2, 1), (704, .aload_n 0, 1), (705, .iload 4, 2), (707, .iconst 1, 1), (708, .iadd, 1), (709, .iaload, 1), (710, .aload_n 0, 1), (711, .iload 4, 2), (713, .iconst 2, 1)] := bch_ok code _ 680 (by decide +kernel)
theorem d_L_680 : decode code 680 = .ok (.iload 4, 2) := gd_0 db67e_13
theorem d_L_682 : decode code 682 = .ok (.iconst 1, 1) := gd_1 db67e_13
theorem d_L_683 : decode code 683 = .ok (.iadd, 1) := gd_2 db67e_13
theorem d_L_684 : decode code 684 = .ok (.iaload, 1) := gd_3 db67e_13
theorem d_L_685 : decode code 685 = .ok (.aload_n 0, 1) := gd_4 db67e_13
theorem d_L_686 : decode code 686 = .ok (.iload 4, 2) := gd_5 db67e_13
theorem d_L_688 : decode code 688 = .ok (.iconst 2, 1) := gd_6 db67e_13
theorem d_L_689 : decode code 689 = .ok (.iadd, 1) := gd_7 db67e_13
theorem d_L_690 : decode code 690 = .ok (.iaload, 1) := gd_8 db67e_13
theorem d_L_691 : decode code 691 = .ok (.ifCond .eq 7, 3) := gd_9 db67e_13
theorem d_L_694 : decode code 694 = .ok (.iconst 1, 1) := gd_10 db67e_13
theorem d_L_695 : decode code 695 = .ok (.goto 4, 3) := gd_11 db67e_13
theorem d_L_698 : decode code 698 = .ok (.iconst 0, 1) := gd_12 db67e_13
theorem d_L_699 : decode code 699 = .ok (.invokevirtual 66, 3) := gd_13 db67e_13
theorem d_L_702 : decode code 702 = .ok (.pop, 1) := gd_14 db67e_13
theorem d_L_703 : decode code 703 = .ok (.aload_n 2, 1) := gd_15 db67e_13
theorem d_L_704 : decode code 704 = .ok (.aload_n 0, 1) := gd_16 db67e_13
theorem d_L_705 : decode code 705 = .ok (.iload 4, 2) := gd_17 db67e_13
theorem d_L_707 : decode code 707 = .ok (.iconst 1, 1) := gd_18 db67e_13
theorem d_L_708 : decode code 708 = .ok (.iadd, 1) := gd_19 db67e_13
theorem d_L_709 : decode code 709 = .ok (.iaload, 1) := gd_20 db67e_13
theorem d_L_710 : decode code 710 = .ok (.aload_n 0, 1) := gd_21 db67e_13
theorem d_L_711 : decode code 711 = .ok (.iload 4, 2) := gd_22 db67e_13
theorem d_L_713 : decode code 713 = .ok (.iconst 2, 1) := gd_23 db67e_13
theorem db67e_14 : Ad_ code [(714, .iadd, 1), (715, .iaload, 1), (716, .ifCond .eq 7, 3), (719, .iconst 1, 1), (720, .goto 4, 3), (723, .iconst 0, 1), (724, .invokevirtual 70, 3), (727, .pop, 1), (728, .goto 1678, 3), (731, .aload_n 1, 1), (732, .aload_n 0, 1), (733, .iload 4, 2), (735, .iconst 1, 1), (736, .iadd, 1), (737, .iaload, 1), (738, .invokevirtual 71, 3), (741, .pop, 1), (742, .aload_n 2, 1), (743, .aload_n 0, 1), (744, .iload 4, 2), (746, .iconst 1, 1), (747, .iadd, 1), (748, .iaload, 1), (749, .invokevirtual 74, 3)] := bch_ok code _ 714 (by decide +kernel)
theorem d_L_714 : decode code 714 = .ok (.iadd, 1) := gd_0 db67e_14
theorem d_L_715 : decode code 715 = .ok (.iaload, 1) := gd_1 db67e_14
theorem d_L_716 : decode code 716 = .ok (.ifCond .eq 7, 3) := gd_2 db67e_14
theorem d_L_719 : decode code 719 = .ok (.iconst 1, 1) := gd_3 db67e_14
theorem d_L_720 : decode code 720 = .ok (.goto 4, 3) := gd_4 db67e_14
theorem d_L_723 : decode code 723 = .ok (.iconst 0, 1) := gd_5 db67e_14
theorem d_L_724 : decode code 724 = .ok (.invokevirtual 70, 3) := gd_6 db67e_14
theorem d_L_727 : decode code 727 = .ok (.pop, 1) := gd_7 db67e_14
theorem d_L_728 : decode code 728 = .ok (.goto 1678, 3) := gd_8 db67e_14
theorem d_L_731 : decode code 731 = .ok (.aload_n 1, 1) := gd_9 db67e_14
theorem d_L_732 : decode code 732 = .ok (.aload_n 0, 1) := gd_10 db67e_14
theorem d_L_733 : decode code 733 = .ok (.iload 4, 2) := gd_11 db67e_14
theorem d_L_735 : decode code 735 = .ok (.iconst 1, 1) := gd_12 db67e_14
theorem d_L_736 : decode code 736 = .ok (.iadd, 1) := gd_13 db67e_14
theorem d_L_737 : decode code 737 = .ok (.iaload, 1) := gd_14 db67e_14
theorem d_L_738 : decode code 738 = .ok (.invokevirtual 71, 3) := gd_15 db67e_14
theorem d_L_741 : decode code 741 = .ok (.pop, 1) := gd_16 db67e_14
theorem d_L_742 : decode code 742 = .ok (.aload_n 2, 1) := gd_17 db67e_14
theorem d_L_743 : decode code 743 = .ok (.aload_n 0, 1) := gd_18 db67e_14
theorem d_L_744 : decode code 744 = .ok (.iload 4, 2) := gd_19 db67e_14
theorem d_L_746 : decode code 746 = .ok (.iconst 1, 1) := gd_20 db67e_14
theorem d_L_747 : decode code 747 = .ok (.iadd, 1) := gd_21 db67e_14
theorem d_L_748 : decode code 748 = .ok (.iaload, 1) := gd_22 db67e_14
theorem d_L_749 : decode code 749 = .ok (.invokevirtual 74, 3) := gd_23 db67e_14
theorem db67e_15 : Ad_ code [(752, .pop, 1), (753, .goto 1653, 3), (756, .aload_n 1, 1), (757, .aload_n 0, 1), (758, .iload 4, 2), (760, .iconst 1, 1), (761, .iadd, 1), (762, .iaload, 1), (763, .aload_n 0, 1), (764, .iload 4, 2), (766, .iconst 2, 1), (767, .iadd, 1), (768, .iaload, 1), (769, .aload_n 3, 1), (770, .invokestatic 75, 3), (773, .istore 5, 2), (775, .aload_n 2, 1), (776, .aload_n 0, 1), (777, .iload 4, 2), (779, .iconst 1, 1), (780, .iadd, 1), (781, .iaload, 1), (782, .aload_n 0, 1), (783, .iload 4, 2)] := bch_ok code _ 752 (by decide +kernel)
theorem d_L_752 : decode code 752 = .ok (.pop, 1) := gd_0 db67e_15
theorem d_L_753 : decode code 753 = .ok (.goto 1653, 3) := gd_1 db67e_15
theorem d_L_756 : decode code 756 = .ok (.aload_n 1, 1) := gd_2 db67e_15
theorem d_L_757 : decode code 757 = .ok (.aload_n 0, 1) := gd_3 db67e_15
theorem d_L_758 : decode code 758 = .ok (.iload 4, 2) := gd_4 db67e_15
theorem d_L_760 : decode code 760 = .ok (.iconst 1, 1) := gd_5 db67e_15
theorem d_L_761 : decode code 761 = .ok (.iadd, 1) := gd_6 db67e_15
theorem d_L_762 : decode code 762 = .ok (.iaload, 1) := gd_7 db67e_15
theorem d_L_763 : decode code 763 = .ok (.aload_n 0, 1) := gd_8 db67e_15
theorem d_L_764 : decode code 764 = .ok (.iload 4, 2) := gd_9 db67e_15
theorem d_L_766 : decode code 766 = .ok (.iconst 2, 1) := gd_10 db67e_15
theorem d_L_767 : decode code 767 = .ok (.iadd, 1) := gd_11 db67e_15
theorem d_L_768 : decode code 768 = .ok (.iaload, 1) := gd_12 db67e_15
theorem d_L_769 : decode code 769 = .ok (.aload_n 3, 1) := gd_13 db67e_15
theorem d_L_770 : decode code 770 = .ok (.invokestatic 75, 3) := gd_14 db67e_15
theorem d_L_773 : decode code 773 = .ok (.istore 5, 2) := gd_15 db67e_15
theorem d_L_775 : decode code 775 = .ok (.aload_n 2, 1) := gd_16 db67e_15
theorem d_L_776 : decode code 776 = .ok (.aload_n 0, 1) := gd_17 db67e_15
theorem d_L_777 : decode code 777 = .ok (.iload 4, 2) := gd_18 db67e_15
theorem d_L_779 : decode code 779 = .ok (.iconst 1, 1) := gd_19 db67e_15
theorem d_L_780 : decode code 780 = .ok (.iadd, 1) := gd_20 db67e_15
theorem d_L_781 : decode code 781 = .ok (.iaload, 1) := gd_21 db67e_15
theorem d_L_782 : decode code 782 = .ok (.aload_n 0, 1) := gd_22 db67e_15
theorem d_L_783 : decode code 783 = .ok (.iload 4, 2) := gd_23 db67e_15
theorem d_L_785 : decode code 785 = .ok (.iconst 2, 1) := by decide +kernel
theorem d_L_786 : decode code 786 = .ok (.iadd, 1) := by decide +kernel
end
section
theorem db67f_0 : Ad_ code [(787, .iaload, 1), (788, .invokevirtual 80, 3), (791, .istore 6, 2), (793, .goto 1613, 3), (796, .aload_n 1, 1), (797, .aload_n 0, 1), (798, .iload 4, 2), (800, .iconst 1, 1), (801, .iadd, 1), (802, .iaload, 1), (803, .aload_n 0, 1), (804, .iload 4, 2), (806, .iconst 2, 1), (807, .iadd, 1), (808, .iaload, 1), (809, .invokevirtual 81, 3), (812, .pop, 1), (813, .aload_n 2, 1), (814, .aload_n 0, 1), (815, .iload 4, 2), (817, .iconst 1, 1), (818, .iadd, 1), (819, .iaload, 1), (820, .aload_n 0, 1)] := bch_ok code _ 787 (by decide +kernel)
theorem d_L_787 : decode code 787 = .ok (.iaload, 1) := gd_0 db67f_0
theorem d_L_788 : decode code 788 = .ok (.invokevirtual 80, 3) := gd_1 db67f_0
theorem d_L_791 : decode code 791 = .ok (.istore 6, 2) := gd_2 db67f_0
theorem d_L_793 : decode code 793 = .ok (.goto 1613, 3) := gd_3 db67f_0
theorem d_L_796 : decode code 796 = .ok (.aload_n 1, 1) := gd_4 db67f_0
theorem d_L_797 : decode code 797 = .ok (.aload_n 0, 1) := gd_5 db67f_0
theorem d_L_798 : decode code 798 = .ok (.iload 4, 2) := gd_6 db67f_0
theorem d_L_800 : decode code 800 = .ok (.iconst 1, 1) := gd_7 db67f_0
theorem d_L_801 : decode code 801 = .ok (.iadd, 1) := gd_8 db67f_0
theorem d_L_802 : decode code 802 = .ok (.iaload, 1) := gd_9 db67f_0
theorem d_L_803 : decode code 803 = .ok (.aload_n 0, 1) := gd_10 db67f_0
theorem d_L_804 : decode code 804 = .ok (.iload 4, 2) := gd_11 db67f_0
theorem d_L_806 : decode code 806 = .ok (.iconst 2, 1) := gd_12 db67f_0
theorem d_L_807 : decode code 807 = .ok (.iadd, 1) := gd_13 db67f_0
theorem d_L_808 : decode code 808 = .ok (.iaload, 1) := gd_14 db67f_0
theorem d_L_809 : decode code 809 = .ok (.invokevirtual 81, 3) := gd_15 db67f_0
theorem d_L_812 : decode code 812 = .ok (.pop, 1) := gd_16 db67f_0
theorem d_L_813 : decode code 813 = .ok (.aload_n 2, 1) := gd_17 db67f_0
theorem d_L_814 : decode code 814 = .ok (.aload_n 0, 1) := gd_18 db67f_0
theorem d_L_815 : decode code 815 = .ok (.iload 4, 2) := gd_19 db67f_0
theorem d_L_817 : decode code 817 = .ok (.iconst 1, 1) := gd_20 db67f_0
theorem d_L_818 : decode code 818 = .ok (.iadd, 1) := gd_21 db67f_0
theorem d_L_819 : decode code 819 = .ok (.iaload, 1) := gd_22 db67f_0
theorem d_L_820 : decode code 820 = .ok (.aload_n 0, 1) := gd_23 db67f_0
theorem db67f_1 : Ad_ code [(821, .iload 4, 2), (823, .iconst 2, 1), (824, .iadd, 1), (825, .iaload, 1), (826, .invokevirtual 84, 3), (829, .pop, 1), (830, .goto 1576, 3), (833, .aload_n 1, 1), (834, .aload_n 0, 1), (835, .iload 4, 2), (837, .iconst 1, 1), (838, .iadd, 1), (839, .iaload, 1), (840, .aload_n 0, 1), (841, .iload 4, 2), (843, .iconst 2, 1), (844, .iadd, 1), (845, .iaload, 1), (846, .aload_n 0, 1), (847, .iload 4, 2), (849, .iconst 3, 1), (850, .iadd, 1), (851, .iaload, 1), (852, .invokevirtual 85, 3)] := bch_ok code _ 821 (by decide +kernel)
theorem d_L_821 : decode code 821 = .ok (.iload 4, 2) := gd_0 db67f_1
theorem d_L_823 : decode code 823 = .ok (.iconst 2, 1) := gd_1 db67f_1
theorem d_L_824 : decode code 824 = .ok (.iadd, 1) := gd_2 db67f_1
theorem d_L_825 : decode code 825 = .ok (.iaload, 1) := gd_3 db67f_1
theorem d_L_826 : decode code 826 = .ok (.invokevirtual 84, 3) := gd_4 db67f_1
theorem d_L_829 : decode code 829 = .ok (.pop, 1) := gd_5 db67f_1
theorem d_L_830 : decode code 830 = .ok (.goto 1576, 3) := gd_6 db67f_1
theorem d_L_833 : decode code 833 = .ok (.aload_n 1, 1) := gd_7 db67f_1
theorem d_L_834 : decode code 834 = .ok (.aload_n 0, 1) := gd_8 db67f_1
theorem d_L_835 : decode code 835 = .ok (.iload 4, 2) := gd_9 db67f_1
theorem d_L_837 : decode code 837 = .ok (.iconst 1, 1) := gd_10 db67f_1
theorem d_L_838 : decode code 838 = .ok (.iadd, 1) := gd_11 db67f_1
theorem d_L_839 : decode code 839 = .ok (.iaload, 1) := gd_12 db67f_1
theorem d_L_840 : decode code 840 = .ok (.aload_n 0, 1) := gd_13 db67f_1
theorem d_L_841 : decode code 841 = .ok (.iload 4, 2) := gd_14 db67f_1
theorem d_L_843 : decode code 843 = .ok (.iconst 2, 1) := gd_15 db67f_1
theorem d_L_844 : decode code 844 = .ok (.iadd, 1) := gd_16 db67f_1
theorem d_L_845 : decode code 845 = .ok (.iaload, 1) := gd_17 db67f_1
theorem d_L_846 : decode code 846 = .ok (.aload_n 0, 1) := gd_18 db67f_1
theorem d_L_847 : decode code 847 = .ok (.iload 4, 2) := gd_19 db67f_1
theorem d_L_849 : decode code 849 = .ok (.iconst 3, 1) := gd_20 db67f_1
theorem d_L_850 : decode code 850 = .ok (.iadd, 1) := gd_21 db67f_1
theorem d_L_851 : decode code 851 = .ok (.iaload, 1) := gd_22 db67f_1
theorem d_L_852 : decode code 852 = .ok (.invokevirtual 85, 3) := gd_23 db67f_1
theorem db67f_2 : Ad_ code [(855, .pop, 1), (856, .aload_n 2, 1), (857, .aload_n 0, 1), (858, .iload 4, 2), (860, .iconst 1, 1), (861, .iadd, 1), (862, .iaload, 1), (863, .aload_n 0, 1), (864, .iload 4, 2), (866, .iconst 2, 1), (867, .iadd, 1), (868, .iaload, 1), (869, .aload_n 0, 1), (870, .iload 4, 2), (872, .iconst 3, 1), (873, .iadd, 1), (874, .iaload, 1), (875, .invokevirtual 88, 3), (878, .pop, 1), (879, .goto 1527, 3), (882, .aload_n 1, 1), (883, .aload_n 0, 1), (884, .iload 4, 2), (886, .iconst 1, 1)] := bch_ok code _ 855 (by decide +kernel)
theorem d_L_855 : decode code 855 = .ok (.pop, 1) := gd_0 db67f_2
theorem d_L_856 : decode code 856 = .ok (.aload_n 2, 1) := gd_1 db67f_2
theorem d_L_857 : decode code 857 = .ok (.aload_n 0, 1) := gd_2 db67f_2
theorem d_L_858 : decode code 858 = .ok (.iload 4, 2) := gd_3 db67f_2
theorem d_L_860 : decode code 860 = .ok (.iconst 1, 1) := gd_4 db67f_2
theorem d_L_861 : decode code 861 = .ok (.iadd, 1) := gd_5 db67f_2
theorem d_L_862 : decode code 862 = .ok (.iaload, 1) := gd_6 db67f_2
theorem d_L_863 : decode code 863 = .ok (.aload_n 0, 1) := gd_7 db67f_2
theorem d_L_864 : decode code 864 = .ok (.iload 4, 2) := gd_8 db67f_2
theorem d_L_866 : decode code 866 = .ok (.iconst 2, 1) := gd_9 db67f_2
theorem d_L_867 : decode code 867 = .ok (.iadd, 1) := gd_10 db67f_2
theorem d_L_868 : decode code 868 = .ok (.iaload, 1) := gd_11 db67f_2
theorem d_L_869 : decode code 869 = .ok (.aload_n 0, 1) := gd_12 db67f_2
theorem d_L_870 : decode code 870 = .ok (.iload 4, 2) := gd_13 db67f_2
theorem d_L_872 : decode code 872 = .ok (.iconst 3, 1) := gd_14 db67f_2
theorem d_L_873 : decode code 873 = .ok (.iadd, 1) := gd_15 db67f_2
theorem d_L_874 : decode code 874 = .ok (.iaload, 1) := gd_16 db67f_2
theorem d_L_875 : decode code 875 = .ok (.invokevirtual 88, 3) := gd_17 db67f_2
theorem d_L_878 : decode code 878 = .ok (.pop, 1) := gd_18 db67f_2
theorem d_L_879 : decode code 879 = .ok (.goto 1527, 3) := gd_19 db67f_2
theorem d_L_882 : decode code 882 = .ok (.aload_n 1, 1) := gd_20 db67f_2
theorem d_L_883 : decode code 883 = .ok (.aload_n 0, 1) := gd_21 db67f_2
theorem d_L_884 : decode code 884 = .ok (.iload 4, 2) := gd_22 db67f_2
theorem d_L_886 : decode code 886 = .ok (.iconst 1, 1) := gd_23 db67f_2
theorem db67f_3 : Ad_ code [(887, .iadd, 1), (888, .iaload, 1), (889, .aload_n 0, 1), (890, .iload 4, 2), (892, .iconst 2, 1), (893, .iadd, 1), (894, .iaload, 1), (895, .invokevirtual 89, 3), (898, .pop, 1), (899, .aload_n 2, 1), (900, .aload_n 0, 1), (901, .iload 4, 2), (903, .iconst 1, 1), (904, .iadd, 1), (905, .iaload, 1), (906, .aload_n 0, 1), (907, .iload 4, 2), (909, .iconst 2, 1), (910, .iadd, 1), (911, .iaload, 1), (912, .invokevirtual 92, 3), (915, .pop, 1), (916, .goto 1490, 3), (919, .aload_n 1, 1)] := bch_ok code _ 887 (by decide +kernel)
theorem d_L_887 : decode code 887 = .ok (.iadd, 1) := gd_0 db67f_3
theorem d_L_888 : decode code 888 = .ok (.iaload, 1) := gd_1 db67f_3
theorem d_L_889 : decode code 889 = .ok (.aload_n 0, 1) := gd_2 db67f_3
theorem d_L_890 : decode code 890 = .ok (.iload 4, 2) := gd_3 db67f_3
theorem d_L_892 : decode code 892 = .ok (.iconst 2, 1) := gd_4 db67f_3
theorem d_L_893 : decode code 893 = .ok (.iadd, 1) := gd_5 db67f_3
theorem d_L_894 : decode code 894 = .ok (.iaload, 1) := gd_6 db67f_3
theorem d_L_895 : decode code 895 = .ok (.invokevirtual 89, 3) := gd_7 db67f_3
theorem d_L_898 : decode code 898 = .ok (.pop, 1) := gd_8 db67f_3
theorem d_L_899 : decode code 899 = .ok (.aload_n 2, 1) := gd_9 db67f_3
theorem d_L_900 : decode code 900 = .ok (.aload_n 0, 1) := gd_10 db67f_3
theorem d_L_901 : decode code 901 = .ok (.iload 4, 2) := gd_11 db67f_3
theorem d_L_903 : decode code 903 = .ok (.iconst 1, 1) := gd_12 db67f_3
theorem d_L_904 : decode code 904 = .ok (.iadd, 1) := gd_13 db67f_3
theorem d_L_905 : decode code 905 = .ok (.iaload, 1) := gd_14 db67f_3
theorem d_L_906 : decode code 906 = .ok (.aload_n 0, 1) := gd_15 db67f_3
theorem d_L_907 : decode code 907 = .ok (.iload 4, 2) := gd_16 db67f_3
theorem d_L_909 : decode code 909 = .ok (.iconst 2, 1) := gd_17 db67f_3
theorem d_L_910 : decode code 910 = .ok (.iadd, 1) := gd_18 db67f_3
theorem d_L_911 : decode code 911 = .ok (.iaload, 1) := gd_19 db67f_3
theorem d_L_912 : decode code 912 = .ok (.invokevirtual 92, 3) := gd_20 db67f_3
theorem d_L_915 : decode code 915 = .ok (.pop, 1) := gd_21 db67f_3
theorem d_L_916 : decode code 916 = .ok (.goto 1490, 3) := gd_22 db67f_3
theorem d_L_919 : decode code 919 = .ok (.aload_n 1, 1) := gd_23 db67f_3
theorem db67f_4 : Ad_ code [(920, .aload_n 0, 1), (921, .iload 4, 2), (923, .iconst 1, 1), (924, .iadd, 1), (925, .iaload, 1), (926, .aload_n 0, 1), (927, .iload 4, 2), (929, .iconst 2, 1), (930, .iadd, 1), (931, .iaload, 1), (932, .invokevirtual 93, 3), (935, .pop, 1), (936, .aload_n 2, 1), (937, .aload_n 0, 1), (938, .iload 4, 2), (940, .iconst 1, 1), (941, .iadd, 1), (942, .iaload, 1), (943, .aload_n 0, 1), (944, .iload 4, 2), (946, .iconst 2, 1), (947, .iadd, 1), (948, .iaload, 1), (949, .invokevirtual 96, 3)] := bch_ok code _ 920 (by decide +kernel)
theorem d_L_920 : decode code 920 = .ok (.aload_n 0, 1) := gd_0 db67f_4
theorem d_L_921 : decode code 921 = .ok (.iload 4, 2) := gd_1 db67f_4
theorem d_L_923 : decode code 923 = .ok (.iconst 1, 1) := gd_2 db67f_4
theorem d_L_924 : decode code 924 = .ok (.iadd, 1) := gd_3 db67f_4
theorem d_L_925 : decode code 925 = .ok (.iaload, 1) := gd_4 db67f_4
theorem d_L_926 : decode code 926 = .ok (.aload_n 0, 1) := gd_5 db67f_4
theorem d_L_927 : decode code 927 = .ok (.iload 4, 2) := gd_6 db67f_4
theorem d_L_929 : decode code 929 = .ok (.iconst 2, 1) := gd_7 db67f_4
theorem d_L_930 : decode code 930 = .ok (.iadd, 1) := gd_8 db67f_4
theorem d_L_931 : decode code 931 = .ok (.iaload, 1) := gd_9 db67f_4
theorem d_L_932 : decode code 932 = .ok (.invokevirtual 93, 3) := gd_10 db67f_4
theorem d_L_935 : decode code 935 = .ok (.pop, 1) := gd_11 db67f_4
theorem d_L_936 : decode code 936 = .ok (.aload_n 2, 1) := gd_12 db67f_4
theorem d_L_937 : decode code 937 = .ok (.aload_n 0, 1) := gd_13 db67f_4
theorem d_L_938 : decode code 938 = .ok (.iload 4, 2) := gd_14 db67f_4
theorem d_L_940 : decode code 940 = .ok (.iconst 1, 1) := gd_15 db67f_4
theorem d_L_941 : decode code 941 = .ok (.iadd, 1) := gd_16 db67f_4
theorem d_L_942 : decode code 942 = .ok (.iaload, 1) := gd_17 db67f_4
theorem d_L_943 : decode code 943 = .ok (.aload_n 0, 1) := gd_18 db67f_4
theorem d_L_944 : decode code 944 = .ok (.iload 4, 2) := gd_19 db67f_4
theorem d_L_946 : decode code 946 = .ok (.iconst 2, 1) := gd_20 db67f_4
theorem d_L_947 : decode code 947 = .ok (.iadd, 1) := gd_21 db67f_4
theorem d_L_948 : decode code 948 = .ok (.iaload, 1) := gd_22 db67f_4
theorem d_L_949 : decode code 949 = .ok (.invokevirtual 96, 3) := gd_23 db67f_4
theorem db67f_5 : Ad_ code [(952, .pop, 1), (953, .goto 1453, 3), (956, .aload_n 1, 1), (957, .aload_n 0, 1), (958, .iload 4, 2), (960, .iconst 1, 1), (961, .iadd, 1), (962, .iaload, 1), (963, .aload_n 0, 1), (964, .iload 4, 2), (966, .iconst 2, 1), (967, .iadd, 1), (968, .iaload, 1), (969, .aload_n 0, 1), (970, .iload 4, 2), (972, .iconst 3, 1), (973, .iadd, 1), (974, .iaload, 1), (975, .aload_n 0, 1), (976, .iload 4, 2), (978, .iconst 4, 1), (979, .iadd, 1), (980, .iaload, 1), (981, .aload_n 0, 1)] := bch_ok code _ 952 (by decide +kernel)
theorem d_L_952 : decode code 952 = .ok (.pop, 1) := gd_0 db67f_5
theorem d_L_953 : decode code 953 = .ok (.goto 1453, 3) := gd_1 db67f_5
theorem d_L_956 : decode code 956 = .ok (.aload_n 1, 1) := gd_2 db67f_5
theorem d_L_957 : decode code 957 = .ok (.aload_n 0, 1) := gd_3 db67f_5
theorem d_L_958 : decode code 958 = .ok (.iload 4, 2) := gd_4 db67f_5
theorem d_L_960 : decode code 960 = .ok (.iconst 1, 1) := gd_5 db67f_5
theorem d_L_961 : decode code 961 = .ok (.iadd, 1) := gd_6 db67f_5
theorem d_L_962 : decode code 962 = .ok (.iaload, 1) := gd_7 db67f_5
theorem d_L_963 : decode code 963 = .ok (.aload_n 0, 1) := gd_8 db67f_5
theorem d_L_964 : decode code 964 = .ok (.iload 4, 2) := gd_9 db67f_5
theorem d_L_966 : decode code 966 = .ok (.iconst 2, 1) := gd_10 db67f_5
theorem d_L_967 : decode code 967 = .ok (.iadd, 1) := gd_11 db67f_5
theorem d_L_968 : decode code 968 = .ok (.iaload, 1) := gd_12 db67f_5
theorem d_L_969 : decode code 969 = .ok (.aload_n 0, 1) := gd_13 db67f_5
theorem d_L_970 : decode code 970 = .ok (.iload 4, 2) := gd_14 db67f_5
theorem d_L_972 : decode code 972 = .ok (.iconst 3, 1) := gd_15 db67f_5
theorem d_L_973 : decode code 973 = .ok (.iadd, 1) := gd_16 db67f_5
theorem d_L_974 : decode code 974 = .ok (.iaload, 1) := gd_17 db67f_5
theorem d_L_975 : decode code 975 = .ok (.aload_n 0, 1) := gd_18 db67f_5
theorem d_L_976 : decode code 976 = .ok (.iload 4, 2) := gd_19 db67f_5
theorem d_L_978 : decode code 978 = .ok (.iconst 4, 1) := gd_20 db67f_5
theorem d_L_979 : decode code 979 = .ok (.iadd, 1) := gd_21 db67f_5
theorem d_L_980 : decode code 980 = .ok (.iaload, 1) := gd_22 db67f_5
theorem d_L_981 : decode code 981 = .ok (.aload_n 0, 1) := gd_23 db67f_5
theorem db67f_6 : Ad_ code [(982, .iload 4, 2), (984, .iconst 5, 1), (985, .iadd, 1), (986, .iaload, 1), (987, .invokevirtual 97, 3), (990, .pop, 1), (991, .aload_n 2, 1), (992, .aload_n 0, 1), (993, .iload 4, 2), (995, .iconst 1, 1), (996, .iadd, 1), (997, .iaload, 1), (998, .aload_n 0, 1), (999, .iload 4, 2), (1001, .iconst 2, 1), (1002, .iadd, 1), (1003, .iaload, 1), (1004, .aload_n 0, 1), (1005, .iload 4, 2), (1007, .iconst 3, 1), (1008, .iadd, 1), (1009, .iaload, 1), (1010, .aload_n 0, 1), (1011, .iload 4, 2)] := bch_ok code _ 982 (by decide +kernel)
theorem d_L_982 : decode code 982 = .ok (.iload 4, 2) := gd_0 db67f_6
theorem d_L_984 : decode code 984 = .ok (.iconst 5, 1) := gd_1 db67f_6
theorem d_L_985 : decode code 985 = .ok (.iadd, 1) := gd_2 db67f_6
theorem d_L_986 : decode code 986 = .ok (.iaload, 1) := gd_3 db67f_6
theorem d_L_987 : decode code 987 = .ok (.invokevirtual 97, 3) := gd_4 db67f_6
theorem d_L_990 : decode code 990 = .ok (.pop, 1) := gd_5 db67f_6
theorem d_L_991 : decode code 991 = .ok (.aload_n 2, 1) := gd_6 db67f_6
theorem d_L_992 : decode code 992 = .ok (.aload_n 0, 1) := gd_7 db67f_6
theorem d_L_993 : decode code 993 = .ok (.iload 4, 2) := gd_8 db67f_6
theorem d_L_995 : decode code 995 = .ok (.iconst 1, 1) := gd_9 db67f_6
theorem d_L_996 : decode code 996 = .ok (.iadd, 1) := gd_10 db67f_6
theorem d_L_997 : decode code 997 = .ok (.iaload, 1) := gd_11 db67f_6
theorem d_L_998 : decode code 998 = .ok (.aload_n 0, 1) := gd_12 db67f_6
theorem d_L_999 : decode code 999 = .ok (.iload 4, 2) := gd_13 db67f_6
theorem d_L_1001 : decode code 1001 = .ok (.iconst 2, 1) := gd_14 db67f_6
theorem d_L_1002 : decode code 1002 = .ok (.iadd, 1) := gd_15 db67f_6
theorem d_L_1003 : decode code 1003 = .ok (.iaload, 1) := gd_16 db67f_6
theorem d_L_1004 : decode code 1004 = .ok (.aload_n 0, 1) := gd_17 db67f_6
theorem d_L_1005 : decode code 1005 = .ok (.iload 4, 2) := gd_18 db67f_6
theorem d_L_1007 : decode code 1007 = .ok (.iconst 3, 1) := gd_19 db67f_6
theorem d_L_1008 : decode code 1008 = .ok (.iadd, 1) := gd_20 db67f_6
theorem d_L_1009 : decode code 1009 = .ok (.iaload, 1) := gd_21 db67f_6
theorem d_L_1010 : decode code 1010 = .ok (.aload_n 0, 1) := gd_22 db67f_6
theorem d_L_1011 : decode code 1011 = .ok (.iload 4, 2) := gd_23 db67f_6
theorem db67f_7 : Ad_ code [(1013, .iconst 4, 1), (1014, .iadd, 1), (1015, .iaload, 1), (1016, .aload_n 0, 1), (1017, .iload 4, 2), (1019, .iconst 5, 1), (1020, .iadd, 1), (1021, .iaload, 1), (1022, .invokevirtual 100, 3), (1025, .pop, 1), (1026, .goto 1380, 3), (1029, .aload_n 1, 1), (1030, .aload_n 0, 1), (1031, .iload 4, 2), (1033, .iconst 1, 1), (1034, .iadd, 1), (1035, .iaload, 1), (1036, .invokevirtual 101, 3), (1039, .pop, 1), (1040, .aload_n 2, 1), (1041, .aload_n 0, 1), (1042, .iload 4, 2), (1044, .iconst 1, 1), (1045, .iadd, 1)] := bch_ok code _ 1013 (by decide +kernel)
theorem d_L_1013 : decode code 1013 = .ok (.iconst 4, 1) := gd_0 db67f_7
theorem d_L_1014 : decode code 1014 = .ok (.iadd, 1) := gd_1 db67f_7
theorem d_L_1015 : decode code 1015 = .ok (.iaload, 1) := gd_2 db67f_7
theorem d_L_1016 : decode code 1016 = .ok (.aload_n 0, 1) := gd_3 db67f_7
theorem d_L_1017 : decode code 1017 = .ok (.iload 4, 2) := gd_4 db67f_7
theorem d_L_1019 : decode code 1019 = .ok (.iconst 5, 1) := gd_5 db67f_7
theorem d_L_1020 : decode code 1020 = .ok (.iadd, 1) := gd_6 db67f_7
theorem d_L_1021 : decode code 1021 = .ok (.iaload, 1) := gd_7 db67f_7
theorem d_L_1022 : decode code 1022 = .ok (.invokevirtual 100, 3) := gd_8 db67f_7
theorem d_L_1025 : decode code 1025 = .ok (.pop, 1) := gd_9 db67f_7
theorem d_L_1026 : decode code 1026 = .ok (.goto 1380, 3) := gd_10 db67f_7
theorem d_L_1029 : decode code 1029 = .ok (.aload_n 1, 1) := gd_11 db67f_7
theorem d_L_1030 : decode code 1030 = .ok (.aload_n 0, 1) := gd_12 db67f_7
theorem d_L_1031 : decode code 1031 = .ok (.iload 4, 2) := gd_13 db67f_7
theorem d_L_1033 : decode code 1033 = .ok (.iconst 1, 1) := gd_14 db67f_7
theorem d_L_1034 : decode code 1034 = .ok (.iadd, 1) := gd_15 db67f_7
theorem d_L_1035 : decode code 1035 = .ok (.iaload, 1) := gd_16 db67f_7
theorem d_L_1036 : decode code 1036 = .ok (.invokevirtual 101, 3) := gd_17 db67f_7
theorem d_L_1039 : decode code 1039 = .ok (.pop, 1) := gd_18 db67f_7
theorem d_L_1040 : decode code 1040 = .ok (.aload_n 2, 1) := gd_19 db67f_7
theorem d_L_1041 : decode code 1041 = .ok (.aload_n 0, 1) := gd_20 db67f_7
theorem d_L_1042 : decode code 1042 = .ok (.iload 4, 2) := gd_21 db67f_7
theorem d_L_1044 : decode code 1044 = .ok (.iconst 1, 1) := gd_22 db67f_7
theorem d_L_1045 : decode code 1045 = .ok (.iadd, 1) := gd_23 db67f_7
theorem db67f_8 : Ad_ code [(1046, .iaload, 1), (1047, .invokevirtual 104, 3), (1050, .pop, 1), (1051, .goto 1355, 3), (1054, .aload_n 1, 1), (1055, .aload_n 0, 1), (1056, .iload 4, 2), (1058, .iconst 1, 1), (1059, .iadd, 1), (1060, .iaload, 1), (1061, .aload_n 0, 1), (1062, .iload 4, 2), (1064, .iconst 2, 1), (1065, .iadd, 1), (1066, .iaload, 1), (1067, .invokevirtual 105, 3), (1070, .pop, 1), (1071, .aload_n 2, 1), (1072, .aload_n 0, 1), (1073, .iload 4, 2), (1075, .iconst 1, 1), (1076, .iadd, 1), (1077, .iaload, 1), (1078, .aload_n 0, 1)] := bch_ok code _ 1046 (by decide +kernel)
theorem d_L_1046 : decode code 1046 = .ok (.iaload, 1) := gd_0 db67f_8
theorem d_L_1047 : decode code 1047 = .ok (.invokevirtual 104, 3) := gd_1 db67f_8
theorem d_L_1050 : decode code 1050 = .ok (.pop, 1) := gd_2 db67f_8
theorem d_L_1051 : decode code 1051 = .ok (.goto 1355, 3) := gd_3 db67f_8
theorem d_L_1054 : decode code 1054 = .ok (.aload_n 1, 1) := gd_4 db67f_8
theorem d_L_1055 : decode code 1055 = .ok (.aload_n 0, 1) := gd_5 db67f_8
theorem d_L_1056 : decode code 1056 = .ok (.iload 4, 2) := gd_6 db67f_8
theorem d_L_1058 : decode code 1058 = .ok (.iconst 1, 1) := gd_7 db67f_8
theorem d_L_1059 : decode code 1059 = .ok (.iadd, 1) := gd_8 db67f_8
theorem d_L_1060 : decode code 1060 = .ok (.iaload, 1) := gd_9 db67f_8
theorem d_L_1061 : decode code 1061 = .ok (.aload_n 0, 1) := gd_10 db67f_8
theorem d_L_1062 : decode code 1062 = .ok (.iload 4, 2) := gd_11 db67f_8
theorem d_L_1064 : decode code 1064 = .ok (.iconst 2, 1) := gd_12 db67f_8
theorem d_L_1065 : decode code 1065 = .ok (.iadd, 1) := gd_13 db67f_8
theorem d_L_1066 : decode code 1066 = .ok (.iaload, 1) := gd_14 db67f_8
theorem d_L_1067 : decode code 1067 = .ok (.invokevirtual 105, 3) := gd_15 db67f_8
theorem d_L_1070 : decode code 1070 = .ok (.pop, 1) := gd_16 db67f_8
theorem d_L_1071 : decode code 1071 = .ok (.aload_n 2, 1) := gd_17 db67f_8
theorem d_L_1072 : decode code 1072 = .ok (.aload_n 0, 1) := gd_18 db67f_8
theorem d_L_1073 : decode code 1073 = .ok (.iload 4, 2) := gd_19 db67f_8
theorem d_L_1075 : decode code 1075 = .ok (.iconst 1, 1) := gd_20 db67f_8
theorem d_L_1076 : decode code 1076 = .ok (.iadd, 1) := gd_21 db67f_8
theorem d_L_1077 : decode code 1077 = .ok (.iaload, 1) := gd_22 db67f_8
theorem d_L_1078 : decode code 1078 = .ok (.aload_n 0, 1) := gd_23 db67f_8
theorem db67f_9 : Ad_ code [(1079, .iload 4, 2), (1081, .iconst 2, 1), (1082, .iadd, 1), (1083, .iaload, 1), (1084, .invokevirtual 108, 3), (1087, .pop, 1), (1088, .goto 1318, 3), (1091, .aload_n 1, 1), (1092, .aload_n 0, 1), (1093, .iload 4, 2), (1095, .iconst 1, 1), (1096, .iadd, 1), (1097, .iaload, 1), (1098, .aload_n 0, 1), (1099, .iload 4, 2), (1101, .iconst 2, 1), (1102, .iadd, 1), (1103, .iaload, 1), (1104, .invokevirtual 109, 3), (1107, .pop, 1), (1108, .aload_n 2, 1), (1109, .aload_n 0, 1), (1110, .iload 4, 2), (1112, .iconst 1, 1)] := bch_ok code _ 1079 (by decide +kernel)
theorem d_L_1079 : decode code 1079 = .ok (.iload 4, 2) := gd_0 db67f_9
theorem d_L_1081 : decode code 1081 = .ok (.iconst 2, 1) := gd_1 db67f_9
theorem d_L_1082 : decode code 1082 = .ok (.iadd, 1) := gd_2 db67f_9
theorem d_L_1083 : decode code 1083 = .ok (.iaload, 1) := gd_3 db67f_9
theorem d_L_1084 : decode code 1084 = .ok (.invokevirtual 108, 3) := gd_4 db67f_9
theorem d_L_1087 : decode code 1087 = .ok (.pop, 1) := gd_5 db67f_9
theorem d_L_1088 : decode code 1088 = .ok (.goto 1318, 3) := gd_6 db67f_9
theorem d_L_1091 : decode code 1091 = .ok (.aload_n 1, 1) := gd_7 db67f_9
theorem d_L_1092 : decode code 1092 = .ok (.aload_n 0, 1) := gd_8 db67f_9
theorem d_L_1093 : decode code 1093 = .ok (.iload 4, 2) := gd_9 db67f_9
theorem d_L_1095 : decode code 1095 = .ok (.iconst 1, 1) := gd_10 db67f_9
theorem d_L_1096 : decode code 1096 = .ok (.iadd, 1) := gd_11 db67f_9
theorem d_L_1097 : decode code 1097 = .ok (.iaload, 1) := gd_12 db67f_9
theorem d_L_1098 : decode code 1098 = .ok (.aload_n 0, 1) := gd_13 db67f_9
theorem d_L_1099 : decode code 1099 = .ok (.iload 4, 2) := gd_14 db67f_9
theorem d_L_1101 : decode code 1101 = .ok (.iconst 2, 1) := gd_15 db67f_9
theorem d_L_1102 : decode code 1102 = .ok (.iadd, 1) := gd_16 db67f_9
theorem d_L_1103 : decode code 1103 = .ok (.iaload, 1) := gd_17 db67f_9
theorem d_L_1104 : decode code 1104 = .ok (.invokevirtual 109, 3) := gd_18 db67f_9
theorem d_L_1107 : decode code 1107 = .ok (.pop, 1) := gd_19 db67f_9
theorem d_L_1108 : decode code 1108 = .ok (.aload_n 2, 1) := gd_20 db67f_9
theorem d_L_1109 : decode code 1109 = .ok (.aload_n 0, 1) := gd_21 db67f_9
theorem d_L_1110 : decode code 1110 = .ok (.iload 4, 2) := gd_22 db67f_9
theorem d_L_1112 : decode code 1112 = .ok (.iconst 1, 1) := gd_23 db67f_9
theorem db67f_10 : Ad_ code [(1113, .iadd, 1), (1114, .iaload, 1), (1115, .aload_n 0, 1), (1116, .iload 4, 2), (1118, .iconst 2, 1), (1119, .iadd, 1), (1120, .iaload, 1), (1121, .invokevirtual 112, 3), (1124, .pop, 1), (1125, .goto 1281, 3), (1128, .aload_n 1, 1), (1129, .aload_n 0, 1), (1130, .iload 4, 2), (1132, .iconst 1, 1), (1133, .iadd, 1), (1134, .iaload, 1), (1135, .aload_n 0, 1), (1136, .iload 4, 2), (1138, .iconst 2, 1), (1139, .iadd, 1), (1140, .iaload, 1), (1141, .invokevirtual 113, 3), (1144, .aload_n 2, 1), (1145, .aload_n 0, 1)] := bch_ok code _ 1113 (by decide +kernel)
theorem d_L_1113 : decode code 1113 = .ok (.iadd, 1) := gd_0 db67f_10
theorem d_L_1114 : decode code 1114 = .ok (.iaload, 1) := gd_1 db67f_10
theorem d_L_1115 : decode code 1115 = .ok (.aload_n 0, 1) := gd_2 db67f_10
theorem d_L_1116 : decode code 1116 = .ok (.iload 4, 2) := gd_3 db67f_10
theorem d_L_1118 : decode code 1118 = .ok (.iconst 2, 1) := gd_4 db67f_10
theorem d_L_1119 : decode code 1119 = .ok (.iadd, 1) := gd_5 db67f_10
theorem d_L_1120 : decode code 1120 = .ok (.iaload, 1) := gd_6 db67f_10
theorem d_L_1121 : decode code 1121 = .ok (.invokevirtual 112, 3) := gd_7 db67f_10
theorem d_L_1124 : decode code 1124 = .ok (.pop, 1) := gd_8 db67f_10
theorem d_L_1125 : decode code 1125 = .ok (.goto 1281, 3) := gd_9 db67f_10
theorem d_L_1128 : decode code 1128 = .ok (.aload_n 1, 1) := gd_10 db67f_10
theorem d_L_1129 : decode code 1129 = .ok (.aload_n 0, 1) := gd_11 db67f_10
theorem d_L_1130 : decode code 1130 = .ok (.iload 4, 2) := gd_12 db67f_10
theorem d_L_1132 : decode code 1132 = .ok (.iconst 1, 1) := gd_13 db67f_10
theorem d_L_1133 : decode code 1133 = .ok (.iadd, 1) := gd_14 db67f_10
theorem d_L_1134 : decode code 1134 = .ok (.iaload, 1) := gd_15 db67f_10
theorem d_L_1135 : decode code 1135 = .ok (.aload_n 0, 1) := gd_16 db67f_10
theorem d_L_1136 : decode code 1136 = .ok (.iload 4, 2) := gd_17 db67f_10
theorem d_L_1138 : decode code 1138 = .ok (.iconst 2, 1) := gd_18 db67f_10
theorem d_L_1139 : decode code 1139 = .ok (.iadd, 1) := gd_19 db67f_10
theorem d_L_1140 : decode code 1140 = .ok (.iaload, 1) := gd_20 db67f_10
theorem d_L_1141 : decode code 1141 = .ok (.invokevirtual 113, 3) := gd_21 db67f_10
theorem d_L_1144 : decode code 1144 = .ok (.aload_n 2, 1) := gd_22 db67f_10
theorem d_L_1145 : decode code 1145 = .ok (.aload_n 0, 1) := gd_23 db67f_10
theorem db67f_11 : Ad_ code [(1146, .iload 4, 2), (1148, .iconst 1, 1), (1149, .iadd, 1), (1150, .iaload, 1), (1151, .aload_n 0, 1), (1152, .iload 4, 2), (1154, .iconst 2, 1), (1155, .iadd, 1), (1156, .iaload, 1), (1157, .invokevirtual 116, 3), (1160, .if_icmp .eq 1246, 3), (1163, .iconst 0, 1), (1164, .ireturn, 1), (1165, .aload_n 1, 1), (1166, .aload_n 0, 1), (1167, .iload 4, 2), (1169, .iconst 1, 1), (1170, .iadd, 1), (1171, .iaload, 1), (1172, .invokevirtual 117, 3), (1175, .pop, 1), (1176, .aload_n 2, 1), (1177, .aload_n 0, 1), (1178, .iload 4, 2)] := bch_ok code _ 1146 (by decide +kernel)
theorem d_L_1146 : decode code 1146 = .ok (.iload 4, 2) := gd_0 db67f_11
theorem d_L_1148 : decode code 1148 = .ok (.iconst 1, 1) := gd_1 db67f_11
theorem d_L_1149 : decode code 1149 = .ok (.iadd, 1) := gd_2 db67f_11
theorem d_L_1150 : decode code 1150 = .ok (.iaload, 1) := gd_3 db67f_11
theorem d_L_1151 : decode code 1151 = .ok (.aload_n 0, 1) := gd_4 db67f_11
theorem d_L_1152 : decode code 1152 = .ok (.iload 4, 2) := gd_5 db67f_11
theorem d_L_1154 : decode code 1154 = .ok (.iconst 2, 1) := gd_6 db67f_11
theorem d_L_1155 : decode code 1155 = .ok (.iadd, 1) := gd_7 db67f_11
theorem d_L_1156 : decode code 1156 = .ok (.iaload, 1) := gd_8 db67f_11
theorem d_L_1157 : decode code 1157 = .ok (.invokevirtual 116, 3) := gd_9 db67f_11
theorem d_L_1160 : decode code 1160 = .ok (.if_icmp .eq 1246, 3) := gd_10 db67f_11
theorem d_L_1163 : decode code 1163 = .ok (.iconst 0, 1) := gd_11 db67f_11
theorem d_L_1164 : decode code 1164 = .ok (.ireturn, 1) := gd_12 db67f_11
theorem d_L_1165 : decode code 1165 = .ok (.aload_n 1, 1) := gd_13 db67f_11
theorem d_L_1166 : decode code 1166 = .ok (.aload_n 0, 1) := gd_14 db67f_11
theorem d_L_1167 : decode code 1167 = .ok (.iload 4, 2) := gd_15 db67f_11
theorem d_L_1169 : decode code 1169 = .ok (.iconst 1, 1) := gd_16 db67f_11
theorem d_L_1170 : decode code 1170 = .ok (.iadd, 1) := gd_17 db67f_11
theorem d_L_1171 : decode code 1171 = .ok (.iaload, 1) := gd_18 db67f_11
theorem d_L_1172 : decode code 1172 = .ok (.invokevirtual 117, 3) := gd_19 db67f_11
theorem d_L_1175 : decode code 1175 = .ok (.pop, 1) := gd_20 db67f_11
theorem d_L_1176 : decode code 1176 = .ok (.aload_n 2, 1) := gd_21 db67f_11
theorem d_L_1177 : decode code 1177 = .ok (.aload_n 0, 1) := gd_22 db67f_11
theorem d_L_1178 : decode code 1178 = .ok (.iload 4, 2) := gd_23 db67f_11
theorem db67f_12 : Ad_ code [(1180, .iconst 1, 1), (1181, .iadd, 1), (1182, .iaload, 1), (1183, .invokevirtual 120, 3), (1186, .pop, 1), (1187, .goto 1219, 3), (1190, .aload_n 1, 1), (1191, .aload_n 0, 1), (1192, .iload 4, 2), (1194, .iconst 1, 1), (1195, .iadd, 1), (1196, .iaload, 1), (1197, .invokevirtual 121, 3), (1200, .pop, 1), (1201, .aload_n 2, 1), (1202, .aload_n 0, 1), (1203, .iload 4, 2), (1205, .iconst 1, 1), (1206, .iadd, 1), (1207, .iaload, 1), (1208, .invokevirtual 124, 3), (1211, .pop, 1), (1212, .goto 1194, 3), (1215, .aload_n 1, 1)] := bch_ok code _ 1180 (by decide +kernel)
theorem d_L_1180 : decode code 1180 = .ok (.iconst 1, 1) := gd_0 db67f_12
theorem d_L_1181 : decode code 1181 = .ok (.iadd, 1) := gd_1 db67f_12
theorem d_L_1182 : decode code 1182 = .ok (.iaload, 1) := gd_2 db67f_12
theorem d_L_1183 : decode code 1183 = .ok (.invokevirtual 120, 3) := gd_3 db67f_12
theorem d_L_1186 : decode code 1186 = .ok (.pop, 1) := gd_4 db67f_12
theorem d_L_1187 : decode code 1187 = .ok (.goto 1219, 3) := gd_5 db67f_12
theorem d_L_1190 : decode code 1190 = .ok (.aload_n 1, 1) := gd_6 db67f_12
theorem d_L_1191 : decode code 1191 = .ok (.aload_n 0, 1) := gd_7 db67f_12
theorem d_L_1192 : decode code 1192 = .ok (.iload 4, 2) := gd_8 db67f_12
theorem d_L_1194 : decode code 1194 = .ok (.iconst 1, 1) := gd_9 db67f_12
theorem d_L_1195 : decode code 1195 = .ok (.iadd, 1) := gd_10 db67f_12
theorem d_L_1196 : decode code 1196 = .ok (.iaload, 1) := gd_11 db67f_12
theorem d_L_1197 : decode code 1197 = .ok (.invokevirtual 121, 3) := gd_12 db67f_12
theorem d_L_1200 : decode code 1200 = .ok (.pop, 1) := gd_13 db67f_12
theorem d_L_1201 : decode code 1201 = .ok (.aload_n 2, 1) := gd_14 db67f_12
theorem d_L_1202 : decode code 1202 = .ok (.aload_n 0, 1) := gd_15 db67f_12
theorem d_L_1203 : decode code 1203 = .ok (.iload 4, 2) := gd_16 db67f_12
theorem d_L_1205 : decode code 1205 = .ok (.iconst 1, 1) := gd_17 db67f_12
theorem d_L_1206 : decode code 1206 = .ok (.iadd, 1) := gd_18 db67f_12
theorem d_L_1207 : decode code 1207 = .ok (.iaload, 1) := gd_19 db67f_12
theorem d_L_1208 : decode code 1208 = .ok (.invokevirtual 124, 3) := gd_20 db67f_12
theorem d_L_1211 : decode code 1211 = .ok (.pop, 1) := gd_21 db67f_12
theorem d_L_1212 : decode code 1212 = .ok (.goto 1194, 3) := gd_22 db67f_12
theorem d_L_1215 : decode code 1215 = .ok (.aload_n 1, 1) := gd_23 db67f_12
theorem db67f_13 : Ad_ code [(1216, .aload_n 0, 1), (1217, .iload 4, 2), (1219, .iconst 1, 1), (1220, .iadd, 1), (1221, .iaload, 1), (1222, .aload_n 0, 1), (1223, .iload 4, 2), (1225, .iconst 2, 1), (1226, .iadd, 1), (1227, .iaload, 1), (1228, .invokevirtual 125, 3), (1231, .pop, 1), (1232, .aload_n 2, 1), (1233, .aload_n 0, 1), (1234, .iload 4, 2), (1236, .iconst 1, 1), (1237, .iadd, 1), (1238, .iaload, 1), (1239, .aload_n 0, 1), (1240, .iload 4, 2), (1242, .iconst 2, 1), (1243, .iadd, 1), (1244, .iaload, 1), (1245, .invokevirtual 128, 3)] := bch_ok code _ 1216 (by decide +kernel)
theorem d_L_1216 : decode code 1216 = .ok (.aload_n 0, 1) := gd_0 db67f_13
theorem d_L_1217 : decode code 1217 = .ok (.iload 4, 2) := gd_1 db67f_13
theorem d_L_1219 : decode code 1219 = .ok (.iconst 1, 1) := gd_2 db67f_13
theorem d_L_1220 : decode code 1220 = .ok (.iadd, 1) := gd_3 db67f_13
theorem d_L_1221 : decode code 1221 = .ok (.iaload, 1) := gd_4 db67f_13
theorem d_L_1222 : decode code 1222 = .ok (.aload_n 0, 1) := gd_5 db67f_13
theorem d_L_1223 : decode code 1223 = .ok (.iload 4, 2) := gd_6 db67f_13
theorem d_L_1225 : decode code 1225 = .ok (.iconst 2, 1) := gd_7 db67f_13
theorem d_L_1226 : decode code 1226 = .ok (.iadd, 1) := gd_8 db67f_13
theorem d_L_1227 : decode code 1227 = .ok (.iaload, 1) := gd_9 db67f_13
theorem d_L_1228 : decode code 1228 = .ok (.invokevirtual 125, 3) := gd_10 db67f_13
theorem d_L_1231 : decode code 1231 = .ok (.pop, 1) := gd_11 db67f_13
theorem d_L_1232 : decode code 1232 = .ok (.aload_n 2, 1) := gd_12 db67f_13
theorem d_L_1233 : decode code 1233 = .ok (.aload_n 0, 1) := gd_13 db67f_13
theorem d_L_1234 : decode code 1234 = .ok (.iload 4, 2) := gd_14 db67f_13
theorem d_L_1236 : decode code 1236 = .ok (.iconst 1, 1) := gd_15 db67f_13
theorem d_L_1237 : decode code 1237 = .ok (.iadd, 1) := gd_16 db67f_13
theorem d_L_1238 : decode code 1238 = .ok (.iaload, 1) := gd_17 db67f_13
theorem d_L_1239 : decode code 1239 = .ok (.aload_n 0, 1) := gd_18 db67f_13
theorem d_L_1240 : decode code 1240 = .ok (.iload 4, 2) := gd_19 db67f_13
theorem d_L_1242 : decode code 1242 = .ok (.iconst 2, 1) := gd_20 db67f_13
theorem d_L_1243 : decode code 1243 = .ok (.iadd, 1) := gd_21 db67f_13
theorem d_L_1244 : decode code 1244 = .ok (.iaload, 1) := gd_22 db67f_13
theorem d_L_1245 : decode code 1245 = .ok (.invokevirtual 128, 3) := gd_23 db67f_13
theorem db67f_14 : Ad_ code [(1248, .pop, 1), (1249, .goto 1157, 3), (1252, .aload_n 1, 1), (1253, .aload_n 0, 1), (1254, .iload 4, 2), (1256, .iconst 1, 1), (1257, .iadd, 1), (1258, .iaload, 1), (1259, .aload_n 0, 1), (1260, .iload 4, 2), (1262, .iconst 2, 1), (1263, .iadd, 1), (1264, .iaload, 1), (1265, .invokevirtual 129, 3), (1268, .pop, 1), (1269, .aload_n 2, 1), (1270, .aload_n 0, 1), (1271, .iload 4, 2), (1273, .iconst 1, 1), (1274, .iadd, 1), (1275, .iaload, 1), (1276, .aload_n 0, 1), (1277, .iload 4, 2), (1279, .iconst 2, 1)] := bch_ok code _ 1248 (by decide +kernel)
theorem d_L_1248 : decode code 1248 = .ok (.pop, 1) := gd_0 db67f_14
theorem d_L_1249 : decode code 1249 = .ok (.goto 1157, 3) := gd_1 db67f_14
theorem d_L_1252 : decode code 1252 = .ok (.aload_n 1, 1) := gd_2 db67f_14
theorem d_L_1253 : decode code 1253 = .ok (.aload_n 0, 1) := gd_3 db67f_14
theorem d_L_1254 : decode code 1254 = .ok (.iload 4, 2) := gd_4 db67f_14
theorem d_L_1256 : decode code 1256 = .ok (.iconst 1, 1) := gd_5 db67f_14
theorem d_L_1257 : decode code 1257 = .ok (.iadd, 1) := gd_6 db67f_14
theorem d_L_1258 : decode code 1258 = .ok (.iaload, 1) := gd_7 db67f_14
theorem d_L_1259 : decode code 1259 = .ok (.aload_n 0, 1) := gd_8 db67f_14
theorem d_L_1260 : decode code 1260 = .ok (.iload 4, 2) := gd_9 db67f_14
theorem d_L_1262 : decode code 1262 = .ok (.iconst 2, 1) := gd_10 db67f_14
theorem d_L_1263 : decode code 1263 = .ok (.iadd, 1) := gd_11 db67f_14
theorem d_L_1264 : decode code 1264 = .ok (.iaload, 1) := gd_12 db67f_14
theorem d_L_1265 : decode code 1265 = .ok (.invokevirtual 129, 3) := gd_13 db67f_14
theorem d_L_1268 : decode code 1268 = .ok (.pop, 1) := gd_14 db67f_14
theorem d_L_1269 : decode code 1269 = .ok (.aload_n 2, 1) := gd_15 db67f_14
theorem d_L_1270 : decode code 1270 = .ok (.aload_n 0, 1) := gd_16 db67f_14
theorem d_L_1271 : decode code 1271 = .ok (.iload 4, 2) := gd_17 db67f_14
theorem d_L_1273 : decode code 1273 = .ok (.iconst 1, 1) := gd_18 db67f_14
theorem d_L_1274 : decode code 1274 = .ok (.iadd, 1) := gd_19 db67f_14
theorem d_L_1275 : decode code 1275 = .ok (.iaload, 1) := gd_20 db67f_14
theorem d_L_1276 : decode code 1276 = .ok (.aload_n 0, 1) := gd_21 db67f_14
theorem d_L_1277 : decode code 1277 = .ok (.iload 4, 2) := gd_22 db67f_14
theorem d_L_1279 : decode code 1279 = .ok (.iconst 2, 1) := gd_23 db67f_14
theorem db67f_15 : Ad_ code [(1280, .iadd, 1), (1281, .iaload, 1), (1282, .invokevirtual 132, 3), (1285, .pop, 1), (1286, .goto 1120, 3), (1289, .aload_n 1, 1), (1290, .aload_n 0, 1), (1291, .iload 4, 2), (1293, .iconst 1, 1), (1294, .iadd, 1), (1295, .iaload, 1), (1296, .aload_n 0, 1), (1297, .iload 4, 2), (1299, .iconst 2, 1), (1300, .iadd, 1), (1301, .iaload, 1), (1302, .aload_n 0, 1), (1303, .iload 4, 2), (1305, .iconst 3, 1), (1306, .iadd, 1), (1307, .iaload, 1), (1308, .aload_n 0, 1), (1309, .iload 4, 2), (1311, .iconst 4, 1)] := bch_ok code _ 1280 (by decide +kernel)
theorem d_L_1280 : decode code 1280 = .ok (.iadd, 1) := gd_0 db67f_15
theorem d_L_1281 : decode code 1281 = .ok (.iaload, 1) := gd_1 db67f_15
theorem d_L_1282 : decode code 1282 = .ok (.invokevirtual 132, 3) := gd_2 db67f_15
theorem d_L_1285 : decode code 1285 = .ok (.pop, 1) := gd_3 db67f_15
theorem d_L_1286 : decode code 1286 = .ok (.goto 1120, 3) := gd_4 db67f_15
theorem d_L_1289 : decode code 1289 = .ok (.aload_n 1, 1) := gd_5 db67f_15
theorem d_L_1290 : decode code 1290 = .ok (.aload_n 0, 1) := gd_6 db67f_15
theorem d_L_1291 : decode code 1291 = .ok (.iload 4, 2) := gd_7 db67f_15
theorem d_L_1293 : decode code 1293 = .ok (.iconst 1, 1) := gd_8 db67f_15
theorem d_L_1294 : decode code 1294 = .ok (.iadd, 1) := gd_9 db67f_15
theorem d_L_1295 : decode code 1295 = .ok (.iaload, 1) := gd_10 db67f_15
theorem d_L_1296 : decode code 1296 = .ok (.aload_n 0, 1) := gd_11 db67f_15
theorem d_L_1297 : decode code 1297 = .ok (.iload 4, 2) := gd_12 db67f_15
theorem d_L_1299 : decode code 1299 = .ok (.iconst 2, 1) := gd_13 db67f_15
theorem d_L_1300 : decode code 1300 = .ok (.iadd, 1) := gd_14 db67f_15
theorem d_L_1301 : decode code 1301 = .ok (.iaload, 1) := gd_15 db67f_15
theorem d_L_1302 : decode code 1302 = .ok (.aload_n 0, 1) := gd_16 db67f_15
theorem d_L_1303 : decode code 1303 = .ok (.iload 4, 2) := gd_17 db67f_15
theorem d_L_1305 : decode code 1305 = .ok (.iconst 3, 1) := gd_18 db67f_15
theorem d_L_1306 : decode code 1306 = .ok (.iadd, 1) := gd_19 db67f_15
theorem d_L_1307 : decode code 1307 = .ok (.iaload, 1) := gd_20 db67f_15
theorem d_L_1308 : decode code 1308 = .ok (.aload_n 0, 1) := gd_21 db67f_15
theorem d_L_1309 : decode code 1309 = .ok (.iload 4, 2) := gd_22 db67f_15
theorem d_L_1311 : decode code 1311 = .ok (.iconst 4, 1) := gd_23 db67f_15
theorem db67f_16 : Ad_ code [(1312, .iadd, 1), (1313, .iaload, 1), (1314, .ifCond .eq 7, 3), (1317, .iconst 1, 1), (1318, .goto 4, 3), (1321, .iconst 0, 1), (1322, .invokevirtual 133, 3)] := bch_ok code _ 1312 (by decide +kernel)
theorem d_L_1312 : decode code 1312 = .ok (.iadd, 1) := gd_0 db67f_16
theorem d_L_1313 : decode code 1313 = .ok (.iaload, 1) := gd_1 db67f_16
theorem d_L_1314 : decode code 1314 = .ok (.ifCond .eq 7, 3) := gd_2 db67f_16
theorem d_L_1317 : decode code 1317 = .ok (.iconst 1, 1) := gd_3 db67f_16
theorem d_L_1318 : decode code 1318 = .ok (.goto 4, 3) := gd_4 db67f_16
theorem d_L_1321 : decode code 1321 = .ok (.iconst 0, 1) := gd_5 db67f_16
theorem d_L_1322 : decode code 1322 = .ok (.invokevirtual 133, 3) := gd_6 db67f_16
end
section
theorem db67g_0 : Ad_ code [(1325, .pop, 1), (1326, .aload_n 2, 1), (1327, .aload_n 0, 1), (1328, .iload 4, 2), (1330, .iconst 1, 1), (1331, .iadd, 1), (1332, .iaload, 1), (1333, .aload_n 0, 1), (1334, .iload 4, 2), (1336, .iconst 2, 1), (1337, .iadd, 1), (1338, .iaload, 1), (1339, .aload_n 0, 1), (1340, .iload 4, 2), (1342, .iconst 3, 1), (1343, .iadd, 1), (1344, .iaload, 1), (1345, .aload_n 0, 1), (1346, .iload 4, 2), (1348, .iconst 4, 1), (1349, .iadd, 1), (1350, .iaload, 1), (1351, .ifCond .eq 7, 3), (1354, .iconst 1, 1)] := bch_ok code _ 1325 (by decide +kernel)
theorem d_L_1325 : decode code 1325 = .ok (.pop, 1) := gd_0 db67g_0
theorem d_L_1326 : decode code 1326 = .ok (.aload_n 2, 1) := gd_1 db67g_0
theorem d_L_1327 : decode code 1327 = .ok (.aload_n 0, 1) := gd_2 db67g_0
theorem d_L_1328 : decode code 1328 = .ok (.iload 4, 2) := gd_3 db67g_0
theorem d_L_1330 : decode code 1330 = .ok (.iconst 1, 1) := gd_4 db67g_0
theorem d_L_1331 : decode code 1331 = .ok (.iadd, 1) := gd_5 db67g_0
theorem d_L_1332 : decode code 1332 = .ok (.iaload, 1) := gd_6 db67g_0
theorem d_L_1333 : decode code 1333 = .ok (.aload_n 0, 1) := gd_7 db67g_0
theorem d_L_1334 : decode code 1334 = .ok (.iload 4, 2) := gd_8 db67g_0
theorem d_L_1336 : decode code 1336 = .ok (.iconst 2, 1) := gd_9 db67g_0
theorem d_L_1337 : decode code 1337 = .ok (.iadd, 1) := gd_10 db67g_0
theorem d_L_1338 : decode code 1338 = .ok (.iaload, 1) := gd_11 db67g_0
theorem d_L_1339 : decode code 1339 = .ok (.aload_n 0, 1) := gd_12 db67g_0
theorem d_L_1340 : decode code 1340 = .ok (.iload 4, 2) := gd_13 db67g_0
theorem d_L_1342 : decode code 1342 = .ok (.iconst 3, 1) := gd_14 db67g_0
theorem d_L_1343 : decode code 1343 = .ok (.iadd, 1) := gd_15 db67g_0
theorem d_L_1344 : decode code 1344 = .ok (.iaload, 1) := gd_16 db67g_0
theorem d_L_1345 : decode code 1345 = .ok (.aload_n 0, 1) := gd_17 db67g_0
theorem d_L_1346 : decode code 1346 = .ok (.iload 4, 2) := gd_18 db67g_0
theorem d_L_1348 : decode code 1348 = .ok (.iconst 4, 1) := gd_19 db67g_0
theorem d_L_1349 : decode code 1349 = .ok (.iadd, 1) := gd_20 db67g_0
theorem d_L_1350 : decode code 1350 = .ok (.iaload, 1) := gd_21 db67g_0
theorem d_L_1351 : decode code 1351 = .ok (.ifCond .eq 7, 3) := gd_22 db67g_0
theorem d_L_1354 : decode code 1354 = .ok (.iconst 1, 1) := gd_23 db67g_0
theorem db67g_1 : Ad_ code [(1355, .goto 4, 3), (1358, .iconst 0, 1), (1359, .invokevirtual 137, 3), (1362, .pop, 1), (1363, .goto 1043, 3), (1366, .aload_n 1, 1), (1367, .aload_n 0, 1), (1368, .iload 4, 2), (1370, .iconst 1, 1), (1371, .iadd, 1), (1372, .iaload, 1), (1373, .invokevirtual 138, 3), (1376, .pop, 1), (1377, .aload_n 2, 1), (1378, .aload_n 0, 1), (1379, .iload 4, 2), (1381, .iconst 1, 1), (1382, .iadd, 1), (1383, .iaload, 1), (1384, .invokevirtual 141, 3), (1387, .pop, 1), (1388, .goto 1018, 3), (1391, .aload_n 1, 1), (1392, .aload_n 0, 1)] := bch_ok code _ 1355 (by decide +kernel)
theorem d_L_1355 : decode code 1355 = .ok (.goto 4, 3) := gd_0 db67g_1
theorem d_L_1358 : decode code 1358 = .ok (.iconst 0, 1) := gd_1 db67g_1
theorem d_L_1359 : decode code 1359 = .ok (.invokevirtual 137, 3) := gd_2 db67g_1
theorem d_L_1362 : decode code 1362 = .ok (.pop, 1) := gd_3 db67g_1
theorem d_L_1363 : decode code 1363 = .ok (.goto 1043, 3) := gd_4 db67g_1
theorem d_L_1366 : decode code 1366 = .ok (.aload_n 1, 1) := gd_5 db67g_1
theorem d_L_1367 : decode code 1367 = .ok (.aload_n 0, 1) := gd_6 db67g_1
theorem d_L_1368 : decode code 1368 = .ok (.iload 4, 2) := gd_7 db67g_1
theorem d_L_1370 : decode code 1370 = .ok (.iconst 1, 1) := gd_8 db67g_1
theorem d_L_1371 : decode code 1371 = .ok (.iadd, 1) := gd_9 db67g_1
theorem d_L_1372 : decode code 1372 = .ok (.iaload, 1) := gd_10 db67g_1
theorem d_L_1373 : decode code 1373 = .ok (.invokevirtual 138, 3) := gd_11 db67g_1
theorem d_L_1376 : decode code 1376 = .ok (.pop, 1) := gd_12 db67g_1
theorem d_L_1377 : decode code 1377 = .ok (.aload_n 2, 1) := gd_13 db67g_1
theorem d_L_1378 : decode code 1378 = .ok (.aload_n 0, 1) := gd_14 db67g_1
theorem d_L_1379 : decode code 1379 = .ok (.iload 4, 2) := gd_15 db67g_1
theorem d_L_1381 : decode code 1381 = .ok (.iconst 1, 1) := gd_16 db67g_1
theorem d_L_1382 : decode code 1382 = .ok (.iadd, 1) := gd_17 db67g_1
theorem d_L_1383 : decode code 1383 = .ok (.iaload, 1) := gd_18 db67g_1
theorem d_L_1384 : decode code 1384 = .ok (.invokevirtual 141, 3) := gd_19 db67g_1
theorem d_L_1387 : decode code 1387 = .ok (.pop, 1) := gd_20 db67g_1
theorem d_L_1388 : decode code 1388 = .ok (.goto 1018, 3) := gd_21 db67g_1
theorem d_L_1391 : decode code 1391 = .ok (.aload_n 1, 1) := gd_22 db67g_1
theorem d_L_1392 : decode code 1392 = .ok (.aload_n 0, 1) := gd_23 db67g_1
theorem db67g_2 : Ad_ code [(1393, .iload 4, 2), (1395, .iconst 1, 1), (1396, .iadd, 1), (1397, .iaload, 1), (1398, .aload_n 0, 1), (1399, .iload 4, 2), (1401, .iconst 2, 1), (1402, .iadd, 1), (1403, .iaload, 1), (1404, .aload_n 0, 1), (1405, .iload 4, 2), (1407, .iconst 3, 1), (1408, .iadd, 1), (1409, .iaload, 1), (1410, .invokevirtual 142, 3), (1413, .pop, 1), (1414, .aload_n 2, 1), (1415, .aload_n 0, 1), (1416, .iload 4, 2), (1418, .iconst 1, 1), (1419, .iadd, 1), (1420, .iaload, 1), (1421, .aload_n 0, 1), (1422, .iload 4, 2)] := bch_ok code _ 1393 (by decide +kernel)
theorem d_L_1393 : decode code 1393 = .ok (.iload 4, 2) := gd_0 db67g_2
theorem d_L_1395 : decode code 1395 = .ok (.iconst 1, 1) := gd_1 db67g_2
theorem d_L_1396 : decode code 1396 = .ok (.iadd, 1) := gd_2 db67g_2
theorem d_L_1397 : decode code 1397 = .ok (.iaload, 1) := gd_3 db67g_2
theorem d_L_1398 : decode code 1398 = .ok (.aload_n 0, 1) := gd_4 db67g_2
theorem d_L_1399 : decode code 1399 = .ok (.iload 4, 2) := gd_5 db67g_2
theorem d_L_1401 : decode code 1401 = .ok (.iconst 2, 1) := gd_6 db67g_2
theorem d_L_1402 : decode code 1402 = .ok (.iadd, 1) := gd_7 db67g_2
theorem d_L_1403 : decode code 1403 = .ok (.iaload, 1) := gd_8 db67g_2
theorem d_L_1404 : decode code 1404 = .ok (.aload_n 0, 1) := gd_9 db67g_2
theorem d_L_1405 : decode code 1405 = .ok (.iload 4, 2) := gd_10 db67g_2
theorem d_L_1407 : decode code 1407 = .ok (.iconst 3, 1) := gd_11 db67g_2
theorem d_L_1408 : decode code 1408 = .ok (.iadd, 1) := gd_12 db67g_2
theorem d_L_1409 : decode code 1409 = .ok (.iaload, 1) := gd_13 db67g_2
theorem d_L_1410 : decode code 1410 = .ok (.invokevirtual 142, 3) := gd_14 db67g_2
theorem d_L_1413 : decode code 1413 = .ok (.pop, 1) := gd_15 db67g_2
theorem d_L_1414 : decode code 1414 = .ok (.aload_n 2, 1) := gd_16 db67g_2
theorem d_L_1415 : decode code 1415 = .ok (.aload_n 0, 1) := gd_17 db67g_2
theorem d_L_1416 : decode code 1416 = .ok (.iload 4, 2) := gd_18 db67g_2
theorem d_L_1418 : decode code 1418 = .ok (.iconst 1, 1) := gd_19 db67g_2
theorem d_L_1419 : decode code 1419 = .ok (.iadd, 1) := gd_20 db67g_2
theorem d_L_1420 : decode code 1420 = .ok (.iaload, 1) := gd_21 db67g_2
theorem d_L_1421 : decode code 1421 = .ok (.aload_n 0, 1) := gd_22 db67g_2
theorem d_L_1422 : decode code 1422 = .ok (.iload 4, 2) := gd_23 db67g_2
theorem db67g_3 : Ad_ code [(1424, .iconst 2, 1), (1425, .iadd, 1), (1426, .iaload, 1), (1427, .aload_n 0, 1), (1428, .iload 4, 2), (1430, .iconst 3, 1), (1431, .iadd, 1), (1432, .iaload, 1), (1433, .invokevirtual 145, 3), (1436, .pop, 1), (1437, .goto 969, 3), (1440, .aload_n 1, 1), (1441, .aload_n 0, 1), (1442, .iload 4, 2), (1444, .iconst 1, 1), (1445, .iadd, 1), (1446, .iaload, 1), (1447, .aload_n 0, 1), (1448, .iload 4, 2), (1450, .iconst 2, 1), (1451, .iadd, 1), (1452, .iaload, 1), (1453, .aload_n 0, 1), (1454, .iload 4, 2)] := bch_ok code _ 1424 (by decide +kernel)
theorem d_L_1424 : decode code 1424 = .ok (.iconst 2, 1) := gd_0 db67g_3
theorem d_L_1425 : decode code 1425 = .ok (.iadd, 1) := gd_1 db67g_3
theorem d_L_1426 : decode code 1426 = .ok (.iaload, 1) := gd_2 db67g_3
theorem d_L_1427 : decode code 1427 = .ok (.aload_n 0, 1) := gd_3 db67g_3
theorem d_L_1428 : decode code 1428 = .ok (.iload 4, 2) := gd_4 db67g_3
theorem d_L_1430 : decode code 1430 = .ok (.iconst 3, 1) := gd_5 db67g_3
theorem d_L_1431 : decode code 1431 = .ok (.iadd, 1) := gd_6 db67g_3
theorem d_L_1432 : decode code 1432 = .ok (.iaload, 1) := gd_7 db67g_3
theorem d_L_1433 : decode code 1433 = .ok (.invokevirtual 145, 3) := gd_8 db67g_3
theorem d_L_1436 : decode code 1436 = .ok (.pop, 1) := gd_9 db67g_3
theorem d_L_1437 : decode code 1437 = .ok (.goto 969, 3) := gd_10 db67g_3
theorem d_L_1440 : decode code 1440 = .ok (.aload_n 1, 1) := gd_11 db67g_3
theorem d_L_1441 : decode code 1441 = .ok (.aload_n 0, 1) := gd_12 db67g_3
theorem d_L_1442 : decode code 1442 = .ok (.iload 4, 2) := gd_13 db67g_3
theorem d_L_1444 : decode code 1444 = .ok (.iconst 1, 1) := gd_14 db67g_3
theorem d_L_1445 : decode code 1445 = .ok (.iadd, 1) := gd_15 db67g_3
theorem d_L_1446 : decode code 1446 = .ok (.iaload, 1) := gd_16 db67g_3
theorem d_L_1447 : decode code 1447 = .ok (.aload_n 0, 1) := gd_17 db67g_3
theorem d_L_1448 : decode code 1448 = .ok (.iload 4, 2) := gd_18 db67g_3
theorem d_L_1450 : decode code 1450 = .ok (.iconst 2, 1) := gd_19 db67g_3
theorem d_L_1451 : decode code 1451 = .ok (.iadd, 1) := gd_20 db67g_3
theorem d_L_1452 : decode code 1452 = .ok (.iaload, 1) := gd_21 db67g_3
theorem d_L_1453 : decode code 1453 = .ok (.aload_n 0, 1) := gd_22 db67g_3
theorem d_L_1454 : decode code 1454 = .ok (.iload 4, 2) := gd_23 db67g_3
theorem db67g_4 : Ad_ code [(1456, .iconst 3, 1), (1457, .iadd, 1), (1458, .iaload, 1), (1459, .invokevirtual 146, 3), (1462, .pop, 1), (1463, .aload_n 2, 1), (1464, .aload_n 0, 1), (1465, .iload 4, 2), (1467, .iconst 1, 1), (1468, .iadd, 1), (1469, .iaload, 1), (1470, .aload_n 0, 1), (1471, .iload 4, 2), (1473, .iconst 2, 1), (1474, .iadd, 1), (1475, .iaload, 1), (1476, .aload_n 0, 1), (1477, .iload 4, 2), (1479, .iconst 3, 1), (1480, .iadd, 1), (1481, .iaload, 1), (1482, .invokevirtual 149, 3), (1485, .pop, 1), (1486, .goto 920, 3)] := bch_ok code _ 1456 (by decide +kernel)
theorem d_L_1456 : decode code 1456 = .ok (.iconst 3, 1) := gd_0 db67g_4
theorem d_L_1457 : decode code 1457 = .ok (.iadd, 1) := gd_1 db67g_4
theorem d_L_1458 : decode code 1458 = .ok (.iaload, 1) := gd_2 db67g_4
theorem d_L_1459 : decode code 1459 = .ok (.invokevirtual 146, 3) := gd_3 db67g_4
theorem d_L_1462 : decode code 1462 = .ok (.pop, 1) := gd_4 db67g_4
theorem d_L_1463 : decode code 1463 = .ok (.aload_n 2, 1) := gd_5 db67g_4
theorem d_L_1464 : decode code 1464 = .ok (.aload_n 0, 1) := gd_6 db67g_4
theorem d_L_1465 : decode code 1465 = .ok (.iload 4, 2) := gd_7 db67g_4
theorem d_L_1467 : decode code 1467 = .ok (.iconst 1, 1) := gd_8 db67g_4
theorem d_L_1468 : decode code 1468 = .ok (.iadd, 1) := gd_9 db67g_4
theorem d_L_1469 : decode code 1469 = .ok (.iaload, 1) := gd_10 db67g_4
theorem d_L_1470 : decode code 1470 = .ok (.aload_n 0, 1) := gd_11 db67g_4
theorem d_L_1471 : decode code 1471 = .ok (.iload 4, 2) := gd_12 db67g_4
theorem d_L_1473 : decode code 1473 = .ok (.iconst 2, 1) := gd_13 db67g_4
theorem d_L_1474 : decode code 1474 = .ok (.iadd, 1) := gd_14 db67g_4
theorem d_L_1475 : decode code 1475 = .ok (.iaload, 1) := gd_15 db67g_4
theorem d_L_1476 : decode code 1476 = .ok (.aload_n 0, 1) := gd_16 db67g_4
theorem d_L_1477 : decode code 1477 = .ok (.iload 4, 2) := gd_17 db67g_4
theorem d_L_1479 : decode code 1479 = .ok (.iconst 3, 1) := gd_18 db67g_4
theorem d_L_1480 : decode code 1480 = .ok (.iadd, 1) := gd_19 db67g_4
theorem d_L_1481 : decode code 1481 = .ok (.iaload, 1) := gd_20 db67g_4
theorem d_L_1482 : decode code 1482 = .ok (.invokevirtual 149, 3) := gd_21 db67g_4
theorem d_L_1485 : decode code 1485 = .ok (.pop, 1) := gd_22 db67g_4
theorem d_L_1486 : decode code 1486 = .ok (.goto 920, 3) := gd_23 db67g_4
theorem db67g_5 : Ad_ code [(1489, .aload_n 1, 1), (1490, .aload_n 0, 1), (1491, .iload 4, 2), (1493, .iconst 1, 1), (1494, .iadd, 1), (1495, .iaload, 1), (1496, .aload_n 0, 1), (1497, .iload 4, 2), (1499, .iconst 2, 1), (1500, .iadd, 1), (1501, .iaload, 1), (1502, .aload_n 0, 1), (1503, .iload 4, 2), (1505, .iconst 3, 1), (1506, .iadd, 1), (1507, .iaload, 1), (1508, .invokevirtual 150, 3), (1511, .pop, 1), (1512, .aload_n 2, 1), (1513, .aload_n 0, 1), (1514, .iload 4, 2), (1516, .iconst 1, 1), (1517, .iadd, 1), (1518, .iaload, 1)] := bch_ok code _ 1489 (by decide +kernel)
theorem d_L_1489 : decode code 1489 = .ok (.aload_n 1, 1) := gd_0 db67g_5
theorem d_L_1490 : decode code 1490 = .ok (.aload_n 0, 1) := gd_1 db67g_5
theorem d_L_1491 : decode code 1491 = .ok (.iload 4, 2) := gd_2 db67g_5
theorem d_L_1493 : decode code 1493 = .ok (.iconst 1, 1) := gd_3 db67g_5
theorem d_L_1494 : decode code 1494 = .ok (.iadd, 1) := gd_4 db67g_5
theorem d_L_1495 : decode code 1495 = .ok (.iaload, 1) := gd_5 db67g_5
theorem d_L_1496 : decode code 1496 = .ok (.aload_n 0, 1) := gd_6 db67g_5
theorem d_L_1497 : decode code 1497 = .ok (.iload 4, 2) := gd_7 db67g_5
theorem d_L_1499 : decode code 1499 = .ok (.iconst 2, 1) := gd_8 db67g_5
theorem d_L_1500 : decode code 1500 = .ok (.iadd, 1) := gd_9 db67g_5
theorem d_L_1501 : decode code 1501 = .ok (.iaload, 1) := gd_10 db67g_5
theorem d_L_1502 : decode code 1502 = .ok (.aload_n 0, 1) := gd_11 db67g_5
theorem d_L_1503 : decode code 1503 = .ok (.iload 4, 2) := gd_12 db67g_5
theorem d_L_1505 : decode code 1505 = .ok (.iconst 3, 1) := gd_13 db67g_5
theorem d_L_1506 : decode code 1506 = .ok (.iadd, 1) := gd_14 db67g_5
theorem d_L_1507 : decode code 1507 = .ok (.iaload, 1) := gd_15 db67g_5
theorem d_L_1508 : decode code 1508 = .ok (.invokevirtual 150, 3) := gd_16 db67g_5
theorem d_L_1511 : decode code 1511 = .ok (.pop, 1) := gd_17 db67g_5
theorem d_L_1512 : decode code 1512 = .ok (.aload_n 2, 1) := gd_18 db67g_5
theorem d_L_1513 : decode code 1513 = .ok (.aload_n 0, 1) := gd_19 db67g_5
theorem d_L_1514 : decode code 1514 = .ok (.iload 4, 2) := gd_20 db67g_5
theorem d_L_1516 : decode code 1516 = .ok (.iconst 1, 1) := gd_21 db67g_5
theorem d_L_1517 : decode code 1517 = .ok (.iadd, 1) := gd_22 db67g_5
theorem d_L_1518 : decode code 1518 = .ok (.iaload, 1) := gd_23 db67g_5
theorem db67g_6 : Ad_ code [(1519, .aload_n 0, 1), (1520, .iload 4, 2), (1522, .iconst 2, 1), (1523, .iadd, 1), (1524, .iaload, 1), (1525, .aload_n 0, 1), (1526, .iload 4, 2), (1528, .iconst 3, 1), (1529, .iadd, 1), (1530, .iaload, 1), (1531, .invokevirtual 153, 3), (1534, .pop, 1), (1535, .goto 871, 3), (1538, .aload_n 1, 1), (1539, .aload_n 0, 1), (1540, .iload 4, 2), (1542, .iconst 1, 1), (1543, .iadd, 1), (1544, .iaload, 1), (1545, .invokevirtual 154, 3), (1548, .pop, 1), (1549, .aload_n 2, 1), (1550, .aload_n 0, 1), (1551, .iload 4, 2)] := bch_ok code _ 1519 (by decide +kernel)
theorem d_L_1519 : decode code 1519 = .ok (.aload_n 0, 1) := gd_0 db67g_6
theorem d_L_1520 : decode code 1520 = .ok (.iload 4, 2) := gd_1 db67g_6
theorem d_L_1522 : decode code 1522 = .ok (.iconst 2, 1) := gd_2 db67g_6
theorem d_L_1523 : decode code 1523 = .ok (.iadd, 1) := gd_3 db67g_6
theorem d_L_1524 : decode code 1524 = .ok (.iaload, 1) := gd_4 db67g_6
theorem d_L_1525 : decode code 1525 = .ok (.aload_n 0, 1) := gd_5 db67g_6
theorem d_L_1526 : decode code 1526 = .ok (.iload 4, 2) := gd_6 db67g_6
theorem d_L_1528 : decode code 1528 = .ok (.iconst 3, 1) := gd_7 db67g_6
theorem d_L_1529 : decode code 1529 = .ok (.iadd, 1) := gd_8 db67g_6
theorem d_L_1530 : decode code 1530 = .ok (.iaload, 1) := gd_9 db67g_6
theorem d_L_1531 : decode code 1531 = .ok (.invokevirtual 153, 3) := gd_10 db67g_6
theorem d_L_1534 : decode code 1534 = .ok (.pop, 1) := gd_11 db67g_6
theorem d_L_1535 : decode code 1535 = .ok (.goto 871, 3) := gd_12 db67g_6
theorem d_L_1538 : decode code 1538 = .ok (.aload_n 1, 1) := gd_13 db67g_6
theorem d_L_1539 : decode code 1539 = .ok (.aload_n 0, 1) := gd_14 db67g_6
theorem d_L_1540 : decode code 1540 = .ok (.iload 4, 2) := gd_15 db67g_6
theorem d_L_1542 : decode code 1542 = .ok (.iconst 1, 1) := gd_16 db67g_6
theorem d_L_1543 : decode code 1543 = .ok (.iadd, 1) := gd_17 db67g_6
theorem d_L_1544 : decode code 1544 = .ok (.iaload, 1) := gd_18 db67g_6
theorem d_L_1545 : decode code 1545 = .ok (.invokevirtual 154, 3) := gd_19 db67g_6
theorem d_L_1548 : decode code 1548 = .ok (.pop, 1) := gd_20 db67g_6
theorem d_L_1549 : decode code 1549 = .ok (.aload_n 2, 1) := gd_21 db67g_6
theorem d_L_1550 : decode code 1550 = .ok (.aload_n 0, 1) := gd_22 db67g_6
theorem d_L_1551 : decode code 1551 = .ok (.iload 4, 2) := gd_23 db67g_6
theorem db67g_7 : Ad_ code [(1553, .iconst 1, 1), (1554, .iadd, 1), (1555, .iaload, 1), (1556, .invokevirtual 157, 3), (1559, .pop, 1), (1560, .goto 846, 3), (1563, .aload_n 1, 1), (1564, .aload_n 0, 1), (1565, .iload 4, 2), (1567, .iconst 1, 1), (1568, .iadd, 1), (1569, .iaload, 1), (1570, .ifCond .eq 7, 3), (1573, .iconst 1, 1), (1574, .goto 4, 3), (1577, .iconst 0, 1), (1578, .aload_n 0, 1), (1579, .iload 4, 2), (1581, .iconst 2, 1), (1582, .iadd, 1), (1583, .iaload, 1), (1584, .invokevirtual 158, 3), (1587, .pop, 1), (1588, .aload_n 2, 1)] := bch_ok code _ 1553 (by decide +kernel)
theorem d_L_1553 : decode code 1553 = .ok (.iconst 1, 1) := gd_0 db67g_7
theorem d_L_1554 : decode code 1554 = .ok (.iadd, 1) := gd_1 db67g_7
theorem d_L_1555 : decode code 1555 = .ok (.iaload, 1) := gd_2 db67g_7
theorem d_L_1556 : decode code 1556 = .ok (.invokevirtual 157, 3) := gd_3 db67g_7
theorem d_L_1559 : decode code 1559 = .ok (.pop, 1) := gd_4 db67g_7
theorem d_L_1560 : decode code 1560 = .ok (.goto 846, 3) := gd_5 db67g_7
theorem d_L_1563 : decode code 1563 = .ok (.aload_n 1, 1) := gd_6 db67g_7
theorem d_L_1564 : decode code 1564 = .ok (.aload_n 0, 1) := gd_7 db67g_7
theorem d_L_1565 : decode code 1565 = .ok (.iload 4, 2) := gd_8 db67g_7
theorem d_L_1567 : decode code 1567 = .ok (.iconst 1, 1) := gd_9 db67g_7
theorem d_L_1568 : decode code 1568 = .ok (.iadd, 1) := gd_10 db67g_7
theorem d_L_1569 : decode code 1569 = .ok (.iaload, 1) := gd_11 db67g_7
theorem d_L_1570 : decode code 1570 = .ok (.ifCond .eq 7, 3) := gd_12 db67g_7
theorem d_L_1573 : decode code 1573 = .ok (.iconst 1, 1) := gd_13 db67g_7
theorem d_L_1574 : decode code 1574 = .ok (.goto 4, 3) := gd_14 db67g_7
theorem d_L_1577 : decode code 1577 = .ok (.iconst 0, 1) := gd_15 db67g_7
theorem d_L_1578 : decode code 1578 = .ok (.aload_n 0, 1) := gd_16 db67g_7
theorem d_L_1579 : decode code 1579 = .ok (.iload 4, 2) := gd_17 db67g_7
theorem d_L_1581 : decode code 1581 = .ok (.iconst 2, 1) := gd_18 db67g_7
theorem d_L_1582 : decode code 1582 = .ok (.iadd, 1) := gd_19 db67g_7
theorem d_L_1583 : decode code 1583 = .ok (.iaload, 1) := gd_20 db67g_7
theorem d_L_1584 : decode code 1584 = .ok (.invokevirtual 158, 3) := gd_21 db67g_7
theorem d_L_1587 : decode code 1587 = .ok (.pop, 1) := gd_22 db67g_7
theorem d_L_1588 : decode code 1588 = .ok (.aload_n 2, 1) := gd_23 db67g_7
theorem db67g_8 : Ad_ code [(1589, .aload_n 0, 1), (1590, .iload 4, 2), (1592, .iconst 1, 1), (1593, .iadd, 1), (1594, .iaload, 1), (1595, .ifCond .eq 7, 3), (1598, .iconst 1, 1), (1599, .goto 4, 3), (1602, .iconst 0, 1), (1603, .aload_n 0, 1), (1604, .iload 4, 2), (1606, .iconst 2, 1), (1607, .iadd, 1), (1608, .iaload, 1), (1609, .invokevirtual 162, 3), (1612, .pop, 1), (1613, .goto 793, 3), (1616, .aload_n 1, 1), (1617, .aload_n 0, 1), (1618, .iload 4, 2), (1620, .iconst 1, 1), (1621, .iadd, 1), (1622, .iaload, 1), (1623, .invokevirtual 163, 3)] := bch_ok code _ 1589 (by decide +kernel)
theorem d_L_1589 : decode code 1589 = .ok (.aload_n 0, 1) := gd_0 db67g_8
theorem d_L_1590 : decode code 1590 = .ok (.iload 4, 2) := gd_1 db67g_8
theorem d_L_1592 : decode code 1592 = .ok (.iconst 1, 1) := gd_2 db67g_8
theorem d_L_1593 : decode code 1593 = .ok (.iadd, 1) := gd_3 db67g_8
theorem d_L_1594 : decode code 1594 = .ok (.iaload, 1) := gd_4 db67g_8
theorem d_L_1595 : decode code 1595 = .ok (.ifCond .eq 7, 3) := gd_5 db67g_8
theorem d_L_1598 : decode code 1598 = .ok (.iconst 1, 1) := gd_6 db67g_8
theorem d_L_1599 : decode code 1599 = .ok (.goto 4, 3) := gd_7 db67g_8
theorem d_L_1602 : decode code 1602 = .ok (.iconst 0, 1) := gd_8 db67g_8
theorem d_L_1603 : decode code 1603 = .ok (.aload_n 0, 1) := gd_9 db67g_8
theorem d_L_1604 : decode code 1604 = .ok (.iload 4, 2) := gd_10 db67g_8
theorem d_L_1606 : decode code 1606 = .ok (.iconst 2, 1) := gd_11 db67g_8
theorem d_L_1607 : decode code 1607 = .ok (.iadd, 1) := gd_12 db67g_8
theorem d_L_1608 : decode code 1608 = .ok (.iaload, 1) := gd_13 db67g_8
theorem d_L_1609 : decode code 1609 = .ok (.invokevirtual 162, 3) := gd_14 db67g_8
theorem d_L_1612 : decode code 1612 = .ok (.pop, 1) := gd_15 db67g_8
theorem d_L_1613 : decode code 1613 = .ok (.goto 793, 3) := gd_16 db67g_8
theorem d_L_1616 : decode code 1616 = .ok (.aload_n 1, 1) := gd_17 db67g_8
theorem d_L_1617 : decode code 1617 = .ok (.aload_n 0, 1) := gd_18 db67g_8
theorem d_L_1618 : decode code 1618 = .ok (.iload 4, 2) := gd_19 db67g_8
theorem d_L_1620 : decode code 1620 = .ok (.iconst 1, 1) := gd_20 db67g_8
theorem d_L_1621 : decode code 1621 = .ok (.iadd, 1) := gd_21 db67g_8
theorem d_L_1622 : decode code 1622 = .ok (.iaload, 1) := gd_22 db67g_8
theorem d_L_1623 : decode code 1623 = .ok (.invokevirtual 163, 3) := gd_23 db67g_8
theorem db67g_9 : Ad_ code [(1626, .pop, 1), (1627, .aload_n 2, 1), (1628, .aload_n 0, 1), (1629, .iload 4, 2), (1631, .iconst 1, 1), (1632, .iadd, 1), (1633, .iaload, 1), (1634, .invokevirtual 166, 3), (1637, .pop, 1), (1638, .goto 768, 3), (1641, .aload_n 1, 1), (1642, .invokevirtual 167, 3), (1645, .pop, 1), (1646, .aload_n 2, 1), (1647, .invokevirtual 170, 3), (1650, .pop, 1), (1651, .goto 755, 3), (1654, .aload_n 1, 1), (1655, .aload_n 0, 1), (1656, .iload 4, 2), (1658, .iconst 1, 1), (1659, .iadd, 1), (1660, .iaload, 1), (1661, .invokevirtual 171, 3)] := bch_ok code _ 1626 (by decide +kernel)
theorem d_L_1626 : decode code 1626 = .ok (.pop, 1) := gd_0 db67g_9
theorem d_L_1627 : decode code 1627 = .ok (.aload_n 2, 1) := gd_1 db67g_9
theorem d_L_1628 : decode code 1628 = .ok (.aload_n 0, 1) := gd_2 db67g_9
theorem d_L_1629 : decode code 1629 = .ok (.iload 4, 2) := gd_3 db67g_9
theorem d_L_1631 : decode code 1631 = .ok (.iconst 1, 1) := gd_4 db67g_9
theorem d_L_1632 : decode code 1632 = .ok (.iadd, 1) := gd_5 db67g_9
theorem d_L_1633 : decode code 1633 = .ok (.iaload, 1) := gd_6 db67g_9
theorem d_L_1634 : decode code 1634 = .ok (.invokevirtual 166, 3) := gd_7 db67g_9
theorem d_L_1637 : decode code 1637 = .ok (.pop, 1) := gd_8 db67g_9
theorem d_L_1638 : decode code 1638 = .ok (.goto 768, 3) := gd_9 db67g_9
theorem d_L_1641 : decode code 1641 = .ok (.aload_n 1, 1) := gd_10 db67g_9
theorem d_L_1642 : decode code 1642 = .ok (.invokevirtual 167, 3) := gd_11 db67g_9
theorem d_L_1645 : decode code 1645 = .ok (.pop, 1) := gd_12 db67g_9
theorem d_L_1646 : decode code 1646 = .ok (.aload_n 2, 1) := gd_13 db67g_9
theorem d_L_1647 : decode code 1647 = .ok (.invokevirtual 170, 3) := gd_14 db67g_9
theorem d_L_1650 : decode code 1650 = .ok (.pop, 1) := gd_15 db67g_9
theorem d_L_1651 : decode code 1651 = .ok (.goto 755, 3) := gd_16 db67g_9
theorem d_L_1654 : decode code 1654 = .ok (.aload_n 1, 1) := gd_17 db67g_9
theorem d_L_1655 : decode code 1655 = .ok (.aload_n 0, 1) := gd_18 db67g_9
theorem d_L_1656 : decode code 1656 = .ok (.iload 4, 2) := gd_19 db67g_9
theorem d_L_1658 : decode code 1658 = .ok (.iconst 1, 1) := gd_20 db67g_9
theorem d_L_1659 : decode code 1659 = .ok (.iadd, 1) := gd_21 db67g_9
theorem d_L_1660 : decode code 1660 = .ok (.iaload, 1) := gd_22 db67g_9
theorem d_L_1661 : decode code 1661 = .ok (.invokevirtual 171, 3) := gd_23 db67g_9
theorem db67g_10 : Ad_ code [(1664, .pop, 1), (1665, .aload_n 2, 1), (1666, .aload_n 0, 1), (1667, .iload 4, 2), (1669, .iconst 1, 1), (1670, .iadd, 1), (1671, .iaload, 1), (1672, .invokevirtual 174, 3), (1675, .pop, 1), (1676, .goto 730, 3), (1679, .aload_n 1, 1), (1680, .aload_n 0, 1), (1681, .iload 4, 2), (1683, .iconst 1, 1), (1684, .iadd, 1), (1685, .iaload, 1), (1686, .invokevirtual 175, 3), (1689, .pop, 1), (1690, .aload_n 2, 1), (1691, .aload_n 0, 1), (1692, .iload 4, 2), (1694, .iconst 1, 1), (1695, .iadd, 1), (1696, .iaload, 1)] := bch_ok code _ 1664 (by decide +kernel)
theorem d_L_1664 : decode code 1664 = .ok (.pop, 1) := gd_0 db67g_10
theorem d_L_1665 : decode code 1665 = .ok (.aload_n 2, 1) := gd_1 db67g_10
theorem d_L_1666 : decode code 1666 = .ok (.aload_n 0, 1) := gd_2 db67g_10
theorem d_L_1667 : decode code 1667 = .ok (.iload 4, 2) := gd_3 db67g_10
theorem d_L_1669 : decode code 1669 = .ok (.iconst 1, 1) := gd_4 db67g_10
theorem d_L_1670 : decode code 1670 = .ok (.iadd, 1) := gd_5 db67g_10
theorem d_L_1671 : decode code 1671 = .ok (.iaload, 1) := gd_6 db67g_10
theorem d_L_1672 : decode code 1672 = .ok (.invokevirtual 174, 3) := gd_7 db67g_10
theorem d_L_1675 : decode code 1675 = .ok (.pop, 1) := gd_8 db67g_10
theorem d_L_1676 : decode code 1676 = .ok (.goto 730, 3) := gd_9 db67g_10
theorem d_L_1679 : decode code 1679 = .ok (.aload_n 1, 1) := gd_10 db67g_10
theorem d_L_1680 : decode code 1680 = .ok (.aload_n 0, 1) := gd_11 db67g_10
theorem d_L_1681 : decode code 1681 = .ok (.iload 4, 2) := gd_12 db67g_10
theorem d_L_1683 : decode code 1683 = .ok (.iconst 1, 1) := gd_13 db67g_10
theorem d_L_1684 : decode code 1684 = .ok (.iadd, 1) := gd_14 db67g_10
theorem d_L_1685 : decode code 1685 = .ok (.iaload, 1) := gd_15 db67g_10
theorem d_L_1686 : decode code 1686 = .ok (.invokevirtual 175, 3) := gd_16 db67g_10
theorem d_L_1689 : decode code 1689 = .ok (.pop, 1) := gd_17 db67g_10
theorem d_L_1690 : decode code 1690 = .ok (.aload_n 2, 1) := gd_18 db67g_10
theorem d_L_1691 : decode code 1691 = .ok (.aload_n 0, 1) := gd_19 db67g_10
theorem d_L_1692 : decode code 1692 = .ok (.iload 4, 2) := gd_20 db67g_10
theorem d_L_1694 : decode code 1694 = .ok (.iconst 1, 1) := gd_21 db67g_10
theorem d_L_1695 : decode code 1695 = .ok (.iadd, 1) := gd_22 db67g_10
theorem d_L_1696 : decode code 1696 = .ok (.iaload, 1) := gd_23 db67g_10
theorem db67g_11 : Ad_ code [(1697, .invokevirtual 178, 3), (1700, .pop, 1), (1701, .goto 705, 3), (1704, .aload_n 1, 1), (1705, .aload_n 0, 1), (1706, .iload 4, 2), (1708, .iconst 1, 1), (1709, .iadd, 1), (1710, .iaload, 1), (1711, .invokevirtual 179, 3), (1714, .pop, 1), (1715, .aload_n 2, 1), (1716, .aload_n 0, 1), (1717, .iload 4, 2), (1719, .iconst 1, 1), (1720, .iadd, 1), (1721, .iaload, 1), (1722, .invokevirtual 182, 3), (1725, .pop, 1), (1726, .goto 680, 3), (1729, .aload_n 1, 1), (1730, .aload_n 0, 1), (1731, .iload 4, 2), (1733, .iconst 1, 1)] := bch_ok code _ 1697 (by decide +kernel)
theorem d_L_1697 : decode code 1697 = .ok (.invokevirtual 178, 3) := gd_0 db67g_11
theorem d_L_1700 : decode code 1700 = .ok (.pop, 1) := gd_1 db67g_11
theorem d_L_1701 : decode code 1701 = .ok (.goto 705, 3) := gd_2 db67g_11
theorem d_L_1704 : decode code 1704 = .ok (.aload_n 1, 1) := gd_3 db67g_11
theorem d_L_1705 : decode code 1705 = .ok (.aload_n 0, 1) := gd_4 db67g_11
theorem d_L_1706 : decode code 1706 = .ok (.iload 4, 2) := gd_5 db67g_11
theorem d_L_1708 : decode code 1708 = .ok (.iconst 1, 1) := gd_6 db67g_11
theorem d_L_1709 : decode code 1709 = .ok (.iadd, 1) := gd_7 db67g_11
theorem d_L_1710 : decode code 1710 = .ok (.iaload, 1) := gd_8 db67g_11
theorem d_L_1711 : decode code 1711 = .ok (.invokevirtual 179, 3) := gd_9 db67g_11
theorem d_L_1714 : decode code 1714 = .ok (.pop, 1) := gd_10 db67g_11
theorem d_L_1715 : decode code 1715 = .ok (.aload_n 2, 1) := gd_11 db67g_11
theorem d_L_1716 : decode code 1716 = .ok (.aload_n 0, 1) := gd_12 db67g_11
theorem d_L_1717 : decode code 1717 = .ok (.iload 4, 2) := gd_13 db67g_11
theorem d_L_1719 : decode code 1719 = .ok (.iconst 1, 1) := gd_14 db67g_11
theorem d_L_1720 : decode code 1720 = .ok (.iadd, 1) := gd_15 db67g_11
theorem d_L_1721 : decode code 1721 = .ok (.iaload, 1) := gd_16 db67g_11
theorem d_L_1722 : decode code 1722 = .ok (.invokevirtual 182, 3) := gd_17 db67g_11
theorem d_L_1725 : decode code 1725 = .ok (.pop, 1) := gd_18 db67g_11
theorem d_L_1726 : decode code 1726 = .ok (.goto 680, 3) := gd_19 db67g_11
theorem d_L_1729 : decode code 1729 = .ok (.aload_n 1, 1) := gd_20 db67g_11
theorem d_L_1730 : decode code 1730 = .ok (.aload_n 0, 1) := gd_21 db67g_11
theorem d_L_1731 : decode code 1731 = .ok (.iload 4, 2) := gd_22 db67g_11
theorem d_L_1733 : decode code 1733 = .ok (.iconst 1, 1) := gd_23 db67g_11
theorem db67g_12 : Ad_ code [(1734, .iadd, 1), (1735, .iaload, 1), (1736, .aload_n 0, 1), (1737, .iload 4, 2), (1739, .iconst 2, 1), (1740, .iadd, 1), (1741, .iaload, 1), (1742, .aload_n 0, 1), (1743, .iload 4, 2), (1745, .iconst 3, 1), (1746, .iadd, 1), (1747, .iaload, 1), (1748, .invokevirtual 183, 3), (1751, .pop, 1), (1752, .aload_n 2, 1), (1753, .aload_n 0, 1), (1754, .iload 4, 2), (1756, .iconst 1, 1), (1757, .iadd, 1), (1758, .iaload, 1), (1759, .aload_n 0, 1), (1760, .iload 4, 2), (1762, .iconst 2, 1), (1763, .iadd, 1)] := bch_ok code _ 1734 (by decide +kernel)
theorem d_L_1734 : decode code 1734 = .ok (.iadd, 1) := gd_0 db67g_12
theorem d_L_1735 : decode code 1735 = .ok (.iaload, 1) := gd_1 db67g_12
theorem d_L_1736 : decode code 1736 = .ok (.aload_n 0, 1) := gd_2 db67g_12
theorem d_L_1737 : decode code 1737 = .ok (.iload 4, 2) := gd_3 db67g_12
theorem d_L_1739 : decode code 1739 = .ok (.iconst 2, 1) := gd_4 db67g_12
theorem d_L_1740 : decode code 1740 = .ok (.iadd, 1) := gd_5 db67g_12
theorem d_L_1741 : decode code 1741 = .ok (.iaload, 1) := gd_6 db67g_12
theorem d_L_1742 : decode code 1742 = .ok (.aload_n 0, 1) := gd_7 db67g_12
theorem d_L_1743 : decode code 1743 = .ok (.iload 4, 2) := gd_8 db67g_12
theorem d_L_1745 : decode code 1745 = .ok (.iconst 3, 1) := gd_9 db67g_12
theorem d_L_1746 : decode code 1746 = .ok (.iadd, 1) := gd_10 db67g_12
theorem d_L_1747 : decode code 1747 = .ok (.iaload, 1) := gd_11 db67g_12
theorem d_L_1748 : decode code 1748 = .ok (.invokevirtual 183, 3) := gd_12 db67g_12
theorem d_L_1751 : decode code 1751 = .ok (.pop, 1) := gd_13 db67g_12
theorem d_L_1752 : decode code 1752 = .ok (.aload_n 2, 1) := gd_14 db67g_12
theorem d_L_1753 : decode code 1753 = .ok (.aload_n 0, 1) := gd_15 db67g_12
theorem d_L_1754 : decode code 1754 = .ok (.iload 4, 2) := gd_16 db67g_12
theorem d_L_1756 : decode code 1756 = .ok (.iconst 1, 1) := gd_17 db67g_12
theorem d_L_1757 : decode code 1757 = .ok (.iadd, 1) := gd_18 db67g_12
theorem d_L_1758 : decode code 1758 = .ok (.iaload, 1) := gd_19 db67g_12
theorem d_L_1759 : decode code 1759 = .ok (.aload_n 0, 1) := gd_20 db67g_12
theorem d_L_1760 : decode code 1760 = .ok (.iload 4, 2) := gd_21 db67g_12
theorem d_L_1762 : decode code 1762 = .ok (.iconst 2, 1) := gd_22 db67g_12
theorem d_L_1763 : decode code 1763 = .ok (.iadd, 1) := gd_23 db67g_12
theorem db67g_13 : Ad_ code [(1764, .iaload, 1), (1765, .aload_n 0, 1), (1766, .iload 4, 2), (1768, .iconst 3, 1), (1769, .iadd, 1), (1770, .iaload, 1), (1771, .invokevirtual 186, 3), (1774, .pop, 1), (1775, .goto 631, 3), (1778, .aload_n 1, 1), (1779, .aload_n 0, 1), (1780, .iload 4, 2), (1782, .iconst 1, 1), (1783, .iadd, 1), (1784, .iaload, 1), (1785, .aload_n 0, 1), (1786, .iload 4, 2), (1788, .iconst 2, 1), (1789, .iadd, 1), (1790, .iaload, 1), (1791, .invokevirtual 187, 3), (1794, .pop, 1), (1795, .aload_n 2, 1), (1796, .aload_n 0, 1)] := bch_ok code _ 1764 (by decide +kernel)
theorem d_L_1764 : decode code 1764 = .ok (.iaload, 1) := gd_0 db67g_13
theorem d_L_1765 : decode code 1765 = .ok (.aload_n 0, 1) := gd_1 db67g_13
theorem d_L_1766 : decode code 1766 = .ok (.iload 4, 2) := gd_2 db67g_13
theorem d_L_1768 : decode code 1768 = .ok (.iconst 3, 1) := gd_3 db67g_13
theorem d_L_1769 : decode code 1769 = .ok (.iadd, 1) := gd_4 db67g_13
theorem d_L_1770 : decode code 1770 = .ok (.iaload, 1) := gd_5 db67g_13
theorem d_L_1771 : decode code 1771 = .ok (.invokevirtual 186, 3) := gd_6 db67g_13
theorem d_L_1774 : decode code 1774 = .ok (.pop, 1) := gd_7 db67g_13
theorem d_L_1775 : decode code 1775 = .ok (.goto 631, 3) := gd_8 db67g_13
theorem d_L_1778 : decode code 1778 = .ok (.aload_n 1, 1) := gd_9 db67g_13
theorem d_L_1779 : decode code 1779 = .ok (.aload_n 0, 1) := gd_10 db67g_13
theorem d_L_1780 : decode code 1780 = .ok (.iload 4, 2) := gd_11 db67g_13
theorem d_L_1782 : decode code 1782 = .ok (.iconst 1, 1) := gd_12 db67g_13
theorem d_L_1783 : decode code 1783 = .ok (.iadd, 1) := gd_13 db67g_13
theorem d_L_1784 : decode code 1784 = .ok (.iaload, 1) := gd_14 db67g_13
theorem d_L_1785 : decode code 1785 = .ok (.aload_n 0, 1) := gd_15 db67g_13
theorem d_L_1786 : decode code 1786 = .ok (.iload 4, 2) := gd_16 db67g_13
theorem d_L_1788 : decode code 1788 = .ok (.iconst 2, 1) := gd_17 db67g_13
theorem d_L_1789 : decode code 1789 = .ok (.iadd, 1) := gd_18 db67g_13
theorem d_L_1790 : decode code 1790 = .ok (.iaload, 1) := gd_19 db67g_13
theorem d_L_1791 : decode code 1791 = .ok (.invokevirtual 187, 3) := gd_20 db67g_13
theorem d_L_1794 : decode code 1794 = .ok (.pop, 1) := gd_21 db67g_13
theorem d_L_1795 : decode code 1795 = .ok (.aload_n 2, 1) := gd_22 db67g_13
theorem d_L_1796 : decode code 1796 = .ok (.aload_n 0, 1) := gd_23 db67g_13
theorem db67g_14 : Ad_ code [(1797, .iload 4, 2), (1799, .iconst 1, 1), (1800, .iadd, 1), (1801, .iaload, 1), (1802, .aload_n 0, 1), (1803, .iload 4, 2), (1805, .iconst 2, 1), (1806, .iadd, 1), (1807, .iaload, 1), (1808, .invokevirtual 190, 3), (1811, .pop, 1), (1812, .goto 594, 3), (1815, .aload_n 1, 1), (1816, .aload_n 0, 1), (1817, .iload 4, 2), (1819, .iconst 1, 1), (1820, .iadd, 1), (1821, .iaload, 1), (1822, .invokevirtual 191, 3), (1825, .pop, 1), (1826, .aload_n 2, 1), (1827, .aload_n 0, 1), (1828, .iload 4, 2), (1830, .iconst 1, 1)] := bch_ok code _ 1797 (by decide +kernel)
theorem d_L_1797 : decode code 1797 = .ok (.iload 4, 2) := gd_0 db67g_14
theorem d_L_1799 : decode code 1799 = .ok (.iconst 1, 1) := gd_1 db67g_14
theorem d_L_1800 : decode code 1800 = .ok (.iadd, 1) := gd_2 db67g_14
theorem d_L_1801 : decode code 1801 = .ok (.iaload, 1) := gd_3 db67g_14
theorem d_L_1802 : decode code 1802 = .ok (.aload_n 0, 1) := gd_4 db67g_14
theorem d_L_1803 : decode code 1803 = .ok (.iload 4, 2) := gd_5 db67g_14
theorem d_L_1805 : decode code 1805 = .ok (.iconst 2, 1) := gd_6 db67g_14
theorem d_L_1806 : decode code 1806 = .ok (.iadd, 1) := gd_7 db67g_14
theorem d_L_1807 : decode code 1807 = .ok (.iaload, 1) := gd_8 db67g_14
theorem d_L_1808 : decode code 1808 = .ok (.invokevirtual 190, 3) := gd_9 db67g_14
theorem d_L_1811 : decode code 1811 = .ok (.pop, 1) := gd_10 db67g_14
theorem d_L_1812 : decode code 1812 = .ok (.goto 594, 3) := gd_11 db67g_14
theorem d_L_1815 : decode code 1815 = .ok (.aload_n 1, 1) := gd_12 db67g_14
theorem d_L_1816 : decode code 1816 = .ok (.aload_n 0, 1) := gd_13 db67g_14
theorem d_L_1817 : decode code 1817 = .ok (.iload 4, 2) := gd_14 db67g_14
theorem d_L_1819 : decode code 1819 = .ok (.iconst 1, 1) := gd_15 db67g_14
theorem d_L_1820 : decode code 1820 = .ok (.iadd, 1) := gd_16 db67g_14
theorem d_L_1821 : decode code 1821 = .ok (.iaload, 1) := gd_17 db67g_14
theorem d_L_1822 : decode code 1822 = .ok (.invokevirtual 191, 3) := gd_18 db67g_14
theorem d_L_1825 : decode code 1825 = .ok (.pop, 1) := gd_19 db67g_14
theorem d_L_1826 : decode code 1826 = .ok (.aload_n 2, 1) := gd_20 db67g_14
theorem d_L_1827 : decode code 1827 = .ok (.aload_n 0, 1) := gd_21 db67g_14
theorem d_L_1828 : decode code 1828 = .ok (.iload 4, 2) := gd_22 db67g_14
theorem d_L_1830 : decode code 1830 = .ok (.iconst 1, 1) := gd_23 db67g_14
theorem db67g_15 : Ad_ code [(1831, .iadd, 1), (1832, .iaload, 1), (1833, .invokevirtual 194, 3), (1836, .pop, 1), (1837, .goto 569, 3), (1840, .aload_n 1, 1), (1841, .aload_n 0, 1), (1842, .iload 4, 2), (1844, .iconst 1, 1), (1845, .iadd, 1), (1846, .iaload, 1), (1847, .aload_n 0, 1), (1848, .iload 4, 2), (1850, .iconst 2, 1), (1851, .iadd, 1), (1852, .iaload, 1), (1853, .invokevirtual 195, 3), (1856, .pop, 1), (1857, .aload_n 2, 1), (1858, .aload_n 0, 1), (1859, .iload 4, 2), (1861, .iconst 1, 1), (1862, .iadd, 1), (1863, .iaload, 1)] := bch_ok code _ 1831 (by decide +kernel)
theorem d_L_1831 : decode code 1831 = .ok (.iadd, 1) := gd_0 db67g_15
theorem d_L_1832 : decode code 1832 = .ok (.iaload, 1) := gd_1 db67g_15
theorem d_L_1833 : decode code 1833 = .ok (.invokevirtual 194, 3) := gd_2 db67g_15
theorem d_L_1836 : decode code 1836 = .ok (.pop, 1) := gd_3 db67g_15
theorem d_L_1837 : decode code 1837 = .ok (.goto 569, 3) := gd_4 db67g_15
theorem d_L_1840 : decode code 1840 = .ok (.aload_n 1, 1) := gd_5 db67g_15
theorem d_L_1841 : decode code 1841 = .ok (.aload_n 0, 1) := gd_6 db67g_15
theorem d_L_1842 : decode code 1842 = .ok (.iload 4, 2) := gd_7 db67g_15
theorem d_L_1844 : decode code 1844 = .ok (.iconst 1, 1) := gd_8 db67g_15
theorem d_L_1845 : decode code 1845 = .ok (.iadd, 1) := gd_9 db67g_15
theorem d_L_1846 : decode code 1846 = .ok (.iaload, 1) := gd_10 db67g_15
theorem d_L_1847 : decode code 1847 = .ok (.aload_n 0, 1) := gd_11 db67g_15
theorem d_L_1848 : decode code 1848 = .ok (.iload 4, 2) := gd_12 db67g_15
theorem d_L_1850 : decode code 1850 = .ok (.iconst 2, 1) := gd_13 db67g_15
theorem d_L_1851 : decode code 1851 = .ok (.iadd, 1) := gd_14 db67g_15
theorem d_L_1852 : decode code 1852 = .ok (.iaload, 1) := gd_15 db67g_15
theorem d_L_1853 : decode code 1853 = .ok (.invokevirtual 195, 3) := gd_16 db67g_15
theorem d_L_1856 : decode code 1856 = .ok (.pop, 1) := gd_17 db67g_15
theorem d_L_1857 : decode code 1857 = .ok (.aload_n 2, 1) := gd_18 db67g_15
theorem d_L_1858 : decode code 1858 = .ok (.aload_n 0, 1) := gd_19 db67g_15
theorem d_L_1859 : decode code 1859 = .ok (.iload 4, 2) := gd_20 db67g_15
theorem d_L_1861 : decode code 1861 = .ok (.iconst 1, 1) := gd_21 db67g_15
theorem d_L_1862 : decode code 1862 = .ok (.iadd, 1) := gd_22 db67g_15
theorem d_L_1863 : decode code 1863 = .ok (.iaload, 1) := gd_23 db67g_15
theorem db67g_16 : Ad_ code [(1864, .aload_n 0, 1), (1865, .iload 4, 2), (1867, .iconst 2, 1), (1868, .iadd, 1), (1869, .iaload, 1), (1870, .invokevirtual 198, 3), (1873, .pop, 1)] := bch_ok code _ 1864 (by decide +kernel)
theorem d_L_1864 : decode code 1864 = .ok (.aload_n 0, 1) := gd_0 db67g_16
theorem d_L_1865 : decode code 1865 = .ok (.iload 4, 2) := gd_1 db67g_16
theorem d_L_1867 : decode code 1867 = .ok (.iconst 2, 1) := gd_2 db67g_16
theorem d_L_1868 : decode code 1868 = .ok (.iadd, 1) := gd_3 db67g_16
theorem d_L_1869 : decode code 1869 = .ok (.iaload, 1) := gd_4 db67g_16
theorem d_L_1870 : decode code 1870 = .ok (.invokevirtual 198, 3) := gd_5 db67g_16
theorem d_L_1873 : decode code 1873 = .ok (.pop, 1) := gd_6 db67g_16
end
section
theorem db67h_0 : Ad_ code [(1874, .goto 532, 3), (1877, .aload_n 1, 1), (1878, .aload_n 0, 1), (1879, .iload 4, 2), (1881, .iconst 1, 1), (1882, .iadd, 1), (1883, .iaload, 1), (1884, .aload_n 0, 1), (1885, .iload 4, 2), (1887, .iconst 2, 1), (1888, .iadd, 1), (1889, .iaload, 1), (1890, .aload_n 0, 1), (1891, .iload 4, 2), (1893, .iconst 3, 1), (1894, .iadd, 1), (1895, .iaload, 1), (1896, .invokevirtual 199, 3), (1899, .pop, 1), (1900, .aload_n 2, 1), (1901, .aload_n 0, 1), (1902, .iload 4, 2), (1904, .iconst 1, 1), (1905, .iadd, 1)] := bch_ok code _ 1874 (by decide +kernel)
theorem d_L_1874 : decode code 1874 = .ok (.goto 532, 3) := gd_0 db67h_0
theorem d_L_1877 : decode code 1877 = .ok (.aload_n 1, 1) := gd_1 db67h_0
theorem d_L_1878 : decode code 1878 = .ok (.aload_n 0, 1) := gd_2 db67h_0
theorem d_L_1879 : decode code 1879 = .ok (.iload 4, 2) := gd_3 db67h_0
theorem d_L_1881 : decode code 1881 = .ok (.iconst 1, 1) := gd_4 db67h_0
theorem d_L_1882 : decode code 1882 = .ok (.iadd, 1) := gd_5 db67h_0
theorem d_L_1883 : decode code 1883 = .ok (.iaload, 1) := gd_6 db67h_0
theorem d_L_1884 : decode code 1884 = .ok (.aload_n 0, 1) := gd_7 db67h_0
theorem d_L_1885 : decode code 1885 = .ok (.iload 4, 2) := gd_8 db67h_0
theorem d_L_1887 : decode code 1887 = .ok (.iconst 2, 1) := gd_9 db67h_0
theorem d_L_1888 : decode code 1888 = .ok (.iadd, 1) := gd_10 db67h_0
theorem d_L_1889 : decode code 1889 = .ok (.iaload, 1) := gd_11 db67h_0
theorem d_L_1890 : decode code 1890 = .ok (.aload_n 0, 1) := gd_12 db67h_0
theorem d_L_1891 : decode code 1891 = .ok (.iload 4, 2) := gd_13 db67h_0
theorem d_L_1893 : decode code 1893 = .ok (.iconst 3, 1) := gd_14 db67h_0
theorem d_L_1894 : decode code 1894 = .ok (.iadd, 1) := gd_15 db67h_0
theorem d_L_1895 : decode code 1895 = .ok (.iaload, 1) := gd_16 db67h_0
theorem d_L_1896 : decode code 1896 = .ok (.invokevirtual 199, 3) := gd_17 db67h_0
theorem d_L_1899 : decode code 1899 = .ok (.pop, 1) := gd_18 db67h_0
theorem d_L_1900 : decode code 1900 = .ok (.aload_n 2, 1) := gd_19 db67h_0
theorem d_L_1901 : decode code 1901 = .ok (.aload_n 0, 1) := gd_20 db67h_0
theorem d_L_1902 : decode code 1902 = .ok (.iload 4, 2) := gd_21 db67h_0
theorem d_L_1904 : decode code 1904 = .ok (.iconst 1, 1) := gd_22 db67h_0
theorem d_L_1905 : decode code 1905 = .ok (.iadd, 1) := gd_23 db67h_0
theorem db67h_1 : Ad_ code [(1906, .iaload, 1), (1907, .aload_n 0, 1), (1908, .iload 4, 2), (1910, .iconst 2, 1), (1911, .iadd, 1), (1912, .iaload, 1), (1913, .aload_n 0, 1), (1914, .iload 4, 2), (1916, .iconst 3, 1), (1917, .iadd, 1), (1918, .iaload, 1), (1919, .invokevirtual 202, 3), (1922, .pop, 1), (1923, .goto 483, 3), (1926, .aload_n 1, 1), (1927, .aload_n 0, 1), (1928, .iload 4, 2), (1930, .iconst 1, 1), (1931, .iadd, 1), (1932, .iaload, 1), (1933, .invokevirtual 203, 3), (1936, .pop, 1), (1937, .aload_n 2, 1), (1938, .aload_n 0, 1)] := bch_ok code _ 1906 (by decide +kernel)
theorem d_L_1906 : decode code 1906 = .ok (.iaload, 1) := gd_0 db67h_1
theorem d_L_1907 : decode code 1907 = .ok (.aload_n 0, 1) := gd_1 db67h_1
theorem d_L_1908 : decode code 1908 = .ok (.iload 4, 2) := gd_2 db67h_1
theorem d_L_1910 : decode code 1910 = .ok (.iconst 2, 1) := gd_3 db67h_1
theorem d_L_1911 : decode code 1911 = .ok (.iadd, 1) := gd_4 db67h_1
theorem d_L_1912 : decode code 1912 = .ok (.iaload, 1) := gd_5 db67h_1
theorem d_L_1913 : decode code 1913 = .ok (.aload_n 0, 1) := gd_6 db67h_1
theorem d_L_1914 : decode code 1914 = .ok (.iload 4, 2) := gd_7 db67h_1
theorem d_L_1916 : decode code 1916 = .ok (.iconst 3, 1) := gd_8 db67h_1
theorem d_L_1917 : decode code 1917 = .ok (.iadd, 1) := gd_9 db67h_1
theorem d_L_1918 : decode code 1918 = .ok (.iaload, 1) := gd_10 db67h_1
theorem d_L_1919 : decode code 1919 = .ok (.invokevirtual 202, 3) := gd_11 db67h_1
theorem d_L_1922 : decode code 1922 = .ok (.pop, 1) := gd_12 db67h_1
theorem d_L_1923 : decode code 1923 = .ok (.goto 483, 3) := gd_13 db67h_1
theorem d_L_1926 : decode code 1926 = .ok (.aload_n 1, 1) := gd_14 db67h_1
theorem d_L_1927 : decode code 1927 = .ok (.aload_n 0, 1) := gd_15 db67h_1
theorem d_L_1928 : decode code 1928 = .ok (.iload 4, 2) := gd_16 db67h_1
theorem d_L_1930 : decode code 1930 = .ok (.iconst 1, 1) := gd_17 db67h_1
theorem d_L_1931 : decode code 1931 = .ok (.iadd, 1) := gd_18 db67h_1
theorem d_L_1932 : decode code 1932 = .ok (.iaload, 1) := gd_19 db67h_1
theorem d_L_1933 : decode code 1933 = .ok (.invokevirtual 203, 3) := gd_20 db67h_1
theorem d_L_1936 : decode code 1936 = .ok (.pop, 1) := gd_21 db67h_1
theorem d_L_1937 : decode code 1937 = .ok (.aload_n 2, 1) := gd_22 db67h_1
theorem d_L_1938 : decode code 1938 = .ok (.aload_n 0, 1) := gd_23 db67h_1
theorem db67h_2 : Ad_ code [(1939, .iload 4, 2), (1941, .iconst 1, 1), (1942, .iadd, 1), (1943, .iaload, 1), (1944, .invokevirtual 206, 3), (1947, .pop, 1), (1948, .goto 458, 3), (1951, .aload_n 1, 1), (1952, .aload_n 0, 1), (1953, .iload 4, 2), (1955, .iconst 1, 1), (1956, .iadd, 1), (1957, .iaload, 1), (1958, .invokevirtual 207, 3), (1961, .pop, 1), (1962, .aload_n 2, 1), (1963, .aload_n 0, 1), (1964, .iload 4, 2), (1966, .iconst 1, 1), (1967, .iadd, 1), (1968, .iaload, 1), (1969, .invokevirtual 210, 3), (1972, .pop, 1), (1973, .goto 433, 3)] := bch_ok code _ 1939 (by decide +kernel)
theorem d_L_1939 : decode code 1939 = .ok (.iload 4, 2) := gd_0 db67h_2
theorem d_L_1941 : decode code 1941 = .ok (.iconst 1, 1) := gd_1 db67h_2
theorem d_L_1942 : decode code 1942 = .ok (.iadd, 1) := gd_2 db67h_2
theorem d_L_1943 : decode code 1943 = .ok (.iaload, 1) := gd_3 db67h_2
theorem d_L_1944 : decode code 1944 = .ok (.invokevirtual 206, 3) := gd_4 db67h_2
theorem d_L_1947 : decode code 1947 = .ok (.pop, 1) := gd_5 db67h_2
theorem d_L_1948 : decode code 1948 = .ok (.goto 458, 3) := gd_6 db67h_2
theorem d_L_1951 : decode code 1951 = .ok (.aload_n 1, 1) := gd_7 db67h_2
theorem d_L_1952 : decode code 1952 = .ok (.aload_n 0, 1) := gd_8 db67h_2
theorem d_L_1953 : decode code 1953 = .ok (.iload 4, 2) := gd_9 db67h_2
theorem d_L_1955 : decode code 1955 = .ok (.iconst 1, 1) := gd_10 db67h_2
theorem d_L_1956 : decode code 1956 = .ok (.iadd, 1) := gd_11 db67h_2
theorem d_L_1957 : decode code 1957 = .ok (.iaload, 1) := gd_12 db67h_2
theorem d_L_1958 : decode code 1958 = .ok (.invokevirtual 207, 3) := gd_13 db67h_2
theorem d_L_1961 : decode code 1961 = .ok (.pop, 1) := gd_14 db67h_2
theorem d_L_1962 : decode code 1962 = .ok (.aload_n 2, 1) := gd_15 db67h_2
theorem d_L_1963 : decode code 1963 = .ok (.aload_n 0, 1) := gd_16 db67h_2
theorem d_L_1964 : decode code 1964 = .ok (.iload 4, 2) := gd_17 db67h_2
theorem d_L_1966 : decode code 1966 = .ok (.iconst 1, 1) := gd_18 db67h_2
theorem d_L_1967 : decode code 1967 = .ok (.iadd, 1) := gd_19 db67h_2
theorem d_L_1968 : decode code 1968 = .ok (.iaload, 1) := gd_20 db67h_2
theorem d_L_1969 : decode code 1969 = .ok (.invokevirtual 210, 3) := gd_21 db67h_2
theorem d_L_1972 : decode code 1972 = .ok (.pop, 1) := gd_22 db67h_2
theorem d_L_1973 : decode code 1973 = .ok (.goto 433, 3) := gd_23 db67h_2
theorem db67h_3 : Ad_ code [(1976, .aload_n 1, 1), (1977, .invokevirtual 211, 3), (1980, .aload_n 2, 1), (1981, .invokevirtual 214, 3), (1984, .goto 422, 3), (1987, .aload_n 1, 1), (1988, .aload_n 0, 1), (1989, .iload 4, 2), (1991, .iconst 1, 1), (1992, .iadd, 1), (1993, .iaload, 1), (1994, .invokevirtual 215, 3), (1997, .pop, 1), (1998, .aload_n 2, 1), (1999, .aload_n 0, 1), (2000, .iload 4, 2), (2002, .iconst 1, 1), (2003, .iadd, 1), (2004, .iaload, 1), (2005, .invokevirtual 218, 3), (2008, .pop, 1), (2009, .goto 397, 3), (2012, .aload_n 1, 1), (2013, .aload_n 0, 1)] := bch_ok code _ 1976 (by decide +kernel)
theorem d_L_1976 : decode code 1976 = .ok (.aload_n 1, 1) := gd_0 db67h_3
theorem d_L_1977 : decode code 1977 = .ok (.invokevirtual 211, 3) := gd_1 db67h_3
theorem d_L_1980 : decode code 1980 = .ok (.aload_n 2, 1) := gd_2 db67h_3
theorem d_L_1981 : decode code 1981 = .ok (.invokevirtual 214, 3) := gd_3 db67h_3
theorem d_L_1984 : decode code 1984 = .ok (.goto 422, 3) := gd_4 db67h_3
theorem d_L_1987 : decode code 1987 = .ok (.aload_n 1, 1) := gd_5 db67h_3
theorem d_L_1988 : decode code 1988 = .ok (.aload_n 0, 1) := gd_6 db67h_3
theorem d_L_1989 : decode code 1989 = .ok (.iload 4, 2) := gd_7 db67h_3
theorem d_L_1991 : decode code 1991 = .ok (.iconst 1, 1) := gd_8 db67h_3
theorem d_L_1992 : decode code 1992 = .ok (.iadd, 1) := gd_9 db67h_3
theorem d_L_1993 : decode code 1993 = .ok (.iaload, 1) := gd_10 db67h_3
theorem d_L_1994 : decode code 1994 = .ok (.invokevirtual 215, 3) := gd_11 db67h_3
theorem d_L_1997 : decode code 1997 = .ok (.pop, 1) := gd_12 db67h_3
theorem d_L_1998 : decode code 1998 = .ok (.aload_n 2, 1) := gd_13 db67h_3
theorem d_L_1999 : decode code 1999 = .ok (.aload_n 0, 1) := gd_14 db67h_3
theorem d_L_2000 : decode code 2000 = .ok (.iload 4, 2) := gd_15 db67h_3
theorem d_L_2002 : decode code 2002 = .ok (.iconst 1, 1) := gd_16 db67h_3
theorem d_L_2003 : decode code 2003 = .ok (.iadd, 1) := gd_17 db67h_3
theorem d_L_2004 : decode code 2004 = .ok (.iaload, 1) := gd_18 db67h_3
theorem d_L_2005 : decode code 2005 = .ok (.invokevirtual 218, 3) := gd_19 db67h_3
theorem d_L_2008 : decode code 2008 = .ok (.pop, 1) := gd_20 db67h_3
theorem d_L_2009 : decode code 2009 = .ok (.goto 397, 3) := gd_21 db67h_3
theorem d_L_2012 : decode code 2012 = .ok (.aload_n 1, 1) := gd_22 db67h_3
theorem d_L_2013 : decode code 2013 = .ok (.aload_n 0, 1) := gd_23 db67h_3
theorem db67h_4 : Ad_ code [(2014, .iload 4, 2), (2016, .iconst 1, 1), (2017, .iadd, 1), (2018, .iaload, 1), (2019, .aload_n 0, 1), (2020, .iload 4, 2), (2022, .iconst 2, 1), (2023, .iadd, 1), (2024, .iaload, 1), (2025, .aload_n 0, 1), (2026, .iload 4, 2), (2028, .iconst 3, 1), (2029, .iadd, 1), (2030, .iaload, 1), (2031, .invokevirtual 219, 3), (2034, .pop, 1), (2035, .aload_n 2, 1), (2036, .aload_n 0, 1), (2037, .iload 4, 2), (2039, .iconst 1, 1), (2040, .iadd, 1), (2041, .iaload, 1), (2042, .aload_n 0, 1), (2043, .iload 4, 2)] := bch_ok code _ 2014 (by decide +kernel)
theorem d_L_2014 : decode code 2014 = .ok (.iload 4, 2) := gd_0 db67h_4
theorem d_L_2016 : decode code 2016 = .ok (.iconst 1, 1) := gd_1 db67h_4
theorem d_L_2017 : decode code 2017 = .ok (.iadd, 1) := gd_2 db67h_4
theorem d_L_2018 : decode code 2018 = .ok (.iaload, 1) := gd_3 db67h_4
theorem d_L_2019 : decode code 2019 = .ok (.aload_n 0, 1) := gd_4 db67h_4
theorem d_L_2020 : decode code 2020 = .ok (.iload 4, 2) := gd_5 db67h_4
theorem d_L_2022 : decode code 2022 = .ok (.iconst 2, 1) := gd_6 db67h_4
theorem d_L_2023 : decode code 2023 = .ok (.iadd, 1) := gd_7 db67h_4
theorem d_L_2024 : decode code 2024 = .ok (.iaload, 1) := gd_8 db67h_4
theorem d_L_2025 : decode code 2025 = .ok (.aload_n 0, 1) := gd_9 db67h_4
theorem d_L_2026 : decode code 2026 = .ok (.iload 4, 2) := gd_10 db67h_4
theorem d_L_2028 : decode code 2028 = .ok (.iconst 3, 1) := gd_11 db67h_4
theorem d_L_2029 : decode code 2029 = .ok (.iadd, 1) := gd_12 db67h_4
theorem d_L_2030 : decode code 2030 = .ok (.iaload, 1) := gd_13 db67h_4
theorem d_L_2031 : decode code 2031 = .ok (.invokevirtual 219, 3) := gd_14 db67h_4
theorem d_L_2034 : decode code 2034 = .ok (.pop, 1) := gd_15 db67h_4
theorem d_L_2035 : decode code 2035 = .ok (.aload_n 2, 1) := gd_16 db67h_4
theorem d_L_2036 : decode code 2036 = .ok (.aload_n 0, 1) := gd_17 db67h_4
theorem d_L_2037 : decode code 2037 = .ok (.iload 4, 2) := gd_18 db67h_4
theorem d_L_2039 : decode code 2039 = .ok (.iconst 1, 1) := gd_19 db67h_4
theorem d_L_2040 : decode code 2040 = .ok (.iadd, 1) := gd_20 db67h_4
theorem d_L_2041 : decode code 2041 = .ok (.iaload, 1) := gd_21 db67h_4
theorem d_L_2042 : decode code 2042 = .ok (.aload_n 0, 1) := gd_22 db67h_4
theorem d_L_2043 : decode code 2043 = .ok (.iload 4, 2) := gd_23 db67h_4
theorem db67h_5 : Ad_ code [(2045, .iconst 2, 1), (2046, .iadd, 1), (2047, .iaload, 1), (2048, .aload_n 0, 1), (2049, .iload 4, 2), (2051, .iconst 3, 1), (2052, .iadd, 1), (2053, .iaload, 1), (2054, .invokevirtual 222, 3), (2057, .pop, 1), (2058, .goto 348, 3), (2061, .aload_n 1, 1), (2062, .aload_n 0, 1), (2063, .iload 4, 2), (2065, .iconst 1, 1), (2066, .iadd, 1), (2067, .iaload, 1), (2068, .aload_n 0, 1), (2069, .iload 4, 2), (2071, .iconst 2, 1), (2072, .iadd, 1), (2073, .iaload, 1), (2074, .aload_n 0, 1), (2075, .iload 4, 2)] := bch_ok code _ 2045 (by decide +kernel)
theorem d_L_2045 : decode code 2045 = .ok (.iconst 2, 1) := gd_0 db67h_5
theorem d_L_2046 : decode code 2046 = .ok (.iadd, 1) := gd_1 db67h_5
theorem d_L_2047 : decode code 2047 = .ok (.iaload, 1) := gd_2 db67h_5
theorem d_L_2048 : decode code 2048 = .ok (.aload_n 0, 1) := gd_3 db67h_5
theorem d_L_2049 : decode code 2049 = .ok (.iload 4, 2) := gd_4 db67h_5
theorem d_L_2051 : decode code 2051 = .ok (.iconst 3, 1) := gd_5 db67h_5
theorem d_L_2052 : decode code 2052 = .ok (.iadd, 1) := gd_6 db67h_5
theorem d_L_2053 : decode code 2053 = .ok (.iaload, 1) := gd_7 db67h_5
theorem d_L_2054 : decode code 2054 = .ok (.invokevirtual 222, 3) := gd_8 db67h_5
theorem d_L_2057 : decode code 2057 = .ok (.pop, 1) := gd_9 db67h_5
theorem d_L_2058 : decode code 2058 = .ok (.goto 348, 3) := gd_10 db67h_5
theorem d_L_2061 : decode code 2061 = .ok (.aload_n 1, 1) := gd_11 db67h_5
theorem d_L_2062 : decode code 2062 = .ok (.aload_n 0, 1) := gd_12 db67h_5
theorem d_L_2063 : decode code 2063 = .ok (.iload 4, 2) := gd_13 db67h_5
theorem d_L_2065 : decode code 2065 = .ok (.iconst 1, 1) := gd_14 db67h_5
theorem d_L_2066 : decode code 2066 = .ok (.iadd, 1) := gd_15 db67h_5
theorem d_L_2067 : decode code 2067 = .ok (.iaload, 1) := gd_16 db67h_5
theorem d_L_2068 : decode code 2068 = .ok (.aload_n 0, 1) := gd_17 db67h_5
theorem d_L_2069 : decode code 2069 = .ok (.iload 4, 2) := gd_18 db67h_5
theorem d_L_2071 : decode code 2071 = .ok (.iconst 2, 1) := gd_19 db67h_5
theorem d_L_2072 : decode code 2072 = .ok (.iadd, 1) := gd_20 db67h_5
theorem d_L_2073 : decode code 2073 = .ok (.iaload, 1) := gd_21 db67h_5
theorem d_L_2074 : decode code 2074 = .ok (.aload_n 0, 1) := gd_22 db67h_5
theorem d_L_2075 : decode code 2075 = .ok (.iload 4, 2) := gd_23 db67h_5
theorem db67h_6 : Ad_ code [(2077, .iconst 3, 1), (2078, .iadd, 1), (2079, .iaload, 1), (2080, .invokevirtual 223, 3), (2083, .pop, 1), (2084, .aload_n 2, 1), (2085, .aload_n 0, 1), (2086, .iload 4, 2), (2088, .iconst 1, 1), (2089, .iadd, 1), (2090, .iaload, 1), (2091, .aload_n 0, 1), (2092, .iload 4, 2), (2094, .iconst 2, 1), (2095, .iadd, 1), (2096, .iaload, 1), (2097, .aload_n 0, 1), (2098, .iload 4, 2), (2100, .iconst 3, 1), (2101, .iadd, 1), (2102, .iaload, 1), (2103, .invokevirtual 226, 3), (2106, .pop, 1), (2107, .goto 299, 3)] := bch_ok code _ 2077 (by decide +kernel)
theorem d_L_2077 : decode code 2077 = .ok (.iconst 3, 1) := gd_0 db67h_6
theorem d_L_2078 : decode code 2078 = .ok (.iadd, 1) := gd_1 db67h_6
theorem d_L_2079 : decode code 2079 = .ok (.iaload, 1) := gd_2 db67h_6
theorem d_L_2080 : decode code 2080 = .ok (.invokevirtual 223, 3) := gd_3 db67h_6
theorem d_L_2083 : decode code 2083 = .ok (.pop, 1) := gd_4 db67h_6
theorem d_L_2084 : decode code 2084 = .ok (.aload_n 2, 1) := gd_5 db67h_6
theorem d_L_2085 : decode code 2085 = .ok (.aload_n 0, 1) := gd_6 db67h_6
theorem d_L_2086 : decode code 2086 = .ok (.iload 4, 2) := gd_7 db67h_6
theorem d_L_2088 : decode code 2088 = .ok (.iconst 1, 1) := gd_8 db67h_6
theorem d_L_2089 : decode code 2089 = .ok (.iadd, 1) := gd_9 db67h_6
theorem d_L_2090 : decode code 2090 = .ok (.iaload, 1) := gd_10 db67h_6
theorem d_L_2091 : decode code 2091 = .ok (.aload_n 0, 1) := gd_11 db67h_6
theorem d_L_2092 : decode code 2092 = .ok (.iload 4, 2) := gd_12 db67h_6
theorem d_L_2094 : decode code 2094 = .ok (.iconst 2, 1) := gd_13 db67h_6
theorem d_L_2095 : decode code 2095 = .ok (.iadd, 1) := gd_14 db67h_6
theorem d_L_2096 : decode code 2096 = .ok (.iaload, 1) := gd_15 db67h_6
theorem d_L_2097 : decode code 2097 = .ok (.aload_n 0, 1) := gd_16 db67h_6
theorem d_L_2098 : decode code 2098 = .ok (.iload 4, 2) := gd_17 db67h_6
theorem d_L_2100 : decode code 2100 = .ok (.iconst 3, 1) := gd_18 db67h_6
theorem d_L_2101 : decode code 2101 = .ok (.iadd, 1) := gd_19 db67h_6
theorem d_L_2102 : decode code 2102 = .ok (.iaload, 1) := gd_20 db67h_6
theorem d_L_2103 : decode code 2103 = .ok (.invokevirtual 226, 3) := gd_21 db67h_6
theorem d_L_2106 : decode code 2106 = .ok (.pop, 1) := gd_22 db67h_6
theorem d_L_2107 : decode code 2107 = .ok (.goto 299, 3) := gd_23 db67h_6
theorem db67h_7 : Ad_ code [(2110, .aload_n 1, 1), (2111, .aload_n 0, 1), (2112, .iload 4, 2), (2114, .iconst 1, 1), (2115, .iadd, 1), (2116, .iaload, 1), (2117, .aload_n 0, 1), (2118, .iload 4, 2), (2120, .iconst 2, 1), (2121, .iadd, 1), (2122, .iaload, 1), (2123, .aload_n 0, 1), (2124, .iload 4, 2), (2126, .iconst 3, 1), (2127, .iadd, 1), (2128, .iaload, 1), (2129, .invokevirtual 227, 3), (2132, .pop, 1), (2133, .aload_n 2, 1), (2134, .aload_n 0, 1), (2135, .iload 4, 2), (2137, .iconst 1, 1), (2138, .iadd, 1), (2139, .iaload, 1)] := bch_ok code _ 2110 (by decide +kernel)
theorem d_L_2110 : decode code 2110 = .ok (.aload_n 1, 1) := gd_0 db67h_7
theorem d_L_2111 : decode code 2111 = .ok (.aload_n 0, 1) := gd_1 db67h_7
theorem d_L_2112 : decode code 2112 = .ok (.iload 4, 2) := gd_2 db67h_7
theorem d_L_2114 : decode code 2114 = .ok (.iconst 1, 1) := gd_3 db67h_7
theorem d_L_2115 : decode code 2115 = .ok (.iadd, 1) := gd_4 db67h_7
theorem d_L_2116 : decode code 2116 = .ok (.iaload, 1) := gd_5 db67h_7
theorem d_L_2117 : decode code 2117 = .ok (.aload_n 0, 1) := gd_6 db67h_7
theorem d_L_2118 : decode code 2118 = .ok (.iload 4, 2) := gd_7 db67h_7
theorem d_L_2120 : decode code 2120 = .ok (.iconst 2, 1) := gd_8 db67h_7
theorem d_L_2121 : decode code 2121 = .ok (.iadd, 1) := gd_9 db67h_7
theorem d_L_2122 : decode code 2122 = .ok (.iaload, 1) := gd_10 db67h_7
theorem d_L_2123 : decode code 2123 = .ok (.aload_n 0, 1) := gd_11 db67h_7
theorem d_L_2124 : decode code 2124 = .ok (.iload 4, 2) := gd_12 db67h_7
theorem d_L_2126 : decode code 2126 = .ok (.iconst 3, 1) := gd_13 db67h_7
theorem d_L_2127 : decode code 2127 = .ok (.iadd, 1) := gd_14 db67h_7
theorem d_L_2128 : decode code 2128 = .ok (.iaload, 1) := gd_15 db67h_7
theorem d_L_2129 : decode code 2129 = .ok (.invokevirtual 227, 3) := gd_16 db67h_7
theorem d_L_2132 : decode code 2132 = .ok (.pop, 1) := gd_17 db67h_7
theorem d_L_2133 : decode code 2133 = .ok (.aload_n 2, 1) := gd_18 db67h_7
theorem d_L_2134 : decode code 2134 = .ok (.aload_n 0, 1) := gd_19 db67h_7
theorem d_L_2135 : decode code 2135 = .ok (.iload 4, 2) := gd_20 db67h_7
theorem d_L_2137 : decode code 2137 = .ok (.iconst 1, 1) := gd_21 db67h_7
theorem d_L_2138 : decode code 2138 = .ok (.iadd, 1) := gd_22 db67h_7
theorem d_L_2139 : decode code 2139 = .ok (.iaload, 1) := gd_23 db67h_7
theorem db67h_8 : Ad_ code [(2140, .aload_n 0, 1), (2141, .iload 4, 2), (2143, .iconst 2, 1), (2144, .iadd, 1), (2145, .iaload, 1), (2146, .aload_n 0, 1), (2147, .iload 4, 2), (2149, .iconst 3, 1), (2150, .iadd, 1), (2151, .iaload, 1), (2152, .invokevirtual 230, 3), (2155, .pop, 1), (2156, .goto 250, 3), (2159, .aload_n 1, 1), (2160, .invokevirtual 231, 3), (2163, .pop, 1), (2164, .aload_n 2, 1), (2165, .invokevirtual 234, 3), (2168, .pop, 1), (2169, .goto 237, 3), (2172, .aload_n 1, 1), (2173, .aload_n 0, 1), (2174, .iload 4, 2), (2176, .iconst 1, 1)] := bch_ok code _ 2140 (by decide +kernel)
theorem d_L_2140 : decode code 2140 = .ok (.aload_n 0, 1) := gd_0 db67h_8
theorem d_L_2141 : decode code 2141 = .ok (.iload 4, 2) := gd_1 db67h_8
theorem d_L_2143 : decode code 2143 = .ok (.iconst 2, 1) := gd_2 db67h_8
theorem d_L_2144 : decode code 2144 = .ok (.iadd, 1) := gd_3 db67h_8
theorem d_L_2145 : decode code 2145 = .ok (.iaload, 1) := gd_4 db67h_8
theorem d_L_2146 : decode code 2146 = .ok (.aload_n 0, 1) := gd_5 db67h_8
theorem d_L_2147 : decode code 2147 = .ok (.iload 4, 2) := gd_6 db67h_8
theorem d_L_2149 : decode code 2149 = .ok (.iconst 3, 1) := gd_7 db67h_8
theorem d_L_2150 : decode code 2150 = .ok (.iadd, 1) := gd_8 db67h_8
theorem d_L_2151 : decode code 2151 = .ok (.iaload, 1) := gd_9 db67h_8
theorem d_L_2152 : decode code 2152 = .ok (.invokevirtual 230, 3) := gd_10 db67h_8
theorem d_L_2155 : decode code 2155 = .ok (.pop, 1) := gd_11 db67h_8
theorem d_L_2156 : decode code 2156 = .ok (.goto 250, 3) := gd_12 db67h_8
theorem d_L_2159 : decode code 2159 = .ok (.aload_n 1, 1) := gd_13 db67h_8
theorem d_L_2160 : decode code 2160 = .ok (.invokevirtual 231, 3) := gd_14 db67h_8
theorem d_L_2163 : decode code 2163 = .ok (.pop, 1) := gd_15 db67h_8
theorem d_L_2164 : decode code 2164 = .ok (.aload_n 2, 1) := gd_16 db67h_8
theorem d_L_2165 : decode code 2165 = .ok (.invokevirtual 234, 3) := gd_17 db67h_8
theorem d_L_2168 : decode code 2168 = .ok (.pop, 1) := gd_18 db67h_8
theorem d_L_2169 : decode code 2169 = .ok (.goto 237, 3) := gd_19 db67h_8
theorem d_L_2172 : decode code 2172 = .ok (.aload_n 1, 1) := gd_20 db67h_8
theorem d_L_2173 : decode code 2173 = .ok (.aload_n 0, 1) := gd_21 db67h_8
theorem d_L_2174 : decode code 2174 = .ok (.iload 4, 2) := gd_22 db67h_8
theorem d_L_2176 : decode code 2176 = .ok (.iconst 1, 1) := gd_23 db67h_8
theorem db67h_9 : Ad_ code [(2177, .iadd, 1), (2178, .iaload, 1), (2179, .aload_n 0, 1), (2180, .iload 4, 2), (2182, .iconst 2, 1), (2183, .iadd, 1), (2184, .iaload, 1), (2185, .invokevirtual 235, 3), (2188, .pop, 1), (2189, .aload_n 2, 1), (2190, .aload_n 0, 1), (2191, .iload 4, 2), (2193, .iconst 1, 1), (2194, .iadd, 1), (2195, .iaload, 1), (2196, .aload_n 0, 1), (2197, .iload 4, 2), (2199, .iconst 2, 1), (2200, .iadd, 1), (2201, .iaload, 1), (2202, .invokevirtual 238, 3), (2205, .pop, 1), (2206, .goto 200, 3), (2209, .aload_n 1, 1)] := bch_ok code _ 2177 (by decide +kernel)
theorem d_L_2177 : decode code 2177 = .ok (.iadd, 1) := gd_0 db67h_9
theorem d_L_2178 : decode code 2178 = .ok (.iaload, 1) := gd_1 db67h_9
theorem d_L_2179 : decode code 2179 = .ok (.aload_n 0, 1) := gd_2 db67h_9
theorem d_L_2180 : decode code 2180 = .ok (.iload 4, 2) := gd_3 db67h_9
theorem d_L_2182 : decode code 2182 = .ok (.iconst 2, 1) := gd_4 db67h_9
theorem d_L_2183 : decode code 2183 = .ok (.iadd, 1) := gd_5 db67h_9
theorem d_L_2184 : decode code 2184 = .ok (.iaload, 1) := gd_6 db67h_9
theorem d_L_2185 : decode code 2185 = .ok (.invokevirtual 235, 3) := gd_7 db67h_9
theorem d_L_2188 : decode code 2188 = .ok (.pop, 1) := gd_8 db67h_9
theorem d_L_2189 : decode code 2189 = .ok (.aload_n 2, 1) := gd_9 db67h_9
theorem d_L_2190 : decode code 2190 = .ok (.aload_n 0, 1) := gd_10 db67h_9
theorem d_L_2191 : decode code 2191 = .ok (.iload 4, 2) := gd_11 db67h_9
theorem d_L_2193 : decode code 2193 = .ok (.iconst 1, 1) := gd_12 db67h_9
theorem d_L_2194 : decode code 2194 = .ok (.iadd, 1) := gd_13 db67h_9
theorem d_L_2195 : decode code 2195 = .ok (.iaload, 1) := gd_14 db67h_9
theorem d_L_2196 : decode code 2196 = .ok (.aload_n 0, 1) := gd_15 db67h_9
theorem d_L_2197 : decode code 2197 = .ok (.iload 4, 2) := gd_16 db67h_9
theorem d_L_2199 : decode code 2199 = .ok (.iconst 2, 1) := gd_17 db67h_9
theorem d_L_2200 : decode code 2200 = .ok (.iadd, 1) := gd_18 db67h_9
theorem d_L_2201 : decode code 2201 = .ok (.iaload, 1) := gd_19 db67h_9
theorem d_L_2202 : decode code 2202 = .ok (.invokevirtual 238, 3) := gd_20 db67h_9
theorem d_L_2205 : decode code 2205 = .ok (.pop, 1) := gd_21 db67h_9
theorem d_L_2206 : decode code 2206 = .ok (.goto 200, 3) := gd_22 db67h_9
theorem d_L_2209 : decode code 2209 = .ok (.aload_n 1, 1) := gd_23 db67h_9
theorem db67h_10 : Ad_ code [(2210, .aload_n 0, 1), (2211, .iload 4, 2), (2213, .iconst 1, 1), (2214, .iadd, 1), (2215, .iaload, 1), (2216, .aload_n 0, 1), (2217, .iload 4, 2), (2219, .iconst 2, 1), (2220, .iadd, 1), (2221, .iaload, 1), (2222, .aload_n 0, 1), (2223, .iload 4, 2), (2225, .iconst 3, 1), (2226, .iadd, 1), (2227, .iaload, 1), (2228, .invokevirtual 239, 3), (2231, .pop, 1), (2232, .aload_n 2, 1), (2233, .aload_n 0, 1), (2234, .iload 4, 2), (2236, .iconst 1, 1), (2237, .iadd, 1), (2238, .iaload, 1), (2239, .aload_n 0, 1)] := bch_ok code _ 2210 (by decide +kernel)
theorem d_L_2210 : decode code 2210 = .ok (.aload_n 0, 1) := gd_0 db67h_10
theorem d_L_2211 : decode code 2211 = .ok (.iload 4, 2) := gd_1 db67h_10
theorem d_L_2213 : decode code 2213 = .ok (.iconst 1, 1) := gd_2 db67h_10
theorem d_L_2214 : decode code 2214 = .ok (.iadd, 1) := gd_3 db67h_10
theorem d_L_2215 : decode code 2215 = .ok (.iaload, 1) := gd_4 db67h_10
theorem d_L_2216 : decode code 2216 = .ok (.aload_n 0, 1) := gd_5 db67h_10
theorem d_L_2217 : decode code 2217 = .ok (.iload 4, 2) := gd_6 db67h_10
theorem d_L_2219 : decode code 2219 = .ok (.iconst 2, 1) := gd_7 db67h_10
theorem d_L_2220 : decode code 2220 = .ok (.iadd, 1) := gd_8 db67h_10
theorem d_L_2221 : decode code 2221 = .ok (.iaload, 1) := gd_9 db67h_10
theorem d_L_2222 : decode code 2222 = .ok (.aload_n 0, 1) := gd_10 db67h_10
theorem d_L_2223 : decode code 2223 = .ok (.iload 4, 2) := gd_11 db67h_10
theorem d_L_2225 : decode code 2225 = .ok (.iconst 3, 1) := gd_12 db67h_10
theorem d_L_2226 : decode code 2226 = .ok (.iadd, 1) := gd_13 db67h_10
theorem d_L_2227 : decode code 2227 = .ok (.iaload, 1) := gd_14 db67h_10
theorem d_L_2228 : decode code 2228 = .ok (.invokevirtual 239, 3) := gd_15 db67h_10
theorem d_L_2231 : decode code 2231 = .ok (.pop, 1) := gd_16 db67h_10
theorem d_L_2232 : decode code 2232 = .ok (.aload_n 2, 1) := gd_17 db67h_10
theorem d_L_2233 : decode code 2233 = .ok (.aload_n 0, 1) := gd_18 db67h_10
theorem d_L_2234 : decode code 2234 = .ok (.iload 4, 2) := gd_19 db67h_10
theorem d_L_2236 : decode code 2236 = .ok (.iconst 1, 1) := gd_20 db67h_10
theorem d_L_2237 : decode code 2237 = .ok (.iadd, 1) := gd_21 db67h_10
theorem d_L_2238 : decode code 2238 = .ok (.iaload, 1) := gd_22 db67h_10
theorem d_L_2239 : decode code 2239 = .ok (.aload_n 0, 1) := gd_23 db67h_10
theorem db67h_11 : Ad_ code [(2240, .iload 4, 2), (2242, .iconst 2, 1), (2243, .iadd, 1), (2244, .iaload, 1), (2245, .aload_n 0, 1), (2246, .iload 4, 2), (2248, .iconst 3, 1), (2249, .iadd, 1), (2250, .iaload, 1), (2251, .invokevirtual 242, 3), (2254, .pop, 1), (2255, .goto 151, 3), (2258, .aload_n 1, 1), (2259, .aload_n 0, 1), (2260, .iload 4, 2), (2262, .iconst 1, 1), (2263, .iadd, 1), (2264, .iaload, 1), (2265, .invokevirtual 243, 3), (2268, .pop, 1), (2269, .aload_n 2, 1), (2270, .aload_n 0, 1), (2271, .iload 4, 2), (2273, .iconst 1, 1)] := bch_ok code _ 2240 (by decide +kernel)
theorem d_L_2240 : decode code 2240 = .ok (.iload 4, 2) := gd_0 db67h_11
theorem d_L_2242 : decode code 2242 = .ok (.iconst 2, 1) := gd_1 db67h_11
theorem d_L_2243 : decode code 2243 = .ok (.iadd, 1) := gd_2 db67h_11
theorem d_L_2244 : decode code 2244 = .ok (.iaload, 1) := gd_3 db67h_11
theorem d_L_2245 : decode code 2245 = .ok (.aload_n 0, 1) := gd_4 db67h_11
theorem d_L_2246 : decode code 2246 = .ok (.iload 4, 2) := gd_5 db67h_11
theorem d_L_2248 : decode code 2248 = .ok (.iconst 3, 1) := gd_6 db67h_11
theorem d_L_2249 : decode code 2249 = .ok (.iadd, 1) := gd_7 db67h_11
theorem d_L_2250 : decode code 2250 = .ok (.iaload, 1) := gd_8 db67h_11
theorem d_L_2251 : decode code 2251 = .ok (.invokevirtual 242, 3) := gd_9 db67h_11
theorem d_L_2254 : decode code 2254 = .ok (.pop, 1) := gd_10 db67h_11
theorem d_L_2255 : decode code 2255 = .ok (.goto 151, 3) := gd_11 db67h_11
theorem d_L_2258 : decode code 2258 = .ok (.aload_n 1, 1) := gd_12 db67h_11
theorem d_L_2259 : decode code 2259 = .ok (.aload_n 0, 1) := gd_13 db67h_11
theorem d_L_2260 : decode code 2260 = .ok (.iload 4, 2) := gd_14 db67h_11
theorem d_L_2262 : decode code 2262 = .ok (.iconst 1, 1) := gd_15 db67h_11
theorem d_L_2263 : decode code 2263 = .ok (.iadd, 1) := gd_16 db67h_11
theorem d_L_2264 : decode code 2264 = .ok (.iaload, 1) := gd_17 db67h_11
theorem d_L_2265 : decode code 2265 = .ok (.invokevirtual 243, 3) := gd_18 db67h_11
theorem d_L_2268 : decode code 2268 = .ok (.pop, 1) := gd_19 db67h_11
theorem d_L_2269 : decode code 2269 = .ok (.aload_n 2, 1) := gd_20 db67h_11
theorem d_L_2270 : decode code 2270 = .ok (.aload_n 0, 1) := gd_21 db67h_11
theorem d_L_2271 : decode code 2271 = .ok (.iload 4, 2) := gd_22 db67h_11
theorem d_L_2273 : decode code 2273 = .ok (.iconst 1, 1) := gd_23 db67h_11
theorem db67h_12 : Ad_ code [(2274, .iadd, 1), (2275, .iaload, 1), (2276, .invokevirtual 246, 3), (2279, .pop, 1), (2280, .goto 126, 3), (2283, .aload_n 1, 1), (2284, .aload_n 0, 1), (2285, .iload 4, 2), (2287, .iconst 1, 1), (2288, .iadd, 1), (2289, .iaload, 1), (2290, .aload_n 0, 1), (2291, .iload 4, 2), (2293, .iconst 2, 1), (2294, .iadd, 1), (2295, .iaload, 1), (2296, .invokevirtual 247, 3), (2299, .pop, 1), (2300, .aload_n 2, 1), (2301, .aload_n 0, 1), (2302, .iload 4, 2), (2304, .iconst 1, 1), (2305, .iadd, 1), (2306, .iaload, 1)] := bch_ok code _ 2274 (by decide +kernel)
theorem d_L_2274 : decode code 2274 = .ok (.iadd, 1) := gd_0 db67h_12
theorem d_L_2275 : decode code 2275 = .ok (.iaload, 1) := gd_1 db67h_12
theorem d_L_2276 : decode code 2276 = .ok (.invokevirtual 246, 3) := gd_2 db67h_12
theorem d_L_2279 : decode code 2279 = .ok (.pop, 1) := gd_3 db67h_12
theorem d_L_2280 : decode code 2280 = .ok (.goto 126, 3) := gd_4 db67h_12
theorem d_L_2283 : decode code 2283 = .ok (.aload_n 1, 1) := gd_5 db67h_12
theorem d_L_2284 : decode code 2284 = .ok (.aload_n 0, 1) := gd_6 db67h_12
theorem d_L_2285 : decode code 2285 = .ok (.iload 4, 2) := gd_7 db67h_12
theorem d_L_2287 : decode code 2287 = .ok (.iconst 1, 1) := gd_8 db67h_12
theorem d_L_2288 : decode code 2288 = .ok (.iadd, 1) := gd_9 db67h_12
theorem d_L_2289 : decode code 2289 = .ok (.iaload, 1) := gd_10 db67h_12
theorem d_L_2290 : decode code 2290 = .ok (.aload_n 0, 1) := gd_11 db67h_12
theorem d_L_2291 : decode code 2291 = .ok (.iload 4, 2) := gd_12 db67h_12
theorem d_L_2293 : decode code 2293 = .ok (.iconst 2, 1) := gd_13 db67h_12
theorem d_L_2294 : decode code 2294 = .ok (.iadd, 1) := gd_14 db67h_12
theorem d_L_2295 : decode code 2295 = .ok (.iaload, 1) := gd_15 db67h_12
theorem d_L_2296 : decode code 2296 = .ok (.invokevirtual 247, 3) := gd_16 db67h_12
theorem d_L_2299 : decode code 2299 = .ok (.pop, 1) := gd_17 db67h_12
theorem d_L_2300 : decode code 2300 = .ok (.aload_n 2, 1) := gd_18 db67h_12
theorem d_L_2301 : decode code 2301 = .ok (.aload_n 0, 1) := gd_19 db67h_12
theorem d_L_2302 : decode code 2302 = .ok (.iload 4, 2) := gd_20 db67h_12
theorem d_L_2304 : decode code 2304 = .ok (.iconst 1, 1) := gd_21 db67h_12
theorem d_L_2305 : decode code 2305 = .ok (.iadd, 1) := gd_22 db67h_12
theorem d_L_2306 : decode code 2306 = .ok (.iaload, 1) := gd_23 db67h_12
theorem db67h_13 : Ad_ code [(2307, .aload_n 0, 1), (2308, .iload 4, 2), (2310, .iconst 2, 1), (2311, .iadd, 1), (2312, .iaload, 1), (2313, .invokevirtual 250, 3), (2316, .pop, 1), (2317, .goto 89, 3), (2320, .aload_n 1, 1), (2321, .aload_n 0, 1), (2322, .iload 4, 2), (2324, .iconst 1, 1), (2325, .iadd, 1), (2326, .iaload, 1), (2327, .aload_n 0, 1), (2328, .iload 4, 2), (2330, .iconst 2, 1), (2331, .iadd, 1), (2332, .iaload, 1), (2333, .aload_n 0, 1), (2334, .iload 4, 2), (2336, .iconst 3, 1), (2337, .iadd, 1), (2338, .iaload, 1)] := bch_ok code _ 2307 (by decide +kernel)
theorem d_L_2307 : decode code 2307 = .ok (.aload_n 0, 1) := gd_0 db67h_13
theorem d_L_2308 : decode code 2308 = .ok (.iload 4, 2) := gd_1 db67h_13
theorem d_L_2310 : decode code 2310 = .ok (.iconst 2, 1) := gd_2 db67h_13
theorem d_L_2311 : decode code 2311 = .ok (.iadd, 1) := gd_3 db67h_13
theorem d_L_2312 : decode code 2312 = .ok (.iaload, 1) := gd_4 db67h_13
theorem d_L_2313 : decode code 2313 = .ok (.invokevirtual 250, 3) := gd_5 db67h_13
theorem d_L_2316 : decode code 2316 = .ok (.pop, 1) := gd_6 db67h_13
theorem d_L_2317 : decode code 2317 = .ok (.goto 89, 3) := gd_7 db67h_13
theorem d_L_2320 : decode code 2320 = .ok (.aload_n 1, 1) := gd_8 db67h_13
theorem d_L_2321 : decode code 2321 = .ok (.aload_n 0, 1) := gd_9 db67h_13
theorem d_L_2322 : decode code 2322 = .ok (.iload 4, 2) := gd_10 db67h_13
theorem d_L_2324 : decode code 2324 = .ok (.iconst 1, 1) := gd_11 db67h_13
theorem d_L_2325 : decode code 2325 = .ok (.iadd, 1) := gd_12 db67h_13
theorem d_L_2326 : decode code 2326 = .ok (.iaload, 1) := gd_13 db67h_13
theorem d_L_2327 : decode code 2327 = .ok (.aload_n 0, 1) := gd_14 db67h_13
theorem d_L_2328 : decode code 2328 = .ok (.iload 4, 2) := gd_15 db67h_13
theorem d_L_2330 : decode code 2330 = .ok (.iconst 2, 1) := gd_16 db67h_13
theorem d_L_2331 : decode code 2331 = .ok (.iadd, 1) := gd_17 db67h_13
theorem d_L_2332 : decode code 2332 = .ok (.iaload, 1) := gd_18 db67h_13
theorem d_L_2333 : decode code 2333 = .ok (.aload_n 0, 1) := gd_19 db67h_13
theorem d_L_2334 : decode code 2334 = .ok (.iload 4, 2) := gd_20 db67h_13
theorem d_L_2336 : decode code 2336 = .ok (.iconst 3, 1) := gd_21 db67h_13
theorem d_L_2337 : decode code 2337 = .ok (.iadd, 1) := gd_22 db67h_13
theorem d_L_2338 : decode code 2338 = .ok (.iaload, 1) := gd_23 db67h_13
theorem db67h_14 : Ad_ code [(2339, .aload_n 0, 1), (2340, .iload 4, 2), (2342, .iconst 4, 1), (2343, .iadd, 1), (2344, .iaload, 1), (2345, .invokevirtual 251, 3), (2348, .pop, 1), (2349, .aload_n 2, 1), (2350, .aload_n 0, 1), (2351, .iload 4, 2), (2353, .iconst 1, 1), (2354, .iadd, 1), (2355, .iaload, 1), (2356, .aload_n 0, 1), (2357, .iload 4, 2), (2359, .iconst 2, 1), (2360, .iadd, 1), (2361, .iaload, 1), (2362, .aload_n 0, 1), (2363, .iload 4, 2), (2365, .iconst 3, 1), (2366, .iadd, 1), (2367, .iaload, 1), (2368, .aload_n 0, 1)] := bch_ok code _ 2339 (by decide +kernel)
theorem d_L_2339 : decode code 2339 = .ok (.aload_n 0, 1) := gd_0 db67h_14
theorem d_L_2340 : decode code 2340 = .ok (.iload 4, 2) := gd_1 db67h_14
theorem d_L_2342 : decode code 2342 = .ok (.iconst 4, 1) := gd_2 db67h_14
theorem d_L_2343 : decode code 2343 = .ok (.iadd, 1) := gd_3 db67h_14
theorem d_L_2344 : decode code 2344 = .ok (.iaload, 1) := gd_4 db67h_14
theorem d_L_2345 : decode code 2345 = .ok (.invokevirtual 251, 3) := gd_5 db67h_14
theorem d_L_2348 : decode code 2348 = .ok (.pop, 1) := gd_6 db67h_14
theorem d_L_2349 : decode code 2349 = .ok (.aload_n 2, 1) := gd_7 db67h_14
theorem d_L_2350 : decode code 2350 = .ok (.aload_n 0, 1) := gd_8 db67h_14
theorem d_L_2351 : decode code 2351 = .ok (.iload 4, 2) := gd_9 db67h_14
theorem d_L_2353 : decode code 2353 = .ok (.iconst 1, 1) := gd_10 db67h_14
theorem d_L_2354 : decode code 2354 = .ok (.iadd, 1) := gd_11 db67h_14
theorem d_L_2355 : decode code 2355 = .ok (.iaload, 1) := gd_12 db67h_14
theorem d_L_2356 : decode code 2356 = .ok (.aload_n 0, 1) := gd_13 db67h_14
theorem d_L_2357 : decode code 2357 = .ok (.iload 4, 2) := gd_14 db67h_14
theorem d_L_2359 : decode code 2359 = .ok (.iconst 2, 1) := gd_15 db67h_14
theorem d_L_2360 : decode code 2360 = .ok (.iadd, 1) := gd_16 db67h_14
theorem d_L_2361 : decode code 2361 = .ok (.iaload, 1) := gd_17 db67h_14
theorem d_L_2362 : decode code 2362 = .ok (.aload_n 0, 1) := gd_18 db67h_14
theorem d_L_2363 : decode code 2363 = .ok (.iload 4, 2) := gd_19 db67h_14
theorem d_L_2365 : decode code 2365 = .ok (.iconst 3, 1) := gd_20 db67h_14
theorem d_L_2366 : decode code 2366 = .ok (.iadd, 1) := gd_21 db67h_14
theorem d_L_2367 : decode code 2367 = .ok (.iaload, 1) := gd_22 db67h_14
theorem d_L_2368 : decode code 2368 = .ok (.aload_n 0, 1) := gd_23 db67h_14
theorem db67h_15 : Ad_ code [(2369, .iload 4, 2), (2371, .iconst 4, 1), (2372, .iadd, 1), (2373, .iaload, 1), (2374, .invokevirtual 255, 3), (2377, .pop, 1), (2378, .goto 28, 3), (2381, .aload_n 1, 1), (2382, .aload_n 0, 1), (2383, .iload 4, 2), (2385, .iconst 1, 1), (2386, .iadd, 1), (2387, .iaload, 1), (2388, .invokevirtual 256, 3), (2391, .pop, 1), (2392, .aload_n 2, 1), (2393, .aload_n 0, 1), (2394, .iload 4, 2), (2396, .iconst 1, 1), (2397, .iadd, 1), (2398, .iaload, 1), (2399, .invokevirtual 259, 3), (2402, .pop, 1), (2403, .goto 3, 3)] := bch_ok code _ 2369 (by decide +kernel)
theorem d_L_2369 : decode code 2369 = .ok (.iload 4, 2) := gd_0 db67h_15
theorem d_L_2371 : decode code 2371 = .ok (.iconst 4, 1) := gd_1 db67h_15
theorem d_L_2372 : decode code 2372 = .ok (.iadd, 1) := gd_2 db67h_15
theorem d_L_2373 : decode code 2373 = .ok (.iaload, 1) := gd_3 db67h_15
theorem d_L_2374 : decode code 2374 = .ok (.invokevirtual 255, 3) := gd_4 db67h_15
theorem d_L_2377 : decode code 2377 = .ok (.pop, 1) := gd_5 db67h_15
theorem d_L_2378 : decode code 2378 = .ok (.goto 28, 3) := gd_6 db67h_15
theorem d_L_2381 : decode code 2381 = .ok (.aload_n 1, 1) := gd_7 db67h_15
theorem d_L_2382 : decode code 2382 = .ok (.aload_n 0, 1) := gd_8 db67h_15
theorem d_L_2383 : decode code 2383 = .ok (.iload 4, 2) := gd_9 db67h_15
theorem d_L_2385 : decode code 2385 = .ok (.iconst 1, 1) := gd_10 db67h_15
theorem d_L_2386 : decode code 2386 = .ok (.iadd, 1) := gd_11 db67h_15
theorem d_L_2387 : decode code 2387 = .ok (.iaload, 1) := gd_12 db67h_15
theorem d_L_2388 : decode code 2388 = .ok (.invokevirtual 256, 3) := gd_13 db67h_15
theorem d_L_2391 : decode code 2391 = .ok (.pop, 1) := gd_14 db67h_15
theorem d_L_2392 : decode code 2392 = .ok (.aload_n 2, 1) := gd_15 db67h_15
theorem d_L_2393 : decode code 2393 = .ok (.aload_n 0, 1) := gd_16 db67h_15
theorem d_L_2394 : decode code 2394 = .ok (.iload 4, 2) := gd_17 db67h_15
theorem d_L_2396 : decode code 2396 = .ok (.iconst 1, 1) := gd_18 db67h_15
theorem d_L_2397 : decode code 2397 = .ok (.iadd, 1) := gd_19 db67h_15
theorem d_L_2398 : decode code 2398 = .ok (.iaload, 1) := gd_20 db67h_15
theorem d_L_2399 : decode code 2399 = .ok (.invokevirtual 259, 3) := gd_21 db67h_15
theorem d_L_2402 : decode code 2402 = .ok (.pop, 1) := gd_22 db67h_15
theorem d_L_2403 : decode code 2403 = .ok (.goto 3, 3) := gd_23 db67h_15
theorem db67h_16 : Ad_ code [(2406, .iinc 4 6, 3), (2409, .goto (-2386), 3), (2412, .iconst 1, 1), (2413, .ireturn, 1)] := bch_ok code _ 2406 (by decide +kernel)
theorem d_L_2406 : decode code 2406 = .ok (.iinc 4 6, 3) := gd_0 db67h_16
theorem d_L_2409 : decode code 2409 = .ok (.goto (-2386), 3) := gd_1 db67h_16
theorem d_L_2412 : decode code 2412 = .ok (.iconst 1, 1) := gd_2 db67h_16
theorem d_L_2413 : decode code 2413 = .ok (.ireturn, 1) := gd_3 db67h_16
end
