theorem db00h_0 : Ad_ prog_14_method_127_code [(263, .iastore, 1), (264, .aload_n 0, 1), (265, .getfield 120, 3), (268, .bipush 120, 2), (270, .iload 5, 2), (272, .iastore, 1), (273, .aload_n 0, 1), (274, .getfield 120, 3), (277, .bipush 116, 2), (279, .iload 6, 2), (281, .iastore, 1), (282, .aload_n 0, 1), (283, .getfield 120, 3), (286, .bipush 97, 2), (288, .iload 7, 2), (290, .iastore, 1), (291, .iconst 0, 1), (292, .sipush 10000, 3), (295, .aload_n 0, 1), (296, .iconst 1, 1), (297, .aload_n 0, 1), (298, .iconst 1, 1), (299, .iload_n 2, 1), (300, .iload_n 3, 1)] := bch_ok prog_14_method_127_code _ 263 (by decide +kernel)
theorem d_X12_payOf_263 : decode prog_14_method_127_code 263 = .ok (.iastore, 1) := gd_0 db00h_0
theorem d_X12_payOf_264 : decode prog_14_method_127_code 264 = .ok (.aload_n 0, 1) := gd_1 db00h_0
theorem d_X12_payOf_265 : decode prog_14_method_127_code 265 = .ok (.getfield 120, 3) := gd_2 db00h_0
theorem d_X12_payOf_268 : decode prog_14_method_127_code 268 = .ok (.bipush 120, 2) := gd_3 db00h_0
theorem d_X12_payOf_270 : decode prog_14_method_127_code 270 = .ok (.iload 5, 2) := gd_4 db00h_0
theorem d_X12_payOf_272 : decode prog_14_method_127_code 272 = .ok (.iastore, 1) := gd_5 db00h_0
theorem d_X12_payOf_273 : decode prog_14_method_127_code 273 = .ok (.aload_n 0, 1) := gd_6 db00h_0
theorem d_X12_payOf_274 : decode prog_14_method_127_code 274 = .ok (.getfield 120, 3) := gd_7 db00h_0
theorem d_X12_payOf_277 : decode prog_14_method_127_code 277 = .ok (.bipush 116, 2) := gd_8 db00h_0
theorem d_X12_payOf_279 : decode prog_14_method_127_code 279 = .ok (.iload 6, 2) := gd_9 db00h_0
theorem d_X12_payOf_281 : decode prog_14_method_127_code 281 = .ok (.iastore, 1) := gd_10 db00h_0
theorem d_X12_payOf_282 : decode prog_14_method_127_code 282 = .ok (.aload_n 0, 1) := gd_11 db00h_0
theorem d_X12_payOf_283 : decode prog_14_method_127_code 283 = .ok (.getfield 120, 3) := gd_12 db00h_0
theorem d_X12_payOf_286 : decode prog_14_method_127_code 286 = .ok (.bipush 97, 2) := gd_13 db00h_0
theorem d_X12_payOf_288 : decode prog_14_method_127_code 288 = .ok (.iload 7, 2) := gd_14 db00h_0
theorem d_X12_payOf_290 : decode prog_14_method_127_code 290 = .ok (.iastore, 1) := gd_15 db00h_0
theorem d_X12_payOf_291 : decode prog_14_method_127_code 291 = .ok (.iconst 0, 1) := gd_16 db00h_0
theorem d_X12_payOf_292 : decode prog_14_method_127_code 292 = .ok (.sipush 10000, 3) := gd_17 db00h_0
theorem d_X12_payOf_295 : decode prog_14_method_127_code 295 = .ok (.aload_n 0, 1) := gd_18 db00h_0
theorem d_X12_payOf_296 : decode prog_14_method_127_code 296 = .ok (.iconst 1, 1) := gd_19 db00h_0
theorem d_X12_payOf_297 : decode prog_14_method_127_code 297 = .ok (.aload_n 0, 1) := gd_20 db00h_0
theorem d_X12_payOf_298 : decode prog_14_method_127_code 298 = .ok (.iconst 1, 1) := gd_21 db00h_0
theorem d_X12_payOf_299 : decode prog_14_method_127_code 299 = .ok (.iload_n 2, 1) := gd_22 db00h_0
theorem d_X12_payOf_300 : decode prog_14_method_127_code 300 = .ok (.iload_n 3, 1) := gd_23 db00h_0
theorem db00h_1 : Ad_ prog_14_method_127_code [(301, .invokevirtual 471, 3), (304, .invokevirtual 585, 3), (307, .invokestatic 617, 3), (310, .invokestatic 560, 3), (313, .ireturn, 1)] := bch_ok prog_14_method_127_code _ 301 (by decide +kernel)
theorem d_X12_payOf_301 : decode prog_14_method_127_code 301 = .ok (.invokevirtual 471, 3) := gd_0 db00h_1
theorem d_X12_payOf_304 : decode prog_14_method_127_code 304 = .ok (.invokevirtual 585, 3) := gd_1 db00h_1
theorem d_X12_payOf_307 : decode prog_14_method_127_code 307 = .ok (.invokestatic 617, 3) := gd_2 db00h_1
theorem d_X12_payOf_310 : decode prog_14_method_127_code 310 = .ok (.invokestatic 560, 3) := gd_3 db00h_1
theorem d_X12_payOf_313 : decode prog_14_method_127_code 313 = .ok (.ireturn, 1) := gd_4 db00h_1
theorem db00h_2 : Ad_ prog_14_method_128_code [(0, .aload_n 0, 1), (1, .iload_n 1, 1), (2, .invokevirtual 345, 3), (5, .ifCond .eq 36, 3), (8, .aload_n 0, 1), (9, .iload_n 3, 1), (10, .invokevirtual 351, 3), (13, .ifCond .eq 28, 3), (16, .iload_n 2, 1), (17, .iconst 0, 1), (18, .iload_n 3, 1), (19, .sipush 1440, 3), (22, .idiv, 1), (23, .iconst 1, 1), (24, .isub, 1), (25, .invokestatic 323, 3), (28, .ifCond .eq 13, 3), (31, .aload_n 0, 1), (32, .iload_n 1, 1), (33, .iload_n 2, 1), (34, .iload_n 3, 1), (35, .invokevirtual 682, 3), (38, .goto 4, 3), (41, .iconst (-1), 1)] := bch_ok prog_14_method_128_code _ 0 (by decide +kernel)
theorem d_X12_paid_0 : decode prog_14_method_128_code 0 = .ok (.aload_n 0, 1) := gd_0 db00h_2
theorem d_X12_paid_1 : decode prog_14_method_128_code 1 = .ok (.iload_n 1, 1) := gd_1 db00h_2
theorem d_X12_paid_2 : decode prog_14_method_128_code 2 = .ok (.invokevirtual 345, 3) := gd_2 db00h_2
theorem d_X12_paid_5 : decode prog_14_method_128_code 5 = .ok (.ifCond .eq 36, 3) := gd_3 db00h_2
theorem d_X12_paid_8 : decode prog_14_method_128_code 8 = .ok (.aload_n 0, 1) := gd_4 db00h_2
theorem d_X12_paid_9 : decode prog_14_method_128_code 9 = .ok (.iload_n 3, 1) := gd_5 db00h_2
theorem d_X12_paid_10 : decode prog_14_method_128_code 10 = .ok (.invokevirtual 351, 3) := gd_6 db00h_2
theorem d_X12_paid_13 : decode prog_14_method_128_code 13 = .ok (.ifCond .eq 28, 3) := gd_7 db00h_2
theorem d_X12_paid_16 : decode prog_14_method_128_code 16 = .ok (.iload_n 2, 1) := gd_8 db00h_2
theorem d_X12_paid_17 : decode prog_14_method_128_code 17 = .ok (.iconst 0, 1) := gd_9 db00h_2
theorem d_X12_paid_18 : decode prog_14_method_128_code 18 = .ok (.iload_n 3, 1) := gd_10 db00h_2
theorem d_X12_paid_19 : decode prog_14_method_128_code 19 = .ok (.sipush 1440, 3) := gd_11 db00h_2
theorem d_X12_paid_22 : decode prog_14_method_128_code 22 = .ok (.idiv, 1) := gd_12 db00h_2
theorem d_X12_paid_23 : decode prog_14_method_128_code 23 = .ok (.iconst 1, 1) := gd_13 db00h_2
theorem d_X12_paid_24 : decode prog_14_method_128_code 24 = .ok (.isub, 1) := gd_14 db00h_2
theorem d_X12_paid_25 : decode prog_14_method_128_code 25 = .ok (.invokestatic 323, 3) := gd_15 db00h_2
theorem d_X12_paid_28 : decode prog_14_method_128_code 28 = .ok (.ifCond .eq 13, 3) := gd_16 db00h_2
theorem d_X12_paid_31 : decode prog_14_method_128_code 31 = .ok (.aload_n 0, 1) := gd_17 db00h_2
theorem d_X12_paid_32 : decode prog_14_method_128_code 32 = .ok (.iload_n 1, 1) := gd_18 db00h_2
theorem d_X12_paid_33 : decode prog_14_method_128_code 33 = .ok (.iload_n 2, 1) := gd_19 db00h_2
theorem d_X12_paid_34 : decode prog_14_method_128_code 34 = .ok (.iload_n 3, 1) := gd_20 db00h_2
theorem d_X12_paid_35 : decode prog_14_method_128_code 35 = .ok (.invokevirtual 682, 3) := gd_21 db00h_2
theorem d_X12_paid_38 : decode prog_14_method_128_code 38 = .ok (.goto 4, 3) := gd_22 db00h_2
theorem d_X12_paid_41 : decode prog_14_method_128_code 41 = .ok (.iconst (-1), 1) := gd_23 db00h_2
theorem d_X12_paid_42 : decode prog_14_method_128_code 42 = .ok (.ireturn, 1) := by decide +kernel
theorem db00h_3 : Ad_ prog_14_method_129_code [(0, .iconst 0, 1), (1, .istore_n 1, 1), (2, .iconst 0, 1), (3, .istore_n 2, 1), (4, .iload_n 2, 1), (5, .aload_n 0, 1), (6, .getfield 342, 3), (9, .sipush 1440, 3), (12, .idiv, 1), (13, .if_icmp .ge 57, 3), (16, .iconst 0, 1), (17, .istore_n 3, 1), (18, .iload_n 3, 1), (19, .aload_n 0, 1), (20, .getfield 339, 3), (23, .if_icmp .ge 41, 3), (26, .iload_n 1, 1), (27, .aload_n 0, 1), (28, .iload_n 3, 1), (29, .iload_n 2, 1), (30, .aload_n 0, 1), (31, .getfield 342, 3), (34, .invokevirtual 682, 3), (37, .aload_n 0, 1)] := bch_ok prog_14_method_129_code _ 0 (by decide +kernel)
theorem d_X12_book_0 : decode prog_14_method_129_code 0 = .ok (.iconst 0, 1) := gd_0 db00h_3
theorem d_X12_book_1 : decode prog_14_method_129_code 1 = .ok (.istore_n 1, 1) := gd_1 db00h_3
theorem d_X12_book_2 : decode prog_14_method_129_code 2 = .ok (.iconst 0, 1) := gd_2 db00h_3
theorem d_X12_book_3 : decode prog_14_method_129_code 3 = .ok (.istore_n 2, 1) := gd_3 db00h_3
theorem d_X12_book_4 : decode prog_14_method_129_code 4 = .ok (.iload_n 2, 1) := gd_4 db00h_3
theorem d_X12_book_5 : decode prog_14_method_129_code 5 = .ok (.aload_n 0, 1) := gd_5 db00h_3
theorem d_X12_book_6 : decode prog_14_method_129_code 6 = .ok (.getfield 342, 3) := gd_6 db00h_3
theorem d_X12_book_9 : decode prog_14_method_129_code 9 = .ok (.sipush 1440, 3) := gd_7 db00h_3
theorem d_X12_book_12 : decode prog_14_method_129_code 12 = .ok (.idiv, 1) := gd_8 db00h_3
theorem d_X12_book_13 : decode prog_14_method_129_code 13 = .ok (.if_icmp .ge 57, 3) := gd_9 db00h_3
theorem d_X12_book_16 : decode prog_14_method_129_code 16 = .ok (.iconst 0, 1) := gd_10 db00h_3
theorem d_X12_book_17 : decode prog_14_method_129_code 17 = .ok (.istore_n 3, 1) := gd_11 db00h_3
theorem d_X12_book_18 : decode prog_14_method_129_code 18 = .ok (.iload_n 3, 1) := gd_12 db00h_3
theorem d_X12_book_19 : decode prog_14_method_129_code 19 = .ok (.aload_n 0, 1) := gd_13 db00h_3
theorem d_X12_book_20 : decode prog_14_method_129_code 20 = .ok (.getfield 339, 3) := gd_14 db00h_3
theorem d_X12_book_23 : decode prog_14_method_129_code 23 = .ok (.if_icmp .ge 41, 3) := gd_15 db00h_3
theorem d_X12_book_26 : decode prog_14_method_129_code 26 = .ok (.iload_n 1, 1) := gd_16 db00h_3
theorem d_X12_book_27 : decode prog_14_method_129_code 27 = .ok (.aload_n 0, 1) := gd_17 db00h_3
theorem d_X12_book_28 : decode prog_14_method_129_code 28 = .ok (.iload_n 3, 1) := gd_18 db00h_3
theorem d_X12_book_29 : decode prog_14_method_129_code 29 = .ok (.iload_n 2, 1) := gd_19 db00h_3
theorem d_X12_book_30 : decode prog_14_method_129_code 30 = .ok (.aload_n 0, 1) := gd_20 db00h_3
theorem d_X12_book_31 : decode prog_14_method_129_code 31 = .ok (.getfield 342, 3) := gd_21 db00h_3
theorem d_X12_book_34 : decode prog_14_method_129_code 34 = .ok (.invokevirtual 682, 3) := gd_22 db00h_3
theorem d_X12_book_37 : decode prog_14_method_129_code 37 = .ok (.aload_n 0, 1) := gd_23 db00h_3
theorem db00h_4 : Ad_ prog_14_method_129_code [(38, .getfield 296, 3), (41, .bipush 31, 2), (43, .iload_n 3, 1), (44, .imul, 1), (45, .iload_n 2, 1), (46, .iadd, 1), (47, .iaload, 1), (48, .if_icmp .eq 7, 3), (51, .iconst 1, 1), (52, .goto 4, 3), (55, .iconst 0, 1), (56, .iadd, 1), (57, .istore_n 1, 1), (58, .iinc 3 1, 3), (61, .goto (-43), 3), (64, .iinc 2 1, 3), (67, .goto (-63), 3), (70, .aload_n 0, 1), (71, .getfield 685, 3), (74, .iload_n 1, 1), (75, .iadd, 1), (76, .sipush 600, 3), (79, .if_icmp .le 5, 3), (82, .iconst (-1), 1)] := bch_ok prog_14_method_129_code _ 38 (by decide +kernel)
theorem d_X12_book_38 : decode prog_14_method_129_code 38 = .ok (.getfield 296, 3) := gd_0 db00h_4
theorem d_X12_book_41 : decode prog_14_method_129_code 41 = .ok (.bipush 31, 2) := gd_1 db00h_4
theorem d_X12_book_43 : decode prog_14_method_129_code 43 = .ok (.iload_n 3, 1) := gd_2 db00h_4
theorem d_X12_book_44 : decode prog_14_method_129_code 44 = .ok (.imul, 1) := gd_3 db00h_4
theorem d_X12_book_45 : decode prog_14_method_129_code 45 = .ok (.iload_n 2, 1) := gd_4 db00h_4
theorem d_X12_book_46 : decode prog_14_method_129_code 46 = .ok (.iadd, 1) := gd_5 db00h_4
theorem d_X12_book_47 : decode prog_14_method_129_code 47 = .ok (.iaload, 1) := gd_6 db00h_4
theorem d_X12_book_48 : decode prog_14_method_129_code 48 = .ok (.if_icmp .eq 7, 3) := gd_7 db00h_4
theorem d_X12_book_51 : decode prog_14_method_129_code 51 = .ok (.iconst 1, 1) := gd_8 db00h_4
theorem d_X12_book_52 : decode prog_14_method_129_code 52 = .ok (.goto 4, 3) := gd_9 db00h_4
theorem d_X12_book_55 : decode prog_14_method_129_code 55 = .ok (.iconst 0, 1) := gd_10 db00h_4
theorem d_X12_book_56 : decode prog_14_method_129_code 56 = .ok (.iadd, 1) := gd_11 db00h_4
theorem d_X12_book_57 : decode prog_14_method_129_code 57 = .ok (.istore_n 1, 1) := gd_12 db00h_4
theorem d_X12_book_58 : decode prog_14_method_129_code 58 = .ok (.iinc 3 1, 3) := gd_13 db00h_4
theorem d_X12_book_61 : decode prog_14_method_129_code 61 = .ok (.goto (-43), 3) := gd_14 db00h_4
theorem d_X12_book_64 : decode prog_14_method_129_code 64 = .ok (.iinc 2 1, 3) := gd_15 db00h_4
theorem d_X12_book_67 : decode prog_14_method_129_code 67 = .ok (.goto (-63), 3) := gd_16 db00h_4
theorem d_X12_book_70 : decode prog_14_method_129_code 70 = .ok (.aload_n 0, 1) := gd_17 db00h_4
theorem d_X12_book_71 : decode prog_14_method_129_code 71 = .ok (.getfield 685, 3) := gd_18 db00h_4
theorem d_X12_book_74 : decode prog_14_method_129_code 74 = .ok (.iload_n 1, 1) := gd_19 db00h_4
theorem d_X12_book_75 : decode prog_14_method_129_code 75 = .ok (.iadd, 1) := gd_20 db00h_4
theorem d_X12_book_76 : decode prog_14_method_129_code 76 = .ok (.sipush 600, 3) := gd_21 db00h_4
theorem d_X12_book_79 : decode prog_14_method_129_code 79 = .ok (.if_icmp .le 5, 3) := gd_22 db00h_4
theorem d_X12_book_82 : decode prog_14_method_129_code 82 = .ok (.iconst (-1), 1) := gd_23 db00h_4
theorem db00h_5 : Ad_ prog_14_method_129_code [(83, .ireturn, 1), (84, .iconst 0, 1), (85, .istore_n 2, 1), (86, .iload_n 2, 1), (87, .aload_n 0, 1), (88, .getfield 342, 3), (91, .sipush 1440, 3), (94, .idiv, 1), (95, .if_icmp .ge 132, 3), (98, .iconst 0, 1), (99, .istore_n 3, 1), (100, .iload_n 3, 1), (101, .aload_n 0, 1), (102, .getfield 339, 3), (105, .if_icmp .ge 116, 3), (108, .aload_n 0, 1), (109, .iload_n 3, 1), (110, .iload_n 2, 1), (111, .aload_n 0, 1), (112, .getfield 342, 3), (115, .invokevirtual 682, 3), (118, .istore 4, 2), (120, .iload 4, 2), (122, .aload_n 0, 1)] := bch_ok prog_14_method_129_code _ 83 (by decide +kernel)
theorem d_X12_book_83 : decode prog_14_method_129_code 83 = .ok (.ireturn, 1) := gd_0 db00h_5
theorem d_X12_book_84 : decode prog_14_method_129_code 84 = .ok (.iconst 0, 1) := gd_1 db00h_5
theorem d_X12_book_85 : decode prog_14_method_129_code 85 = .ok (.istore_n 2, 1) := gd_2 db00h_5
theorem d_X12_book_86 : decode prog_14_method_129_code 86 = .ok (.iload_n 2, 1) := gd_3 db00h_5
theorem d_X12_book_87 : decode prog_14_method_129_code 87 = .ok (.aload_n 0, 1) := gd_4 db00h_5
theorem d_X12_book_88 : decode prog_14_method_129_code 88 = .ok (.getfield 342, 3) := gd_5 db00h_5
theorem d_X12_book_91 : decode prog_14_method_129_code 91 = .ok (.sipush 1440, 3) := gd_6 db00h_5
theorem d_X12_book_94 : decode prog_14_method_129_code 94 = .ok (.idiv, 1) := gd_7 db00h_5
theorem d_X12_book_95 : decode prog_14_method_129_code 95 = .ok (.if_icmp .ge 132, 3) := gd_8 db00h_5
theorem d_X12_book_98 : decode prog_14_method_129_code 98 = .ok (.iconst 0, 1) := gd_9 db00h_5
theorem d_X12_book_99 : decode prog_14_method_129_code 99 = .ok (.istore_n 3, 1) := gd_10 db00h_5
theorem d_X12_book_100 : decode prog_14_method_129_code 100 = .ok (.iload_n 3, 1) := gd_11 db00h_5
theorem d_X12_book_101 : decode prog_14_method_129_code 101 = .ok (.aload_n 0, 1) := gd_12 db00h_5
theorem d_X12_book_102 : decode prog_14_method_129_code 102 = .ok (.getfield 339, 3) := gd_13 db00h_5
theorem d_X12_book_105 : decode prog_14_method_129_code 105 = .ok (.if_icmp .ge 116, 3) := gd_14 db00h_5
theorem d_X12_book_108 : decode prog_14_method_129_code 108 = .ok (.aload_n 0, 1) := gd_15 db00h_5
theorem d_X12_book_109 : decode prog_14_method_129_code 109 = .ok (.iload_n 3, 1) := gd_16 db00h_5
theorem d_X12_book_110 : decode prog_14_method_129_code 110 = .ok (.iload_n 2, 1) := gd_17 db00h_5
theorem d_X12_book_111 : decode prog_14_method_129_code 111 = .ok (.aload_n 0, 1) := gd_18 db00h_5
theorem d_X12_book_112 : decode prog_14_method_129_code 112 = .ok (.getfield 342, 3) := gd_19 db00h_5
theorem d_X12_book_115 : decode prog_14_method_129_code 115 = .ok (.invokevirtual 682, 3) := gd_20 db00h_5
theorem d_X12_book_118 : decode prog_14_method_129_code 118 = .ok (.istore 4, 2) := gd_21 db00h_5
theorem d_X12_book_120 : decode prog_14_method_129_code 120 = .ok (.iload 4, 2) := gd_22 db00h_5
theorem d_X12_book_122 : decode prog_14_method_129_code 122 = .ok (.aload_n 0, 1) := gd_23 db00h_5
theorem db00h_6 : Ad_ prog_14_method_129_code [(123, .getfield 296, 3), (126, .bipush 31, 2), (128, .iload_n 3, 1), (129, .imul, 1), (130, .iload_n 2, 1), (131, .iadd, 1), (132, .iaload, 1), (133, .if_icmp .eq 82, 3), (136, .aload_n 0, 1), (137, .getfield 299, 3), (140, .aload_n 0, 1), (141, .getfield 685, 3), (144, .iload_n 3, 1), (145, .iastore, 1), (146, .aload_n 0, 1), (147, .getfield 302, 3), (150, .aload_n 0, 1), (151, .getfield 685, 3), (154, .iload_n 2, 1), (155, .iastore, 1), (156, .aload_n 0, 1), (157, .getfield 305, 3), (160, .aload_n 0, 1), (161, .getfield 685, 3)] := bch_ok prog_14_method_129_code _ 123 (by decide +kernel)
theorem d_X12_book_123 : decode prog_14_method_129_code 123 = .ok (.getfield 296, 3) := gd_0 db00h_6
theorem d_X12_book_126 : decode prog_14_method_129_code 126 = .ok (.bipush 31, 2) := gd_1 db00h_6
theorem d_X12_book_128 : decode prog_14_method_129_code 128 = .ok (.iload_n 3, 1) := gd_2 db00h_6
theorem d_X12_book_129 : decode prog_14_method_129_code 129 = .ok (.imul, 1) := gd_3 db00h_6
theorem d_X12_book_130 : decode prog_14_method_129_code 130 = .ok (.iload_n 2, 1) := gd_4 db00h_6
theorem d_X12_book_131 : decode prog_14_method_129_code 131 = .ok (.iadd, 1) := gd_5 db00h_6
theorem d_X12_book_132 : decode prog_14_method_129_code 132 = .ok (.iaload, 1) := gd_6 db00h_6
theorem d_X12_book_133 : decode prog_14_method_129_code 133 = .ok (.if_icmp .eq 82, 3) := gd_7 db00h_6
theorem d_X12_book_136 : decode prog_14_method_129_code 136 = .ok (.aload_n 0, 1) := gd_8 db00h_6
theorem d_X12_book_137 : decode prog_14_method_129_code 137 = .ok (.getfield 299, 3) := gd_9 db00h_6
theorem d_X12_book_140 : decode prog_14_method_129_code 140 = .ok (.aload_n 0, 1) := gd_10 db00h_6
theorem d_X12_book_141 : decode prog_14_method_129_code 141 = .ok (.getfield 685, 3) := gd_11 db00h_6
theorem d_X12_book_144 : decode prog_14_method_129_code 144 = .ok (.iload_n 3, 1) := gd_12 db00h_6
theorem d_X12_book_145 : decode prog_14_method_129_code 145 = .ok (.iastore, 1) := gd_13 db00h_6
theorem d_X12_book_146 : decode prog_14_method_129_code 146 = .ok (.aload_n 0, 1) := gd_14 db00h_6
theorem d_X12_book_147 : decode prog_14_method_129_code 147 = .ok (.getfield 302, 3) := gd_15 db00h_6
theorem d_X12_book_150 : decode prog_14_method_129_code 150 = .ok (.aload_n 0, 1) := gd_16 db00h_6
theorem d_X12_book_151 : decode prog_14_method_129_code 151 = .ok (.getfield 685, 3) := gd_17 db00h_6
theorem d_X12_book_154 : decode prog_14_method_129_code 154 = .ok (.iload_n 2, 1) := gd_18 db00h_6
theorem d_X12_book_155 : decode prog_14_method_129_code 155 = .ok (.iastore, 1) := gd_19 db00h_6
theorem d_X12_book_156 : decode prog_14_method_129_code 156 = .ok (.aload_n 0, 1) := gd_20 db00h_6
theorem d_X12_book_157 : decode prog_14_method_129_code 157 = .ok (.getfield 305, 3) := gd_21 db00h_6
theorem d_X12_book_160 : decode prog_14_method_129_code 160 = .ok (.aload_n 0, 1) := gd_22 db00h_6
theorem d_X12_book_161 : decode prog_14_method_129_code 161 = .ok (.getfield 685, 3) := gd_23 db00h_6
theorem db00h_7 : Ad_ prog_14_method_129_code [(164, .iload 4, 2), (166, .aload_n 0, 1), (167, .getfield 296, 3), (170, .bipush 31, 2), (172, .iload_n 3, 1), (173, .imul, 1), (174, .iload_n 2, 1), (175, .iadd, 1), (176, .iaload, 1), (177, .isub, 1), (178, .iastore, 1), (179, .aload_n 0, 1), (180, .getfield 308, 3), (183, .aload_n 0, 1), (184, .getfield 685, 3), (187, .aload_n 0, 1), (188, .getfield 342, 3), (191, .iastore, 1), (192, .aload_n 0, 1), (193, .dup, 1), (194, .getfield 685, 3), (197, .iconst 1, 1), (198, .iadd, 1), (199, .putfield 685, 3)] := bch_ok prog_14_method_129_code _ 164 (by decide +kernel)
theorem d_X12_book_164 : decode prog_14_method_129_code 164 = .ok (.iload 4, 2) := gd_0 db00h_7
theorem d_X12_book_166 : decode prog_14_method_129_code 166 = .ok (.aload_n 0, 1) := gd_1 db00h_7
theorem d_X12_book_167 : decode prog_14_method_129_code 167 = .ok (.getfield 296, 3) := gd_2 db00h_7
theorem d_X12_book_170 : decode prog_14_method_129_code 170 = .ok (.bipush 31, 2) := gd_3 db00h_7
theorem d_X12_book_172 : decode prog_14_method_129_code 172 = .ok (.iload_n 3, 1) := gd_4 db00h_7
theorem d_X12_book_173 : decode prog_14_method_129_code 173 = .ok (.imul, 1) := gd_5 db00h_7
theorem d_X12_book_174 : decode prog_14_method_129_code 174 = .ok (.iload_n 2, 1) := gd_6 db00h_7
theorem d_X12_book_175 : decode prog_14_method_129_code 175 = .ok (.iadd, 1) := gd_7 db00h_7
theorem d_X12_book_176 : decode prog_14_method_129_code 176 = .ok (.iaload, 1) := gd_8 db00h_7
theorem d_X12_book_177 : decode prog_14_method_129_code 177 = .ok (.isub, 1) := gd_9 db00h_7
theorem d_X12_book_178 : decode prog_14_method_129_code 178 = .ok (.iastore, 1) := gd_10 db00h_7
theorem d_X12_book_179 : decode prog_14_method_129_code 179 = .ok (.aload_n 0, 1) := gd_11 db00h_7
theorem d_X12_book_180 : decode prog_14_method_129_code 180 = .ok (.getfield 308, 3) := gd_12 db00h_7
theorem d_X12_book_183 : decode prog_14_method_129_code 183 = .ok (.aload_n 0, 1) := gd_13 db00h_7
theorem d_X12_book_184 : decode prog_14_method_129_code 184 = .ok (.getfield 685, 3) := gd_14 db00h_7
theorem d_X12_book_187 : decode prog_14_method_129_code 187 = .ok (.aload_n 0, 1) := gd_15 db00h_7
theorem d_X12_book_188 : decode prog_14_method_129_code 188 = .ok (.getfield 342, 3) := gd_16 db00h_7
theorem d_X12_book_191 : decode prog_14_method_129_code 191 = .ok (.iastore, 1) := gd_17 db00h_7
theorem d_X12_book_192 : decode prog_14_method_129_code 192 = .ok (.aload_n 0, 1) := gd_18 db00h_7
theorem d_X12_book_193 : decode prog_14_method_129_code 193 = .ok (.dup, 1) := gd_19 db00h_7
theorem d_X12_book_194 : decode prog_14_method_129_code 194 = .ok (.getfield 685, 3) := gd_20 db00h_7
theorem d_X12_book_197 : decode prog_14_method_129_code 197 = .ok (.iconst 1, 1) := gd_21 db00h_7
theorem d_X12_book_198 : decode prog_14_method_129_code 198 = .ok (.iadd, 1) := gd_22 db00h_7
theorem d_X12_book_199 : decode prog_14_method_129_code 199 = .ok (.putfield 685, 3) := gd_23 db00h_7
theorem db00h_8 : Ad_ prog_14_method_129_code [(202, .aload_n 0, 1), (203, .getfield 296, 3), (206, .bipush 31, 2), (208, .iload_n 3, 1), (209, .imul, 1), (210, .iload_n 2, 1), (211, .iadd, 1), (212, .iload 4, 2), (214, .iastore, 1), (215, .iinc 3 1, 3), (218, .goto (-118), 3), (221, .iinc 2 1, 3), (224, .goto (-138), 3), (227, .iload_n 1, 1), (228, .ireturn, 1)] := bch_ok prog_14_method_129_code _ 202 (by decide +kernel)
theorem d_X12_book_202 : decode prog_14_method_129_code 202 = .ok (.aload_n 0, 1) := gd_0 db00h_8
theorem d_X12_book_203 : decode prog_14_method_129_code 203 = .ok (.getfield 296, 3) := gd_1 db00h_8
theorem d_X12_book_206 : decode prog_14_method_129_code 206 = .ok (.bipush 31, 2) := gd_2 db00h_8
theorem d_X12_book_208 : decode prog_14_method_129_code 208 = .ok (.iload_n 3, 1) := gd_3 db00h_8
theorem d_X12_book_209 : decode prog_14_method_129_code 209 = .ok (.imul, 1) := gd_4 db00h_8
theorem d_X12_book_210 : decode prog_14_method_129_code 210 = .ok (.iload_n 2, 1) := gd_5 db00h_8
theorem d_X12_book_211 : decode prog_14_method_129_code 211 = .ok (.iadd, 1) := gd_6 db00h_8
theorem d_X12_book_212 : decode prog_14_method_129_code 212 = .ok (.iload 4, 2) := gd_7 db00h_8
theorem d_X12_book_214 : decode prog_14_method_129_code 214 = .ok (.iastore, 1) := gd_8 db00h_8
theorem d_X12_book_215 : decode prog_14_method_129_code 215 = .ok (.iinc 3 1, 3) := gd_9 db00h_8
theorem d_X12_book_218 : decode prog_14_method_129_code 218 = .ok (.goto (-118), 3) := gd_10 db00h_8
theorem d_X12_book_221 : decode prog_14_method_129_code 221 = .ok (.iinc 2 1, 3) := gd_11 db00h_8
theorem d_X12_book_224 : decode prog_14_method_129_code 224 = .ok (.goto (-138), 3) := gd_12 db00h_8
theorem d_X12_book_227 : decode prog_14_method_129_code 227 = .ok (.iload_n 1, 1) := gd_13 db00h_8
theorem d_X12_book_228 : decode prog_14_method_129_code 228 = .ok (.ireturn, 1) := gd_14 db00h_8
theorem d_X12_line_19 : decode prog_14_method_130_code 19 = .ok (.tableswitch 57 0 3 #[29, 36, 43, 50], 29) := by decide +kernel
theorem db00h_9 : Ad_ prog_14_method_130_code [(0, .iload_n 1, 1), (1, .iconst 0, 1), (2, .aload_n 0, 1), (3, .getfield 685, 3), (6, .iconst 1, 1), (7, .isub, 1), (8, .invokestatic 323, 3), (11, .ifCond .ne 7, 3), (14, .ldc_w 688, 3), (17, .ireturn, 1), (18, .iload_n 2, 1), (48, .aload_n 0, 1), (49, .getfield 299, 3), (52, .iload_n 1, 1), (53, .iaload, 1), (54, .ireturn, 1), (55, .aload_n 0, 1), (56, .getfield 302, 3), (59, .iload_n 1, 1), (60, .iaload, 1), (61, .ireturn, 1), (62, .aload_n 0, 1), (63, .getfield 305, 3), (66, .iload_n 1, 1)] := bch_ok prog_14_method_130_code _ 0 (by decide +kernel)
theorem d_X12_line_0 : decode prog_14_method_130_code 0 = .ok (.iload_n 1, 1) := gd_0 db00h_9
theorem d_X12_line_1 : decode prog_14_method_130_code 1 = .ok (.iconst 0, 1) := gd_1 db00h_9
theorem d_X12_line_2 : decode prog_14_method_130_code 2 = .ok (.aload_n 0, 1) := gd_2 db00h_9
theorem d_X12_line_3 : decode prog_14_method_130_code 3 = .ok (.getfield 685, 3) := gd_3 db00h_9
theorem d_X12_line_6 : decode prog_14_method_130_code 6 = .ok (.iconst 1, 1) := gd_4 db00h_9
theorem d_X12_line_7 : decode prog_14_method_130_code 7 = .ok (.isub, 1) := gd_5 db00h_9
theorem d_X12_line_8 : decode prog_14_method_130_code 8 = .ok (.invokestatic 323, 3) := gd_6 db00h_9
theorem d_X12_line_11 : decode prog_14_method_130_code 11 = .ok (.ifCond .ne 7, 3) := gd_7 db00h_9
theorem d_X12_line_14 : decode prog_14_method_130_code 14 = .ok (.ldc_w 688, 3) := gd_8 db00h_9
theorem d_X12_line_17 : decode prog_14_method_130_code 17 = .ok (.ireturn, 1) := gd_9 db00h_9
theorem d_X12_line_18 : decode prog_14_method_130_code 18 = .ok (.iload_n 2, 1) := gd_10 db00h_9
theorem d_X12_line_48 : decode prog_14_method_130_code 48 = .ok (.aload_n 0, 1) := gd_11 db00h_9
theorem d_X12_line_49 : decode prog_14_method_130_code 49 = .ok (.getfield 299, 3) := gd_12 db00h_9
theorem d_X12_line_52 : decode prog_14_method_130_code 52 = .ok (.iload_n 1, 1) := gd_13 db00h_9
theorem d_X12_line_53 : decode prog_14_method_130_code 53 = .ok (.iaload, 1) := gd_14 db00h_9
theorem d_X12_line_54 : decode prog_14_method_130_code 54 = .ok (.ireturn, 1) := gd_15 db00h_9
theorem d_X12_line_55 : decode prog_14_method_130_code 55 = .ok (.aload_n 0, 1) := gd_16 db00h_9
theorem d_X12_line_56 : decode prog_14_method_130_code 56 = .ok (.getfield 302, 3) := gd_17 db00h_9
theorem d_X12_line_59 : decode prog_14_method_130_code 59 = .ok (.iload_n 1, 1) := gd_18 db00h_9
theorem d_X12_line_60 : decode prog_14_method_130_code 60 = .ok (.iaload, 1) := gd_19 db00h_9
theorem d_X12_line_61 : decode prog_14_method_130_code 61 = .ok (.ireturn, 1) := gd_20 db00h_9
theorem d_X12_line_62 : decode prog_14_method_130_code 62 = .ok (.aload_n 0, 1) := gd_21 db00h_9
theorem d_X12_line_63 : decode prog_14_method_130_code 63 = .ok (.getfield 305, 3) := gd_22 db00h_9
theorem d_X12_line_66 : decode prog_14_method_130_code 66 = .ok (.iload_n 1, 1) := gd_23 db00h_9
theorem db00h_10 : Ad_ prog_14_method_130_code [(67, .iaload, 1), (68, .ireturn, 1), (69, .aload_n 0, 1), (70, .getfield 308, 3), (73, .iload_n 1, 1), (74, .iaload, 1), (75, .ireturn, 1), (76, .ldc_w 688, 3), (79, .ireturn, 1)] := bch_ok prog_14_method_130_code _ 67 (by decide +kernel)
theorem d_X12_line_67 : decode prog_14_method_130_code 67 = .ok (.iaload, 1) := gd_0 db00h_10
theorem d_X12_line_68 : decode prog_14_method_130_code 68 = .ok (.ireturn, 1) := gd_1 db00h_10
theorem d_X12_line_69 : decode prog_14_method_130_code 69 = .ok (.aload_n 0, 1) := gd_2 db00h_10
theorem d_X12_line_70 : decode prog_14_method_130_code 70 = .ok (.getfield 308, 3) := gd_3 db00h_10
theorem d_X12_line_73 : decode prog_14_method_130_code 73 = .ok (.iload_n 1, 1) := gd_4 db00h_10
theorem d_X12_line_74 : decode prog_14_method_130_code 74 = .ok (.iaload, 1) := gd_5 db00h_10
theorem d_X12_line_75 : decode prog_14_method_130_code 75 = .ok (.ireturn, 1) := gd_6 db00h_10
theorem d_X12_line_76 : decode prog_14_method_130_code 76 = .ok (.ldc_w 688, 3) := gd_7 db00h_10
theorem d_X12_line_79 : decode prog_14_method_130_code 79 = .ok (.ireturn, 1) := gd_8 db00h_10
theorem db00h_11 : Ad_ prog_14_method_131_code [(0, .iload_n 1, 1), (1, .iconst 0, 1), (2, .iconst 3, 1), (3, .invokestatic 323, 3), (6, .ifCond .eq 21, 3), (9, .aload_n 0, 1), (10, .iload_n 2, 1), (11, .invokevirtual 345, 3), (14, .ifCond .eq 13, 3), (17, .iload_n 3, 1), (18, .iconst 0, 1), (19, .bipush 10, 2), (21, .invokestatic 323, 3), (24, .ifCond .ne 5, 3), (27, .iconst 0, 1), (28, .ireturn, 1), (29, .aload_n 0, 1), (30, .getfield 311, 3), (33, .bipush 12, 2), (35, .iload_n 1, 1), (36, .imul, 1), (37, .iload_n 2, 1), (38, .iadd, 1), (39, .iload_n 3, 1)] := bch_ok prog_14_method_131_code _ 0 (by decide +kernel)
theorem d_X12_mark_0 : decode prog_14_method_131_code 0 = .ok (.iload_n 1, 1) := gd_0 db00h_11
theorem d_X12_mark_1 : decode prog_14_method_131_code 1 = .ok (.iconst 0, 1) := gd_1 db00h_11
theorem d_X12_mark_2 : decode prog_14_method_131_code 2 = .ok (.iconst 3, 1) := gd_2 db00h_11
theorem d_X12_mark_3 : decode prog_14_method_131_code 3 = .ok (.invokestatic 323, 3) := gd_3 db00h_11
theorem d_X12_mark_6 : decode prog_14_method_131_code 6 = .ok (.ifCond .eq 21, 3) := gd_4 db00h_11
theorem d_X12_mark_9 : decode prog_14_method_131_code 9 = .ok (.aload_n 0, 1) := gd_5 db00h_11
theorem d_X12_mark_10 : decode prog_14_method_131_code 10 = .ok (.iload_n 2, 1) := gd_6 db00h_11
theorem d_X12_mark_11 : decode prog_14_method_131_code 11 = .ok (.invokevirtual 345, 3) := gd_7 db00h_11
theorem d_X12_mark_14 : decode prog_14_method_131_code 14 = .ok (.ifCond .eq 13, 3) := gd_8 db00h_11
theorem d_X12_mark_17 : decode prog_14_method_131_code 17 = .ok (.iload_n 3, 1) := gd_9 db00h_11
theorem d_X12_mark_18 : decode prog_14_method_131_code 18 = .ok (.iconst 0, 1) := gd_10 db00h_11
theorem d_X12_mark_19 : decode prog_14_method_131_code 19 = .ok (.bipush 10, 2) := gd_11 db00h_11
theorem d_X12_mark_21 : decode prog_14_method_131_code 21 = .ok (.invokestatic 323, 3) := gd_12 db00h_11
theorem d_X12_mark_24 : decode prog_14_method_131_code 24 = .ok (.ifCond .ne 5, 3) := gd_13 db00h_11
theorem d_X12_mark_27 : decode prog_14_method_131_code 27 = .ok (.iconst 0, 1) := gd_14 db00h_11
theorem d_X12_mark_28 : decode prog_14_method_131_code 28 = .ok (.ireturn, 1) := gd_15 db00h_11
theorem d_X12_mark_29 : decode prog_14_method_131_code 29 = .ok (.aload_n 0, 1) := gd_16 db00h_11
theorem d_X12_mark_30 : decode prog_14_method_131_code 30 = .ok (.getfield 311, 3) := gd_17 db00h_11
theorem d_X12_mark_33 : decode prog_14_method_131_code 33 = .ok (.bipush 12, 2) := gd_18 db00h_11
theorem d_X12_mark_35 : decode prog_14_method_131_code 35 = .ok (.iload_n 1, 1) := gd_19 db00h_11
theorem d_X12_mark_36 : decode prog_14_method_131_code 36 = .ok (.imul, 1) := gd_20 db00h_11
theorem d_X12_mark_37 : decode prog_14_method_131_code 37 = .ok (.iload_n 2, 1) := gd_21 db00h_11
theorem d_X12_mark_38 : decode prog_14_method_131_code 38 = .ok (.iadd, 1) := gd_22 db00h_11
theorem d_X12_mark_39 : decode prog_14_method_131_code 39 = .ok (.iload_n 3, 1) := gd_23 db00h_11
theorem db00h_12 : Ad_ prog_14_method_131_code [(40, .iastore, 1), (41, .aload_n 0, 1), (42, .getfield 314, 3), (45, .bipush 12, 2), (47, .iload_n 1, 1), (48, .imul, 1), (49, .iload_n 2, 1), (50, .iadd, 1), (51, .iconst 1, 1), (52, .bastore, 1), (53, .iconst 1, 1), (54, .ireturn, 1)] := bch_ok prog_14_method_131_code _ 40 (by decide +kernel)
theorem d_X12_mark_40 : decode prog_14_method_131_code 40 = .ok (.iastore, 1) := gd_0 db00h_12
theorem d_X12_mark_41 : decode prog_14_method_131_code 41 = .ok (.aload_n 0, 1) := gd_1 db00h_12
theorem d_X12_mark_42 : decode prog_14_method_131_code 42 = .ok (.getfield 314, 3) := gd_2 db00h_12
theorem d_X12_mark_45 : decode prog_14_method_131_code 45 = .ok (.bipush 12, 2) := gd_3 db00h_12
theorem d_X12_mark_47 : decode prog_14_method_131_code 47 = .ok (.iload_n 1, 1) := gd_4 db00h_12
theorem d_X12_mark_48 : decode prog_14_method_131_code 48 = .ok (.imul, 1) := gd_5 db00h_12
theorem d_X12_mark_49 : decode prog_14_method_131_code 49 = .ok (.iload_n 2, 1) := gd_6 db00h_12
theorem d_X12_mark_50 : decode prog_14_method_131_code 50 = .ok (.iadd, 1) := gd_7 db00h_12
theorem d_X12_mark_51 : decode prog_14_method_131_code 51 = .ok (.iconst 1, 1) := gd_8 db00h_12
theorem d_X12_mark_52 : decode prog_14_method_131_code 52 = .ok (.bastore, 1) := gd_9 db00h_12
theorem d_X12_mark_53 : decode prog_14_method_131_code 53 = .ok (.iconst 1, 1) := gd_10 db00h_12
theorem d_X12_mark_54 : decode prog_14_method_131_code 54 = .ok (.ireturn, 1) := gd_11 db00h_12
theorem db00h_13 : Ad_ prog_14_method_132_code [(0, .iload_n 1, 1), (1, .iconst 1, 1), (2, .bipush 12, 2), (4, .invokestatic 323, 3), (7, .ifCond .ne 5, 3), (10, .iconst 0, 1), (11, .ireturn, 1), (12, .aload_n 0, 1), (13, .iload_n 1, 1), (14, .putfield 317, 3), (17, .iconst 1, 1), (18, .ireturn, 1)] := bch_ok prog_14_method_132_code _ 0 (by decide +kernel)
theorem d_X12_size_0 : decode prog_14_method_132_code 0 = .ok (.iload_n 1, 1) := gd_0 db00h_13
theorem d_X12_size_1 : decode prog_14_method_132_code 1 = .ok (.iconst 1, 1) := gd_1 db00h_13
theorem d_X12_size_2 : decode prog_14_method_132_code 2 = .ok (.bipush 12, 2) := gd_2 db00h_13
theorem d_X12_size_4 : decode prog_14_method_132_code 4 = .ok (.invokestatic 323, 3) := gd_3 db00h_13
theorem d_X12_size_7 : decode prog_14_method_132_code 7 = .ok (.ifCond .ne 5, 3) := gd_4 db00h_13
theorem d_X12_size_10 : decode prog_14_method_132_code 10 = .ok (.iconst 0, 1) := gd_5 db00h_13
theorem d_X12_size_11 : decode prog_14_method_132_code 11 = .ok (.ireturn, 1) := gd_6 db00h_13
theorem d_X12_size_12 : decode prog_14_method_132_code 12 = .ok (.aload_n 0, 1) := gd_7 db00h_13
theorem d_X12_size_13 : decode prog_14_method_132_code 13 = .ok (.iload_n 1, 1) := gd_8 db00h_13
theorem d_X12_size_14 : decode prog_14_method_132_code 14 = .ok (.putfield 317, 3) := gd_9 db00h_13
theorem d_X12_size_17 : decode prog_14_method_132_code 17 = .ok (.iconst 1, 1) := gd_10 db00h_13
theorem d_X12_size_18 : decode prog_14_method_132_code 18 = .ok (.ireturn, 1) := gd_11 db00h_13
theorem db00h_14 : Ad_ prog_14_method_133_code [(0, .iload_n 1, 1), (1, .iconst 0, 1), (2, .iconst 3, 1), (3, .invokestatic 323, 3), (6, .ifCond .eq 17, 3), (9, .iload_n 2, 1), (10, .iconst 0, 1), (11, .iconst 3, 1), (12, .invokestatic 323, 3), (15, .ifCond .eq 8, 3), (18, .iload_n 1, 1), (19, .iload_n 2, 1), (20, .if_icmp .ne 7, 3), (23, .ldc_w 688, 3), (26, .ireturn, 1), (27, .iconst 0, 1), (28, .istore_n 3, 1), (29, .iconst 0, 1), (30, .istore 4, 2), (32, .iconst 0, 1), (33, .istore 5, 2), (35, .iload 5, 2), (37, .aload_n 0, 1), (38, .getfield 339, 3)] := bch_ok prog_14_method_133_code _ 0 (by decide +kernel)
theorem d_X12_habit_0 : decode prog_14_method_133_code 0 = .ok (.iload_n 1, 1) := gd_0 db00h_14
theorem d_X12_habit_1 : decode prog_14_method_133_code 1 = .ok (.iconst 0, 1) := gd_1 db00h_14
theorem d_X12_habit_2 : decode prog_14_method_133_code 2 = .ok (.iconst 3, 1) := gd_2 db00h_14
theorem d_X12_habit_3 : decode prog_14_method_133_code 3 = .ok (.invokestatic 323, 3) := gd_3 db00h_14
theorem d_X12_habit_6 : decode prog_14_method_133_code 6 = .ok (.ifCond .eq 17, 3) := gd_4 db00h_14
theorem d_X12_habit_9 : decode prog_14_method_133_code 9 = .ok (.iload_n 2, 1) := gd_5 db00h_14
theorem d_X12_habit_10 : decode prog_14_method_133_code 10 = .ok (.iconst 0, 1) := gd_6 db00h_14
theorem d_X12_habit_11 : decode prog_14_method_133_code 11 = .ok (.iconst 3, 1) := gd_7 db00h_14
theorem d_X12_habit_12 : decode prog_14_method_133_code 12 = .ok (.invokestatic 323, 3) := gd_8 db00h_14
theorem d_X12_habit_15 : decode prog_14_method_133_code 15 = .ok (.ifCond .eq 8, 3) := gd_9 db00h_14
theorem d_X12_habit_18 : decode prog_14_method_133_code 18 = .ok (.iload_n 1, 1) := gd_10 db00h_14
theorem d_X12_habit_19 : decode prog_14_method_133_code 19 = .ok (.iload_n 2, 1) := gd_11 db00h_14
theorem d_X12_habit_20 : decode prog_14_method_133_code 20 = .ok (.if_icmp .ne 7, 3) := gd_12 db00h_14
theorem d_X12_habit_23 : decode prog_14_method_133_code 23 = .ok (.ldc_w 688, 3) := gd_13 db00h_14
theorem d_X12_habit_26 : decode prog_14_method_133_code 26 = .ok (.ireturn, 1) := gd_14 db00h_14
theorem d_X12_habit_27 : decode prog_14_method_133_code 27 = .ok (.iconst 0, 1) := gd_15 db00h_14
theorem d_X12_habit_28 : decode prog_14_method_133_code 28 = .ok (.istore_n 3, 1) := gd_16 db00h_14
theorem d_X12_habit_29 : decode prog_14_method_133_code 29 = .ok (.iconst 0, 1) := gd_17 db00h_14
theorem d_X12_habit_30 : decode prog_14_method_133_code 30 = .ok (.istore 4, 2) := gd_18 db00h_14
theorem d_X12_habit_32 : decode prog_14_method_133_code 32 = .ok (.iconst 0, 1) := gd_19 db00h_14
theorem d_X12_habit_33 : decode prog_14_method_133_code 33 = .ok (.istore 5, 2) := gd_20 db00h_14
theorem d_X12_habit_35 : decode prog_14_method_133_code 35 = .ok (.iload 5, 2) := gd_21 db00h_14
theorem d_X12_habit_37 : decode prog_14_method_133_code 37 = .ok (.aload_n 0, 1) := gd_22 db00h_14
theorem d_X12_habit_38 : decode prog_14_method_133_code 38 = .ok (.getfield 339, 3) := gd_23 db00h_14
theorem db00h_15 : Ad_ prog_14_method_133_code [(41, .if_icmp .ge 72, 3), (44, .aload_n 0, 1), (45, .getfield 314, 3), (48, .bipush 12, 2), (50, .iload_n 1, 1), (51, .imul, 1), (52, .iload 5, 2), (54, .iadd, 1), (55, .baload, 1), (56, .ifCond .eq 51, 3), (59, .aload_n 0, 1), (60, .getfield 314, 3), (63, .bipush 12, 2), (65, .iload_n 2, 1), (66, .imul, 1), (67, .iload 5, 2), (69, .iadd, 1), (70, .baload, 1), (71, .ifCond .eq 36, 3), (74, .iinc 3 1, 3), (77, .iload 4, 2), (79, .aload_n 0, 1), (80, .getfield 311, 3), (83, .bipush 12, 2)] := bch_ok prog_14_method_133_code _ 41 (by decide +kernel)
theorem d_X12_habit_41 : decode prog_14_method_133_code 41 = .ok (.if_icmp .ge 72, 3) := gd_0 db00h_15
theorem d_X12_habit_44 : decode prog_14_method_133_code 44 = .ok (.aload_n 0, 1) := gd_1 db00h_15
theorem d_X12_habit_45 : decode prog_14_method_133_code 45 = .ok (.getfield 314, 3) := gd_2 db00h_15
theorem d_X12_habit_48 : decode prog_14_method_133_code 48 = .ok (.bipush 12, 2) := gd_3 db00h_15
theorem d_X12_habit_50 : decode prog_14_method_133_code 50 = .ok (.iload_n 1, 1) := gd_4 db00h_15
theorem d_X12_habit_51 : decode prog_14_method_133_code 51 = .ok (.imul, 1) := gd_5 db00h_15
theorem d_X12_habit_52 : decode prog_14_method_133_code 52 = .ok (.iload 5, 2) := gd_6 db00h_15
theorem d_X12_habit_54 : decode prog_14_method_133_code 54 = .ok (.iadd, 1) := gd_7 db00h_15
theorem d_X12_habit_55 : decode prog_14_method_133_code 55 = .ok (.baload, 1) := gd_8 db00h_15
theorem d_X12_habit_56 : decode prog_14_method_133_code 56 = .ok (.ifCond .eq 51, 3) := gd_9 db00h_15
theorem d_X12_habit_59 : decode prog_14_method_133_code 59 = .ok (.aload_n 0, 1) := gd_10 db00h_15
theorem d_X12_habit_60 : decode prog_14_method_133_code 60 = .ok (.getfield 314, 3) := gd_11 db00h_15
theorem d_X12_habit_63 : decode prog_14_method_133_code 63 = .ok (.bipush 12, 2) := gd_12 db00h_15
theorem d_X12_habit_65 : decode prog_14_method_133_code 65 = .ok (.iload_n 2, 1) := gd_13 db00h_15
theorem d_X12_habit_66 : decode prog_14_method_133_code 66 = .ok (.imul, 1) := gd_14 db00h_15
theorem d_X12_habit_67 : decode prog_14_method_133_code 67 = .ok (.iload 5, 2) := gd_15 db00h_15
theorem d_X12_habit_69 : decode prog_14_method_133_code 69 = .ok (.iadd, 1) := gd_16 db00h_15
theorem d_X12_habit_70 : decode prog_14_method_133_code 70 = .ok (.baload, 1) := gd_17 db00h_15
theorem d_X12_habit_71 : decode prog_14_method_133_code 71 = .ok (.ifCond .eq 36, 3) := gd_18 db00h_15
theorem d_X12_habit_74 : decode prog_14_method_133_code 74 = .ok (.iinc 3 1, 3) := gd_19 db00h_15
theorem d_X12_habit_77 : decode prog_14_method_133_code 77 = .ok (.iload 4, 2) := gd_20 db00h_15
theorem d_X12_habit_79 : decode prog_14_method_133_code 79 = .ok (.aload_n 0, 1) := gd_21 db00h_15
theorem d_X12_habit_80 : decode prog_14_method_133_code 80 = .ok (.getfield 311, 3) := gd_22 db00h_15
theorem d_X12_habit_83 : decode prog_14_method_133_code 83 = .ok (.bipush 12, 2) := gd_23 db00h_15
theorem db00h_16 : Ad_ prog_14_method_133_code [(85, .iload_n 1, 1), (86, .imul, 1), (87, .iload 5, 2), (89, .iadd, 1), (90, .iaload, 1), (91, .aload_n 0, 1), (92, .getfield 311, 3), (95, .bipush 12, 2), (97, .iload_n 2, 1), (98, .imul, 1), (99, .iload 5, 2), (101, .iadd, 1), (102, .iaload, 1), (103, .isub, 1), (104, .iadd, 1), (105, .istore 4, 2), (107, .iinc 5 1, 3), (110, .goto (-75), 3), (113, .iload_n 3, 1), (114, .aload_n 0, 1), (115, .getfield 317, 3), (118, .if_icmp .ge 9, 3), (121, .ldc_w 688, 3), (124, .goto 5, 3)] := bch_ok prog_14_method_133_code _ 85 (by decide +kernel)
theorem d_X12_habit_85 : decode prog_14_method_133_code 85 = .ok (.iload_n 1, 1) := gd_0 db00h_16
theorem d_X12_habit_86 : decode prog_14_method_133_code 86 = .ok (.imul, 1) := gd_1 db00h_16
theorem d_X12_habit_87 : decode prog_14_method_133_code 87 = .ok (.iload 5, 2) := gd_2 db00h_16
theorem d_X12_habit_89 : decode prog_14_method_133_code 89 = .ok (.iadd, 1) := gd_3 db00h_16
theorem d_X12_habit_90 : decode prog_14_method_133_code 90 = .ok (.iaload, 1) := gd_4 db00h_16
theorem d_X12_habit_91 : decode prog_14_method_133_code 91 = .ok (.aload_n 0, 1) := gd_5 db00h_16
theorem d_X12_habit_92 : decode prog_14_method_133_code 92 = .ok (.getfield 311, 3) := gd_6 db00h_16
theorem d_X12_habit_95 : decode prog_14_method_133_code 95 = .ok (.bipush 12, 2) := gd_7 db00h_16
theorem d_X12_habit_97 : decode prog_14_method_133_code 97 = .ok (.iload_n 2, 1) := gd_8 db00h_16
theorem d_X12_habit_98 : decode prog_14_method_133_code 98 = .ok (.imul, 1) := gd_9 db00h_16
theorem d_X12_habit_99 : decode prog_14_method_133_code 99 = .ok (.iload 5, 2) := gd_10 db00h_16
theorem d_X12_habit_101 : decode prog_14_method_133_code 101 = .ok (.iadd, 1) := gd_11 db00h_16
theorem d_X12_habit_102 : decode prog_14_method_133_code 102 = .ok (.iaload, 1) := gd_12 db00h_16
theorem d_X12_habit_103 : decode prog_14_method_133_code 103 = .ok (.isub, 1) := gd_13 db00h_16
theorem d_X12_habit_104 : decode prog_14_method_133_code 104 = .ok (.iadd, 1) := gd_14 db00h_16
theorem d_X12_habit_105 : decode prog_14_method_133_code 105 = .ok (.istore 4, 2) := gd_15 db00h_16
theorem d_X12_habit_107 : decode prog_14_method_133_code 107 = .ok (.iinc 5 1, 3) := gd_16 db00h_16
theorem d_X12_habit_110 : decode prog_14_method_133_code 110 = .ok (.goto (-75), 3) := gd_17 db00h_16
theorem d_X12_habit_113 : decode prog_14_method_133_code 113 = .ok (.iload_n 3, 1) := gd_18 db00h_16
theorem d_X12_habit_114 : decode prog_14_method_133_code 114 = .ok (.aload_n 0, 1) := gd_19 db00h_16
theorem d_X12_habit_115 : decode prog_14_method_133_code 115 = .ok (.getfield 317, 3) := gd_20 db00h_16
theorem d_X12_habit_118 : decode prog_14_method_133_code 118 = .ok (.if_icmp .ge 9, 3) := gd_21 db00h_16
theorem d_X12_habit_121 : decode prog_14_method_133_code 121 = .ok (.ldc_w 688, 3) := gd_22 db00h_16
theorem d_X12_habit_124 : decode prog_14_method_133_code 124 = .ok (.goto 5, 3) := gd_23 db00h_16
theorem d_X12_habit_127 : decode prog_14_method_133_code 127 = .ok (.iload 4, 2) := by decide +kernel
theorem d_X12_habit_129 : decode prog_14_method_133_code 129 = .ok (.ireturn, 1) := by decide +kernel
theorem db00h_17 : Ad_ prog_14_method_134_code [(0, .iconst 0, 1), (1, .istore_n 2, 1), (2, .iconst 0, 1), (3, .istore_n 3, 1), (4, .iconst 0, 1), (5, .istore 4, 2), (7, .iload 4, 2), (9, .aload_n 0, 1), (10, .getfield 562, 3), (13, .if_icmp .ge 27, 3), (16, .iload_n 2, 1), (17, .aload_n 0, 1), (18, .getfield 175, 3), (21, .iload 4, 2), (23, .baload, 1), (24, .ifCond .eq 7, 3), (27, .iconst 1, 1), (28, .goto 4, 3), (31, .iconst 0, 1), (32, .iadd, 1), (33, .istore_n 2, 1), (34, .iinc 4 1, 3), (37, .goto (-30), 3), (40, .iconst 0, 1)] := bch_ok prog_14_method_134_code _ 0 (by decide +kernel)
theorem d_X12_count_0 : decode prog_14_method_134_code 0 = .ok (.iconst 0, 1) := gd_0 db00h_17
theorem d_X12_count_1 : decode prog_14_method_134_code 1 = .ok (.istore_n 2, 1) := gd_1 db00h_17
theorem d_X12_count_2 : decode prog_14_method_134_code 2 = .ok (.iconst 0, 1) := gd_2 db00h_17
theorem d_X12_count_3 : decode prog_14_method_134_code 3 = .ok (.istore_n 3, 1) := gd_3 db00h_17
theorem d_X12_count_4 : decode prog_14_method_134_code 4 = .ok (.iconst 0, 1) := gd_4 db00h_17
theorem d_X12_count_5 : decode prog_14_method_134_code 5 = .ok (.istore 4, 2) := gd_5 db00h_17
theorem d_X12_count_7 : decode prog_14_method_134_code 7 = .ok (.iload 4, 2) := gd_6 db00h_17
theorem d_X12_count_9 : decode prog_14_method_134_code 9 = .ok (.aload_n 0, 1) := gd_7 db00h_17
theorem d_X12_count_10 : decode prog_14_method_134_code 10 = .ok (.getfield 562, 3) := gd_8 db00h_17
theorem d_X12_count_13 : decode prog_14_method_134_code 13 = .ok (.if_icmp .ge 27, 3) := gd_9 db00h_17
theorem d_X12_count_16 : decode prog_14_method_134_code 16 = .ok (.iload_n 2, 1) := gd_10 db00h_17
theorem d_X12_count_17 : decode prog_14_method_134_code 17 = .ok (.aload_n 0, 1) := gd_11 db00h_17
theorem d_X12_count_18 : decode prog_14_method_134_code 18 = .ok (.getfield 175, 3) := gd_12 db00h_17
theorem d_X12_count_21 : decode prog_14_method_134_code 21 = .ok (.iload 4, 2) := gd_13 db00h_17
theorem d_X12_count_23 : decode prog_14_method_134_code 23 = .ok (.baload, 1) := gd_14 db00h_17
theorem d_X12_count_24 : decode prog_14_method_134_code 24 = .ok (.ifCond .eq 7, 3) := gd_15 db00h_17
theorem d_X12_count_27 : decode prog_14_method_134_code 27 = .ok (.iconst 1, 1) := gd_16 db00h_17
theorem d_X12_count_28 : decode prog_14_method_134_code 28 = .ok (.goto 4, 3) := gd_17 db00h_17
theorem d_X12_count_31 : decode prog_14_method_134_code 31 = .ok (.iconst 0, 1) := gd_18 db00h_17
theorem d_X12_count_32 : decode prog_14_method_134_code 32 = .ok (.iadd, 1) := gd_19 db00h_17
theorem d_X12_count_33 : decode prog_14_method_134_code 33 = .ok (.istore_n 2, 1) := gd_20 db00h_17
theorem d_X12_count_34 : decode prog_14_method_134_code 34 = .ok (.iinc 4 1, 3) := gd_21 db00h_17
theorem d_X12_count_37 : decode prog_14_method_134_code 37 = .ok (.goto (-30), 3) := gd_22 db00h_17
theorem d_X12_count_40 : decode prog_14_method_134_code 40 = .ok (.iconst 0, 1) := gd_23 db00h_17
theorem d_X12_count_69 : decode prog_14_method_134_code 69 = .ok (.tableswitch 184 0 18 #[91, 96, 101, 106, 111, 116, 121, 123, 130, 135, 140, 145, 150, 155, 160, 165, 172, 177, 179], 91) := by decide +kernel
theorem db00h_18 : Ad_ prog_14_method_134_code [(41, .istore 4, 2), (43, .iload 4, 2), (45, .aload_n 0, 1), (46, .getfield 685, 3), (49, .if_icmp .ge 19, 3), (52, .iload_n 3, 1), (53, .aload_n 0, 1), (54, .getfield 305, 3), (57, .iload 4, 2), (59, .iaload, 1), (60, .iadd, 1), (61, .istore_n 3, 1), (62, .iinc 4 1, 3), (65, .goto (-22), 3), (68, .iload_n 1, 1), (160, .aload_n 0, 1), (161, .getfield 342, 3), (164, .ireturn, 1), (165, .aload_n 0, 1), (166, .getfield 331, 3), (169, .ireturn, 1), (170, .aload_n 0, 1), (171, .getfield 339, 3), (174, .ireturn, 1)] := bch_ok prog_14_method_134_code _ 41 (by decide +kernel)
theorem d_X12_count_41 : decode prog_14_method_134_code 41 = .ok (.istore 4, 2) := gd_0 db00h_18
theorem d_X12_count_43 : decode prog_14_method_134_code 43 = .ok (.iload 4, 2) := gd_1 db00h_18
theorem d_X12_count_45 : decode prog_14_method_134_code 45 = .ok (.aload_n 0, 1) := gd_2 db00h_18
theorem d_X12_count_46 : decode prog_14_method_134_code 46 = .ok (.getfield 685, 3) := gd_3 db00h_18
theorem d_X12_count_49 : decode prog_14_method_134_code 49 = .ok (.if_icmp .ge 19, 3) := gd_4 db00h_18
theorem d_X12_count_52 : decode prog_14_method_134_code 52 = .ok (.iload_n 3, 1) := gd_5 db00h_18
theorem d_X12_count_53 : decode prog_14_method_134_code 53 = .ok (.aload_n 0, 1) := gd_6 db00h_18
theorem d_X12_count_54 : decode prog_14_method_134_code 54 = .ok (.getfield 305, 3) := gd_7 db00h_18
theorem d_X12_count_57 : decode prog_14_method_134_code 57 = .ok (.iload 4, 2) := gd_8 db00h_18
theorem d_X12_count_59 : decode prog_14_method_134_code 59 = .ok (.iaload, 1) := gd_9 db00h_18
theorem d_X12_count_60 : decode prog_14_method_134_code 60 = .ok (.iadd, 1) := gd_10 db00h_18
theorem d_X12_count_61 : decode prog_14_method_134_code 61 = .ok (.istore_n 3, 1) := gd_11 db00h_18
theorem d_X12_count_62 : decode prog_14_method_134_code 62 = .ok (.iinc 4 1, 3) := gd_12 db00h_18
theorem d_X12_count_65 : decode prog_14_method_134_code 65 = .ok (.goto (-22), 3) := gd_13 db00h_18
theorem d_X12_count_68 : decode prog_14_method_134_code 68 = .ok (.iload_n 1, 1) := gd_14 db00h_18
theorem d_X12_count_160 : decode prog_14_method_134_code 160 = .ok (.aload_n 0, 1) := gd_15 db00h_18
theorem d_X12_count_161 : decode prog_14_method_134_code 161 = .ok (.getfield 342, 3) := gd_16 db00h_18
theorem d_X12_count_164 : decode prog_14_method_134_code 164 = .ok (.ireturn, 1) := gd_17 db00h_18
theorem d_X12_count_165 : decode prog_14_method_134_code 165 = .ok (.aload_n 0, 1) := gd_18 db00h_18
theorem d_X12_count_166 : decode prog_14_method_134_code 166 = .ok (.getfield 331, 3) := gd_19 db00h_18
theorem d_X12_count_169 : decode prog_14_method_134_code 169 = .ok (.ireturn, 1) := gd_20 db00h_18
theorem d_X12_count_170 : decode prog_14_method_134_code 170 = .ok (.aload_n 0, 1) := gd_21 db00h_18
theorem d_X12_count_171 : decode prog_14_method_134_code 171 = .ok (.getfield 339, 3) := gd_22 db00h_18
theorem d_X12_count_174 : decode prog_14_method_134_code 174 = .ok (.ireturn, 1) := gd_23 db00h_18
theorem db00h_19 : Ad_ prog_14_method_134_code [(175, .aload_n 0, 1), (176, .getfield 413, 3), (179, .ireturn, 1), (180, .aload_n 0, 1), (181, .getfield 507, 3), (184, .ireturn, 1), (185, .aload_n 0, 1), (186, .getfield 562, 3), (189, .ireturn, 1), (190, .iload_n 2, 1), (191, .ireturn, 1), (192, .aload_n 0, 1), (193, .getfield 117, 3), (196, .iconst 0, 1), (197, .iaload, 1), (198, .ireturn, 1), (199, .aload_n 0, 1), (200, .getfield 516, 3), (203, .ireturn, 1), (204, .aload_n 0, 1), (205, .getfield 576, 3), (208, .ireturn, 1), (209, .aload_n 0, 1), (210, .getfield 591, 3)] := bch_ok prog_14_method_134_code _ 175 (by decide +kernel)
theorem d_X12_count_175 : decode prog_14_method_134_code 175 = .ok (.aload_n 0, 1) := gd_0 db00h_19
theorem d_X12_count_176 : decode prog_14_method_134_code 176 = .ok (.getfield 413, 3) := gd_1 db00h_19
theorem d_X12_count_179 : decode prog_14_method_134_code 179 = .ok (.ireturn, 1) := gd_2 db00h_19
theorem d_X12_count_180 : decode prog_14_method_134_code 180 = .ok (.aload_n 0, 1) := gd_3 db00h_19
theorem d_X12_count_181 : decode prog_14_method_134_code 181 = .ok (.getfield 507, 3) := gd_4 db00h_19
theorem d_X12_count_184 : decode prog_14_method_134_code 184 = .ok (.ireturn, 1) := gd_5 db00h_19
theorem d_X12_count_185 : decode prog_14_method_134_code 185 = .ok (.aload_n 0, 1) := gd_6 db00h_19
theorem d_X12_count_186 : decode prog_14_method_134_code 186 = .ok (.getfield 562, 3) := gd_7 db00h_19
theorem d_X12_count_189 : decode prog_14_method_134_code 189 = .ok (.ireturn, 1) := gd_8 db00h_19
theorem d_X12_count_190 : decode prog_14_method_134_code 190 = .ok (.iload_n 2, 1) := gd_9 db00h_19
theorem d_X12_count_191 : decode prog_14_method_134_code 191 = .ok (.ireturn, 1) := gd_10 db00h_19
theorem d_X12_count_192 : decode prog_14_method_134_code 192 = .ok (.aload_n 0, 1) := gd_11 db00h_19
theorem d_X12_count_193 : decode prog_14_method_134_code 193 = .ok (.getfield 117, 3) := gd_12 db00h_19
theorem d_X12_count_196 : decode prog_14_method_134_code 196 = .ok (.iconst 0, 1) := gd_13 db00h_19
theorem d_X12_count_197 : decode prog_14_method_134_code 197 = .ok (.iaload, 1) := gd_14 db00h_19
theorem d_X12_count_198 : decode prog_14_method_134_code 198 = .ok (.ireturn, 1) := gd_15 db00h_19
theorem d_X12_count_199 : decode prog_14_method_134_code 199 = .ok (.aload_n 0, 1) := gd_16 db00h_19
theorem d_X12_count_200 : decode prog_14_method_134_code 200 = .ok (.getfield 516, 3) := gd_17 db00h_19
theorem d_X12_count_203 : decode prog_14_method_134_code 203 = .ok (.ireturn, 1) := gd_18 db00h_19
theorem d_X12_count_204 : decode prog_14_method_134_code 204 = .ok (.aload_n 0, 1) := gd_19 db00h_19
theorem d_X12_count_205 : decode prog_14_method_134_code 205 = .ok (.getfield 576, 3) := gd_20 db00h_19
theorem d_X12_count_208 : decode prog_14_method_134_code 208 = .ok (.ireturn, 1) := gd_21 db00h_19
theorem d_X12_count_209 : decode prog_14_method_134_code 209 = .ok (.aload_n 0, 1) := gd_22 db00h_19
theorem d_X12_count_210 : decode prog_14_method_134_code 210 = .ok (.getfield 591, 3) := gd_23 db00h_19
theorem db00h_20 : Ad_ prog_14_method_134_code [(213, .ireturn, 1), (214, .aload_n 0, 1), (215, .getfield 620, 3), (218, .ireturn, 1), (219, .aload_n 0, 1), (220, .getfield 623, 3), (223, .ireturn, 1), (224, .aload_n 0, 1), (225, .getfield 641, 3), (228, .ireturn, 1), (229, .aload_n 0, 1), (230, .getfield 665, 3), (233, .ireturn, 1), (234, .aload_n 0, 1), (235, .getfield 117, 3), (238, .iconst 1, 1), (239, .iaload, 1), (240, .ireturn, 1), (241, .aload_n 0, 1), (242, .getfield 685, 3), (245, .ireturn, 1), (246, .iload_n 3, 1), (247, .ireturn, 1), (248, .aload_n 0, 1)] := bch_ok prog_14_method_134_code _ 213 (by decide +kernel)
theorem d_X12_count_213 : decode prog_14_method_134_code 213 = .ok (.ireturn, 1) := gd_0 db00h_20
theorem d_X12_count_214 : decode prog_14_method_134_code 214 = .ok (.aload_n 0, 1) := gd_1 db00h_20
theorem d_X12_count_215 : decode prog_14_method_134_code 215 = .ok (.getfield 620, 3) := gd_2 db00h_20
theorem d_X12_count_218 : decode prog_14_method_134_code 218 = .ok (.ireturn, 1) := gd_3 db00h_20
theorem d_X12_count_219 : decode prog_14_method_134_code 219 = .ok (.aload_n 0, 1) := gd_4 db00h_20
theorem d_X12_count_220 : decode prog_14_method_134_code 220 = .ok (.getfield 623, 3) := gd_5 db00h_20
theorem d_X12_count_223 : decode prog_14_method_134_code 223 = .ok (.ireturn, 1) := gd_6 db00h_20
theorem d_X12_count_224 : decode prog_14_method_134_code 224 = .ok (.aload_n 0, 1) := gd_7 db00h_20
theorem d_X12_count_225 : decode prog_14_method_134_code 225 = .ok (.getfield 641, 3) := gd_8 db00h_20
theorem d_X12_count_228 : decode prog_14_method_134_code 228 = .ok (.ireturn, 1) := gd_9 db00h_20
theorem d_X12_count_229 : decode prog_14_method_134_code 229 = .ok (.aload_n 0, 1) := gd_10 db00h_20
theorem d_X12_count_230 : decode prog_14_method_134_code 230 = .ok (.getfield 665, 3) := gd_11 db00h_20
theorem d_X12_count_233 : decode prog_14_method_134_code 233 = .ok (.ireturn, 1) := gd_12 db00h_20
theorem d_X12_count_234 : decode prog_14_method_134_code 234 = .ok (.aload_n 0, 1) := gd_13 db00h_20
theorem d_X12_count_235 : decode prog_14_method_134_code 235 = .ok (.getfield 117, 3) := gd_14 db00h_20
theorem d_X12_count_238 : decode prog_14_method_134_code 238 = .ok (.iconst 1, 1) := gd_15 db00h_20
theorem d_X12_count_239 : decode prog_14_method_134_code 239 = .ok (.iaload, 1) := gd_16 db00h_20
theorem d_X12_count_240 : decode prog_14_method_134_code 240 = .ok (.ireturn, 1) := gd_17 db00h_20
theorem d_X12_count_241 : decode prog_14_method_134_code 241 = .ok (.aload_n 0, 1) := gd_18 db00h_20
theorem d_X12_count_242 : decode prog_14_method_134_code 242 = .ok (.getfield 685, 3) := gd_19 db00h_20
theorem d_X12_count_245 : decode prog_14_method_134_code 245 = .ok (.ireturn, 1) := gd_20 db00h_20
theorem d_X12_count_246 : decode prog_14_method_134_code 246 = .ok (.iload_n 3, 1) := gd_21 db00h_20
theorem d_X12_count_247 : decode prog_14_method_134_code 247 = .ok (.ireturn, 1) := gd_22 db00h_20
theorem d_X12_count_248 : decode prog_14_method_134_code 248 = .ok (.aload_n 0, 1) := gd_23 db00h_20
theorem db00h_21 : Ad_ prog_14_method_134_code [(249, .getfield 362, 3), (252, .ireturn, 1), (253, .iconst (-1), 1), (254, .ireturn, 1)] := bch_ok prog_14_method_134_code _ 249 (by decide +kernel)
theorem d_X12_count_249 : decode prog_14_method_134_code 249 = .ok (.getfield 362, 3) := gd_0 db00h_21
theorem d_X12_count_252 : decode prog_14_method_134_code 252 = .ok (.ireturn, 1) := gd_1 db00h_21
theorem d_X12_count_253 : decode prog_14_method_134_code 253 = .ok (.iconst (-1), 1) := gd_2 db00h_21
theorem d_X12_count_254 : decode prog_14_method_134_code 254 = .ok (.ireturn, 1) := gd_3 db00h_21
theorem d_J11_isValidCodePoint_9a6ad_3 : decode prog_15_method_11_code 3 = .ok (.iushr, 1) := by decide +kernel
theorem db00h_22 : Ad_ prog_15_method_11_code [(0, .iload_n 0, 1), (1, .bipush 16, 2), (4, .istore_n 1, 1), (5, .iload_n 1, 1), (6, .bipush 17, 2), (8, .if_icmp .ge 7, 3), (11, .iconst 1, 1), (12, .goto 4, 3), (15, .iconst 0, 1), (16, .ireturn, 1)] := bch_ok prog_15_method_11_code _ 0 (by decide +kernel)
theorem d_J11_isValidCodePoint_9a6ad_0 : decode prog_15_method_11_code 0 = .ok (.iload_n 0, 1) := gd_0 db00h_22
theorem d_J11_isValidCodePoint_9a6ad_1 : decode prog_15_method_11_code 1 = .ok (.bipush 16, 2) := gd_1 db00h_22
theorem d_J11_isValidCodePoint_9a6ad_4 : decode prog_15_method_11_code 4 = .ok (.istore_n 1, 1) := gd_2 db00h_22
theorem d_J11_isValidCodePoint_9a6ad_5 : decode prog_15_method_11_code 5 = .ok (.iload_n 1, 1) := gd_3 db00h_22
theorem d_J11_isValidCodePoint_9a6ad_6 : decode prog_15_method_11_code 6 = .ok (.bipush 17, 2) := gd_4 db00h_22
theorem d_J11_isValidCodePoint_9a6ad_8 : decode prog_15_method_11_code 8 = .ok (.if_icmp .ge 7, 3) := gd_5 db00h_22
theorem d_J11_isValidCodePoint_9a6ad_11 : decode prog_15_method_11_code 11 = .ok (.iconst 1, 1) := gd_6 db00h_22
theorem d_J11_isValidCodePoint_9a6ad_12 : decode prog_15_method_11_code 12 = .ok (.goto 4, 3) := gd_7 db00h_22
theorem d_J11_isValidCodePoint_9a6ad_15 : decode prog_15_method_11_code 15 = .ok (.iconst 0, 1) := gd_8 db00h_22
theorem d_J11_isValidCodePoint_9a6ad_16 : decode prog_15_method_11_code 16 = .ok (.ireturn, 1) := gd_9 db00h_22
theorem d_J11_highSurrogate_5068e_3 : decode prog_15_method_28_code 3 = .ok (.iushr, 1) := by decide +kernel
theorem d_J11_highSurrogate_5068e_7 : decode prog_15_method_28_code 7 = .ok (.i2c, 1) := by decide +kernel
theorem db00h_23 : Ad_ prog_15_method_28_code [(0, .iload_n 0, 1), (1, .bipush 10, 2), (4, .ldc 110, 2), (6, .iadd, 1), (8, .ireturn, 1)] := bch_ok prog_15_method_28_code _ 0 (by decide +kernel)
theorem d_J11_highSurrogate_5068e_0 : decode prog_15_method_28_code 0 = .ok (.iload_n 0, 1) := gd_0 db00h_23
theorem d_J11_highSurrogate_5068e_1 : decode prog_15_method_28_code 1 = .ok (.bipush 10, 2) := gd_1 db00h_23
theorem d_J11_highSurrogate_5068e_4 : decode prog_15_method_28_code 4 = .ok (.ldc 110, 2) := gd_2 db00h_23
theorem d_J11_highSurrogate_5068e_6 : decode prog_15_method_28_code 6 = .ok (.iadd, 1) := gd_3 db00h_23
theorem d_J11_highSurrogate_5068e_8 : decode prog_15_method_28_code 8 = .ok (.ireturn, 1) := gd_4 db00h_23
theorem d_J11_lowSurrogate_5068e_8 : decode prog_15_method_29_code 8 = .ok (.i2c, 1) := by decide +kernel
theorem db00h_24 : Ad_ prog_15_method_29_code [(0, .iload_n 0, 1), (1, .sipush 1023, 3), (4, .iand, 1), (5, .ldc 76, 2), (7, .iadd, 1), (9, .ireturn, 1)] := bch_ok prog_15_method_29_code _ 0 (by decide +kernel)
theorem d_J11_lowSurrogate_5068e_0 : decode prog_15_method_29_code 0 = .ok (.iload_n 0, 1) := gd_0 db00h_24
theorem d_J11_lowSurrogate_5068e_1 : decode prog_15_method_29_code 1 = .ok (.sipush 1023, 3) := gd_1 db00h_24
theorem d_J11_lowSurrogate_5068e_4 : decode prog_15_method_29_code 4 = .ok (.iand, 1) := gd_2 db00h_24
theorem d_J11_lowSurrogate_5068e_5 : decode prog_15_method_29_code 5 = .ok (.ldc 76, 2) := gd_3 db00h_24
theorem d_J11_lowSurrogate_5068e_7 : decode prog_15_method_29_code 7 = .ok (.iadd, 1) := gd_4 db00h_24
theorem d_J11_lowSurrogate_5068e_9 : decode prog_15_method_29_code 9 = .ok (.ireturn, 1) := gd_5 db00h_24
theorem d_J6_bitCount_0f7a4_3 : decode prog_18_method_49_code 3 = .ok (.iushr, 1) := by decide +kernel
theorem d_J6_bitCount_0f7a4_17 : decode prog_18_method_49_code 17 = .ok (.iushr, 1) := by decide +kernel
theorem d_J6_bitCount_0f7a4_27 : decode prog_18_method_49_code 27 = .ok (.iushr, 1) := by decide +kernel
theorem db00h_25 : Ad_ prog_18_method_49_code [(0, .iload_n 0, 1), (1, .iload_n 0, 1), (2, .iconst 1, 1), (4, .ldc_w 265, 3), (7, .iand, 1), (8, .isub, 1), (9, .istore_n 0, 1), (10, .iload_n 0, 1), (11, .ldc_w 266, 3), (14, .iand, 1), (15, .iload_n 0, 1), (16, .iconst 2, 1), (18, .ldc_w 266, 3), (21, .iand, 1), (22, .iadd, 1), (23, .istore_n 0, 1), (24, .iload_n 0, 1), (25, .iload_n 0, 1), (26, .iconst 4, 1), (28, .iadd, 1), (29, .ldc_w 267, 3), (32, .iand, 1), (33, .istore_n 0, 1), (34, .iload_n 0, 1)] := bch_ok prog_18_method_49_code _ 0 (by decide +kernel)
theorem d_J6_bitCount_0f7a4_0 : decode prog_18_method_49_code 0 = .ok (.iload_n 0, 1) := gd_0 db00h_25
theorem d_J6_bitCount_0f7a4_1 : decode prog_18_method_49_code 1 = .ok (.iload_n 0, 1) := gd_1 db00h_25
theorem d_J6_bitCount_0f7a4_2 : decode prog_18_method_49_code 2 = .ok (.iconst 1, 1) := gd_2 db00h_25
theorem d_J6_bitCount_0f7a4_4 : decode prog_18_method_49_code 4 = .ok (.ldc_w 265, 3) := gd_3 db00h_25
theorem d_J6_bitCount_0f7a4_7 : decode prog_18_method_49_code 7 = .ok (.iand, 1) := gd_4 db00h_25
theorem d_J6_bitCount_0f7a4_8 : decode prog_18_method_49_code 8 = .ok (.isub, 1) := gd_5 db00h_25
theorem d_J6_bitCount_0f7a4_9 : decode prog_18_method_49_code 9 = .ok (.istore_n 0, 1) := gd_6 db00h_25
theorem d_J6_bitCount_0f7a4_10 : decode prog_18_method_49_code 10 = .ok (.iload_n 0, 1) := gd_7 db00h_25
theorem d_J6_bitCount_0f7a4_11 : decode prog_18_method_49_code 11 = .ok (.ldc_w 266, 3) := gd_8 db00h_25
theorem d_J6_bitCount_0f7a4_14 : decode prog_18_method_49_code 14 = .ok (.iand, 1) := gd_9 db00h_25
theorem d_J6_bitCount_0f7a4_15 : decode prog_18_method_49_code 15 = .ok (.iload_n 0, 1) := gd_10 db00h_25
theorem d_J6_bitCount_0f7a4_16 : decode prog_18_method_49_code 16 = .ok (.iconst 2, 1) := gd_11 db00h_25
theorem d_J6_bitCount_0f7a4_18 : decode prog_18_method_49_code 18 = .ok (.ldc_w 266, 3) := gd_12 db00h_25
theorem d_J6_bitCount_0f7a4_21 : decode prog_18_method_49_code 21 = .ok (.iand, 1) := gd_13 db00h_25
theorem d_J6_bitCount_0f7a4_22 : decode prog_18_method_49_code 22 = .ok (.iadd, 1) := gd_14 db00h_25
theorem d_J6_bitCount_0f7a4_23 : decode prog_18_method_49_code 23 = .ok (.istore_n 0, 1) := gd_15 db00h_25
theorem d_J6_bitCount_0f7a4_24 : decode prog_18_method_49_code 24 = .ok (.iload_n 0, 1) := gd_16 db00h_25
theorem d_J6_bitCount_0f7a4_25 : decode prog_18_method_49_code 25 = .ok (.iload_n 0, 1) := gd_17 db00h_25
theorem d_J6_bitCount_0f7a4_26 : decode prog_18_method_49_code 26 = .ok (.iconst 4, 1) := gd_18 db00h_25
theorem d_J6_bitCount_0f7a4_28 : decode prog_18_method_49_code 28 = .ok (.iadd, 1) := gd_19 db00h_25
theorem d_J6_bitCount_0f7a4_29 : decode prog_18_method_49_code 29 = .ok (.ldc_w 267, 3) := gd_20 db00h_25
theorem d_J6_bitCount_0f7a4_32 : decode prog_18_method_49_code 32 = .ok (.iand, 1) := gd_21 db00h_25
theorem d_J6_bitCount_0f7a4_33 : decode prog_18_method_49_code 33 = .ok (.istore_n 0, 1) := gd_22 db00h_25
theorem d_J6_bitCount_0f7a4_34 : decode prog_18_method_49_code 34 = .ok (.iload_n 0, 1) := gd_23 db00h_25
theorem d_J6_bitCount_0f7a4_38 : decode prog_18_method_49_code 38 = .ok (.iushr, 1) := by decide +kernel
theorem d_J6_bitCount_0f7a4_45 : decode prog_18_method_49_code 45 = .ok (.iushr, 1) := by decide +kernel
theorem db00h_26 : Ad_ prog_18_method_49_code [(35, .iload_n 0, 1), (36, .bipush 8, 2), (39, .iadd, 1), (40, .istore_n 0, 1), (41, .iload_n 0, 1), (42, .iload_n 0, 1), (43, .bipush 16, 2), (46, .iadd, 1), (47, .istore_n 0, 1), (48, .iload_n 0, 1), (49, .bipush 63, 2), (51, .iand, 1), (52, .ireturn, 1)] := bch_ok prog_18_method_49_code _ 35 (by decide +kernel)
theorem d_J6_bitCount_0f7a4_35 : decode prog_18_method_49_code 35 = .ok (.iload_n 0, 1) := gd_0 db00h_26
theorem d_J6_bitCount_0f7a4_36 : decode prog_18_method_49_code 36 = .ok (.bipush 8, 2) := gd_1 db00h_26
theorem d_J6_bitCount_0f7a4_39 : decode prog_18_method_49_code 39 = .ok (.iadd, 1) := gd_2 db00h_26
theorem d_J6_bitCount_0f7a4_40 : decode prog_18_method_49_code 40 = .ok (.istore_n 0, 1) := gd_3 db00h_26
theorem d_J6_bitCount_0f7a4_41 : decode prog_18_method_49_code 41 = .ok (.iload_n 0, 1) := gd_4 db00h_26
theorem d_J6_bitCount_0f7a4_42 : decode prog_18_method_49_code 42 = .ok (.iload_n 0, 1) := gd_5 db00h_26
theorem d_J6_bitCount_0f7a4_43 : decode prog_18_method_49_code 43 = .ok (.bipush 16, 2) := gd_6 db00h_26
theorem d_J6_bitCount_0f7a4_46 : decode prog_18_method_49_code 46 = .ok (.iadd, 1) := gd_7 db00h_26
theorem d_J6_bitCount_0f7a4_47 : decode prog_18_method_49_code 47 = .ok (.istore_n 0, 1) := gd_8 db00h_26
theorem d_J6_bitCount_0f7a4_48 : decode prog_18_method_49_code 48 = .ok (.iload_n 0, 1) := gd_9 db00h_26
theorem d_J6_bitCount_0f7a4_49 : decode prog_18_method_49_code 49 = .ok (.bipush 63, 2) := gd_10 db00h_26
theorem d_J6_bitCount_0f7a4_51 : decode prog_18_method_49_code 51 = .ok (.iand, 1) := gd_11 db00h_26
theorem d_J6_bitCount_0f7a4_52 : decode prog_18_method_49_code 52 = .ok (.ireturn, 1) := gd_12 db00h_26
theorem db00h_27 : Ad_ prog_19_method_65_code [(0, .iload_n 0, 1), (1, .iload_n 1, 1), (2, .if_icmp .lt 7, 3), (5, .iload_n 0, 1), (6, .goto 4, 3), (9, .iload_n 1, 1), (10, .ireturn, 1)] := bch_ok prog_19_method_65_code _ 0 (by decide +kernel)
theorem d_J9_max_7cf53_0 : decode prog_19_method_65_code 0 = .ok (.iload_n 0, 1) := gd_0 db00h_27
theorem d_J9_max_7cf53_1 : decode prog_19_method_65_code 1 = .ok (.iload_n 1, 1) := gd_1 db00h_27
theorem d_J9_max_7cf53_2 : decode prog_19_method_65_code 2 = .ok (.if_icmp .lt 7, 3) := gd_2 db00h_27
theorem d_J9_max_7cf53_5 : decode prog_19_method_65_code 5 = .ok (.iload_n 0, 1) := gd_3 db00h_27
theorem d_J9_max_7cf53_6 : decode prog_19_method_65_code 6 = .ok (.goto 4, 3) := gd_4 db00h_27
theorem d_J9_max_7cf53_9 : decode prog_19_method_65_code 9 = .ok (.iload_n 1, 1) := gd_5 db00h_27
theorem d_J9_max_7cf53_10 : decode prog_19_method_65_code 10 = .ok (.ireturn, 1) := gd_6 db00h_27
theorem d_J9_max_f86c9_2 : decode prog_19_method_66_code 2 = .ok (.lcmp, 1) := by decide +kernel
theorem d_J9_max_f86c9_11 : decode prog_19_method_66_code 11 = .ok (.lreturn, 1) := by decide +kernel
theorem db00h_28 : Ad_ prog_19_method_66_code [(0, .lload_n 0, 1), (1, .lload_n 2, 1), (3, .ifCond .lt 7, 3), (6, .lload_n 0, 1), (7, .goto 4, 3), (10, .lload_n 2, 1)] := bch_ok prog_19_method_66_code _ 0 (by decide +kernel)
theorem d_J9_max_f86c9_0 : decode prog_19_method_66_code 0 = .ok (.lload_n 0, 1) := gd_0 db00h_28
theorem d_J9_max_f86c9_1 : decode prog_19_method_66_code 1 = .ok (.lload_n 2, 1) := gd_1 db00h_28
theorem d_J9_max_f86c9_3 : decode prog_19_method_66_code 3 = .ok (.ifCond .lt 7, 3) := gd_2 db00h_28
theorem d_J9_max_f86c9_6 : decode prog_19_method_66_code 6 = .ok (.lload_n 0, 1) := gd_3 db00h_28
theorem d_J9_max_f86c9_7 : decode prog_19_method_66_code 7 = .ok (.goto 4, 3) := gd_4 db00h_28
theorem d_J9_max_f86c9_10 : decode prog_19_method_66_code 10 = .ok (.lload_n 2, 1) := gd_5 db00h_28
theorem db00h_29 : Ad_ prog_19_method_69_code [(0, .iload_n 0, 1), (1, .iload_n 1, 1), (2, .if_icmp .gt 7, 3), (5, .iload_n 0, 1), (6, .goto 4, 3), (9, .iload_n 1, 1), (10, .ireturn, 1)] := bch_ok prog_19_method_69_code _ 0 (by decide +kernel)
theorem d_J9_min_7cf53_0 : decode prog_19_method_69_code 0 = .ok (.iload_n 0, 1) := gd_0 db00h_29
theorem d_J9_min_7cf53_1 : decode prog_19_method_69_code 1 = .ok (.iload_n 1, 1) := gd_1 db00h_29
theorem d_J9_min_7cf53_2 : decode prog_19_method_69_code 2 = .ok (.if_icmp .gt 7, 3) := gd_2 db00h_29
theorem d_J9_min_7cf53_5 : decode prog_19_method_69_code 5 = .ok (.iload_n 0, 1) := gd_3 db00h_29
theorem d_J9_min_7cf53_6 : decode prog_19_method_69_code 6 = .ok (.goto 4, 3) := gd_4 db00h_29
theorem d_J9_min_7cf53_9 : decode prog_19_method_69_code 9 = .ok (.iload_n 1, 1) := gd_5 db00h_29
theorem d_J9_min_7cf53_10 : decode prog_19_method_69_code 10 = .ok (.ireturn, 1) := gd_6 db00h_29
theorem d_J9_min_f86c9_2 : decode prog_19_method_70_code 2 = .ok (.lcmp, 1) := by decide +kernel
theorem d_J9_min_f86c9_11 : decode prog_19_method_70_code 11 = .ok (.lreturn, 1) := by decide +kernel
theorem db00h_30 : Ad_ prog_19_method_70_code [(0, .lload_n 0, 1), (1, .lload_n 2, 1), (3, .ifCond .gt 7, 3), (6, .lload_n 0, 1), (7, .goto 4, 3), (10, .lload_n 2, 1)] := bch_ok prog_19_method_70_code _ 0 (by decide +kernel)
theorem d_J9_min_f86c9_0 : decode prog_19_method_70_code 0 = .ok (.lload_n 0, 1) := gd_0 db00h_30
theorem d_J9_min_f86c9_1 : decode prog_19_method_70_code 1 = .ok (.lload_n 2, 1) := gd_1 db00h_30
theorem d_J9_min_f86c9_3 : decode prog_19_method_70_code 3 = .ok (.ifCond .gt 7, 3) := gd_2 db00h_30
theorem d_J9_min_f86c9_6 : decode prog_19_method_70_code 6 = .ok (.lload_n 0, 1) := gd_3 db00h_30
theorem d_J9_min_f86c9_7 : decode prog_19_method_70_code 7 = .ok (.goto 4, 3) := gd_4 db00h_30
theorem d_J9_min_f86c9_10 : decode prog_19_method_70_code 10 = .ok (.lload_n 2, 1) := gd_5 db00h_30
theorem db00h_31 : Ad_ prog_21_method_54_code [(0, .aload_n 0, 1), (1, .getfield 9, 3), (4, .arraylength, 1), (5, .aload_n 0, 1), (6, .invokevirtual 335, 3), (9, .ishr, 1), (10, .ireturn, 1)] := bch_ok prog_21_method_54_code _ 0 (by decide +kernel)
theorem d_J0_length_8abf5_0 : decode prog_21_method_54_code 0 = .ok (.aload_n 0, 1) := gd_0 db00h_31
theorem d_J0_length_8abf5_1 : decode prog_21_method_54_code 1 = .ok (.getfield 9, 3) := gd_1 db00h_31
theorem d_J0_length_8abf5_4 : decode prog_21_method_54_code 4 = .ok (.arraylength, 1) := gd_2 db00h_31
theorem d_J0_length_8abf5_5 : decode prog_21_method_54_code 5 = .ok (.aload_n 0, 1) := gd_3 db00h_31
theorem d_J0_length_8abf5_6 : decode prog_21_method_54_code 6 = .ok (.invokevirtual 335, 3) := gd_4 db00h_31
theorem d_J0_length_8abf5_9 : decode prog_21_method_54_code 9 = .ok (.ishr, 1) := gd_5 db00h_31
theorem d_J0_length_8abf5_10 : decode prog_21_method_54_code 10 = .ok (.ireturn, 1) := gd_6 db00h_31
theorem db00h_32 : Ad_ prog_21_method_56_code [(0, .aload_n 0, 1), (1, .invokevirtual 492, 3), (4, .ifCond .eq 12, 3), (7, .aload_n 0, 1), (8, .getfield 9, 3), (11, .iload_n 1, 1), (12, .invokestatic 495, 3), (15, .ireturn, 1), (16, .aload_n 0, 1), (17, .getfield 9, 3), (20, .iload_n 1, 1), (21, .invokestatic 498, 3), (24, .ireturn, 1)] := bch_ok prog_21_method_56_code _ 0 (by decide +kernel)
theorem d_J0_charAt_5068e_0 : decode prog_21_method_56_code 0 = .ok (.aload_n 0, 1) := gd_0 db00h_32
theorem d_J0_charAt_5068e_1 : decode prog_21_method_56_code 1 = .ok (.invokevirtual 492, 3) := gd_1 db00h_32
theorem d_J0_charAt_5068e_4 : decode prog_21_method_56_code 4 = .ok (.ifCond .eq 12, 3) := gd_2 db00h_32
theorem d_J0_charAt_5068e_7 : decode prog_21_method_56_code 7 = .ok (.aload_n 0, 1) := gd_3 db00h_32
theorem d_J0_charAt_5068e_8 : decode prog_21_method_56_code 8 = .ok (.getfield 9, 3) := gd_4 db00h_32
theorem d_J0_charAt_5068e_11 : decode prog_21_method_56_code 11 = .ok (.iload_n 1, 1) := gd_5 db00h_32
theorem d_J0_charAt_5068e_12 : decode prog_21_method_56_code 12 = .ok (.invokestatic 495, 3) := gd_6 db00h_32
theorem d_J0_charAt_5068e_15 : decode prog_21_method_56_code 15 = .ok (.ireturn, 1) := gd_7 db00h_32
theorem d_J0_charAt_5068e_16 : decode prog_21_method_56_code 16 = .ok (.aload_n 0, 1) := gd_8 db00h_32
theorem d_J0_charAt_5068e_17 : decode prog_21_method_56_code 17 = .ok (.getfield 9, 3) := gd_9 db00h_32
theorem d_J0_charAt_5068e_20 : decode prog_21_method_56_code 20 = .ok (.iload_n 1, 1) := gd_10 db00h_32
theorem d_J0_charAt_5068e_21 : decode prog_21_method_56_code 21 = .ok (.invokestatic 498, 3) := gd_11 db00h_32
theorem d_J0_charAt_5068e_24 : decode prog_21_method_56_code 24 = .ok (.ireturn, 1) := gd_12 db00h_32
theorem db00h_33 : Ad_ prog_21_method_79_code [(0, .aload_n 0, 1), (1, .iload_n 1, 1), (2, .iconst 0, 1), (3, .invokevirtual 633, 3), (6, .ireturn, 1)] := bch_ok prog_21_method_79_code _ 0 (by decide +kernel)
theorem d_J0_indexOf_0f7a4_0 : decode prog_21_method_79_code 0 = .ok (.aload_n 0, 1) := gd_0 db00h_33
theorem d_J0_indexOf_0f7a4_1 : decode prog_21_method_79_code 1 = .ok (.iload_n 1, 1) := gd_1 db00h_33
theorem d_J0_indexOf_0f7a4_2 : decode prog_21_method_79_code 2 = .ok (.iconst 0, 1) := gd_2 db00h_33
theorem d_J0_indexOf_0f7a4_3 : decode prog_21_method_79_code 3 = .ok (.invokevirtual 633, 3) := gd_3 db00h_33
theorem d_J0_indexOf_0f7a4_6 : decode prog_21_method_79_code 6 = .ok (.ireturn, 1) := gd_4 db00h_33
theorem d_J0_coder_7d493_0 : decode prog_21_method_152_code 0 = .ok (.getstatic 38, 3) := by decide +kernel
theorem db00h_34 : Ad_ prog_21_method_80_code [(0, .aload_n 0, 1), (1, .invokevirtual 492, 3), (4, .ifCond .eq 19, 3), (7, .aload_n 0, 1), (8, .getfield 9, 3), (11, .iload_n 1, 1), (12, .iload_n 2, 1), (13, .aload_n 0, 1), (14, .invokevirtual 505, 3), (17, .invokestatic 637, 3), (20, .goto 16, 3), (23, .aload_n 0, 1), (24, .getfield 9, 3), (27, .iload_n 1, 1), (28, .iload_n 2, 1), (29, .aload_n 0, 1), (30, .invokevirtual 505, 3), (33, .invokestatic 640, 3), (36, .ireturn, 1)] := bch_ok prog_21_method_80_code _ 0 (by decide +kernel)
theorem d_J0_indexOf_7cf53_0 : decode prog_21_method_80_code 0 = .ok (.aload_n 0, 1) := gd_0 db00h_34
theorem d_J0_indexOf_7cf53_1 : decode prog_21_method_80_code 1 = .ok (.invokevirtual 492, 3) := gd_1 db00h_34
theorem d_J0_indexOf_7cf53_4 : decode prog_21_method_80_code 4 = .ok (.ifCond .eq 19, 3) := gd_2 db00h_34
theorem d_J0_indexOf_7cf53_7 : decode prog_21_method_80_code 7 = .ok (.aload_n 0, 1) := gd_3 db00h_34
theorem d_J0_indexOf_7cf53_8 : decode prog_21_method_80_code 8 = .ok (.getfield 9, 3) := gd_4 db00h_34
theorem d_J0_indexOf_7cf53_11 : decode prog_21_method_80_code 11 = .ok (.iload_n 1, 1) := gd_5 db00h_34
theorem d_J0_indexOf_7cf53_12 : decode prog_21_method_80_code 12 = .ok (.iload_n 2, 1) := gd_6 db00h_34
theorem d_J0_indexOf_7cf53_13 : decode prog_21_method_80_code 13 = .ok (.aload_n 0, 1) := gd_7 db00h_34
theorem d_J0_indexOf_7cf53_14 : decode prog_21_method_80_code 14 = .ok (.invokevirtual 505, 3) := gd_8 db00h_34
theorem d_J0_indexOf_7cf53_17 : decode prog_21_method_80_code 17 = .ok (.invokestatic 637, 3) := gd_9 db00h_34
theorem d_J0_indexOf_7cf53_20 : decode prog_21_method_80_code 20 = .ok (.goto 16, 3) := gd_10 db00h_34
theorem d_J0_indexOf_7cf53_23 : decode prog_21_method_80_code 23 = .ok (.aload_n 0, 1) := gd_11 db00h_34
theorem d_J0_indexOf_7cf53_24 : decode prog_21_method_80_code 24 = .ok (.getfield 9, 3) := gd_12 db00h_34
theorem d_J0_indexOf_7cf53_27 : decode prog_21_method_80_code 27 = .ok (.iload_n 1, 1) := gd_13 db00h_34
theorem d_J0_indexOf_7cf53_28 : decode prog_21_method_80_code 28 = .ok (.iload_n 2, 1) := gd_14 db00h_34
theorem d_J0_indexOf_7cf53_29 : decode prog_21_method_80_code 29 = .ok (.aload_n 0, 1) := gd_15 db00h_34
theorem d_J0_indexOf_7cf53_30 : decode prog_21_method_80_code 30 = .ok (.invokevirtual 505, 3) := gd_16 db00h_34
theorem d_J0_indexOf_7cf53_33 : decode prog_21_method_80_code 33 = .ok (.invokestatic 640, 3) := gd_17 db00h_34
theorem d_J0_indexOf_7cf53_36 : decode prog_21_method_80_code 36 = .ok (.ireturn, 1) := gd_18 db00h_34
theorem d_J0_isLatin1_aae02_0 : decode prog_21_method_154_code 0 = .ok (.getstatic 38, 3) := by decide +kernel
theorem db00h_35 : Ad_ prog_21_method_152_code [(3, .ifCond .eq 10, 3), (6, .aload_n 0, 1), (7, .getfield 15, 3), (10, .goto 4, 3), (13, .iconst 1, 1), (14, .ireturn, 1)] := bch_ok prog_21_method_152_code _ 3 (by decide +kernel)
theorem d_J0_coder_7d493_3 : decode prog_21_method_152_code 3 = .ok (.ifCond .eq 10, 3) := gd_0 db00h_35
theorem d_J0_coder_7d493_6 : decode prog_21_method_152_code 6 = .ok (.aload_n 0, 1) := gd_1 db00h_35
theorem d_J0_coder_7d493_7 : decode prog_21_method_152_code 7 = .ok (.getfield 15, 3) := gd_2 db00h_35
theorem d_J0_coder_7d493_10 : decode prog_21_method_152_code 10 = .ok (.goto 4, 3) := gd_3 db00h_35
theorem d_J0_coder_7d493_13 : decode prog_21_method_152_code 13 = .ok (.iconst 1, 1) := gd_4 db00h_35
theorem d_J0_coder_7d493_14 : decode prog_21_method_152_code 14 = .ok (.ireturn, 1) := gd_5 db00h_35
theorem db00h_36 : Ad_ prog_21_method_154_code [(3, .ifCond .eq 14, 3), (6, .aload_n 0, 1), (7, .getfield 15, 3), (10, .ifCond .ne 7, 3), (13, .iconst 1, 1), (14, .goto 4, 3), (17, .iconst 0, 1), (18, .ireturn, 1)] := bch_ok prog_21_method_154_code _ 3 (by decide +kernel)
theorem d_J0_isLatin1_aae02_3 : decode prog_21_method_154_code 3 = .ok (.ifCond .eq 14, 3) := gd_0 db00h_36
theorem d_J0_isLatin1_aae02_6 : decode prog_21_method_154_code 6 = .ok (.aload_n 0, 1) := gd_1 db00h_36
theorem d_J0_isLatin1_aae02_7 : decode prog_21_method_154_code 7 = .ok (.getfield 15, 3) := gd_2 db00h_36
theorem d_J0_isLatin1_aae02_10 : decode prog_21_method_154_code 10 = .ok (.ifCond .ne 7, 3) := gd_3 db00h_36
theorem d_J0_isLatin1_aae02_13 : decode prog_21_method_154_code 13 = .ok (.iconst 1, 1) := gd_4 db00h_36
theorem d_J0_isLatin1_aae02_14 : decode prog_21_method_154_code 14 = .ok (.goto 4, 3) := gd_5 db00h_36
theorem d_J0_isLatin1_aae02_17 : decode prog_21_method_154_code 17 = .ok (.iconst 0, 1) := gd_6 db00h_36
theorem d_J0_isLatin1_aae02_18 : decode prog_21_method_154_code 18 = .ok (.ireturn, 1) := gd_7 db00h_36
theorem d_J0_checkIndex_df160_2 : decode prog_21_method_155_code 2 = .ok (.getstatic 1053, 3) := by decide +kernel
theorem db00h_37 : Ad_ prog_21_method_155_code [(0, .iload_n 0, 1), (1, .iload_n 1, 1), (5, .invokestatic 1059, 3), (8, .pop, 1), (9, .return_, 1)] := bch_ok prog_21_method_155_code _ 0 (by decide +kernel)
theorem d_J0_checkIndex_df160_0 : decode prog_21_method_155_code 0 = .ok (.iload_n 0, 1) := gd_0 db00h_37
theorem d_J0_checkIndex_df160_1 : decode prog_21_method_155_code 1 = .ok (.iload_n 1, 1) := gd_1 db00h_37
theorem d_J0_checkIndex_df160_5 : decode prog_21_method_155_code 5 = .ok (.invokestatic 1059, 3) := gd_2 db00h_37
theorem d_J0_checkIndex_df160_8 : decode prog_21_method_155_code 8 = .ok (.pop, 1) := gd_3 db00h_37
theorem d_J0_checkIndex_df160_9 : decode prog_21_method_155_code 9 = .ok (.return_, 1) := gd_4 db00h_37
theorem d_J0_checkBoundsBeginEnd_23922_3 : decode prog_21_method_158_code 3 = .ok (.getstatic 1053, 3) := by decide +kernel
theorem db00h_38 : Ad_ prog_21_method_158_code [(0, .iload_n 0, 1), (1, .iload_n 1, 1), (2, .iload_n 2, 1), (6, .invokestatic 1062, 3), (9, .pop, 1), (10, .return_, 1)] := bch_ok prog_21_method_158_code _ 0 (by decide +kernel)
theorem d_J0_checkBoundsBeginEnd_23922_0 : decode prog_21_method_158_code 0 = .ok (.iload_n 0, 1) := gd_0 db00h_38
theorem d_J0_checkBoundsBeginEnd_23922_1 : decode prog_21_method_158_code 1 = .ok (.iload_n 1, 1) := gd_1 db00h_38
theorem d_J0_checkBoundsBeginEnd_23922_2 : decode prog_21_method_158_code 2 = .ok (.iload_n 2, 1) := gd_2 db00h_38
theorem d_J0_checkBoundsBeginEnd_23922_6 : decode prog_21_method_158_code 6 = .ok (.invokestatic 1062, 3) := gd_3 db00h_38
theorem d_J0_checkBoundsBeginEnd_23922_9 : decode prog_21_method_158_code 9 = .ok (.pop, 1) := gd_4 db00h_38
theorem d_J0_checkBoundsBeginEnd_23922_10 : decode prog_21_method_158_code 10 = .ok (.return_, 1) := gd_5 db00h_38
theorem d_J1_charAt_3b067_13 : decode prog_22_method_2_code 13 = .ok (.i2c, 1) := by decide +kernel
theorem db00h_39 : Ad_ prog_22_method_2_code [(0, .iload_n 1, 1), (1, .aload_n 0, 1), (2, .arraylength, 1), (3, .invokestatic 9, 3), (6, .aload_n 0, 1), (7, .iload_n 1, 1), (8, .baload, 1), (9, .sipush 255, 3), (12, .iand, 1), (14, .ireturn, 1)] := bch_ok prog_22_method_2_code _ 0 (by decide +kernel)
theorem d_J1_charAt_3b067_0 : decode prog_22_method_2_code 0 = .ok (.iload_n 1, 1) := gd_0 db00h_39
theorem d_J1_charAt_3b067_1 : decode prog_22_method_2_code 1 = .ok (.aload_n 0, 1) := gd_1 db00h_39
theorem d_J1_charAt_3b067_2 : decode prog_22_method_2_code 2 = .ok (.arraylength, 1) := gd_2 db00h_39
theorem d_J1_charAt_3b067_3 : decode prog_22_method_2_code 3 = .ok (.invokestatic 9, 3) := gd_3 db00h_39
theorem d_J1_charAt_3b067_6 : decode prog_22_method_2_code 6 = .ok (.aload_n 0, 1) := gd_4 db00h_39
theorem d_J1_charAt_3b067_7 : decode prog_22_method_2_code 7 = .ok (.iload_n 1, 1) := gd_5 db00h_39
theorem d_J1_charAt_3b067_8 : decode prog_22_method_2_code 8 = .ok (.baload, 1) := gd_6 db00h_39
theorem d_J1_charAt_3b067_9 : decode prog_22_method_2_code 9 = .ok (.sipush 255, 3) := gd_7 db00h_39
theorem d_J1_charAt_3b067_12 : decode prog_22_method_2_code 12 = .ok (.iand, 1) := gd_8 db00h_39
theorem d_J1_charAt_3b067_14 : decode prog_22_method_2_code 14 = .ok (.ireturn, 1) := gd_9 db00h_39
theorem db00h_40 : Ad_ prog_22_method_4_code [(0, .iload_n 0, 1), (1, .ifCond .lt 14, 3), (4, .iload_n 0, 1), (5, .sipush 255, 3), (8, .if_icmp .gt 7, 3), (11, .iconst 1, 1), (12, .goto 4, 3), (15, .iconst 0, 1), (16, .ireturn, 1)] := bch_ok prog_22_method_4_code _ 0 (by decide +kernel)
theorem d_J1_canEncode_9a6ad_0 : decode prog_22_method_4_code 0 = .ok (.iload_n 0, 1) := gd_0 db00h_40
theorem d_J1_canEncode_9a6ad_1 : decode prog_22_method_4_code 1 = .ok (.ifCond .lt 14, 3) := gd_1 db00h_40
theorem d_J1_canEncode_9a6ad_4 : decode prog_22_method_4_code 4 = .ok (.iload_n 0, 1) := gd_2 db00h_40
theorem d_J1_canEncode_9a6ad_5 : decode prog_22_method_4_code 5 = .ok (.sipush 255, 3) := gd_3 db00h_40
theorem d_J1_canEncode_9a6ad_8 : decode prog_22_method_4_code 8 = .ok (.if_icmp .gt 7, 3) := gd_4 db00h_40
theorem d_J1_canEncode_9a6ad_11 : decode prog_22_method_4_code 11 = .ok (.iconst 1, 1) := gd_5 db00h_40
theorem d_J1_canEncode_9a6ad_12 : decode prog_22_method_4_code 12 = .ok (.goto 4, 3) := gd_6 db00h_40
theorem d_J1_canEncode_9a6ad_15 : decode prog_22_method_4_code 15 = .ok (.iconst 0, 1) := gd_7 db00h_40
theorem d_J1_canEncode_9a6ad_16 : decode prog_22_method_4_code 16 = .ok (.ireturn, 1) := gd_8 db00h_40
theorem db00h_41 : Ad_ prog_22_method_22_code [(0, .iload_n 1, 1), (1, .invokestatic 88, 3), (4, .ifCond .ne 5, 3), (7, .iconst (-1), 1), (8, .ireturn, 1), (9, .iload_n 2, 1), (10, .iconst 0, 1), (11, .invokestatic 92, 3), (14, .istore_n 2, 1), (15, .iload_n 3, 1), (16, .aload_n 0, 1), (17, .arraylength, 1), (18, .invokestatic 38, 3), (21, .istore_n 3, 1), (22, .iload_n 2, 1), (23, .iload_n 3, 1), (24, .if_icmp .lt 5, 3), (27, .iconst (-1), 1), (28, .ireturn, 1), (29, .aload_n 0, 1), (30, .iload_n 1, 1), (31, .iload_n 2, 1), (32, .iload_n 3, 1), (33, .invokestatic 95, 3)] := bch_ok prog_22_method_22_code _ 0 (by decide +kernel)
theorem d_J1_indexOf_4cfef_0 : decode prog_22_method_22_code 0 = .ok (.iload_n 1, 1) := gd_0 db00h_41
theorem d_J1_indexOf_4cfef_1 : decode prog_22_method_22_code 1 = .ok (.invokestatic 88, 3) := gd_1 db00h_41
theorem d_J1_indexOf_4cfef_4 : decode prog_22_method_22_code 4 = .ok (.ifCond .ne 5, 3) := gd_2 db00h_41
theorem d_J1_indexOf_4cfef_7 : decode prog_22_method_22_code 7 = .ok (.iconst (-1), 1) := gd_3 db00h_41
theorem d_J1_indexOf_4cfef_8 : decode prog_22_method_22_code 8 = .ok (.ireturn, 1) := gd_4 db00h_41
theorem d_J1_indexOf_4cfef_9 : decode prog_22_method_22_code 9 = .ok (.iload_n 2, 1) := gd_5 db00h_41
theorem d_J1_indexOf_4cfef_10 : decode prog_22_method_22_code 10 = .ok (.iconst 0, 1) := gd_6 db00h_41
theorem d_J1_indexOf_4cfef_11 : decode prog_22_method_22_code 11 = .ok (.invokestatic 92, 3) := gd_7 db00h_41
theorem d_J1_indexOf_4cfef_14 : decode prog_22_method_22_code 14 = .ok (.istore_n 2, 1) := gd_8 db00h_41
theorem d_J1_indexOf_4cfef_15 : decode prog_22_method_22_code 15 = .ok (.iload_n 3, 1) := gd_9 db00h_41
theorem d_J1_indexOf_4cfef_16 : decode prog_22_method_22_code 16 = .ok (.aload_n 0, 1) := gd_10 db00h_41
theorem d_J1_indexOf_4cfef_17 : decode prog_22_method_22_code 17 = .ok (.arraylength, 1) := gd_11 db00h_41
theorem d_J1_indexOf_4cfef_18 : decode prog_22_method_22_code 18 = .ok (.invokestatic 38, 3) := gd_12 db00h_41
theorem d_J1_indexOf_4cfef_21 : decode prog_22_method_22_code 21 = .ok (.istore_n 3, 1) := gd_13 db00h_41
theorem d_J1_indexOf_4cfef_22 : decode prog_22_method_22_code 22 = .ok (.iload_n 2, 1) := gd_14 db00h_41
theorem d_J1_indexOf_4cfef_23 : decode prog_22_method_22_code 23 = .ok (.iload_n 3, 1) := gd_15 db00h_41
theorem d_J1_indexOf_4cfef_24 : decode prog_22_method_22_code 24 = .ok (.if_icmp .lt 5, 3) := gd_16 db00h_41
theorem d_J1_indexOf_4cfef_27 : decode prog_22_method_22_code 27 = .ok (.iconst (-1), 1) := gd_17 db00h_41
theorem d_J1_indexOf_4cfef_28 : decode prog_22_method_22_code 28 = .ok (.ireturn, 1) := gd_18 db00h_41
theorem d_J1_indexOf_4cfef_29 : decode prog_22_method_22_code 29 = .ok (.aload_n 0, 1) := gd_19 db00h_41
theorem d_J1_indexOf_4cfef_30 : decode prog_22_method_22_code 30 = .ok (.iload_n 1, 1) := gd_20 db00h_41
theorem d_J1_indexOf_4cfef_31 : decode prog_22_method_22_code 31 = .ok (.iload_n 2, 1) := gd_21 db00h_41
theorem d_J1_indexOf_4cfef_32 : decode prog_22_method_22_code 32 = .ok (.iload_n 3, 1) := gd_22 db00h_41
theorem d_J1_indexOf_4cfef_33 : decode prog_22_method_22_code 33 = .ok (.invokestatic 95, 3) := gd_23 db00h_41
theorem d_J1_indexOf_4cfef_36 : decode prog_22_method_22_code 36 = .ok (.ireturn, 1) := by decide +kernel
theorem d_J1_indexOfChar_4cfef_1 : decode prog_22_method_23_code 1 = .ok (.i2b, 1) := by decide +kernel
theorem d_J2_getChar_3b067_0 : decode prog_23_method_5_code 0 = .ok (.getstatic 44, 3) := by decide +kernel
theorem db00h_42 : Ad_ prog_22_method_23_code [(0, .iload_n 1, 1), (2, .istore 4, 2), (4, .iload_n 2, 1), (5, .istore 5, 2), (7, .iload 5, 2), (9, .iload_n 3, 1), (10, .if_icmp .ge 21, 3), (13, .aload_n 0, 1), (14, .iload 5, 2), (16, .baload, 1), (17, .iload 4, 2), (19, .if_icmp .ne 6, 3), (22, .iload 5, 2), (24, .ireturn, 1), (25, .iinc 5 1, 3), (28, .goto (-21), 3), (31, .iconst (-1), 1), (32, .ireturn, 1)] := bch_ok prog_22_method_23_code _ 0 (by decide +kernel)
theorem d_J1_indexOfChar_4cfef_0 : decode prog_22_method_23_code 0 = .ok (.iload_n 1, 1) := gd_0 db00h_42
theorem d_J1_indexOfChar_4cfef_2 : decode prog_22_method_23_code 2 = .ok (.istore 4, 2) := gd_1 db00h_42
theorem d_J1_indexOfChar_4cfef_4 : decode prog_22_method_23_code 4 = .ok (.iload_n 2, 1) := gd_2 db00h_42
theorem d_J1_indexOfChar_4cfef_5 : decode prog_22_method_23_code 5 = .ok (.istore 5, 2) := gd_3 db00h_42
theorem d_J1_indexOfChar_4cfef_7 : decode prog_22_method_23_code 7 = .ok (.iload 5, 2) := gd_4 db00h_42
theorem d_J1_indexOfChar_4cfef_9 : decode prog_22_method_23_code 9 = .ok (.iload_n 3, 1) := gd_5 db00h_42
theorem d_J1_indexOfChar_4cfef_10 : decode prog_22_method_23_code 10 = .ok (.if_icmp .ge 21, 3) := gd_6 db00h_42
theorem d_J1_indexOfChar_4cfef_13 : decode prog_22_method_23_code 13 = .ok (.aload_n 0, 1) := gd_7 db00h_42
theorem d_J1_indexOfChar_4cfef_14 : decode prog_22_method_23_code 14 = .ok (.iload 5, 2) := gd_8 db00h_42
theorem d_J1_indexOfChar_4cfef_16 : decode prog_22_method_23_code 16 = .ok (.baload, 1) := gd_9 db00h_42
theorem d_J1_indexOfChar_4cfef_17 : decode prog_22_method_23_code 17 = .ok (.iload 4, 2) := gd_10 db00h_42
theorem d_J1_indexOfChar_4cfef_19 : decode prog_22_method_23_code 19 = .ok (.if_icmp .ne 6, 3) := gd_11 db00h_42
theorem d_J1_indexOfChar_4cfef_22 : decode prog_22_method_23_code 22 = .ok (.iload 5, 2) := gd_12 db00h_42
theorem d_J1_indexOfChar_4cfef_24 : decode prog_22_method_23_code 24 = .ok (.ireturn, 1) := gd_13 db00h_42
theorem d_J1_indexOfChar_4cfef_25 : decode prog_22_method_23_code 25 = .ok (.iinc 5 1, 3) := gd_14 db00h_42
theorem d_J1_indexOfChar_4cfef_28 : decode prog_22_method_23_code 28 = .ok (.goto (-21), 3) := gd_15 db00h_42
theorem d_J1_indexOfChar_4cfef_31 : decode prog_22_method_23_code 31 = .ok (.iconst (-1), 1) := gd_16 db00h_42
theorem d_J1_indexOfChar_4cfef_32 : decode prog_22_method_23_code 32 = .ok (.ireturn, 1) := gd_17 db00h_42
theorem d_J2_getChar_3b067_27 : decode prog_23_method_5_code 27 = .ok (.athrow, 1) := by decide +kernel
theorem d_J2_getChar_3b067_42 : decode prog_23_method_5_code 42 = .ok (.getstatic 59, 3) := by decide +kernel
theorem db00h_43 : Ad_ prog_23_method_5_code [(3, .ifCond .ne 25, 3), (6, .iload_n 1, 1), (7, .ifCond .lt 11, 3), (10, .iload_n 1, 1), (11, .aload_n 0, 1), (12, .invokestatic 48, 3), (15, .if_icmp .lt 13, 3), (18, .new 52, 3), (21, .dup, 1), (22, .ldc 54, 2), (24, .invokespecial 56, 3), (28, .iload_n 1, 1), (29, .iconst 1, 1), (30, .ishl, 1), (31, .istore_n 1, 1), (32, .aload_n 0, 1), (33, .iload_n 1, 1), (34, .iinc 1 1, 3), (37, .baload, 1), (38, .sipush 255, 3), (41, .iand, 1), (45, .ishl, 1), (46, .aload_n 0, 1), (47, .iload_n 1, 1)] := bch_ok prog_23_method_5_code _ 3 (by decide +kernel)
theorem d_J2_getChar_3b067_3 : decode prog_23_method_5_code 3 = .ok (.ifCond .ne 25, 3) := gd_0 db00h_43
theorem d_J2_getChar_3b067_6 : decode prog_23_method_5_code 6 = .ok (.iload_n 1, 1) := gd_1 db00h_43
theorem d_J2_getChar_3b067_7 : decode prog_23_method_5_code 7 = .ok (.ifCond .lt 11, 3) := gd_2 db00h_43
theorem d_J2_getChar_3b067_10 : decode prog_23_method_5_code 10 = .ok (.iload_n 1, 1) := gd_3 db00h_43
theorem d_J2_getChar_3b067_11 : decode prog_23_method_5_code 11 = .ok (.aload_n 0, 1) := gd_4 db00h_43
theorem d_J2_getChar_3b067_12 : decode prog_23_method_5_code 12 = .ok (.invokestatic 48, 3) := gd_5 db00h_43
theorem d_J2_getChar_3b067_15 : decode prog_23_method_5_code 15 = .ok (.if_icmp .lt 13, 3) := gd_6 db00h_43
theorem d_J2_getChar_3b067_18 : decode prog_23_method_5_code 18 = .ok (.new 52, 3) := gd_7 db00h_43
theorem d_J2_getChar_3b067_21 : decode prog_23_method_5_code 21 = .ok (.dup, 1) := gd_8 db00h_43
theorem d_J2_getChar_3b067_22 : decode prog_23_method_5_code 22 = .ok (.ldc 54, 2) := gd_9 db00h_43
theorem d_J2_getChar_3b067_24 : decode prog_23_method_5_code 24 = .ok (.invokespecial 56, 3) := gd_10 db00h_43
theorem d_J2_getChar_3b067_28 : decode prog_23_method_5_code 28 = .ok (.iload_n 1, 1) := gd_11 db00h_43
theorem d_J2_getChar_3b067_29 : decode prog_23_method_5_code 29 = .ok (.iconst 1, 1) := gd_12 db00h_43
theorem d_J2_getChar_3b067_30 : decode prog_23_method_5_code 30 = .ok (.ishl, 1) := gd_13 db00h_43
theorem d_J2_getChar_3b067_31 : decode prog_23_method_5_code 31 = .ok (.istore_n 1, 1) := gd_14 db00h_43
theorem d_J2_getChar_3b067_32 : decode prog_23_method_5_code 32 = .ok (.aload_n 0, 1) := gd_15 db00h_43
theorem d_J2_getChar_3b067_33 : decode prog_23_method_5_code 33 = .ok (.iload_n 1, 1) := gd_16 db00h_43
theorem d_J2_getChar_3b067_34 : decode prog_23_method_5_code 34 = .ok (.iinc 1 1, 3) := gd_17 db00h_43
theorem d_J2_getChar_3b067_37 : decode prog_23_method_5_code 37 = .ok (.baload, 1) := gd_18 db00h_43
theorem d_J2_getChar_3b067_38 : decode prog_23_method_5_code 38 = .ok (.sipush 255, 3) := gd_19 db00h_43
theorem d_J2_getChar_3b067_41 : decode prog_23_method_5_code 41 = .ok (.iand, 1) := gd_20 db00h_43
theorem d_J2_getChar_3b067_45 : decode prog_23_method_5_code 45 = .ok (.ishl, 1) := gd_21 db00h_43
theorem d_J2_getChar_3b067_46 : decode prog_23_method_5_code 46 = .ok (.aload_n 0, 1) := gd_22 db00h_43
theorem d_J2_getChar_3b067_47 : decode prog_23_method_5_code 47 = .ok (.iload_n 1, 1) := gd_23 db00h_43
theorem d_J2_getChar_3b067_53 : decode prog_23_method_5_code 53 = .ok (.getstatic 63, 3) := by decide +kernel
theorem d_J2_getChar_3b067_58 : decode prog_23_method_5_code 58 = .ok (.i2c, 1) := by decide +kernel
theorem db00h_44 : Ad_ prog_23_method_5_code [(48, .baload, 1), (49, .sipush 255, 3), (52, .iand, 1), (56, .ishl, 1), (57, .ior, 1), (59, .ireturn, 1)] := bch_ok prog_23_method_5_code _ 48 (by decide +kernel)
theorem d_J2_getChar_3b067_48 : decode prog_23_method_5_code 48 = .ok (.baload, 1) := gd_0 db00h_44
theorem d_J2_getChar_3b067_49 : decode prog_23_method_5_code 49 = .ok (.sipush 255, 3) := gd_1 db00h_44
theorem d_J2_getChar_3b067_52 : decode prog_23_method_5_code 52 = .ok (.iand, 1) := gd_2 db00h_44
theorem d_J2_getChar_3b067_56 : decode prog_23_method_5_code 56 = .ok (.ishl, 1) := gd_3 db00h_44
theorem d_J2_getChar_3b067_57 : decode prog_23_method_5_code 57 = .ok (.ior, 1) := gd_4 db00h_44
theorem d_J2_getChar_3b067_59 : decode prog_23_method_5_code 59 = .ok (.ireturn, 1) := gd_5 db00h_44
theorem db00h_45 : Ad_ prog_23_method_6_code [(0, .aload_n 0, 1), (1, .arraylength, 1), (2, .iconst 1, 1), (3, .ishr, 1), (4, .ireturn, 1)] := bch_ok prog_23_method_6_code _ 0 (by decide +kernel)
theorem d_J2_length_9d52b_0 : decode prog_23_method_6_code 0 = .ok (.aload_n 0, 1) := gd_0 db00h_45
theorem d_J2_length_9d52b_1 : decode prog_23_method_6_code 1 = .ok (.arraylength, 1) := gd_1 db00h_45
theorem d_J2_length_9d52b_2 : decode prog_23_method_6_code 2 = .ok (.iconst 1, 1) := gd_2 db00h_45
theorem d_J2_length_9d52b_3 : decode prog_23_method_6_code 3 = .ok (.ishr, 1) := gd_3 db00h_45
theorem d_J2_length_9d52b_4 : decode prog_23_method_6_code 4 = .ok (.ireturn, 1) := gd_4 db00h_45
theorem db00h_46 : Ad_ prog_23_method_40_code [(0, .iload_n 2, 1), (1, .iconst 0, 1), (2, .invokestatic 224, 3), (5, .istore_n 2, 1), (6, .iload_n 3, 1), (7, .aload_n 0, 1), (8, .arraylength, 1), (9, .iconst 1, 1), (10, .ishr, 1), (11, .invokestatic 183, 3), (14, .istore_n 3, 1), (15, .iload_n 2, 1), (16, .iload_n 3, 1), (17, .if_icmp .lt 5, 3), (20, .iconst (-1), 1), (21, .ireturn, 1), (22, .iload_n 1, 1), (23, .ldc 227, 2), (25, .if_icmp .ge 11, 3), (28, .aload_n 0, 1), (29, .iload_n 1, 1), (30, .iload_n 2, 1), (31, .iload_n 3, 1), (32, .invokestatic 228, 3)] := bch_ok prog_23_method_40_code _ 0 (by decide +kernel)
theorem d_J2_indexOf_4cfef_0 : decode prog_23_method_40_code 0 = .ok (.iload_n 2, 1) := gd_0 db00h_46
theorem d_J2_indexOf_4cfef_1 : decode prog_23_method_40_code 1 = .ok (.iconst 0, 1) := gd_1 db00h_46
theorem d_J2_indexOf_4cfef_2 : decode prog_23_method_40_code 2 = .ok (.invokestatic 224, 3) := gd_2 db00h_46
theorem d_J2_indexOf_4cfef_5 : decode prog_23_method_40_code 5 = .ok (.istore_n 2, 1) := gd_3 db00h_46
theorem d_J2_indexOf_4cfef_6 : decode prog_23_method_40_code 6 = .ok (.iload_n 3, 1) := gd_4 db00h_46
theorem d_J2_indexOf_4cfef_7 : decode prog_23_method_40_code 7 = .ok (.aload_n 0, 1) := gd_5 db00h_46
theorem d_J2_indexOf_4cfef_8 : decode prog_23_method_40_code 8 = .ok (.arraylength, 1) := gd_6 db00h_46
theorem d_J2_indexOf_4cfef_9 : decode prog_23_method_40_code 9 = .ok (.iconst 1, 1) := gd_7 db00h_46
theorem d_J2_indexOf_4cfef_10 : decode prog_23_method_40_code 10 = .ok (.ishr, 1) := gd_8 db00h_46
theorem d_J2_indexOf_4cfef_11 : decode prog_23_method_40_code 11 = .ok (.invokestatic 183, 3) := gd_9 db00h_46
theorem d_J2_indexOf_4cfef_14 : decode prog_23_method_40_code 14 = .ok (.istore_n 3, 1) := gd_10 db00h_46
theorem d_J2_indexOf_4cfef_15 : decode prog_23_method_40_code 15 = .ok (.iload_n 2, 1) := gd_11 db00h_46
theorem d_J2_indexOf_4cfef_16 : decode prog_23_method_40_code 16 = .ok (.iload_n 3, 1) := gd_12 db00h_46
theorem d_J2_indexOf_4cfef_17 : decode prog_23_method_40_code 17 = .ok (.if_icmp .lt 5, 3) := gd_13 db00h_46
theorem d_J2_indexOf_4cfef_20 : decode prog_23_method_40_code 20 = .ok (.iconst (-1), 1) := gd_14 db00h_46
theorem d_J2_indexOf_4cfef_21 : decode prog_23_method_40_code 21 = .ok (.ireturn, 1) := gd_15 db00h_46
theorem d_J2_indexOf_4cfef_22 : decode prog_23_method_40_code 22 = .ok (.iload_n 1, 1) := gd_16 db00h_46
theorem d_J2_indexOf_4cfef_23 : decode prog_23_method_40_code 23 = .ok (.ldc 227, 2) := gd_17 db00h_46
theorem d_J2_indexOf_4cfef_25 : decode prog_23_method_40_code 25 = .ok (.if_icmp .ge 11, 3) := gd_18 db00h_46
theorem d_J2_indexOf_4cfef_28 : decode prog_23_method_40_code 28 = .ok (.aload_n 0, 1) := gd_19 db00h_46
theorem d_J2_indexOf_4cfef_29 : decode prog_23_method_40_code 29 = .ok (.iload_n 1, 1) := gd_20 db00h_46
theorem d_J2_indexOf_4cfef_30 : decode prog_23_method_40_code 30 = .ok (.iload_n 2, 1) := gd_21 db00h_46
theorem d_J2_indexOf_4cfef_31 : decode prog_23_method_40_code 31 = .ok (.iload_n 3, 1) := gd_22 db00h_46
theorem d_J2_indexOf_4cfef_32 : decode prog_23_method_40_code 32 = .ok (.invokestatic 228, 3) := gd_23 db00h_46
theorem db00h_47 : Ad_ prog_23_method_40_code [(35, .ireturn, 1), (36, .aload_n 0, 1), (37, .iload_n 1, 1), (38, .iload_n 2, 1), (39, .iload_n 3, 1), (40, .invokestatic 232, 3), (43, .ireturn, 1)] := bch_ok prog_23_method_40_code _ 35 (by decide +kernel)
theorem d_J2_indexOf_4cfef_35 : decode prog_23_method_40_code 35 = .ok (.ireturn, 1) := gd_0 db00h_47
theorem d_J2_indexOf_4cfef_36 : decode prog_23_method_40_code 36 = .ok (.aload_n 0, 1) := gd_1 db00h_47
theorem d_J2_indexOf_4cfef_37 : decode prog_23_method_40_code 37 = .ok (.iload_n 1, 1) := gd_2 db00h_47
theorem d_J2_indexOf_4cfef_38 : decode prog_23_method_40_code 38 = .ok (.iload_n 2, 1) := gd_3 db00h_47
theorem d_J2_indexOf_4cfef_39 : decode prog_23_method_40_code 39 = .ok (.iload_n 3, 1) := gd_4 db00h_47
theorem d_J2_indexOf_4cfef_40 : decode prog_23_method_40_code 40 = .ok (.invokestatic 232, 3) := gd_5 db00h_47
theorem d_J2_indexOf_4cfef_43 : decode prog_23_method_40_code 43 = .ok (.ireturn, 1) := gd_6 db00h_47
theorem db00h_48 : Ad_ prog_23_method_47_code [(0, .iload_n 2, 1), (1, .iload_n 3, 1), (2, .aload_n 0, 1), (3, .invokestatic 96, 3), (6, .aload_n 0, 1), (7, .iload_n 1, 1), (8, .iload_n 2, 1), (9, .iload_n 3, 1), (10, .invokestatic 244, 3), (13, .ireturn, 1)] := bch_ok prog_23_method_47_code _ 0 (by decide +kernel)
theorem d_J2_indexOfChar_4cfef_0 : decode prog_23_method_47_code 0 = .ok (.iload_n 2, 1) := gd_0 db00h_48
theorem d_J2_indexOfChar_4cfef_1 : decode prog_23_method_47_code 1 = .ok (.iload_n 3, 1) := gd_1 db00h_48
theorem d_J2_indexOfChar_4cfef_2 : decode prog_23_method_47_code 2 = .ok (.aload_n 0, 1) := gd_2 db00h_48
theorem d_J2_indexOfChar_4cfef_3 : decode prog_23_method_47_code 3 = .ok (.invokestatic 96, 3) := gd_3 db00h_48
theorem d_J2_indexOfChar_4cfef_6 : decode prog_23_method_47_code 6 = .ok (.aload_n 0, 1) := gd_4 db00h_48
theorem d_J2_indexOfChar_4cfef_7 : decode prog_23_method_47_code 7 = .ok (.iload_n 1, 1) := gd_5 db00h_48
theorem d_J2_indexOfChar_4cfef_8 : decode prog_23_method_47_code 8 = .ok (.iload_n 2, 1) := gd_6 db00h_48
theorem d_J2_indexOfChar_4cfef_9 : decode prog_23_method_47_code 9 = .ok (.iload_n 3, 1) := gd_7 db00h_48
theorem d_J2_indexOfChar_4cfef_10 : decode prog_23_method_47_code 10 = .ok (.invokestatic 244, 3) := gd_8 db00h_48
theorem d_J2_indexOfChar_4cfef_13 : decode prog_23_method_47_code 13 = .ok (.ireturn, 1) := gd_9 db00h_48
theorem db00h_49 : Ad_ prog_23_method_48_code [(0, .iload_n 2, 1), (1, .istore 4, 2), (3, .iload 4, 2), (5, .iload_n 3, 1), (6, .if_icmp .ge 22, 3), (9, .aload_n 0, 1), (10, .iload 4, 2), (12, .invokestatic 71, 3), (15, .iload_n 1, 1), (16, .if_icmp .ne 6, 3), (19, .iload 4, 2), (21, .ireturn, 1), (22, .iinc 4 1, 3), (25, .goto (-22), 3), (28, .iconst (-1), 1), (29, .ireturn, 1)] := bch_ok prog_23_method_48_code _ 0 (by decide +kernel)
theorem d_J2_indexOfCharUnsafe_4cfef_0 : decode prog_23_method_48_code 0 = .ok (.iload_n 2, 1) := gd_0 db00h_49
theorem d_J2_indexOfCharUnsafe_4cfef_1 : decode prog_23_method_48_code 1 = .ok (.istore 4, 2) := gd_1 db00h_49
theorem d_J2_indexOfCharUnsafe_4cfef_3 : decode prog_23_method_48_code 3 = .ok (.iload 4, 2) := gd_2 db00h_49
theorem d_J2_indexOfCharUnsafe_4cfef_5 : decode prog_23_method_48_code 5 = .ok (.iload_n 3, 1) := gd_3 db00h_49
theorem d_J2_indexOfCharUnsafe_4cfef_6 : decode prog_23_method_48_code 6 = .ok (.if_icmp .ge 22, 3) := gd_4 db00h_49
theorem d_J2_indexOfCharUnsafe_4cfef_9 : decode prog_23_method_48_code 9 = .ok (.aload_n 0, 1) := gd_5 db00h_49
theorem d_J2_indexOfCharUnsafe_4cfef_10 : decode prog_23_method_48_code 10 = .ok (.iload 4, 2) := gd_6 db00h_49
theorem d_J2_indexOfCharUnsafe_4cfef_12 : decode prog_23_method_48_code 12 = .ok (.invokestatic 71, 3) := gd_7 db00h_49
theorem d_J2_indexOfCharUnsafe_4cfef_15 : decode prog_23_method_48_code 15 = .ok (.iload_n 1, 1) := gd_8 db00h_49
theorem d_J2_indexOfCharUnsafe_4cfef_16 : decode prog_23_method_48_code 16 = .ok (.if_icmp .ne 6, 3) := gd_9 db00h_49
theorem d_J2_indexOfCharUnsafe_4cfef_19 : decode prog_23_method_48_code 19 = .ok (.iload 4, 2) := gd_10 db00h_49
theorem d_J2_indexOfCharUnsafe_4cfef_21 : decode prog_23_method_48_code 21 = .ok (.ireturn, 1) := gd_11 db00h_49
theorem d_J2_indexOfCharUnsafe_4cfef_22 : decode prog_23_method_48_code 22 = .ok (.iinc 4 1, 3) := gd_12 db00h_49
theorem d_J2_indexOfCharUnsafe_4cfef_25 : decode prog_23_method_48_code 25 = .ok (.goto (-22), 3) := gd_13 db00h_49
theorem d_J2_indexOfCharUnsafe_4cfef_28 : decode prog_23_method_48_code 28 = .ok (.iconst (-1), 1) := gd_14 db00h_49
theorem d_J2_indexOfCharUnsafe_4cfef_29 : decode prog_23_method_48_code 29 = .ok (.ireturn, 1) := gd_15 db00h_49
theorem db00h_50 : Ad_ prog_23_method_49_code [(0, .iload_n 1, 1), (1, .invokestatic 164, 3), (4, .ifCond .eq 65, 3), (7, .iload_n 1, 1), (8, .invokestatic 157, 3), (11, .istore 4, 2), (13, .iload_n 1, 1), (14, .invokestatic 161, 3), (17, .istore 5, 2), (19, .iload_n 2, 1), (20, .iload_n 3, 1), (21, .aload_n 0, 1), (22, .invokestatic 96, 3), (25, .iload_n 2, 1), (26, .istore 6, 2), (28, .iload 6, 2), (30, .iload_n 3, 1), (31, .iconst 1, 1), (32, .isub, 1), (33, .if_icmp .ge 36, 3), (36, .aload_n 0, 1), (37, .iload 6, 2), (39, .invokestatic 71, 3), (42, .iload 4, 2)] := bch_ok prog_23_method_49_code _ 0 (by decide +kernel)
theorem d_J2_indexOfSupplementary_4cfef_0 : decode prog_23_method_49_code 0 = .ok (.iload_n 1, 1) := gd_0 db00h_50
theorem d_J2_indexOfSupplementary_4cfef_1 : decode prog_23_method_49_code 1 = .ok (.invokestatic 164, 3) := gd_1 db00h_50
theorem d_J2_indexOfSupplementary_4cfef_4 : decode prog_23_method_49_code 4 = .ok (.ifCond .eq 65, 3) := gd_2 db00h_50
theorem d_J2_indexOfSupplementary_4cfef_7 : decode prog_23_method_49_code 7 = .ok (.iload_n 1, 1) := gd_3 db00h_50
theorem d_J2_indexOfSupplementary_4cfef_8 : decode prog_23_method_49_code 8 = .ok (.invokestatic 157, 3) := gd_4 db00h_50
theorem d_J2_indexOfSupplementary_4cfef_11 : decode prog_23_method_49_code 11 = .ok (.istore 4, 2) := gd_5 db00h_50
theorem d_J2_indexOfSupplementary_4cfef_13 : decode prog_23_method_49_code 13 = .ok (.iload_n 1, 1) := gd_6 db00h_50
theorem d_J2_indexOfSupplementary_4cfef_14 : decode prog_23_method_49_code 14 = .ok (.invokestatic 161, 3) := gd_7 db00h_50
theorem d_J2_indexOfSupplementary_4cfef_17 : decode prog_23_method_49_code 17 = .ok (.istore 5, 2) := gd_8 db00h_50
theorem d_J2_indexOfSupplementary_4cfef_19 : decode prog_23_method_49_code 19 = .ok (.iload_n 2, 1) := gd_9 db00h_50
theorem d_J2_indexOfSupplementary_4cfef_20 : decode prog_23_method_49_code 20 = .ok (.iload_n 3, 1) := gd_10 db00h_50
theorem d_J2_indexOfSupplementary_4cfef_21 : decode prog_23_method_49_code 21 = .ok (.aload_n 0, 1) := gd_11 db00h_50
theorem d_J2_indexOfSupplementary_4cfef_22 : decode prog_23_method_49_code 22 = .ok (.invokestatic 96, 3) := gd_12 db00h_50
theorem d_J2_indexOfSupplementary_4cfef_25 : decode prog_23_method_49_code 25 = .ok (.iload_n 2, 1) := gd_13 db00h_50
theorem d_J2_indexOfSupplementary_4cfef_26 : decode prog_23_method_49_code 26 = .ok (.istore 6, 2) := gd_14 db00h_50
theorem d_J2_indexOfSupplementary_4cfef_28 : decode prog_23_method_49_code 28 = .ok (.iload 6, 2) := gd_15 db00h_50
theorem d_J2_indexOfSupplementary_4cfef_30 : decode prog_23_method_49_code 30 = .ok (.iload_n 3, 1) := gd_16 db00h_50
theorem d_J2_indexOfSupplementary_4cfef_31 : decode prog_23_method_49_code 31 = .ok (.iconst 1, 1) := gd_17 db00h_50
theorem d_J2_indexOfSupplementary_4cfef_32 : decode prog_23_method_49_code 32 = .ok (.isub, 1) := gd_18 db00h_50
theorem d_J2_indexOfSupplementary_4cfef_33 : decode prog_23_method_49_code 33 = .ok (.if_icmp .ge 36, 3) := gd_19 db00h_50
theorem d_J2_indexOfSupplementary_4cfef_36 : decode prog_23_method_49_code 36 = .ok (.aload_n 0, 1) := gd_20 db00h_50
theorem d_J2_indexOfSupplementary_4cfef_37 : decode prog_23_method_49_code 37 = .ok (.iload 6, 2) := gd_21 db00h_50
theorem d_J2_indexOfSupplementary_4cfef_39 : decode prog_23_method_49_code 39 = .ok (.invokestatic 71, 3) := gd_22 db00h_50
theorem d_J2_indexOfSupplementary_4cfef_42 : decode prog_23_method_49_code 42 = .ok (.iload 4, 2) := gd_23 db00h_50
theorem db00h_51 : Ad_ prog_23_method_49_code [(44, .if_icmp .ne 19, 3), (47, .aload_n 0, 1), (48, .iload 6, 2), (50, .iconst 1, 1), (51, .iadd, 1), (52, .invokestatic 71, 3), (55, .iload 5, 2), (57, .if_icmp .ne 6, 3), (60, .iload 6, 2), (62, .ireturn, 1), (63, .iinc 6 1, 3), (66, .goto (-38), 3), (69, .iconst (-1), 1), (70, .ireturn, 1)] := bch_ok prog_23_method_49_code _ 44 (by decide +kernel)
theorem d_J2_indexOfSupplementary_4cfef_44 : decode prog_23_method_49_code 44 = .ok (.if_icmp .ne 19, 3) := gd_0 db00h_51
theorem d_J2_indexOfSupplementary_4cfef_47 : decode prog_23_method_49_code 47 = .ok (.aload_n 0, 1) := gd_1 db00h_51
theorem d_J2_indexOfSupplementary_4cfef_48 : decode prog_23_method_49_code 48 = .ok (.iload 6, 2) := gd_2 db00h_51
theorem d_J2_indexOfSupplementary_4cfef_50 : decode prog_23_method_49_code 50 = .ok (.iconst 1, 1) := gd_3 db00h_51
theorem d_J2_indexOfSupplementary_4cfef_51 : decode prog_23_method_49_code 51 = .ok (.iadd, 1) := gd_4 db00h_51
theorem d_J2_indexOfSupplementary_4cfef_52 : decode prog_23_method_49_code 52 = .ok (.invokestatic 71, 3) := gd_5 db00h_51
theorem d_J2_indexOfSupplementary_4cfef_55 : decode prog_23_method_49_code 55 = .ok (.iload 5, 2) := gd_6 db00h_51
theorem d_J2_indexOfSupplementary_4cfef_57 : decode prog_23_method_49_code 57 = .ok (.if_icmp .ne 6, 3) := gd_7 db00h_51
theorem d_J2_indexOfSupplementary_4cfef_60 : decode prog_23_method_49_code 60 = .ok (.iload 6, 2) := gd_8 db00h_51
theorem d_J2_indexOfSupplementary_4cfef_62 : decode prog_23_method_49_code 62 = .ok (.ireturn, 1) := gd_9 db00h_51
theorem d_J2_indexOfSupplementary_4cfef_63 : decode prog_23_method_49_code 63 = .ok (.iinc 6 1, 3) := gd_10 db00h_51
theorem d_J2_indexOfSupplementary_4cfef_66 : decode prog_23_method_49_code 66 = .ok (.goto (-38), 3) := gd_11 db00h_51
theorem d_J2_indexOfSupplementary_4cfef_69 : decode prog_23_method_49_code 69 = .ok (.iconst (-1), 1) := gd_12 db00h_51
theorem d_J2_indexOfSupplementary_4cfef_70 : decode prog_23_method_49_code 70 = .ok (.ireturn, 1) := gd_13 db00h_51
theorem db00h_52 : Ad_ prog_23_method_83_code [(0, .iload_n 1, 1), (1, .aload_n 0, 1), (2, .invokestatic 67, 3), (5, .aload_n 0, 1), (6, .iload_n 1, 1), (7, .invokestatic 71, 3), (10, .ireturn, 1)] := bch_ok prog_23_method_83_code _ 0 (by decide +kernel)
theorem d_J2_charAt_3b067_0 : decode prog_23_method_83_code 0 = .ok (.iload_n 1, 1) := gd_0 db00h_52
theorem d_J2_charAt_3b067_1 : decode prog_23_method_83_code 1 = .ok (.aload_n 0, 1) := gd_1 db00h_52
theorem d_J2_charAt_3b067_2 : decode prog_23_method_83_code 2 = .ok (.invokestatic 67, 3) := gd_2 db00h_52
theorem d_J2_charAt_3b067_5 : decode prog_23_method_83_code 5 = .ok (.aload_n 0, 1) := gd_3 db00h_52
theorem d_J2_charAt_3b067_6 : decode prog_23_method_83_code 6 = .ok (.iload_n 1, 1) := gd_4 db00h_52
theorem d_J2_charAt_3b067_7 : decode prog_23_method_83_code 7 = .ok (.invokestatic 71, 3) := gd_5 db00h_52
theorem d_J2_charAt_3b067_10 : decode prog_23_method_83_code 10 = .ok (.ireturn, 1) := gd_6 db00h_52
theorem db00h_53 : Ad_ prog_23_method_91_code [(0, .iload_n 0, 1), (1, .aload_n 1, 1), (2, .invokestatic 48, 3), (5, .invokestatic 414, 3), (8, .return_, 1)] := bch_ok prog_23_method_91_code _ 0 (by decide +kernel)
theorem d_J2_checkIndex_2214a_0 : decode prog_23_method_91_code 0 = .ok (.iload_n 0, 1) := gd_0 db00h_53
theorem d_J2_checkIndex_2214a_1 : decode prog_23_method_91_code 1 = .ok (.aload_n 1, 1) := gd_1 db00h_53
theorem d_J2_checkIndex_2214a_2 : decode prog_23_method_91_code 2 = .ok (.invokestatic 48, 3) := gd_2 db00h_53
theorem d_J2_checkIndex_2214a_5 : decode prog_23_method_91_code 5 = .ok (.invokestatic 414, 3) := gd_3 db00h_53
theorem d_J2_checkIndex_2214a_8 : decode prog_23_method_91_code 8 = .ok (.return_, 1) := gd_4 db00h_53
theorem db00h_54 : Ad_ prog_23_method_93_code [(0, .iload_n 0, 1), (1, .iload_n 1, 1), (2, .aload_n 2, 1), (3, .invokestatic 48, 3), (6, .invokestatic 241, 3), (9, .return_, 1)] := bch_ok prog_23_method_93_code _ 0 (by decide +kernel)
theorem d_J2_checkBoundsBeginEnd_d044e_0 : decode prog_23_method_93_code 0 = .ok (.iload_n 0, 1) := gd_0 db00h_54
theorem d_J2_checkBoundsBeginEnd_d044e_1 : decode prog_23_method_93_code 1 = .ok (.iload_n 1, 1) := gd_1 db00h_54
theorem d_J2_checkBoundsBeginEnd_d044e_2 : decode prog_23_method_93_code 2 = .ok (.aload_n 2, 1) := gd_2 db00h_54
theorem d_J2_checkBoundsBeginEnd_d044e_3 : decode prog_23_method_93_code 3 = .ok (.invokestatic 48, 3) := gd_3 db00h_54
theorem d_J2_checkBoundsBeginEnd_d044e_6 : decode prog_23_method_93_code 6 = .ok (.invokestatic 241, 3) := gd_4 db00h_54
theorem d_J2_checkBoundsBeginEnd_d044e_9 : decode prog_23_method_93_code 9 = .ok (.return_, 1) := gd_5 db00h_54
theorem db00h_55 : Ad_ prog_26_method_103_code [(0, .iconst 0, 1), (1, .istore_n 2, 1), (2, .aload_n 0, 1), (3, .arraylength, 1), (4, .istore_n 3, 1), (5, .iload_n 2, 1), (6, .iload_n 3, 1), (7, .if_icmp .ge 13, 3), (10, .aload_n 0, 1), (11, .iload_n 2, 1), (12, .iload_n 1, 1), (13, .iastore, 1), (14, .iinc 2 1, 3), (17, .goto (-12), 3), (20, .return_, 1)] := bch_ok prog_26_method_103_code _ 0 (by decide +kernel)
theorem d_J7_fill_53178_0 : decode prog_26_method_103_code 0 = .ok (.iconst 0, 1) := gd_0 db00h_55
theorem d_J7_fill_53178_1 : decode prog_26_method_103_code 1 = .ok (.istore_n 2, 1) := gd_1 db00h_55
theorem d_J7_fill_53178_2 : decode prog_26_method_103_code 2 = .ok (.aload_n 0, 1) := gd_2 db00h_55
theorem d_J7_fill_53178_3 : decode prog_26_method_103_code 3 = .ok (.arraylength, 1) := gd_3 db00h_55
theorem d_J7_fill_53178_4 : decode prog_26_method_103_code 4 = .ok (.istore_n 3, 1) := gd_4 db00h_55
theorem d_J7_fill_53178_5 : decode prog_26_method_103_code 5 = .ok (.iload_n 2, 1) := gd_5 db00h_55
theorem d_J7_fill_53178_6 : decode prog_26_method_103_code 6 = .ok (.iload_n 3, 1) := gd_6 db00h_55
theorem d_J7_fill_53178_7 : decode prog_26_method_103_code 7 = .ok (.if_icmp .ge 13, 3) := gd_7 db00h_55
theorem d_J7_fill_53178_10 : decode prog_26_method_103_code 10 = .ok (.aload_n 0, 1) := gd_8 db00h_55
theorem d_J7_fill_53178_11 : decode prog_26_method_103_code 11 = .ok (.iload_n 2, 1) := gd_9 db00h_55
theorem d_J7_fill_53178_12 : decode prog_26_method_103_code 12 = .ok (.iload_n 1, 1) := gd_10 db00h_55
theorem d_J7_fill_53178_13 : decode prog_26_method_103_code 13 = .ok (.iastore, 1) := gd_11 db00h_55
theorem d_J7_fill_53178_14 : decode prog_26_method_103_code 14 = .ok (.iinc 2 1, 3) := gd_12 db00h_55
theorem d_J7_fill_53178_17 : decode prog_26_method_103_code 17 = .ok (.goto (-12), 3) := gd_13 db00h_55
theorem d_J7_fill_53178_20 : decode prog_26_method_103_code 20 = .ok (.return_, 1) := gd_14 db00h_55
theorem d_J7_copyOf_c38d5_10 : decode prog_26_method_124_code 10 = .ok (.checkcast 320, 3) := by decide +kernel
theorem d_J7_copyOf_c38d5_13 : decode prog_26_method_124_code 13 = .ok (.areturn, 1) := by decide +kernel
theorem d_J7_copyOf_c38d5_15 : decode prog_26_method_124_code 15 = .ok (.newarray .long, 2) := by decide +kernel
theorem d_J7_copyOf_c38d5_17 : decode prog_26_method_124_code 17 = .ok (.astore_n 2, 1) := by decide +kernel
theorem d_J7_copyOf_c38d5_32 : decode prog_26_method_124_code 32 = .ok (.areturn, 1) := by decide +kernel
theorem db00h_56 : Ad_ prog_26_method_124_code [(0, .iload_n 1, 1), (1, .aload_n 0, 1), (2, .arraylength, 1), (3, .if_icmp .ne 11, 3), (6, .aload_n 0, 1), (7, .invokevirtual 319, 3), (14, .iload_n 1, 1), (18, .aload_n 0, 1), (19, .iconst 0, 1), (20, .aload_n 2, 1), (21, .iconst 0, 1), (22, .aload_n 0, 1), (23, .arraylength, 1), (24, .iload_n 1, 1), (25, .invokestatic 304, 3), (28, .invokestatic 150, 3), (31, .aload_n 2, 1)] := bch_ok prog_26_method_124_code _ 0 (by decide +kernel)
theorem d_J7_copyOf_c38d5_0 : decode prog_26_method_124_code 0 = .ok (.iload_n 1, 1) := gd_0 db00h_56
theorem d_J7_copyOf_c38d5_1 : decode prog_26_method_124_code 1 = .ok (.aload_n 0, 1) := gd_1 db00h_56
theorem d_J7_copyOf_c38d5_2 : decode prog_26_method_124_code 2 = .ok (.arraylength, 1) := gd_2 db00h_56
theorem d_J7_copyOf_c38d5_3 : decode prog_26_method_124_code 3 = .ok (.if_icmp .ne 11, 3) := gd_3 db00h_56
theorem d_J7_copyOf_c38d5_6 : decode prog_26_method_124_code 6 = .ok (.aload_n 0, 1) := gd_4 db00h_56
theorem d_J7_copyOf_c38d5_7 : decode prog_26_method_124_code 7 = .ok (.invokevirtual 319, 3) := gd_5 db00h_56
theorem d_J7_copyOf_c38d5_14 : decode prog_26_method_124_code 14 = .ok (.iload_n 1, 1) := gd_6 db00h_56
theorem d_J7_copyOf_c38d5_18 : decode prog_26_method_124_code 18 = .ok (.aload_n 0, 1) := gd_7 db00h_56
theorem d_J7_copyOf_c38d5_19 : decode prog_26_method_124_code 19 = .ok (.iconst 0, 1) := gd_8 db00h_56
theorem d_J7_copyOf_c38d5_20 : decode prog_26_method_124_code 20 = .ok (.aload_n 2, 1) := gd_9 db00h_56
theorem d_J7_copyOf_c38d5_21 : decode prog_26_method_124_code 21 = .ok (.iconst 0, 1) := gd_10 db00h_56
theorem d_J7_copyOf_c38d5_22 : decode prog_26_method_124_code 22 = .ok (.aload_n 0, 1) := gd_11 db00h_56
theorem d_J7_copyOf_c38d5_23 : decode prog_26_method_124_code 23 = .ok (.arraylength, 1) := gd_12 db00h_56
theorem d_J7_copyOf_c38d5_24 : decode prog_26_method_124_code 24 = .ok (.iload_n 1, 1) := gd_13 db00h_56
theorem d_J7_copyOf_c38d5_25 : decode prog_26_method_124_code 25 = .ok (.invokestatic 304, 3) := gd_14 db00h_56
theorem d_J7_copyOf_c38d5_28 : decode prog_26_method_124_code 28 = .ok (.invokestatic 150, 3) := gd_15 db00h_56
theorem d_J7_copyOf_c38d5_31 : decode prog_26_method_124_code 31 = .ok (.aload_n 2, 1) := gd_16 db00h_56
theorem d_J3_checkIndex_8e157_15 : decode prog_28_method_11_code 15 = .ok (.athrow, 1) := by decide +kernel
theorem db00h_57 : Ad_ prog_28_method_11_code [(0, .iload_n 0, 1), (1, .ifCond .lt 8, 3), (4, .iload_n 0, 1), (5, .iload_n 1, 1), (6, .if_icmp .lt 10, 3), (9, .aload_n 2, 1), (10, .iload_n 0, 1), (11, .iload_n 1, 1), (12, .invokestatic 95, 3), (16, .iload_n 0, 1), (17, .ireturn, 1)] := bch_ok prog_28_method_11_code _ 0 (by decide +kernel)
theorem d_J3_checkIndex_8e157_0 : decode prog_28_method_11_code 0 = .ok (.iload_n 0, 1) := gd_0 db00h_57
theorem d_J3_checkIndex_8e157_1 : decode prog_28_method_11_code 1 = .ok (.ifCond .lt 8, 3) := gd_1 db00h_57
theorem d_J3_checkIndex_8e157_4 : decode prog_28_method_11_code 4 = .ok (.iload_n 0, 1) := gd_2 db00h_57
theorem d_J3_checkIndex_8e157_5 : decode prog_28_method_11_code 5 = .ok (.iload_n 1, 1) := gd_3 db00h_57
theorem d_J3_checkIndex_8e157_6 : decode prog_28_method_11_code 6 = .ok (.if_icmp .lt 10, 3) := gd_4 db00h_57
theorem d_J3_checkIndex_8e157_9 : decode prog_28_method_11_code 9 = .ok (.aload_n 2, 1) := gd_5 db00h_57
theorem d_J3_checkIndex_8e157_10 : decode prog_28_method_11_code 10 = .ok (.iload_n 0, 1) := gd_6 db00h_57
theorem d_J3_checkIndex_8e157_11 : decode prog_28_method_11_code 11 = .ok (.iload_n 1, 1) := gd_7 db00h_57
theorem d_J3_checkIndex_8e157_12 : decode prog_28_method_11_code 12 = .ok (.invokestatic 95, 3) := gd_8 db00h_57
theorem d_J3_checkIndex_8e157_16 : decode prog_28_method_11_code 16 = .ok (.iload_n 0, 1) := gd_9 db00h_57
theorem d_J3_checkIndex_8e157_17 : decode prog_28_method_11_code 17 = .ok (.ireturn, 1) := gd_10 db00h_57
theorem d_J3_checkFromToIndex_8c36e_21 : decode prog_28_method_12_code 21 = .ok (.athrow, 1) := by decide +kernel
theorem db00h_58 : Ad_ prog_28_method_12_code [(0, .iload_n 0, 1), (1, .ifCond .lt 13, 3), (4, .iload_n 0, 1), (5, .iload_n 1, 1), (6, .if_icmp .gt 8, 3), (9, .iload_n 1, 1), (10, .iload_n 2, 1), (11, .if_icmp .le 11, 3), (14, .aload_n 3, 1), (15, .iload_n 0, 1), (16, .iload_n 1, 1), (17, .iload_n 2, 1), (18, .invokestatic 99, 3), (22, .iload_n 0, 1), (23, .ireturn, 1)] := bch_ok prog_28_method_12_code _ 0 (by decide +kernel)
theorem d_J3_checkFromToIndex_8c36e_0 : decode prog_28_method_12_code 0 = .ok (.iload_n 0, 1) := gd_0 db00h_58
theorem d_J3_checkFromToIndex_8c36e_1 : decode prog_28_method_12_code 1 = .ok (.ifCond .lt 13, 3) := gd_1 db00h_58
theorem d_J3_checkFromToIndex_8c36e_4 : decode prog_28_method_12_code 4 = .ok (.iload_n 0, 1) := gd_2 db00h_58
theorem d_J3_checkFromToIndex_8c36e_5 : decode prog_28_method_12_code 5 = .ok (.iload_n 1, 1) := gd_3 db00h_58
theorem d_J3_checkFromToIndex_8c36e_6 : decode prog_28_method_12_code 6 = .ok (.if_icmp .gt 8, 3) := gd_4 db00h_58
theorem d_J3_checkFromToIndex_8c36e_9 : decode prog_28_method_12_code 9 = .ok (.iload_n 1, 1) := gd_5 db00h_58
theorem d_J3_checkFromToIndex_8c36e_10 : decode prog_28_method_12_code 10 = .ok (.iload_n 2, 1) := gd_6 db00h_58
theorem d_J3_checkFromToIndex_8c36e_11 : decode prog_28_method_12_code 11 = .ok (.if_icmp .le 11, 3) := gd_7 db00h_58
theorem d_J3_checkFromToIndex_8c36e_14 : decode prog_28_method_12_code 14 = .ok (.aload_n 3, 1) := gd_8 db00h_58
theorem d_J3_checkFromToIndex_8c36e_15 : decode prog_28_method_12_code 15 = .ok (.iload_n 0, 1) := gd_9 db00h_58
theorem d_J3_checkFromToIndex_8c36e_16 : decode prog_28_method_12_code 16 = .ok (.iload_n 1, 1) := gd_10 db00h_58
theorem d_J3_checkFromToIndex_8c36e_17 : decode prog_28_method_12_code 17 = .ok (.iload_n 2, 1) := gd_11 db00h_58
theorem d_J3_checkFromToIndex_8c36e_18 : decode prog_28_method_12_code 18 = .ok (.invokestatic 99, 3) := gd_12 db00h_58
theorem d_J3_checkFromToIndex_8c36e_22 : decode prog_28_method_12_code 22 = .ok (.iload_n 0, 1) := gd_13 db00h_58
theorem d_J3_checkFromToIndex_8c36e_23 : decode prog_28_method_12_code 23 = .ok (.ireturn, 1) := gd_14 db00h_58
