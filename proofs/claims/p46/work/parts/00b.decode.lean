theorem db00b_0 : Pf_ prog_6_method_9_code [(46, [0x4f]), (47, [0x84, 0x03, 0x01]), (50, [0xa7, 0xff, 0xd0]), (53, [0xb1])] := pf_ok prog_6_method_9_code _ 46 (by decide +kernel)
theorem d_X4_tellNoted_46 : decode prog_6_method_9_code 46 = .ok (.iastore, 1) := gq_0 db00b_0 eb_38
theorem d_X4_tellNoted_47 : decode prog_6_method_9_code 47 = .ok (.iinc 3 1, 3) := gq_1 db00b_0 eb_42
theorem d_X4_tellNoted_50 : decode prog_6_method_9_code 50 = .ok (.goto (-48), 3) := gq_2 db00b_0 eb_43
theorem d_X4_tellNoted_53 : decode prog_6_method_9_code 53 = .ok (.return_, 1) := gq_3 db00b_0 eb_7
theorem db00b_1 : Pf_ prog_6_method_10_code [(0, [0x2a]), (1, [0x1b]), (2, [0xb6, 0x00, 0x42]), (5, [0x99, 0x00, 0x0c]), (8, [0x2a]), (9, [0xb4, 0x00, 0x28]), (12, [0x1b]), (13, [0x2e]), (14, [0xa7, 0x00, 0x04]), (17, [0x02]), (18, [0xac])] := pf_ok prog_6_method_10_code _ 0 (by decide +kernel)
theorem d_X4_minuteOf_0 : decode prog_6_method_10_code 0 = .ok (.aload_n 0, 1) := gq_0 db00b_1 eb_0
theorem d_X4_minuteOf_1 : decode prog_6_method_10_code 1 = .ok (.iload_n 1, 1) := gq_1 db00b_1 eb_9
theorem d_X4_minuteOf_2 : decode prog_6_method_10_code 2 = .ok (.invokevirtual 66, 3) := gq_2 db00b_1 eb_292
theorem d_X4_minuteOf_5 : decode prog_6_method_10_code 5 = .ok (.ifCond .eq 12, 3) := gq_3 db00b_1 eb_50
theorem d_X4_minuteOf_8 : decode prog_6_method_10_code 8 = .ok (.aload_n 0, 1) := gq_4 db00b_1 eb_0
theorem d_X4_minuteOf_9 : decode prog_6_method_10_code 9 = .ok (.getfield 40, 3) := gq_5 db00b_1 eb_282
theorem d_X4_minuteOf_12 : decode prog_6_method_10_code 12 = .ok (.iload_n 1, 1) := gq_6 db00b_1 eb_9
theorem d_X4_minuteOf_13 : decode prog_6_method_10_code 13 = .ok (.iaload, 1) := gq_7 db00b_1 eb_37
theorem d_X4_minuteOf_14 : decode prog_6_method_10_code 14 = .ok (.goto 4, 3) := gq_8 db00b_1 eb_20
theorem d_X4_minuteOf_17 : decode prog_6_method_10_code 17 = .ok (.iconst (-1), 1) := gq_9 db00b_1 eb_26
theorem d_X4_minuteOf_18 : decode prog_6_method_10_code 18 = .ok (.ireturn, 1) := gq_10 db00b_1 eb_15
theorem d_X4_tell_11 : decode prog_6_method_11_code 11 = .ok (.tableswitch 79 0 5 #[37, 44, 51, 58, 65, 72], 37) := by decide +kernel
theorem db00b_2 : Pf_ prog_6_method_11_code [(0, [0x2a]), (1, [0x1b]), (2, [0xb6, 0x00, 0x42]), (5, [0x9a, 0x00, 0x05]), (8, [0x02]), (9, [0xac]), (10, [0x1c]), (48, [0x2a]), (49, [0xb4, 0x00, 0x22]), (52, [0x1b]), (53, [0x2e]), (54, [0xac]), (55, [0x2a]), (56, [0xb4, 0x00, 0x25]), (59, [0x1b]), (60, [0x2e]), (61, [0xac]), (62, [0x2a]), (63, [0xb4, 0x00, 0x28]), (66, [0x1b]), (67, [0x2e]), (68, [0xac]), (69, [0x2a]), (70, [0xb4, 0x00, 0x2b])] := pf_ok prog_6_method_11_code _ 0 (by decide +kernel)
theorem d_X4_tell_0 : decode prog_6_method_11_code 0 = .ok (.aload_n 0, 1) := gq_0 db00b_2 eb_0
theorem d_X4_tell_1 : decode prog_6_method_11_code 1 = .ok (.iload_n 1, 1) := gq_1 db00b_2 eb_9
theorem d_X4_tell_2 : decode prog_6_method_11_code 2 = .ok (.invokevirtual 66, 3) := gq_2 db00b_2 eb_292
theorem d_X4_tell_5 : decode prog_6_method_11_code 5 = .ok (.ifCond .ne 5, 3) := gq_3 db00b_2 eb_150
theorem d_X4_tell_8 : decode prog_6_method_11_code 8 = .ok (.iconst (-1), 1) := gq_4 db00b_2 eb_26
theorem d_X4_tell_9 : decode prog_6_method_11_code 9 = .ok (.ireturn, 1) := gq_5 db00b_2 eb_15
theorem d_X4_tell_10 : decode prog_6_method_11_code 10 = .ok (.iload_n 2, 1) := gq_6 db00b_2 eb_13
theorem d_X4_tell_48 : decode prog_6_method_11_code 48 = .ok (.aload_n 0, 1) := gq_7 db00b_2 eb_0
theorem d_X4_tell_49 : decode prog_6_method_11_code 49 = .ok (.getfield 34, 3) := gq_8 db00b_2 eb_36
theorem d_X4_tell_52 : decode prog_6_method_11_code 52 = .ok (.iload_n 1, 1) := gq_9 db00b_2 eb_9
theorem d_X4_tell_53 : decode prog_6_method_11_code 53 = .ok (.iaload, 1) := gq_10 db00b_2 eb_37
theorem d_X4_tell_54 : decode prog_6_method_11_code 54 = .ok (.ireturn, 1) := gq_11 db00b_2 eb_15
theorem d_X4_tell_55 : decode prog_6_method_11_code 55 = .ok (.aload_n 0, 1) := gq_12 db00b_2 eb_0
theorem d_X4_tell_56 : decode prog_6_method_11_code 56 = .ok (.getfield 37, 3) := gq_13 db00b_2 eb_281
theorem d_X4_tell_59 : decode prog_6_method_11_code 59 = .ok (.iload_n 1, 1) := gq_14 db00b_2 eb_9
theorem d_X4_tell_60 : decode prog_6_method_11_code 60 = .ok (.iaload, 1) := gq_15 db00b_2 eb_37
theorem d_X4_tell_61 : decode prog_6_method_11_code 61 = .ok (.ireturn, 1) := gq_16 db00b_2 eb_15
theorem d_X4_tell_62 : decode prog_6_method_11_code 62 = .ok (.aload_n 0, 1) := gq_17 db00b_2 eb_0
theorem d_X4_tell_63 : decode prog_6_method_11_code 63 = .ok (.getfield 40, 3) := gq_18 db00b_2 eb_282
theorem d_X4_tell_66 : decode prog_6_method_11_code 66 = .ok (.iload_n 1, 1) := gq_19 db00b_2 eb_9
theorem d_X4_tell_67 : decode prog_6_method_11_code 67 = .ok (.iaload, 1) := gq_20 db00b_2 eb_37
theorem d_X4_tell_68 : decode prog_6_method_11_code 68 = .ok (.ireturn, 1) := gq_21 db00b_2 eb_15
theorem d_X4_tell_69 : decode prog_6_method_11_code 69 = .ok (.aload_n 0, 1) := gq_22 db00b_2 eb_0
theorem d_X4_tell_70 : decode prog_6_method_11_code 70 = .ok (.getfield 43, 3) := gq_23 db00b_2 eb_283
theorem db00b_3 : Pf_ prog_6_method_11_code [(73, [0x1b]), (74, [0x2e]), (75, [0xac]), (76, [0x2a]), (77, [0xb4, 0x00, 0x2e]), (80, [0x1b]), (81, [0x2e]), (82, [0xac]), (83, [0x2a]), (84, [0xb4, 0x00, 0x31]), (87, [0x1b]), (88, [0x2e]), (89, [0xac]), (90, [0x02]), (91, [0xac])] := pf_ok prog_6_method_11_code _ 73 (by decide +kernel)
theorem d_X4_tell_73 : decode prog_6_method_11_code 73 = .ok (.iload_n 1, 1) := gq_0 db00b_3 eb_9
theorem d_X4_tell_74 : decode prog_6_method_11_code 74 = .ok (.iaload, 1) := gq_1 db00b_3 eb_37
theorem d_X4_tell_75 : decode prog_6_method_11_code 75 = .ok (.ireturn, 1) := gq_2 db00b_3 eb_15
theorem d_X4_tell_76 : decode prog_6_method_11_code 76 = .ok (.aload_n 0, 1) := gq_3 db00b_3 eb_0
theorem d_X4_tell_77 : decode prog_6_method_11_code 77 = .ok (.getfield 46, 3) := gq_4 db00b_3 eb_284
theorem d_X4_tell_80 : decode prog_6_method_11_code 80 = .ok (.iload_n 1, 1) := gq_5 db00b_3 eb_9
theorem d_X4_tell_81 : decode prog_6_method_11_code 81 = .ok (.iaload, 1) := gq_6 db00b_3 eb_37
theorem d_X4_tell_82 : decode prog_6_method_11_code 82 = .ok (.ireturn, 1) := gq_7 db00b_3 eb_15
theorem d_X4_tell_83 : decode prog_6_method_11_code 83 = .ok (.aload_n 0, 1) := gq_8 db00b_3 eb_0
theorem d_X4_tell_84 : decode prog_6_method_11_code 84 = .ok (.getfield 49, 3) := gq_9 db00b_3 eb_285
theorem d_X4_tell_87 : decode prog_6_method_11_code 87 = .ok (.iload_n 1, 1) := gq_10 db00b_3 eb_9
theorem d_X4_tell_88 : decode prog_6_method_11_code 88 = .ok (.iaload, 1) := gq_11 db00b_3 eb_37
theorem d_X4_tell_89 : decode prog_6_method_11_code 89 = .ok (.ireturn, 1) := gq_12 db00b_3 eb_15
theorem d_X4_tell_90 : decode prog_6_method_11_code 90 = .ok (.iconst (-1), 1) := gq_13 db00b_3 eb_26
theorem d_X4_tell_91 : decode prog_6_method_11_code 91 = .ok (.ireturn, 1) := gq_14 db00b_3 eb_15
theorem db00b_4 : Pf_ prog_6_method_12_code [(0, [0x2a]), (1, [0x1b]), (2, [0xb6, 0x00, 0x42]), (5, [0x9a, 0x00, 0x05]), (8, [0x02]), (9, [0xac]), (10, [0x2c]), (11, [0x2c]), (12, [0x2a]), (13, [0xb4, 0x00, 0x28]), (16, [0x1b]), (17, [0x2e]), (18, [0x11, 0x05, 0xa0]), (21, [0x6c]), (22, [0x1d]), (23, [0xb6, 0x00, 0x49]), (26, [0x2a]), (27, [0xb4, 0x00, 0x34]), (30, [0x1b]), (31, [0x10, 0x09]), (33, [0x68]), (34, [0xb6, 0x00, 0x4f]), (37, [0xac])] := pf_ok prog_6_method_12_code _ 0 (by decide +kernel)
theorem d_X4_due_0 : decode prog_6_method_12_code 0 = .ok (.aload_n 0, 1) := gq_0 db00b_4 eb_0
theorem d_X4_due_1 : decode prog_6_method_12_code 1 = .ok (.iload_n 1, 1) := gq_1 db00b_4 eb_9
theorem d_X4_due_2 : decode prog_6_method_12_code 2 = .ok (.invokevirtual 66, 3) := gq_2 db00b_4 eb_292
theorem d_X4_due_5 : decode prog_6_method_12_code 5 = .ok (.ifCond .ne 5, 3) := gq_3 db00b_4 eb_150
theorem d_X4_due_8 : decode prog_6_method_12_code 8 = .ok (.iconst (-1), 1) := gq_4 db00b_4 eb_26
theorem d_X4_due_9 : decode prog_6_method_12_code 9 = .ok (.ireturn, 1) := gq_5 db00b_4 eb_15
theorem d_X4_due_10 : decode prog_6_method_12_code 10 = .ok (.aload_n 2, 1) := gq_6 db00b_4 eb_301
theorem d_X4_due_11 : decode prog_6_method_12_code 11 = .ok (.aload_n 2, 1) := gq_7 db00b_4 eb_301
theorem d_X4_due_12 : decode prog_6_method_12_code 12 = .ok (.aload_n 0, 1) := gq_8 db00b_4 eb_0
theorem d_X4_due_13 : decode prog_6_method_12_code 13 = .ok (.getfield 40, 3) := gq_9 db00b_4 eb_282
theorem d_X4_due_16 : decode prog_6_method_12_code 16 = .ok (.iload_n 1, 1) := gq_10 db00b_4 eb_9
theorem d_X4_due_17 : decode prog_6_method_12_code 17 = .ok (.iaload, 1) := gq_11 db00b_4 eb_37
theorem d_X4_due_18 : decode prog_6_method_12_code 18 = .ok (.sipush 1440, 3) := gq_12 db00b_4 eb_289
theorem d_X4_due_21 : decode prog_6_method_12_code 21 = .ok (.idiv, 1) := gq_13 db00b_4 eb_219
theorem d_X4_due_22 : decode prog_6_method_12_code 22 = .ok (.iload_n 3, 1) := gq_14 db00b_4 eb_29
theorem d_X4_due_23 : decode prog_6_method_12_code 23 = .ok (.invokevirtual 73, 3) := gq_15 db00b_4 eb_302
theorem d_X4_due_26 : decode prog_6_method_12_code 26 = .ok (.aload_n 0, 1) := gq_16 db00b_4 eb_0
theorem d_X4_due_27 : decode prog_6_method_12_code 27 = .ok (.getfield 52, 3) := gq_17 db00b_4 eb_288
theorem d_X4_due_30 : decode prog_6_method_12_code 30 = .ok (.iload_n 1, 1) := gq_18 db00b_4 eb_9
theorem d_X4_due_31 : decode prog_6_method_12_code 31 = .ok (.bipush 9, 2) := gq_19 db00b_4 eb_287
theorem d_X4_due_33 : decode prog_6_method_12_code 33 = .ok (.imul, 1) := gq_20 db00b_4 eb_34
theorem d_X4_due_34 : decode prog_6_method_12_code 34 = .ok (.invokevirtual 79, 3) := gq_21 db00b_4 eb_303
theorem d_X4_due_37 : decode prog_6_method_12_code 37 = .ok (.ireturn, 1) := gq_22 db00b_4 eb_15
theorem db00b_5 : Pf_ prog_6_method_13_code [(0, [0x03]), (1, [0x3d]), (2, [0x03]), (3, [0x3e]), (4, [0x1d]), (5, [0x2a]), (6, [0xb4, 0x00, 0x3f]), (9, [0xa2, 0x00, 0x20]), (12, [0x2a]), (13, [0xb4, 0x00, 0x31]), (16, [0x1d]), (17, [0x2e]), (18, [0x02]), (19, [0x9f, 0x00, 0x10]), (22, [0x2a]), (23, [0xb4, 0x00, 0x31]), (26, [0x1d]), (27, [0x2e]), (28, [0x1b]), (29, [0xa3, 0x00, 0x06]), (32, [0x84, 0x02, 0x01]), (35, [0x84, 0x03, 0x01]), (38, [0xa7, 0xff, 0xde]), (41, [0x1c])] := pf_ok prog_6_method_13_code _ 0 (by decide +kernel)
theorem d_X4_countKnown_0 : decode prog_6_method_13_code 0 = .ok (.iconst 0, 1) := gq_0 db00b_5 eb_21
theorem d_X4_countKnown_1 : decode prog_6_method_13_code 1 = .ok (.istore_n 2, 1) := gq_1 db00b_5 eb_27
theorem d_X4_countKnown_2 : decode prog_6_method_13_code 2 = .ok (.iconst 0, 1) := gq_2 db00b_5 eb_21
theorem d_X4_countKnown_3 : decode prog_6_method_13_code 3 = .ok (.istore_n 3, 1) := gq_3 db00b_5 eb_28
theorem d_X4_countKnown_4 : decode prog_6_method_13_code 4 = .ok (.iload_n 3, 1) := gq_4 db00b_5 eb_29
theorem d_X4_countKnown_5 : decode prog_6_method_13_code 5 = .ok (.aload_n 0, 1) := gq_5 db00b_5 eb_0
theorem d_X4_countKnown_6 : decode prog_6_method_13_code 6 = .ok (.getfield 63, 3) := gq_6 db00b_5 eb_276
theorem d_X4_countKnown_9 : decode prog_6_method_13_code 9 = .ok (.if_icmp .ge 32, 3) := gq_7 db00b_5 eb_304
theorem d_X4_countKnown_12 : decode prog_6_method_13_code 12 = .ok (.aload_n 0, 1) := gq_8 db00b_5 eb_0
theorem d_X4_countKnown_13 : decode prog_6_method_13_code 13 = .ok (.getfield 49, 3) := gq_9 db00b_5 eb_285
theorem d_X4_countKnown_16 : decode prog_6_method_13_code 16 = .ok (.iload_n 3, 1) := gq_10 db00b_5 eb_29
theorem d_X4_countKnown_17 : decode prog_6_method_13_code 17 = .ok (.iaload, 1) := gq_11 db00b_5 eb_37
theorem d_X4_countKnown_18 : decode prog_6_method_13_code 18 = .ok (.iconst (-1), 1) := gq_12 db00b_5 eb_26
theorem d_X4_countKnown_19 : decode prog_6_method_13_code 19 = .ok (.if_icmp .eq 16, 3) := gq_13 db00b_5 eb_305
theorem d_X4_countKnown_22 : decode prog_6_method_13_code 22 = .ok (.aload_n 0, 1) := gq_14 db00b_5 eb_0
theorem d_X4_countKnown_23 : decode prog_6_method_13_code 23 = .ok (.getfield 49, 3) := gq_15 db00b_5 eb_285
theorem d_X4_countKnown_26 : decode prog_6_method_13_code 26 = .ok (.iload_n 3, 1) := gq_16 db00b_5 eb_29
theorem d_X4_countKnown_27 : decode prog_6_method_13_code 27 = .ok (.iaload, 1) := gq_17 db00b_5 eb_37
theorem d_X4_countKnown_28 : decode prog_6_method_13_code 28 = .ok (.iload_n 1, 1) := gq_18 db00b_5 eb_9
theorem d_X4_countKnown_29 : decode prog_6_method_13_code 29 = .ok (.if_icmp .gt 6, 3) := gq_19 db00b_5 eb_306
theorem d_X4_countKnown_32 : decode prog_6_method_13_code 32 = .ok (.iinc 2 1, 3) := gq_20 db00b_5 eb_41
theorem d_X4_countKnown_35 : decode prog_6_method_13_code 35 = .ok (.iinc 3 1, 3) := gq_21 db00b_5 eb_42
theorem d_X4_countKnown_38 : decode prog_6_method_13_code 38 = .ok (.goto (-34), 3) := gq_22 db00b_5 eb_307
theorem d_X4_countKnown_41 : decode prog_6_method_13_code 41 = .ok (.iload_n 2, 1) := gq_23 db00b_5 eb_13
theorem db00b_6 : Pf_ prog_6_method_13_code [(42, [0xac])] := pf_ok prog_6_method_13_code _ 42 (by decide +kernel)
theorem d_X4_countKnown_42 : decode prog_6_method_13_code 42 = .ok (.ireturn, 1) := gq_0 db00b_6 eb_15
theorem db00b_7 : Pf_ prog_6_method_14_code [(0, [0x03]), (1, [0x36, 0x06]), (3, [0x03]), (4, [0x36, 0x07]), (6, [0x15, 0x07]), (8, [0x2a]), (9, [0xb4, 0x00, 0x3f]), (12, [0xa2, 0x00, 0x48]), (15, [0x2a]), (16, [0xb4, 0x00, 0x22]), (19, [0x15, 0x07]), (21, [0x2e]), (22, [0x1b]), (23, [0xa0, 0x00, 0x37]), (26, [0x2a]), (27, [0xb4, 0x00, 0x2b]), (30, [0x15, 0x07]), (32, [0x2e]), (33, [0x06]), (34, [0xa0, 0x00, 0x2c]), (37, [0x2a]), (38, [0xb4, 0x00, 0x28]), (41, [0x15, 0x07]), (43, [0x2e])] := pf_ok prog_6_method_14_code _ 0 (by decide +kernel)
theorem d_X4_countTaken_0 : decode prog_6_method_14_code 0 = .ok (.iconst 0, 1) := gq_0 db00b_7 eb_21
theorem d_X4_countTaken_1 : decode prog_6_method_14_code 1 = .ok (.istore 6, 2) := gq_1 db00b_7 eb_58
theorem d_X4_countTaken_3 : decode prog_6_method_14_code 3 = .ok (.iconst 0, 1) := gq_2 db00b_7 eb_21
theorem d_X4_countTaken_4 : decode prog_6_method_14_code 4 = .ok (.istore 7, 2) := gq_3 db00b_7 eb_59
theorem d_X4_countTaken_6 : decode prog_6_method_14_code 6 = .ok (.iload 7, 2) := gq_4 db00b_7 eb_73
theorem d_X4_countTaken_8 : decode prog_6_method_14_code 8 = .ok (.aload_n 0, 1) := gq_5 db00b_7 eb_0
theorem d_X4_countTaken_9 : decode prog_6_method_14_code 9 = .ok (.getfield 63, 3) := gq_6 db00b_7 eb_276
theorem d_X4_countTaken_12 : decode prog_6_method_14_code 12 = .ok (.if_icmp .ge 72, 3) := gq_7 db00b_7 eb_308
theorem d_X4_countTaken_15 : decode prog_6_method_14_code 15 = .ok (.aload_n 0, 1) := gq_8 db00b_7 eb_0
theorem d_X4_countTaken_16 : decode prog_6_method_14_code 16 = .ok (.getfield 34, 3) := gq_9 db00b_7 eb_36
theorem d_X4_countTaken_19 : decode prog_6_method_14_code 19 = .ok (.iload 7, 2) := gq_10 db00b_7 eb_73
theorem d_X4_countTaken_21 : decode prog_6_method_14_code 21 = .ok (.iaload, 1) := gq_11 db00b_7 eb_37
theorem d_X4_countTaken_22 : decode prog_6_method_14_code 22 = .ok (.iload_n 1, 1) := gq_12 db00b_7 eb_9
theorem d_X4_countTaken_23 : decode prog_6_method_14_code 23 = .ok (.if_icmp .ne 55, 3) := gq_13 db00b_7 eb_309
theorem d_X4_countTaken_26 : decode prog_6_method_14_code 26 = .ok (.aload_n 0, 1) := gq_14 db00b_7 eb_0
theorem d_X4_countTaken_27 : decode prog_6_method_14_code 27 = .ok (.getfield 43, 3) := gq_15 db00b_7 eb_283
theorem d_X4_countTaken_30 : decode prog_6_method_14_code 30 = .ok (.iload 7, 2) := gq_16 db00b_7 eb_73
theorem d_X4_countTaken_32 : decode prog_6_method_14_code 32 = .ok (.iaload, 1) := gq_17 db00b_7 eb_37
theorem d_X4_countTaken_33 : decode prog_6_method_14_code 33 = .ok (.iconst 3, 1) := gq_18 db00b_7 eb_54
theorem d_X4_countTaken_34 : decode prog_6_method_14_code 34 = .ok (.if_icmp .ne 44, 3) := gq_19 db00b_7 eb_310
theorem d_X4_countTaken_37 : decode prog_6_method_14_code 37 = .ok (.aload_n 0, 1) := gq_20 db00b_7 eb_0
theorem d_X4_countTaken_38 : decode prog_6_method_14_code 38 = .ok (.getfield 40, 3) := gq_21 db00b_7 eb_282
theorem d_X4_countTaken_41 : decode prog_6_method_14_code 41 = .ok (.iload 7, 2) := gq_22 db00b_7 eb_73
theorem d_X4_countTaken_43 : decode prog_6_method_14_code 43 = .ok (.iaload, 1) := gq_23 db00b_7 eb_37
theorem db00b_8 : Pf_ prog_6_method_14_code [(44, [0x11, 0x05, 0xa0]), (47, [0x6c]), (48, [0x1c]), (49, [0xa0, 0x00, 0x1d]), (52, [0x2a]), (53, [0x15, 0x07]), (55, [0x2d]), (56, [0x15, 0x04]), (58, [0xb6, 0x00, 0x53]), (61, [0x06]), (62, [0xa0, 0x00, 0x07]), (65, [0x04]), (66, [0xa7, 0x00, 0x04]), (69, [0x03]), (70, [0x15, 0x05]), (72, [0xa0, 0x00, 0x06]), (75, [0x84, 0x06, 0x01]), (78, [0x84, 0x07, 0x01]), (81, [0xa7, 0xff, 0xb5]), (84, [0x15, 0x06]), (86, [0xac])] := pf_ok prog_6_method_14_code _ 44 (by decide +kernel)
theorem d_X4_countTaken_44 : decode prog_6_method_14_code 44 = .ok (.sipush 1440, 3) := gq_0 db00b_8 eb_289
theorem d_X4_countTaken_47 : decode prog_6_method_14_code 47 = .ok (.idiv, 1) := gq_1 db00b_8 eb_219
theorem d_X4_countTaken_48 : decode prog_6_method_14_code 48 = .ok (.iload_n 2, 1) := gq_2 db00b_8 eb_13
theorem d_X4_countTaken_49 : decode prog_6_method_14_code 49 = .ok (.if_icmp .ne 29, 3) := gq_3 db00b_8 eb_311
theorem d_X4_countTaken_52 : decode prog_6_method_14_code 52 = .ok (.aload_n 0, 1) := gq_4 db00b_8 eb_0
theorem d_X4_countTaken_53 : decode prog_6_method_14_code 53 = .ok (.iload 7, 2) := gq_5 db00b_8 eb_73
theorem d_X4_countTaken_55 : decode prog_6_method_14_code 55 = .ok (.aload_n 3, 1) := gq_6 db00b_8 eb_312
theorem d_X4_countTaken_56 : decode prog_6_method_14_code 56 = .ok (.iload 4, 2) := gq_7 db00b_8 eb_76
theorem d_X4_countTaken_58 : decode prog_6_method_14_code 58 = .ok (.invokevirtual 83, 3) := gq_8 db00b_8 eb_236
theorem d_X4_countTaken_61 : decode prog_6_method_14_code 61 = .ok (.iconst 3, 1) := gq_9 db00b_8 eb_54
theorem d_X4_countTaken_62 : decode prog_6_method_14_code 62 = .ok (.if_icmp .ne 7, 3) := gq_10 db00b_8 eb_135
theorem d_X4_countTaken_65 : decode prog_6_method_14_code 65 = .ok (.iconst 1, 1) := gq_11 db00b_8 eb_19
theorem d_X4_countTaken_66 : decode prog_6_method_14_code 66 = .ok (.goto 4, 3) := gq_12 db00b_8 eb_20
theorem d_X4_countTaken_69 : decode prog_6_method_14_code 69 = .ok (.iconst 0, 1) := gq_13 db00b_8 eb_21
theorem d_X4_countTaken_70 : decode prog_6_method_14_code 70 = .ok (.iload 5, 2) := gq_14 db00b_8 eb_125
theorem d_X4_countTaken_72 : decode prog_6_method_14_code 72 = .ok (.if_icmp .ne 6, 3) := gq_15 db00b_8 eb_40
theorem d_X4_countTaken_75 : decode prog_6_method_14_code 75 = .ok (.iinc 6 1, 3) := gq_16 db00b_8 eb_72
theorem d_X4_countTaken_78 : decode prog_6_method_14_code 78 = .ok (.iinc 7 1, 3) := gq_17 db00b_8 eb_182
theorem d_X4_countTaken_81 : decode prog_6_method_14_code 81 = .ok (.goto (-75), 3) := gq_18 db00b_8 eb_313
theorem d_X4_countTaken_84 : decode prog_6_method_14_code 84 = .ok (.iload 6, 2) := gq_19 db00b_8 eb_75
theorem d_X4_countTaken_86 : decode prog_6_method_14_code 86 = .ok (.ireturn, 1) := gq_20 db00b_8 eb_15
theorem d_X5_init_7 : decode prog_7_method_1_code 7 = .ok (.newarray .int, 2) := by decide +kernel
theorem d_X5_init_15 : decode prog_7_method_1_code 15 = .ok (.newarray .int, 2) := by decide +kernel
theorem d_X5_init_23 : decode prog_7_method_1_code 23 = .ok (.newarray .int, 2) := by decide +kernel
theorem d_X5_init_31 : decode prog_7_method_1_code 31 = .ok (.newarray .int, 2) := by decide +kernel
theorem d_X5_init_39 : decode prog_7_method_1_code 39 = .ok (.newarray .int, 2) := by decide +kernel
theorem d_X5_init_48 : decode prog_7_method_1_code 48 = .ok (.newarray .int, 2) := by decide +kernel
theorem d_X5_init_57 : decode prog_7_method_1_code 57 = .ok (.newarray .int, 2) := by decide +kernel
theorem db00b_9 : Pf_ prog_7_method_1_code [(0, [0x2a]), (1, [0xb7, 0x00, 0x03]), (4, [0x2a]), (5, [0x10, 0x28]), (9, [0xb5, 0x00, 0x0b]), (12, [0x2a]), (13, [0x10, 0x28]), (17, [0xb5, 0x00, 0x0f]), (20, [0x2a]), (21, [0x10, 0x28]), (25, [0xb5, 0x00, 0x12]), (28, [0x2a]), (29, [0x10, 0x28]), (33, [0xb5, 0x00, 0x15]), (36, [0x2a]), (37, [0x10, 0x06]), (41, [0xb5, 0x00, 0x18]), (44, [0x2a]), (45, [0x11, 0x00, 0xa8]), (50, [0xb5, 0x00, 0x1b]), (53, [0x2a]), (54, [0x11, 0x00, 0xa8]), (59, [0xb5, 0x00, 0x1e]), (62, [0x2a])] := pf_ok prog_7_method_1_code _ 0 (by decide +kernel)
theorem d_X5_init_0 : decode prog_7_method_1_code 0 = .ok (.aload_n 0, 1) := gq_0 db00b_9 eb_0
theorem d_X5_init_1 : decode prog_7_method_1_code 1 = .ok (.invokespecial 3, 3) := gq_1 db00b_9 eb_1
theorem d_X5_init_4 : decode prog_7_method_1_code 4 = .ok (.aload_n 0, 1) := gq_2 db00b_9 eb_0
theorem d_X5_init_5 : decode prog_7_method_1_code 5 = .ok (.bipush 40, 2) := gq_3 db00b_9 eb_314
theorem d_X5_init_9 : decode prog_7_method_1_code 9 = .ok (.putfield 11, 3) := gq_4 db00b_9 eb_3
theorem d_X5_init_12 : decode prog_7_method_1_code 12 = .ok (.aload_n 0, 1) := gq_5 db00b_9 eb_0
theorem d_X5_init_13 : decode prog_7_method_1_code 13 = .ok (.bipush 40, 2) := gq_6 db00b_9 eb_314
theorem d_X5_init_17 : decode prog_7_method_1_code 17 = .ok (.putfield 15, 3) := gq_7 db00b_9 eb_5
theorem d_X5_init_20 : decode prog_7_method_1_code 20 = .ok (.aload_n 0, 1) := gq_8 db00b_9 eb_0
theorem d_X5_init_21 : decode prog_7_method_1_code 21 = .ok (.bipush 40, 2) := gq_9 db00b_9 eb_314
theorem d_X5_init_25 : decode prog_7_method_1_code 25 = .ok (.putfield 18, 3) := gq_10 db00b_9 eb_6
theorem d_X5_init_28 : decode prog_7_method_1_code 28 = .ok (.aload_n 0, 1) := gq_11 db00b_9 eb_0
theorem d_X5_init_29 : decode prog_7_method_1_code 29 = .ok (.bipush 40, 2) := gq_12 db00b_9 eb_314
theorem d_X5_init_33 : decode prog_7_method_1_code 33 = .ok (.putfield 21, 3) := gq_13 db00b_9 eb_47
theorem d_X5_init_36 : decode prog_7_method_1_code 36 = .ok (.aload_n 0, 1) := gq_14 db00b_9 eb_0
theorem d_X5_init_37 : decode prog_7_method_1_code 37 = .ok (.bipush 6, 2) := gq_15 db00b_9 eb_14
theorem d_X5_init_41 : decode prog_7_method_1_code 41 = .ok (.putfield 24, 3) := gq_16 db00b_9 eb_95
theorem d_X5_init_44 : decode prog_7_method_1_code 44 = .ok (.aload_n 0, 1) := gq_17 db00b_9 eb_0
theorem d_X5_init_45 : decode prog_7_method_1_code 45 = .ok (.sipush 168, 3) := gq_18 db00b_9 eb_315
theorem d_X5_init_50 : decode prog_7_method_1_code 50 = .ok (.putfield 27, 3) := gq_19 db00b_9 eb_97
theorem d_X5_init_53 : decode prog_7_method_1_code 53 = .ok (.aload_n 0, 1) := gq_20 db00b_9 eb_0
theorem d_X5_init_54 : decode prog_7_method_1_code 54 = .ok (.sipush 168, 3) := gq_21 db00b_9 eb_315
theorem d_X5_init_59 : decode prog_7_method_1_code 59 = .ok (.putfield 30, 3) := gq_22 db00b_9 eb_98
theorem d_X5_init_62 : decode prog_7_method_1_code 62 = .ok (.aload_n 0, 1) := gq_23 db00b_9 eb_0
theorem d_X5_init_66 : decode prog_7_method_1_code 66 = .ok (.newarray .int, 2) := by decide +kernel
theorem d_X5_init_75 : decode prog_7_method_1_code 75 = .ok (.newarray .int, 2) := by decide +kernel
theorem d_X5_init_84 : decode prog_7_method_1_code 84 = .ok (.newarray .int, 2) := by decide +kernel
theorem d_X5_init_93 : decode prog_7_method_1_code 93 = .ok (.newarray .int, 2) := by decide +kernel
theorem d_X5_init_101 : decode prog_7_method_1_code 101 = .ok (.newarray .int, 2) := by decide +kernel
theorem db00b_10 : Pf_ prog_7_method_1_code [(63, [0x11, 0x02, 0x58]), (68, [0xb5, 0x00, 0x21]), (71, [0x2a]), (72, [0x11, 0x02, 0x58]), (77, [0xb5, 0x00, 0x24]), (80, [0x2a]), (81, [0x11, 0x02, 0x58]), (86, [0xb5, 0x00, 0x27]), (89, [0x2a]), (90, [0x11, 0x02, 0x58]), (95, [0xb5, 0x00, 0x2a]), (98, [0x2a]), (99, [0x10, 0x30]), (103, [0xb5, 0x00, 0x2d]), (106, [0x2a]), (107, [0x06]), (108, [0xb5, 0x00, 0x30]), (111, [0x2a]), (112, [0xb4, 0x00, 0x2d]), (115, [0x02]), (116, [0xb8, 0x00, 0x34]), (119, [0xb1])] := pf_ok prog_7_method_1_code _ 63 (by decide +kernel)
theorem d_X5_init_63 : decode prog_7_method_1_code 63 = .ok (.sipush 600, 3) := gq_0 db00b_10 eb_316
theorem d_X5_init_68 : decode prog_7_method_1_code 68 = .ok (.putfield 33, 3) := gq_1 db00b_10 eb_100
theorem d_X5_init_71 : decode prog_7_method_1_code 71 = .ok (.aload_n 0, 1) := gq_2 db00b_10 eb_0
theorem d_X5_init_72 : decode prog_7_method_1_code 72 = .ok (.sipush 600, 3) := gq_3 db00b_10 eb_316
theorem d_X5_init_77 : decode prog_7_method_1_code 77 = .ok (.putfield 36, 3) := gq_4 db00b_10 eb_102
theorem d_X5_init_80 : decode prog_7_method_1_code 80 = .ok (.aload_n 0, 1) := gq_5 db00b_10 eb_0
theorem d_X5_init_81 : decode prog_7_method_1_code 81 = .ok (.sipush 600, 3) := gq_6 db00b_10 eb_316
theorem d_X5_init_86 : decode prog_7_method_1_code 86 = .ok (.putfield 39, 3) := gq_7 db00b_10 eb_103
theorem d_X5_init_89 : decode prog_7_method_1_code 89 = .ok (.aload_n 0, 1) := gq_8 db00b_10 eb_0
theorem d_X5_init_90 : decode prog_7_method_1_code 90 = .ok (.sipush 600, 3) := gq_9 db00b_10 eb_316
theorem d_X5_init_95 : decode prog_7_method_1_code 95 = .ok (.putfield 42, 3) := gq_10 db00b_10 eb_104
theorem d_X5_init_98 : decode prog_7_method_1_code 98 = .ok (.aload_n 0, 1) := gq_11 db00b_10 eb_0
theorem d_X5_init_99 : decode prog_7_method_1_code 99 = .ok (.bipush 48, 2) := gq_12 db00b_10 eb_317
theorem d_X5_init_103 : decode prog_7_method_1_code 103 = .ok (.putfield 45, 3) := gq_13 db00b_10 eb_105
theorem d_X5_init_106 : decode prog_7_method_1_code 106 = .ok (.aload_n 0, 1) := gq_14 db00b_10 eb_0
theorem d_X5_init_107 : decode prog_7_method_1_code 107 = .ok (.iconst 3, 1) := gq_15 db00b_10 eb_54
theorem d_X5_init_108 : decode prog_7_method_1_code 108 = .ok (.putfield 48, 3) := gq_16 db00b_10 eb_106
theorem d_X5_init_111 : decode prog_7_method_1_code 111 = .ok (.aload_n 0, 1) := gq_17 db00b_10 eb_0
theorem d_X5_init_112 : decode prog_7_method_1_code 112 = .ok (.getfield 45, 3) := gq_18 db00b_10 eb_127
theorem d_X5_init_115 : decode prog_7_method_1_code 115 = .ok (.iconst (-1), 1) := gq_19 db00b_10 eb_26
theorem d_X5_init_116 : decode prog_7_method_1_code 116 = .ok (.invokestatic 52, 3) := gq_20 db00b_10 eb_318
theorem d_X5_init_119 : decode prog_7_method_1_code 119 = .ok (.return_, 1) := gq_21 db00b_10 eb_7
theorem db00b_11 : Pf_ prog_7_method_2_code [(0, [0x2a]), (1, [0xb4, 0x00, 0x3a]), (4, [0x10, 0x28]), (6, [0xa1, 0x00, 0x05]), (9, [0x03]), (10, [0xac]), (11, [0x2a]), (12, [0xb4, 0x00, 0x0b]), (15, [0x2a]), (16, [0xb4, 0x00, 0x3a]), (19, [0x1b]), (20, [0x4f]), (21, [0x2a]), (22, [0xb4, 0x00, 0x0f]), (25, [0x2a]), (26, [0xb4, 0x00, 0x3a]), (29, [0x1c]), (30, [0x4f]), (31, [0x2a]), (32, [0xb4, 0x00, 0x12]), (35, [0x2a]), (36, [0xb4, 0x00, 0x3a]), (39, [0x1d]), (40, [0x4f])] := pf_ok prog_7_method_2_code _ 0 (by decide +kernel)
theorem d_X5_addRank_0 : decode prog_7_method_2_code 0 = .ok (.aload_n 0, 1) := gq_0 db00b_11 eb_0
theorem d_X5_addRank_1 : decode prog_7_method_2_code 1 = .ok (.getfield 58, 3) := gq_1 db00b_11 eb_319
theorem d_X5_addRank_4 : decode prog_7_method_2_code 4 = .ok (.bipush 40, 2) := gq_2 db00b_11 eb_314
theorem d_X5_addRank_6 : decode prog_7_method_2_code 6 = .ok (.if_icmp .lt 5, 3) := gq_3 db00b_11 eb_114
theorem d_X5_addRank_9 : decode prog_7_method_2_code 9 = .ok (.iconst 0, 1) := gq_4 db00b_11 eb_21
theorem d_X5_addRank_10 : decode prog_7_method_2_code 10 = .ok (.ireturn, 1) := gq_5 db00b_11 eb_15
theorem d_X5_addRank_11 : decode prog_7_method_2_code 11 = .ok (.aload_n 0, 1) := gq_6 db00b_11 eb_0
theorem d_X5_addRank_12 : decode prog_7_method_2_code 12 = .ok (.getfield 11, 3) := gq_7 db00b_11 eb_32
theorem d_X5_addRank_15 : decode prog_7_method_2_code 15 = .ok (.aload_n 0, 1) := gq_8 db00b_11 eb_0
theorem d_X5_addRank_16 : decode prog_7_method_2_code 16 = .ok (.getfield 58, 3) := gq_9 db00b_11 eb_319
theorem d_X5_addRank_19 : decode prog_7_method_2_code 19 = .ok (.iload_n 1, 1) := gq_10 db00b_11 eb_9
theorem d_X5_addRank_20 : decode prog_7_method_2_code 20 = .ok (.iastore, 1) := gq_11 db00b_11 eb_38
theorem d_X5_addRank_21 : decode prog_7_method_2_code 21 = .ok (.aload_n 0, 1) := gq_12 db00b_11 eb_0
theorem d_X5_addRank_22 : decode prog_7_method_2_code 22 = .ok (.getfield 15, 3) := gq_13 db00b_11 eb_44
theorem d_X5_addRank_25 : decode prog_7_method_2_code 25 = .ok (.aload_n 0, 1) := gq_14 db00b_11 eb_0
theorem d_X5_addRank_26 : decode prog_7_method_2_code 26 = .ok (.getfield 58, 3) := gq_15 db00b_11 eb_319
theorem d_X5_addRank_29 : decode prog_7_method_2_code 29 = .ok (.iload_n 2, 1) := gq_16 db00b_11 eb_13
theorem d_X5_addRank_30 : decode prog_7_method_2_code 30 = .ok (.iastore, 1) := gq_17 db00b_11 eb_38
theorem d_X5_addRank_31 : decode prog_7_method_2_code 31 = .ok (.aload_n 0, 1) := gq_18 db00b_11 eb_0
theorem d_X5_addRank_32 : decode prog_7_method_2_code 32 = .ok (.getfield 18, 3) := gq_19 db00b_11 eb_45
theorem d_X5_addRank_35 : decode prog_7_method_2_code 35 = .ok (.aload_n 0, 1) := gq_20 db00b_11 eb_0
theorem d_X5_addRank_36 : decode prog_7_method_2_code 36 = .ok (.getfield 58, 3) := gq_21 db00b_11 eb_319
theorem d_X5_addRank_39 : decode prog_7_method_2_code 39 = .ok (.iload_n 3, 1) := gq_22 db00b_11 eb_29
theorem d_X5_addRank_40 : decode prog_7_method_2_code 40 = .ok (.iastore, 1) := gq_23 db00b_11 eb_38
theorem db00b_12 : Pf_ prog_7_method_2_code [(41, [0x2a]), (42, [0xb4, 0x00, 0x15]), (45, [0x2a]), (46, [0xb4, 0x00, 0x3a]), (49, [0x15, 0x04]), (51, [0x4f]), (52, [0x2a]), (53, [0x59]), (54, [0xb4, 0x00, 0x3a]), (57, [0x04]), (58, [0x60]), (59, [0xb5, 0x00, 0x3a]), (62, [0x04]), (63, [0xac])] := pf_ok prog_7_method_2_code _ 41 (by decide +kernel)
theorem d_X5_addRank_41 : decode prog_7_method_2_code 41 = .ok (.aload_n 0, 1) := gq_0 db00b_12 eb_0
theorem d_X5_addRank_42 : decode prog_7_method_2_code 42 = .ok (.getfield 21, 3) := gq_1 db00b_12 eb_17
theorem d_X5_addRank_45 : decode prog_7_method_2_code 45 = .ok (.aload_n 0, 1) := gq_2 db00b_12 eb_0
theorem d_X5_addRank_46 : decode prog_7_method_2_code 46 = .ok (.getfield 58, 3) := gq_3 db00b_12 eb_319
theorem d_X5_addRank_49 : decode prog_7_method_2_code 49 = .ok (.iload 4, 2) := gq_4 db00b_12 eb_76
theorem d_X5_addRank_51 : decode prog_7_method_2_code 51 = .ok (.iastore, 1) := gq_5 db00b_12 eb_38
theorem d_X5_addRank_52 : decode prog_7_method_2_code 52 = .ok (.aload_n 0, 1) := gq_6 db00b_12 eb_0
theorem d_X5_addRank_53 : decode prog_7_method_2_code 53 = .ok (.dup, 1) := gq_7 db00b_12 eb_46
theorem d_X5_addRank_54 : decode prog_7_method_2_code 54 = .ok (.getfield 58, 3) := gq_8 db00b_12 eb_319
theorem d_X5_addRank_57 : decode prog_7_method_2_code 57 = .ok (.iconst 1, 1) := gq_9 db00b_12 eb_19
theorem d_X5_addRank_58 : decode prog_7_method_2_code 58 = .ok (.iadd, 1) := gq_10 db00b_12 eb_35
theorem d_X5_addRank_59 : decode prog_7_method_2_code 59 = .ok (.putfield 58, 3) := gq_11 db00b_12 eb_320
theorem d_X5_addRank_62 : decode prog_7_method_2_code 62 = .ok (.iconst 1, 1) := gq_12 db00b_12 eb_19
theorem d_X5_addRank_63 : decode prog_7_method_2_code 63 = .ok (.ireturn, 1) := gq_13 db00b_12 eb_15
theorem db00b_13 : Pf_ prog_7_method_3_code [(0, [0x2b]), (1, [0xb4, 0x00, 0x3d]), (4, [0x36, 0x04]), (6, [0x02]), (7, [0x36, 0x05]), (9, [0x03]), (10, [0x36, 0x06]), (12, [0x15, 0x06]), (14, [0x2a]), (15, [0xb4, 0x00, 0x3a]), (18, [0xa2, 0x00, 0x44]), (21, [0x2a]), (22, [0xb4, 0x00, 0x0b]), (25, [0x15, 0x06]), (27, [0x2e]), (28, [0x2b]), (29, [0xb4, 0x00, 0x42]), (32, [0xa0, 0x00, 0x30]), (35, [0x2a]), (36, [0xb4, 0x00, 0x15]), (39, [0x15, 0x06]), (41, [0x2e]), (42, [0x1d]), (43, [0xa3, 0x00, 0x25])] := pf_ok prog_7_method_3_code _ 0 (by decide +kernel)
theorem d_X5_classOf_0 : decode prog_7_method_3_code 0 = .ok (.aload_n 1, 1) := gq_0 db00b_13 eb_23
theorem d_X5_classOf_1 : decode prog_7_method_3_code 1 = .ok (.getfield 61, 3) := gq_1 db00b_13 eb_321
theorem d_X5_classOf_4 : decode prog_7_method_3_code 4 = .ok (.istore 4, 2) := gq_2 db00b_13 eb_133
theorem d_X5_classOf_6 : decode prog_7_method_3_code 6 = .ok (.iconst (-1), 1) := gq_3 db00b_13 eb_26
theorem d_X5_classOf_7 : decode prog_7_method_3_code 7 = .ok (.istore 5, 2) := gq_4 db00b_13 eb_134
theorem d_X5_classOf_9 : decode prog_7_method_3_code 9 = .ok (.iconst 0, 1) := gq_5 db00b_13 eb_21
theorem d_X5_classOf_10 : decode prog_7_method_3_code 10 = .ok (.istore 6, 2) := gq_6 db00b_13 eb_58
theorem d_X5_classOf_12 : decode prog_7_method_3_code 12 = .ok (.iload 6, 2) := gq_7 db00b_13 eb_75
theorem d_X5_classOf_14 : decode prog_7_method_3_code 14 = .ok (.aload_n 0, 1) := gq_8 db00b_13 eb_0
theorem d_X5_classOf_15 : decode prog_7_method_3_code 15 = .ok (.getfield 58, 3) := gq_9 db00b_13 eb_319
theorem d_X5_classOf_18 : decode prog_7_method_3_code 18 = .ok (.if_icmp .ge 68, 3) := gq_10 db00b_13 eb_322
theorem d_X5_classOf_21 : decode prog_7_method_3_code 21 = .ok (.aload_n 0, 1) := gq_11 db00b_13 eb_0
theorem d_X5_classOf_22 : decode prog_7_method_3_code 22 = .ok (.getfield 11, 3) := gq_12 db00b_13 eb_32
theorem d_X5_classOf_25 : decode prog_7_method_3_code 25 = .ok (.iload 6, 2) := gq_13 db00b_13 eb_75
theorem d_X5_classOf_27 : decode prog_7_method_3_code 27 = .ok (.iaload, 1) := gq_14 db00b_13 eb_37
theorem d_X5_classOf_28 : decode prog_7_method_3_code 28 = .ok (.aload_n 1, 1) := gq_15 db00b_13 eb_23
theorem d_X5_classOf_29 : decode prog_7_method_3_code 29 = .ok (.getfield 66, 3) := gq_16 db00b_13 eb_323
theorem d_X5_classOf_32 : decode prog_7_method_3_code 32 = .ok (.if_icmp .ne 48, 3) := gq_17 db00b_13 eb_257
theorem d_X5_classOf_35 : decode prog_7_method_3_code 35 = .ok (.aload_n 0, 1) := gq_18 db00b_13 eb_0
theorem d_X5_classOf_36 : decode prog_7_method_3_code 36 = .ok (.getfield 21, 3) := gq_19 db00b_13 eb_17
theorem d_X5_classOf_39 : decode prog_7_method_3_code 39 = .ok (.iload 6, 2) := gq_20 db00b_13 eb_75
theorem d_X5_classOf_41 : decode prog_7_method_3_code 41 = .ok (.iaload, 1) := gq_21 db00b_13 eb_37
theorem d_X5_classOf_42 : decode prog_7_method_3_code 42 = .ok (.iload_n 3, 1) := gq_22 db00b_13 eb_29
theorem d_X5_classOf_43 : decode prog_7_method_3_code 43 = .ok (.if_icmp .gt 37, 3) := gq_23 db00b_13 eb_324
theorem db00b_14 : Pf_ prog_7_method_3_code [(46, [0x2a]), (47, [0xb4, 0x00, 0x12]), (50, [0x15, 0x06]), (52, [0x2e]), (53, [0x15, 0x05]), (55, [0x1c]), (56, [0xb8, 0x00, 0x45]), (59, [0x99, 0x00, 0x15]), (62, [0x2a]), (63, [0xb4, 0x00, 0x0f]), (66, [0x15, 0x06]), (68, [0x2e]), (69, [0x36, 0x04]), (71, [0x2a]), (72, [0xb4, 0x00, 0x12]), (75, [0x15, 0x06]), (77, [0x2e]), (78, [0x36, 0x05]), (80, [0x84, 0x06, 0x01]), (83, [0xa7, 0xff, 0xb9]), (86, [0x15, 0x04]), (88, [0xac])] := pf_ok prog_7_method_3_code _ 46 (by decide +kernel)
theorem d_X5_classOf_46 : decode prog_7_method_3_code 46 = .ok (.aload_n 0, 1) := gq_0 db00b_14 eb_0
theorem d_X5_classOf_47 : decode prog_7_method_3_code 47 = .ok (.getfield 18, 3) := gq_1 db00b_14 eb_45
theorem d_X5_classOf_50 : decode prog_7_method_3_code 50 = .ok (.iload 6, 2) := gq_2 db00b_14 eb_75
theorem d_X5_classOf_52 : decode prog_7_method_3_code 52 = .ok (.iaload, 1) := gq_3 db00b_14 eb_37
theorem d_X5_classOf_53 : decode prog_7_method_3_code 53 = .ok (.iload 5, 2) := gq_4 db00b_14 eb_125
theorem d_X5_classOf_55 : decode prog_7_method_3_code 55 = .ok (.iload_n 2, 1) := gq_5 db00b_14 eb_13
theorem d_X5_classOf_56 : decode prog_7_method_3_code 56 = .ok (.invokestatic 69, 3) := gq_6 db00b_14 eb_325
theorem d_X5_classOf_59 : decode prog_7_method_3_code 59 = .ok (.ifCond .eq 21, 3) := gq_7 db00b_14 eb_326
theorem d_X5_classOf_62 : decode prog_7_method_3_code 62 = .ok (.aload_n 0, 1) := gq_8 db00b_14 eb_0
theorem d_X5_classOf_63 : decode prog_7_method_3_code 63 = .ok (.getfield 15, 3) := gq_9 db00b_14 eb_44
theorem d_X5_classOf_66 : decode prog_7_method_3_code 66 = .ok (.iload 6, 2) := gq_10 db00b_14 eb_75
theorem d_X5_classOf_68 : decode prog_7_method_3_code 68 = .ok (.iaload, 1) := gq_11 db00b_14 eb_37
theorem d_X5_classOf_69 : decode prog_7_method_3_code 69 = .ok (.istore 4, 2) := gq_12 db00b_14 eb_133
theorem d_X5_classOf_71 : decode prog_7_method_3_code 71 = .ok (.aload_n 0, 1) := gq_13 db00b_14 eb_0
theorem d_X5_classOf_72 : decode prog_7_method_3_code 72 = .ok (.getfield 18, 3) := gq_14 db00b_14 eb_45
theorem d_X5_classOf_75 : decode prog_7_method_3_code 75 = .ok (.iload 6, 2) := gq_15 db00b_14 eb_75
theorem d_X5_classOf_77 : decode prog_7_method_3_code 77 = .ok (.iaload, 1) := gq_16 db00b_14 eb_37
theorem d_X5_classOf_78 : decode prog_7_method_3_code 78 = .ok (.istore 5, 2) := gq_17 db00b_14 eb_134
theorem d_X5_classOf_80 : decode prog_7_method_3_code 80 = .ok (.iinc 6 1, 3) := gq_18 db00b_14 eb_72
theorem d_X5_classOf_83 : decode prog_7_method_3_code 83 = .ok (.goto (-71), 3) := gq_19 db00b_14 eb_327
theorem d_X5_classOf_86 : decode prog_7_method_3_code 86 = .ok (.iload 4, 2) := gq_20 db00b_14 eb_76
theorem d_X5_classOf_88 : decode prog_7_method_3_code 88 = .ok (.ireturn, 1) := gq_21 db00b_14 eb_15
theorem db00b_15 : Pf_ prog_7_method_4_code [(0, [0x1b]), (1, [0x03]), (2, [0x10, 0x0b]), (4, [0xb8, 0x00, 0x45]), (7, [0x99, 0x00, 0x19]), (10, [0x1c]), (11, [0x03]), (12, [0x10, 0x0d]), (14, [0xb8, 0x00, 0x45]), (17, [0x99, 0x00, 0x0f]), (20, [0x2a]), (21, [0xb4, 0x00, 0x1b]), (24, [0x1c]), (25, [0x10, 0x0c]), (27, [0x68]), (28, [0x1b]), (29, [0x60]), (30, [0x1d]), (31, [0x4f]), (32, [0xb1])] := pf_ok prog_7_method_4_code _ 0 (by decide +kernel)
theorem d_X5_setWage_0 : decode prog_7_method_4_code 0 = .ok (.iload_n 1, 1) := gq_0 db00b_15 eb_9
theorem d_X5_setWage_1 : decode prog_7_method_4_code 1 = .ok (.iconst 0, 1) := gq_1 db00b_15 eb_21
theorem d_X5_setWage_2 : decode prog_7_method_4_code 2 = .ok (.bipush 11, 2) := gq_2 db00b_15 eb_328
theorem d_X5_setWage_4 : decode prog_7_method_4_code 4 = .ok (.invokestatic 69, 3) := gq_3 db00b_15 eb_325
theorem d_X5_setWage_7 : decode prog_7_method_4_code 7 = .ok (.ifCond .eq 25, 3) := gq_4 db00b_15 eb_293
theorem d_X5_setWage_10 : decode prog_7_method_4_code 10 = .ok (.iload_n 2, 1) := gq_5 db00b_15 eb_13
theorem d_X5_setWage_11 : decode prog_7_method_4_code 11 = .ok (.iconst 0, 1) := gq_6 db00b_15 eb_21
theorem d_X5_setWage_12 : decode prog_7_method_4_code 12 = .ok (.bipush 13, 2) := gq_7 db00b_15 eb_329
theorem d_X5_setWage_14 : decode prog_7_method_4_code 14 = .ok (.invokestatic 69, 3) := gq_8 db00b_15 eb_325
theorem d_X5_setWage_17 : decode prog_7_method_4_code 17 = .ok (.ifCond .eq 15, 3) := gq_9 db00b_15 eb_294
theorem d_X5_setWage_20 : decode prog_7_method_4_code 20 = .ok (.aload_n 0, 1) := gq_10 db00b_15 eb_0
theorem d_X5_setWage_21 : decode prog_7_method_4_code 21 = .ok (.getfield 27, 3) := gq_11 db00b_15 eb_121
theorem d_X5_setWage_24 : decode prog_7_method_4_code 24 = .ok (.iload_n 2, 1) := gq_12 db00b_15 eb_13
theorem d_X5_setWage_25 : decode prog_7_method_4_code 25 = .ok (.bipush 12, 2) := gq_13 db00b_15 eb_4
theorem d_X5_setWage_27 : decode prog_7_method_4_code 27 = .ok (.imul, 1) := gq_14 db00b_15 eb_34
theorem d_X5_setWage_28 : decode prog_7_method_4_code 28 = .ok (.iload_n 1, 1) := gq_15 db00b_15 eb_9
theorem d_X5_setWage_29 : decode prog_7_method_4_code 29 = .ok (.iadd, 1) := gq_16 db00b_15 eb_35
theorem d_X5_setWage_30 : decode prog_7_method_4_code 30 = .ok (.iload_n 3, 1) := gq_17 db00b_15 eb_29
theorem d_X5_setWage_31 : decode prog_7_method_4_code 31 = .ok (.iastore, 1) := gq_18 db00b_15 eb_38
theorem d_X5_setWage_32 : decode prog_7_method_4_code 32 = .ok (.return_, 1) := gq_19 db00b_15 eb_7
theorem db00b_16 : Pf_ prog_7_method_5_code [(0, [0x1c]), (1, [0x10, 0x0e]), (3, [0xb8, 0x00, 0x49]), (6, [0x10, 0x0c]), (8, [0x68]), (9, [0x36, 0x04]), (11, [0x03]), (12, [0x36, 0x05]), (14, [0x03]), (15, [0x36, 0x06]), (17, [0x15, 0x06]), (19, [0x15, 0x04]), (21, [0xa2, 0x00, 0x26]), (24, [0x15, 0x06]), (26, [0x10, 0x0c]), (28, [0x70]), (29, [0x1b]), (30, [0xa2, 0x00, 0x17]), (33, [0x2a]), (34, [0xb4, 0x00, 0x1b]), (37, [0x15, 0x06]), (39, [0x2e]), (40, [0x2a]), (41, [0xb4, 0x00, 0x1e])] := pf_ok prog_7_method_5_code _ 0 (by decide +kernel)
theorem d_X5_bookAll_0 : decode prog_7_method_5_code 0 = .ok (.iload_n 2, 1) := gq_0 db00b_16 eb_13
theorem d_X5_bookAll_1 : decode prog_7_method_5_code 1 = .ok (.bipush 14, 2) := gq_1 db00b_16 eb_330
theorem d_X5_bookAll_3 : decode prog_7_method_5_code 3 = .ok (.invokestatic 73, 3) := gq_2 db00b_16 eb_225
theorem d_X5_bookAll_6 : decode prog_7_method_5_code 6 = .ok (.bipush 12, 2) := gq_3 db00b_16 eb_4
theorem d_X5_bookAll_8 : decode prog_7_method_5_code 8 = .ok (.imul, 1) := gq_4 db00b_16 eb_34
theorem d_X5_bookAll_9 : decode prog_7_method_5_code 9 = .ok (.istore 4, 2) := gq_5 db00b_16 eb_133
theorem d_X5_bookAll_11 : decode prog_7_method_5_code 11 = .ok (.iconst 0, 1) := gq_6 db00b_16 eb_21
theorem d_X5_bookAll_12 : decode prog_7_method_5_code 12 = .ok (.istore 5, 2) := gq_7 db00b_16 eb_134
theorem d_X5_bookAll_14 : decode prog_7_method_5_code 14 = .ok (.iconst 0, 1) := gq_8 db00b_16 eb_21
theorem d_X5_bookAll_15 : decode prog_7_method_5_code 15 = .ok (.istore 6, 2) := gq_9 db00b_16 eb_58
theorem d_X5_bookAll_17 : decode prog_7_method_5_code 17 = .ok (.iload 6, 2) := gq_10 db00b_16 eb_75
theorem d_X5_bookAll_19 : decode prog_7_method_5_code 19 = .ok (.iload 4, 2) := gq_11 db00b_16 eb_76
theorem d_X5_bookAll_21 : decode prog_7_method_5_code 21 = .ok (.if_icmp .ge 38, 3) := gq_12 db00b_16 eb_331
theorem d_X5_bookAll_24 : decode prog_7_method_5_code 24 = .ok (.iload 6, 2) := gq_13 db00b_16 eb_75
theorem d_X5_bookAll_26 : decode prog_7_method_5_code 26 = .ok (.bipush 12, 2) := gq_14 db00b_16 eb_4
theorem d_X5_bookAll_28 : decode prog_7_method_5_code 28 = .ok (.irem, 1) := gq_15 db00b_16 eb_218
theorem d_X5_bookAll_29 : decode prog_7_method_5_code 29 = .ok (.iload_n 1, 1) := gq_16 db00b_16 eb_9
theorem d_X5_bookAll_30 : decode prog_7_method_5_code 30 = .ok (.if_icmp .ge 23, 3) := gq_17 db00b_16 eb_117
theorem d_X5_bookAll_33 : decode prog_7_method_5_code 33 = .ok (.aload_n 0, 1) := gq_18 db00b_16 eb_0
theorem d_X5_bookAll_34 : decode prog_7_method_5_code 34 = .ok (.getfield 27, 3) := gq_19 db00b_16 eb_121
theorem d_X5_bookAll_37 : decode prog_7_method_5_code 37 = .ok (.iload 6, 2) := gq_20 db00b_16 eb_75
theorem d_X5_bookAll_39 : decode prog_7_method_5_code 39 = .ok (.iaload, 1) := gq_21 db00b_16 eb_37
theorem d_X5_bookAll_40 : decode prog_7_method_5_code 40 = .ok (.aload_n 0, 1) := gq_22 db00b_16 eb_0
theorem d_X5_bookAll_41 : decode prog_7_method_5_code 41 = .ok (.getfield 30, 3) := gq_23 db00b_16 eb_124
theorem db00b_17 : Pf_ prog_7_method_5_code [(44, [0x15, 0x06]), (46, [0x2e]), (47, [0x9f, 0x00, 0x06]), (50, [0x84, 0x05, 0x01]), (53, [0x84, 0x06, 0x01]), (56, [0xa7, 0xff, 0xd9]), (59, [0x2a]), (60, [0xb4, 0x00, 0x4f]), (63, [0x15, 0x05]), (65, [0x60]), (66, [0x11, 0x02, 0x58]), (69, [0xa4, 0x00, 0x05]), (72, [0x02]), (73, [0xac]), (74, [0x03]), (75, [0x36, 0x06]), (77, [0x15, 0x06]), (79, [0x15, 0x04]), (81, [0xa2, 0x00, 0x2a]), (84, [0x15, 0x06]), (86, [0x10, 0x0c]), (88, [0x70]), (89, [0x1b]), (90, [0xa2, 0x00, 0x1b])] := pf_ok prog_7_method_5_code _ 44 (by decide +kernel)
theorem d_X5_bookAll_44 : decode prog_7_method_5_code 44 = .ok (.iload 6, 2) := gq_0 db00b_17 eb_75
theorem d_X5_bookAll_46 : decode prog_7_method_5_code 46 = .ok (.iaload, 1) := gq_1 db00b_17 eb_37
theorem d_X5_bookAll_47 : decode prog_7_method_5_code 47 = .ok (.if_icmp .eq 6, 3) := gq_2 db00b_17 eb_173
theorem d_X5_bookAll_50 : decode prog_7_method_5_code 50 = .ok (.iinc 5 1, 3) := gq_3 db00b_17 eb_220
theorem d_X5_bookAll_53 : decode prog_7_method_5_code 53 = .ok (.iinc 6 1, 3) := gq_4 db00b_17 eb_72
theorem d_X5_bookAll_56 : decode prog_7_method_5_code 56 = .ok (.goto (-39), 3) := gq_5 db00b_17 eb_332
theorem d_X5_bookAll_59 : decode prog_7_method_5_code 59 = .ok (.aload_n 0, 1) := gq_6 db00b_17 eb_0
theorem d_X5_bookAll_60 : decode prog_7_method_5_code 60 = .ok (.getfield 79, 3) := gq_7 db00b_17 eb_333
theorem d_X5_bookAll_63 : decode prog_7_method_5_code 63 = .ok (.iload 5, 2) := gq_8 db00b_17 eb_125
theorem d_X5_bookAll_65 : decode prog_7_method_5_code 65 = .ok (.iadd, 1) := gq_9 db00b_17 eb_35
theorem d_X5_bookAll_66 : decode prog_7_method_5_code 66 = .ok (.sipush 600, 3) := gq_10 db00b_17 eb_316
theorem d_X5_bookAll_69 : decode prog_7_method_5_code 69 = .ok (.if_icmp .le 5, 3) := gq_11 db00b_17 eb_334
theorem d_X5_bookAll_72 : decode prog_7_method_5_code 72 = .ok (.iconst (-1), 1) := gq_12 db00b_17 eb_26
theorem d_X5_bookAll_73 : decode prog_7_method_5_code 73 = .ok (.ireturn, 1) := gq_13 db00b_17 eb_15
theorem d_X5_bookAll_74 : decode prog_7_method_5_code 74 = .ok (.iconst 0, 1) := gq_14 db00b_17 eb_21
theorem d_X5_bookAll_75 : decode prog_7_method_5_code 75 = .ok (.istore 6, 2) := gq_15 db00b_17 eb_58
theorem d_X5_bookAll_77 : decode prog_7_method_5_code 77 = .ok (.iload 6, 2) := gq_16 db00b_17 eb_75
theorem d_X5_bookAll_79 : decode prog_7_method_5_code 79 = .ok (.iload 4, 2) := gq_17 db00b_17 eb_76
theorem d_X5_bookAll_81 : decode prog_7_method_5_code 81 = .ok (.if_icmp .ge 42, 3) := gq_18 db00b_17 eb_335
theorem d_X5_bookAll_84 : decode prog_7_method_5_code 84 = .ok (.iload 6, 2) := gq_19 db00b_17 eb_75
theorem d_X5_bookAll_86 : decode prog_7_method_5_code 86 = .ok (.bipush 12, 2) := gq_20 db00b_17 eb_4
theorem d_X5_bookAll_88 : decode prog_7_method_5_code 88 = .ok (.irem, 1) := gq_21 db00b_17 eb_218
theorem d_X5_bookAll_89 : decode prog_7_method_5_code 89 = .ok (.iload_n 1, 1) := gq_22 db00b_17 eb_9
theorem d_X5_bookAll_90 : decode prog_7_method_5_code 90 = .ok (.if_icmp .ge 27, 3) := gq_23 db00b_17 eb_336
theorem db00b_18 : Pf_ prog_7_method_5_code [(93, [0x2a]), (94, [0xb4, 0x00, 0x1b]), (97, [0x15, 0x06]), (99, [0x2e]), (100, [0x2a]), (101, [0xb4, 0x00, 0x1e]), (104, [0x15, 0x06]), (106, [0x2e]), (107, [0x9f, 0x00, 0x0a]), (110, [0x2a]), (111, [0x15, 0x06]), (113, [0x1d]), (114, [0xb6, 0x00, 0x52]), (117, [0x84, 0x06, 0x01]), (120, [0xa7, 0xff, 0xd5]), (123, [0x15, 0x05]), (125, [0xac])] := pf_ok prog_7_method_5_code _ 93 (by decide +kernel)
theorem d_X5_bookAll_93 : decode prog_7_method_5_code 93 = .ok (.aload_n 0, 1) := gq_0 db00b_18 eb_0
theorem d_X5_bookAll_94 : decode prog_7_method_5_code 94 = .ok (.getfield 27, 3) := gq_1 db00b_18 eb_121
theorem d_X5_bookAll_97 : decode prog_7_method_5_code 97 = .ok (.iload 6, 2) := gq_2 db00b_18 eb_75
theorem d_X5_bookAll_99 : decode prog_7_method_5_code 99 = .ok (.iaload, 1) := gq_3 db00b_18 eb_37
theorem d_X5_bookAll_100 : decode prog_7_method_5_code 100 = .ok (.aload_n 0, 1) := gq_4 db00b_18 eb_0
theorem d_X5_bookAll_101 : decode prog_7_method_5_code 101 = .ok (.getfield 30, 3) := gq_5 db00b_18 eb_124
theorem d_X5_bookAll_104 : decode prog_7_method_5_code 104 = .ok (.iload 6, 2) := gq_6 db00b_18 eb_75
theorem d_X5_bookAll_106 : decode prog_7_method_5_code 106 = .ok (.iaload, 1) := gq_7 db00b_18 eb_37
theorem d_X5_bookAll_107 : decode prog_7_method_5_code 107 = .ok (.if_icmp .eq 10, 3) := gq_8 db00b_18 eb_337
theorem d_X5_bookAll_110 : decode prog_7_method_5_code 110 = .ok (.aload_n 0, 1) := gq_9 db00b_18 eb_0
theorem d_X5_bookAll_111 : decode prog_7_method_5_code 111 = .ok (.iload 6, 2) := gq_10 db00b_18 eb_75
theorem d_X5_bookAll_113 : decode prog_7_method_5_code 113 = .ok (.iload_n 3, 1) := gq_11 db00b_18 eb_29
theorem d_X5_bookAll_114 : decode prog_7_method_5_code 114 = .ok (.invokevirtual 82, 3) := gq_12 db00b_18 eb_338
theorem d_X5_bookAll_117 : decode prog_7_method_5_code 117 = .ok (.iinc 6 1, 3) := gq_13 db00b_18 eb_72
theorem d_X5_bookAll_120 : decode prog_7_method_5_code 120 = .ok (.goto (-43), 3) := gq_14 db00b_18 eb_339
theorem d_X5_bookAll_123 : decode prog_7_method_5_code 123 = .ok (.iload 5, 2) := gq_15 db00b_18 eb_125
theorem d_X5_bookAll_125 : decode prog_7_method_5_code 125 = .ok (.ireturn, 1) := gq_16 db00b_18 eb_15
theorem db00b_19 : Pf_ prog_7_method_6_code [(0, [0x2a]), (1, [0xb4, 0x00, 0x4f]), (4, [0x11, 0x02, 0x58]), (7, [0xa2, 0x00, 0x65]), (10, [0x2a]), (11, [0xb4, 0x00, 0x21]), (14, [0x2a]), (15, [0xb4, 0x00, 0x4f]), (18, [0x1b]), (19, [0x10, 0x0c]), (21, [0x70]), (22, [0x4f]), (23, [0x2a]), (24, [0xb4, 0x00, 0x24]), (27, [0x2a]), (28, [0xb4, 0x00, 0x4f]), (31, [0x1b]), (32, [0x10, 0x0c]), (34, [0x6c]), (35, [0x4f]), (36, [0x2a]), (37, [0xb4, 0x00, 0x27]), (40, [0x2a]), (41, [0xb4, 0x00, 0x4f])] := pf_ok prog_7_method_6_code _ 0 (by decide +kernel)
theorem d_X5_writeLine_0 : decode prog_7_method_6_code 0 = .ok (.aload_n 0, 1) := gq_0 db00b_19 eb_0
theorem d_X5_writeLine_1 : decode prog_7_method_6_code 1 = .ok (.getfield 79, 3) := gq_1 db00b_19 eb_333
theorem d_X5_writeLine_4 : decode prog_7_method_6_code 4 = .ok (.sipush 600, 3) := gq_2 db00b_19 eb_316
theorem d_X5_writeLine_7 : decode prog_7_method_6_code 7 = .ok (.if_icmp .ge 101, 3) := gq_3 db00b_19 eb_340
theorem d_X5_writeLine_10 : decode prog_7_method_6_code 10 = .ok (.aload_n 0, 1) := gq_4 db00b_19 eb_0
theorem d_X5_writeLine_11 : decode prog_7_method_6_code 11 = .ok (.getfield 33, 3) := gq_5 db00b_19 eb_109
theorem d_X5_writeLine_14 : decode prog_7_method_6_code 14 = .ok (.aload_n 0, 1) := gq_6 db00b_19 eb_0
theorem d_X5_writeLine_15 : decode prog_7_method_6_code 15 = .ok (.getfield 79, 3) := gq_7 db00b_19 eb_333
theorem d_X5_writeLine_18 : decode prog_7_method_6_code 18 = .ok (.iload_n 1, 1) := gq_8 db00b_19 eb_9
theorem d_X5_writeLine_19 : decode prog_7_method_6_code 19 = .ok (.bipush 12, 2) := gq_9 db00b_19 eb_4
theorem d_X5_writeLine_21 : decode prog_7_method_6_code 21 = .ok (.irem, 1) := gq_10 db00b_19 eb_218
theorem d_X5_writeLine_22 : decode prog_7_method_6_code 22 = .ok (.iastore, 1) := gq_11 db00b_19 eb_38
theorem d_X5_writeLine_23 : decode prog_7_method_6_code 23 = .ok (.aload_n 0, 1) := gq_12 db00b_19 eb_0
theorem d_X5_writeLine_24 : decode prog_7_method_6_code 24 = .ok (.getfield 36, 3) := gq_13 db00b_19 eb_175
theorem d_X5_writeLine_27 : decode prog_7_method_6_code 27 = .ok (.aload_n 0, 1) := gq_14 db00b_19 eb_0
theorem d_X5_writeLine_28 : decode prog_7_method_6_code 28 = .ok (.getfield 79, 3) := gq_15 db00b_19 eb_333
theorem d_X5_writeLine_31 : decode prog_7_method_6_code 31 = .ok (.iload_n 1, 1) := gq_16 db00b_19 eb_9
theorem d_X5_writeLine_32 : decode prog_7_method_6_code 32 = .ok (.bipush 12, 2) := gq_17 db00b_19 eb_4
theorem d_X5_writeLine_34 : decode prog_7_method_6_code 34 = .ok (.idiv, 1) := gq_18 db00b_19 eb_219
theorem d_X5_writeLine_35 : decode prog_7_method_6_code 35 = .ok (.iastore, 1) := gq_19 db00b_19 eb_38
theorem d_X5_writeLine_36 : decode prog_7_method_6_code 36 = .ok (.aload_n 0, 1) := gq_20 db00b_19 eb_0
theorem d_X5_writeLine_37 : decode prog_7_method_6_code 37 = .ok (.getfield 39, 3) := gq_21 db00b_19 eb_176
theorem d_X5_writeLine_40 : decode prog_7_method_6_code 40 = .ok (.aload_n 0, 1) := gq_22 db00b_19 eb_0
theorem d_X5_writeLine_41 : decode prog_7_method_6_code 41 = .ok (.getfield 79, 3) := gq_23 db00b_19 eb_333
theorem db00b_20 : Pf_ prog_7_method_6_code [(44, [0x2a]), (45, [0xb4, 0x00, 0x1b]), (48, [0x1b]), (49, [0x2e]), (50, [0x2a]), (51, [0xb4, 0x00, 0x1e]), (54, [0x1b]), (55, [0x2e]), (56, [0x64]), (57, [0x4f]), (58, [0x2a]), (59, [0xb4, 0x00, 0x2a]), (62, [0x2a]), (63, [0xb4, 0x00, 0x4f]), (66, [0x1c]), (67, [0x4f]), (68, [0x2a]), (69, [0x59]), (70, [0xb4, 0x00, 0x56]), (73, [0x2a]), (74, [0xb4, 0x00, 0x27]), (77, [0x2a]), (78, [0xb4, 0x00, 0x4f]), (81, [0x2e])] := pf_ok prog_7_method_6_code _ 44 (by decide +kernel)
theorem d_X5_writeLine_44 : decode prog_7_method_6_code 44 = .ok (.aload_n 0, 1) := gq_0 db00b_20 eb_0
theorem d_X5_writeLine_45 : decode prog_7_method_6_code 45 = .ok (.getfield 27, 3) := gq_1 db00b_20 eb_121
theorem d_X5_writeLine_48 : decode prog_7_method_6_code 48 = .ok (.iload_n 1, 1) := gq_2 db00b_20 eb_9
theorem d_X5_writeLine_49 : decode prog_7_method_6_code 49 = .ok (.iaload, 1) := gq_3 db00b_20 eb_37
theorem d_X5_writeLine_50 : decode prog_7_method_6_code 50 = .ok (.aload_n 0, 1) := gq_4 db00b_20 eb_0
theorem d_X5_writeLine_51 : decode prog_7_method_6_code 51 = .ok (.getfield 30, 3) := gq_5 db00b_20 eb_124
theorem d_X5_writeLine_54 : decode prog_7_method_6_code 54 = .ok (.iload_n 1, 1) := gq_6 db00b_20 eb_9
theorem d_X5_writeLine_55 : decode prog_7_method_6_code 55 = .ok (.iaload, 1) := gq_7 db00b_20 eb_37
theorem d_X5_writeLine_56 : decode prog_7_method_6_code 56 = .ok (.isub, 1) := gq_8 db00b_20 eb_48
theorem d_X5_writeLine_57 : decode prog_7_method_6_code 57 = .ok (.iastore, 1) := gq_9 db00b_20 eb_38
theorem d_X5_writeLine_58 : decode prog_7_method_6_code 58 = .ok (.aload_n 0, 1) := gq_10 db00b_20 eb_0
theorem d_X5_writeLine_59 : decode prog_7_method_6_code 59 = .ok (.getfield 42, 3) := gq_11 db00b_20 eb_177
theorem d_X5_writeLine_62 : decode prog_7_method_6_code 62 = .ok (.aload_n 0, 1) := gq_12 db00b_20 eb_0
theorem d_X5_writeLine_63 : decode prog_7_method_6_code 63 = .ok (.getfield 79, 3) := gq_13 db00b_20 eb_333
theorem d_X5_writeLine_66 : decode prog_7_method_6_code 66 = .ok (.iload_n 2, 1) := gq_14 db00b_20 eb_13
theorem d_X5_writeLine_67 : decode prog_7_method_6_code 67 = .ok (.iastore, 1) := gq_15 db00b_20 eb_38
theorem d_X5_writeLine_68 : decode prog_7_method_6_code 68 = .ok (.aload_n 0, 1) := gq_16 db00b_20 eb_0
theorem d_X5_writeLine_69 : decode prog_7_method_6_code 69 = .ok (.dup, 1) := gq_17 db00b_20 eb_46
theorem d_X5_writeLine_70 : decode prog_7_method_6_code 70 = .ok (.getfield 86, 3) := gq_18 db00b_20 eb_341
theorem d_X5_writeLine_73 : decode prog_7_method_6_code 73 = .ok (.aload_n 0, 1) := gq_19 db00b_20 eb_0
theorem d_X5_writeLine_74 : decode prog_7_method_6_code 74 = .ok (.getfield 39, 3) := gq_20 db00b_20 eb_176
theorem d_X5_writeLine_77 : decode prog_7_method_6_code 77 = .ok (.aload_n 0, 1) := gq_21 db00b_20 eb_0
theorem d_X5_writeLine_78 : decode prog_7_method_6_code 78 = .ok (.getfield 79, 3) := gq_22 db00b_20 eb_333
theorem d_X5_writeLine_81 : decode prog_7_method_6_code 81 = .ok (.iaload, 1) := gq_23 db00b_20 eb_37
theorem db00b_21 : Pf_ prog_7_method_6_code [(82, [0x60]), (83, [0xb5, 0x00, 0x56]), (86, [0x2a]), (87, [0xb4, 0x00, 0x1e]), (90, [0x1b]), (91, [0x2a]), (92, [0xb4, 0x00, 0x1b]), (95, [0x1b]), (96, [0x2e]), (97, [0x4f]), (98, [0x2a]), (99, [0x59]), (100, [0xb4, 0x00, 0x4f]), (103, [0x04]), (104, [0x60]), (105, [0xb5, 0x00, 0x4f]), (108, [0xb1])] := pf_ok prog_7_method_6_code _ 82 (by decide +kernel)
theorem d_X5_writeLine_82 : decode prog_7_method_6_code 82 = .ok (.iadd, 1) := gq_0 db00b_21 eb_35
theorem d_X5_writeLine_83 : decode prog_7_method_6_code 83 = .ok (.putfield 86, 3) := gq_1 db00b_21 eb_342
theorem d_X5_writeLine_86 : decode prog_7_method_6_code 86 = .ok (.aload_n 0, 1) := gq_2 db00b_21 eb_0
theorem d_X5_writeLine_87 : decode prog_7_method_6_code 87 = .ok (.getfield 30, 3) := gq_3 db00b_21 eb_124
theorem d_X5_writeLine_90 : decode prog_7_method_6_code 90 = .ok (.iload_n 1, 1) := gq_4 db00b_21 eb_9
theorem d_X5_writeLine_91 : decode prog_7_method_6_code 91 = .ok (.aload_n 0, 1) := gq_5 db00b_21 eb_0
theorem d_X5_writeLine_92 : decode prog_7_method_6_code 92 = .ok (.getfield 27, 3) := gq_6 db00b_21 eb_121
theorem d_X5_writeLine_95 : decode prog_7_method_6_code 95 = .ok (.iload_n 1, 1) := gq_7 db00b_21 eb_9
theorem d_X5_writeLine_96 : decode prog_7_method_6_code 96 = .ok (.iaload, 1) := gq_8 db00b_21 eb_37
theorem d_X5_writeLine_97 : decode prog_7_method_6_code 97 = .ok (.iastore, 1) := gq_9 db00b_21 eb_38
theorem d_X5_writeLine_98 : decode prog_7_method_6_code 98 = .ok (.aload_n 0, 1) := gq_10 db00b_21 eb_0
theorem d_X5_writeLine_99 : decode prog_7_method_6_code 99 = .ok (.dup, 1) := gq_11 db00b_21 eb_46
theorem d_X5_writeLine_100 : decode prog_7_method_6_code 100 = .ok (.getfield 79, 3) := gq_12 db00b_21 eb_333
theorem d_X5_writeLine_103 : decode prog_7_method_6_code 103 = .ok (.iconst 1, 1) := gq_13 db00b_21 eb_19
theorem d_X5_writeLine_104 : decode prog_7_method_6_code 104 = .ok (.iadd, 1) := gq_14 db00b_21 eb_35
theorem d_X5_writeLine_105 : decode prog_7_method_6_code 105 = .ok (.putfield 79, 3) := gq_15 db00b_21 eb_343
theorem d_X5_writeLine_108 : decode prog_7_method_6_code 108 = .ok (.return_, 1) := gq_16 db00b_21 eb_7
theorem d_X5_tellLine_18 : decode prog_7_method_7_code 18 = .ok (.tableswitch 58 0 3 #[30, 37, 44, 51], 30) := by decide +kernel
theorem db00b_22 : Pf_ prog_7_method_7_code [(0, [0x1b]), (1, [0x03]), (2, [0x2a]), (3, [0xb4, 0x00, 0x4f]), (6, [0x04]), (7, [0x64]), (8, [0xb8, 0x00, 0x45]), (11, [0x9a, 0x00, 0x06]), (14, [0x12, 0x59]), (16, [0xac]), (17, [0x1c]), (48, [0x2a]), (49, [0xb4, 0x00, 0x21]), (52, [0x1b]), (53, [0x2e]), (54, [0xac]), (55, [0x2a]), (56, [0xb4, 0x00, 0x24]), (59, [0x1b]), (60, [0x2e]), (61, [0xac]), (62, [0x2a]), (63, [0xb4, 0x00, 0x27]), (66, [0x1b])] := pf_ok prog_7_method_7_code _ 0 (by decide +kernel)
theorem d_X5_tellLine_0 : decode prog_7_method_7_code 0 = .ok (.iload_n 1, 1) := gq_0 db00b_22 eb_9
theorem d_X5_tellLine_1 : decode prog_7_method_7_code 1 = .ok (.iconst 0, 1) := gq_1 db00b_22 eb_21
theorem d_X5_tellLine_2 : decode prog_7_method_7_code 2 = .ok (.aload_n 0, 1) := gq_2 db00b_22 eb_0
theorem d_X5_tellLine_3 : decode prog_7_method_7_code 3 = .ok (.getfield 79, 3) := gq_3 db00b_22 eb_333
theorem d_X5_tellLine_6 : decode prog_7_method_7_code 6 = .ok (.iconst 1, 1) := gq_4 db00b_22 eb_19
theorem d_X5_tellLine_7 : decode prog_7_method_7_code 7 = .ok (.isub, 1) := gq_5 db00b_22 eb_48
theorem d_X5_tellLine_8 : decode prog_7_method_7_code 8 = .ok (.invokestatic 69, 3) := gq_6 db00b_22 eb_325
theorem d_X5_tellLine_11 : decode prog_7_method_7_code 11 = .ok (.ifCond .ne 6, 3) := gq_7 db00b_22 eb_344
theorem d_X5_tellLine_14 : decode prog_7_method_7_code 14 = .ok (.ldc 89, 2) := gq_8 db00b_22 eb_345
theorem d_X5_tellLine_16 : decode prog_7_method_7_code 16 = .ok (.ireturn, 1) := gq_9 db00b_22 eb_15
theorem d_X5_tellLine_17 : decode prog_7_method_7_code 17 = .ok (.iload_n 2, 1) := gq_10 db00b_22 eb_13
theorem d_X5_tellLine_48 : decode prog_7_method_7_code 48 = .ok (.aload_n 0, 1) := gq_11 db00b_22 eb_0
theorem d_X5_tellLine_49 : decode prog_7_method_7_code 49 = .ok (.getfield 33, 3) := gq_12 db00b_22 eb_109
theorem d_X5_tellLine_52 : decode prog_7_method_7_code 52 = .ok (.iload_n 1, 1) := gq_13 db00b_22 eb_9
theorem d_X5_tellLine_53 : decode prog_7_method_7_code 53 = .ok (.iaload, 1) := gq_14 db00b_22 eb_37
theorem d_X5_tellLine_54 : decode prog_7_method_7_code 54 = .ok (.ireturn, 1) := gq_15 db00b_22 eb_15
theorem d_X5_tellLine_55 : decode prog_7_method_7_code 55 = .ok (.aload_n 0, 1) := gq_16 db00b_22 eb_0
theorem d_X5_tellLine_56 : decode prog_7_method_7_code 56 = .ok (.getfield 36, 3) := gq_17 db00b_22 eb_175
theorem d_X5_tellLine_59 : decode prog_7_method_7_code 59 = .ok (.iload_n 1, 1) := gq_18 db00b_22 eb_9
theorem d_X5_tellLine_60 : decode prog_7_method_7_code 60 = .ok (.iaload, 1) := gq_19 db00b_22 eb_37
theorem d_X5_tellLine_61 : decode prog_7_method_7_code 61 = .ok (.ireturn, 1) := gq_20 db00b_22 eb_15
theorem d_X5_tellLine_62 : decode prog_7_method_7_code 62 = .ok (.aload_n 0, 1) := gq_21 db00b_22 eb_0
theorem d_X5_tellLine_63 : decode prog_7_method_7_code 63 = .ok (.getfield 39, 3) := gq_22 db00b_22 eb_176
theorem d_X5_tellLine_66 : decode prog_7_method_7_code 66 = .ok (.iload_n 1, 1) := gq_23 db00b_22 eb_9
theorem db00b_23 : Pf_ prog_7_method_7_code [(67, [0x2e]), (68, [0xac]), (69, [0x2a]), (70, [0xb4, 0x00, 0x2a]), (73, [0x1b]), (74, [0x2e]), (75, [0xac]), (76, [0x12, 0x59]), (78, [0xac])] := pf_ok prog_7_method_7_code _ 67 (by decide +kernel)
theorem d_X5_tellLine_67 : decode prog_7_method_7_code 67 = .ok (.iaload, 1) := gq_0 db00b_23 eb_37
theorem d_X5_tellLine_68 : decode prog_7_method_7_code 68 = .ok (.ireturn, 1) := gq_1 db00b_23 eb_15
theorem d_X5_tellLine_69 : decode prog_7_method_7_code 69 = .ok (.aload_n 0, 1) := gq_2 db00b_23 eb_0
theorem d_X5_tellLine_70 : decode prog_7_method_7_code 70 = .ok (.getfield 42, 3) := gq_3 db00b_23 eb_177
theorem d_X5_tellLine_73 : decode prog_7_method_7_code 73 = .ok (.iload_n 1, 1) := gq_4 db00b_23 eb_9
theorem d_X5_tellLine_74 : decode prog_7_method_7_code 74 = .ok (.iaload, 1) := gq_5 db00b_23 eb_37
theorem d_X5_tellLine_75 : decode prog_7_method_7_code 75 = .ok (.ireturn, 1) := gq_6 db00b_23 eb_15
theorem d_X5_tellLine_76 : decode prog_7_method_7_code 76 = .ok (.ldc 89, 2) := gq_7 db00b_23 eb_345
theorem d_X5_tellLine_78 : decode prog_7_method_7_code 78 = .ok (.ireturn, 1) := gq_8 db00b_23 eb_15
theorem db00b_24 : Pf_ prog_7_method_8_code [(0, [0x1b]), (1, [0x03]), (2, [0x06]), (3, [0xb8, 0x00, 0x45]), (6, [0x99, 0x00, 0x19]), (9, [0x1c]), (10, [0x03]), (11, [0x10, 0x0b]), (13, [0xb8, 0x00, 0x45]), (16, [0x99, 0x00, 0x0f]), (19, [0x2a]), (20, [0xb4, 0x00, 0x2d]), (23, [0x1b]), (24, [0x10, 0x0c]), (26, [0x68]), (27, [0x1c]), (28, [0x60]), (29, [0x1d]), (30, [0x4f]), (31, [0xb1])] := pf_ok prog_7_method_8_code _ 0 (by decide +kernel)
theorem d_X5_setMark_0 : decode prog_7_method_8_code 0 = .ok (.iload_n 1, 1) := gq_0 db00b_24 eb_9
theorem d_X5_setMark_1 : decode prog_7_method_8_code 1 = .ok (.iconst 0, 1) := gq_1 db00b_24 eb_21
theorem d_X5_setMark_2 : decode prog_7_method_8_code 2 = .ok (.iconst 3, 1) := gq_2 db00b_24 eb_54
theorem d_X5_setMark_3 : decode prog_7_method_8_code 3 = .ok (.invokestatic 69, 3) := gq_3 db00b_24 eb_325
theorem d_X5_setMark_6 : decode prog_7_method_8_code 6 = .ok (.ifCond .eq 25, 3) := gq_4 db00b_24 eb_293
theorem d_X5_setMark_9 : decode prog_7_method_8_code 9 = .ok (.iload_n 2, 1) := gq_5 db00b_24 eb_13
theorem d_X5_setMark_10 : decode prog_7_method_8_code 10 = .ok (.iconst 0, 1) := gq_6 db00b_24 eb_21
theorem d_X5_setMark_11 : decode prog_7_method_8_code 11 = .ok (.bipush 11, 2) := gq_7 db00b_24 eb_328
theorem d_X5_setMark_13 : decode prog_7_method_8_code 13 = .ok (.invokestatic 69, 3) := gq_8 db00b_24 eb_325
theorem d_X5_setMark_16 : decode prog_7_method_8_code 16 = .ok (.ifCond .eq 15, 3) := gq_9 db00b_24 eb_294
theorem d_X5_setMark_19 : decode prog_7_method_8_code 19 = .ok (.aload_n 0, 1) := gq_10 db00b_24 eb_0
theorem d_X5_setMark_20 : decode prog_7_method_8_code 20 = .ok (.getfield 45, 3) := gq_11 db00b_24 eb_127
theorem d_X5_setMark_23 : decode prog_7_method_8_code 23 = .ok (.iload_n 1, 1) := gq_12 db00b_24 eb_9
theorem d_X5_setMark_24 : decode prog_7_method_8_code 24 = .ok (.bipush 12, 2) := gq_13 db00b_24 eb_4
theorem d_X5_setMark_26 : decode prog_7_method_8_code 26 = .ok (.imul, 1) := gq_14 db00b_24 eb_34
theorem d_X5_setMark_27 : decode prog_7_method_8_code 27 = .ok (.iload_n 2, 1) := gq_15 db00b_24 eb_13
theorem d_X5_setMark_28 : decode prog_7_method_8_code 28 = .ok (.iadd, 1) := gq_16 db00b_24 eb_35
theorem d_X5_setMark_29 : decode prog_7_method_8_code 29 = .ok (.iload_n 3, 1) := gq_17 db00b_24 eb_29
theorem d_X5_setMark_30 : decode prog_7_method_8_code 30 = .ok (.iastore, 1) := gq_18 db00b_24 eb_38
theorem d_X5_setMark_31 : decode prog_7_method_8_code 31 = .ok (.return_, 1) := gq_19 db00b_24 eb_7
theorem db00b_25 : Pf_ prog_7_method_9_code [(0, [0x03]), (1, [0x36, 0x04]), (3, [0x03]), (4, [0x36, 0x05]), (6, [0x03]), (7, [0x36, 0x06]), (9, [0x15, 0x06]), (11, [0x1d]), (12, [0x10, 0x0c]), (14, [0xb8, 0x00, 0x49]), (17, [0xa2, 0x00, 0x3e]), (20, [0x2a]), (21, [0xb4, 0x00, 0x2d]), (24, [0x1b]), (25, [0x10, 0x0c]), (27, [0x68]), (28, [0x15, 0x06]), (30, [0x60]), (31, [0x2e]), (32, [0x36, 0x07]), (34, [0x2a]), (35, [0xb4, 0x00, 0x2d]), (38, [0x1c]), (39, [0x10, 0x0c])] := pf_ok prog_7_method_9_code _ 0 (by decide +kernel)
theorem d_X5_compare_0 : decode prog_7_method_9_code 0 = .ok (.iconst 0, 1) := gq_0 db00b_25 eb_21
theorem d_X5_compare_1 : decode prog_7_method_9_code 1 = .ok (.istore 4, 2) := gq_1 db00b_25 eb_133
theorem d_X5_compare_3 : decode prog_7_method_9_code 3 = .ok (.iconst 0, 1) := gq_2 db00b_25 eb_21
theorem d_X5_compare_4 : decode prog_7_method_9_code 4 = .ok (.istore 5, 2) := gq_3 db00b_25 eb_134
theorem d_X5_compare_6 : decode prog_7_method_9_code 6 = .ok (.iconst 0, 1) := gq_4 db00b_25 eb_21
theorem d_X5_compare_7 : decode prog_7_method_9_code 7 = .ok (.istore 6, 2) := gq_5 db00b_25 eb_58
theorem d_X5_compare_9 : decode prog_7_method_9_code 9 = .ok (.iload 6, 2) := gq_6 db00b_25 eb_75
theorem d_X5_compare_11 : decode prog_7_method_9_code 11 = .ok (.iload_n 3, 1) := gq_7 db00b_25 eb_29
theorem d_X5_compare_12 : decode prog_7_method_9_code 12 = .ok (.bipush 12, 2) := gq_8 db00b_25 eb_4
theorem d_X5_compare_14 : decode prog_7_method_9_code 14 = .ok (.invokestatic 73, 3) := gq_9 db00b_25 eb_225
theorem d_X5_compare_17 : decode prog_7_method_9_code 17 = .ok (.if_icmp .ge 62, 3) := gq_10 db00b_25 eb_346
theorem d_X5_compare_20 : decode prog_7_method_9_code 20 = .ok (.aload_n 0, 1) := gq_11 db00b_25 eb_0
theorem d_X5_compare_21 : decode prog_7_method_9_code 21 = .ok (.getfield 45, 3) := gq_12 db00b_25 eb_127
theorem d_X5_compare_24 : decode prog_7_method_9_code 24 = .ok (.iload_n 1, 1) := gq_13 db00b_25 eb_9
theorem d_X5_compare_25 : decode prog_7_method_9_code 25 = .ok (.bipush 12, 2) := gq_14 db00b_25 eb_4
theorem d_X5_compare_27 : decode prog_7_method_9_code 27 = .ok (.imul, 1) := gq_15 db00b_25 eb_34
theorem d_X5_compare_28 : decode prog_7_method_9_code 28 = .ok (.iload 6, 2) := gq_16 db00b_25 eb_75
theorem d_X5_compare_30 : decode prog_7_method_9_code 30 = .ok (.iadd, 1) := gq_17 db00b_25 eb_35
theorem d_X5_compare_31 : decode prog_7_method_9_code 31 = .ok (.iaload, 1) := gq_18 db00b_25 eb_37
theorem d_X5_compare_32 : decode prog_7_method_9_code 32 = .ok (.istore 7, 2) := gq_19 db00b_25 eb_59
theorem d_X5_compare_34 : decode prog_7_method_9_code 34 = .ok (.aload_n 0, 1) := gq_20 db00b_25 eb_0
theorem d_X5_compare_35 : decode prog_7_method_9_code 35 = .ok (.getfield 45, 3) := gq_21 db00b_25 eb_127
theorem d_X5_compare_38 : decode prog_7_method_9_code 38 = .ok (.iload_n 2, 1) := gq_22 db00b_25 eb_13
theorem d_X5_compare_39 : decode prog_7_method_9_code 39 = .ok (.bipush 12, 2) := gq_23 db00b_25 eb_4
theorem db00b_26 : Pf_ prog_7_method_9_code [(41, [0x68]), (42, [0x15, 0x06]), (44, [0x60]), (45, [0x2e]), (46, [0x36, 0x08]), (48, [0x15, 0x07]), (50, [0x02]), (51, [0x9f, 0x00, 0x16]), (54, [0x15, 0x08]), (56, [0x02]), (57, [0x9f, 0x00, 0x10]), (60, [0x84, 0x04, 0x01]), (63, [0x15, 0x05]), (65, [0x15, 0x07]), (67, [0x15, 0x08]), (69, [0x64]), (70, [0x60]), (71, [0x36, 0x05]), (73, [0x84, 0x06, 0x01]), (76, [0xa7, 0xff, 0xbd]), (79, [0x15, 0x04]), (81, [0x2a]), (82, [0xb4, 0x00, 0x30]), (85, [0xa1, 0x00, 0x08])] := pf_ok prog_7_method_9_code _ 41 (by decide +kernel)
theorem d_X5_compare_41 : decode prog_7_method_9_code 41 = .ok (.imul, 1) := gq_0 db00b_26 eb_34
theorem d_X5_compare_42 : decode prog_7_method_9_code 42 = .ok (.iload 6, 2) := gq_1 db00b_26 eb_75
theorem d_X5_compare_44 : decode prog_7_method_9_code 44 = .ok (.iadd, 1) := gq_2 db00b_26 eb_35
theorem d_X5_compare_45 : decode prog_7_method_9_code 45 = .ok (.iaload, 1) := gq_3 db00b_26 eb_37
theorem d_X5_compare_46 : decode prog_7_method_9_code 46 = .ok (.istore 8, 2) := gq_4 db00b_26 eb_61
theorem d_X5_compare_48 : decode prog_7_method_9_code 48 = .ok (.iload 7, 2) := gq_5 db00b_26 eb_73
theorem d_X5_compare_50 : decode prog_7_method_9_code 50 = .ok (.iconst (-1), 1) := gq_6 db00b_26 eb_26
theorem d_X5_compare_51 : decode prog_7_method_9_code 51 = .ok (.if_icmp .eq 22, 3) := gq_7 db00b_26 eb_347
theorem d_X5_compare_54 : decode prog_7_method_9_code 54 = .ok (.iload 8, 2) := gq_8 db00b_26 eb_64
theorem d_X5_compare_56 : decode prog_7_method_9_code 56 = .ok (.iconst (-1), 1) := gq_9 db00b_26 eb_26
theorem d_X5_compare_57 : decode prog_7_method_9_code 57 = .ok (.if_icmp .eq 16, 3) := gq_10 db00b_26 eb_305
theorem d_X5_compare_60 : decode prog_7_method_9_code 60 = .ok (.iinc 4 1, 3) := gq_11 db00b_26 eb_144
theorem d_X5_compare_63 : decode prog_7_method_9_code 63 = .ok (.iload 5, 2) := gq_12 db00b_26 eb_125
theorem d_X5_compare_65 : decode prog_7_method_9_code 65 = .ok (.iload 7, 2) := gq_13 db00b_26 eb_73
theorem d_X5_compare_67 : decode prog_7_method_9_code 67 = .ok (.iload 8, 2) := gq_14 db00b_26 eb_64
theorem d_X5_compare_69 : decode prog_7_method_9_code 69 = .ok (.isub, 1) := gq_15 db00b_26 eb_48
theorem d_X5_compare_70 : decode prog_7_method_9_code 70 = .ok (.iadd, 1) := gq_16 db00b_26 eb_35
theorem d_X5_compare_71 : decode prog_7_method_9_code 71 = .ok (.istore 5, 2) := gq_17 db00b_26 eb_134
theorem d_X5_compare_73 : decode prog_7_method_9_code 73 = .ok (.iinc 6 1, 3) := gq_18 db00b_26 eb_72
theorem d_X5_compare_76 : decode prog_7_method_9_code 76 = .ok (.goto (-67), 3) := gq_19 db00b_26 eb_229
theorem d_X5_compare_79 : decode prog_7_method_9_code 79 = .ok (.iload 4, 2) := gq_20 db00b_26 eb_76
theorem d_X5_compare_81 : decode prog_7_method_9_code 81 = .ok (.aload_n 0, 1) := gq_21 db00b_26 eb_0
theorem d_X5_compare_82 : decode prog_7_method_9_code 82 = .ok (.getfield 48, 3) := gq_22 db00b_26 eb_128
theorem d_X5_compare_85 : decode prog_7_method_9_code 85 = .ok (.if_icmp .lt 8, 3) := gq_23 db00b_26 eb_348
theorem db00b_27 : Pf_ prog_7_method_9_code [(88, [0x15, 0x05]), (90, [0xa7, 0x00, 0x05]), (93, [0x12, 0x59]), (95, [0xac])] := pf_ok prog_7_method_9_code _ 88 (by decide +kernel)
theorem d_X5_compare_88 : decode prog_7_method_9_code 88 = .ok (.iload 5, 2) := gq_0 db00b_27 eb_125
theorem d_X5_compare_90 : decode prog_7_method_9_code 90 = .ok (.goto 5, 3) := gq_1 db00b_27 eb_89
theorem d_X5_compare_93 : decode prog_7_method_9_code 93 = .ok (.ldc 89, 2) := gq_2 db00b_27 eb_345
theorem d_X5_compare_95 : decode prog_7_method_9_code 95 = .ok (.ireturn, 1) := gq_3 db00b_27 eb_15
theorem d_X6_init_7 : decode prog_8_method_1_code 7 = .ok (.newarray .int, 2) := by decide +kernel
theorem d_X6_init_15 : decode prog_8_method_1_code 15 = .ok (.newarray .int, 2) := by decide +kernel
theorem d_X6_init_23 : decode prog_8_method_1_code 23 = .ok (.newarray .int, 2) := by decide +kernel
theorem d_X6_init_30 : decode prog_8_method_1_code 30 = .ok (.newarray .long, 2) := by decide +kernel
theorem d_X6_init_37 : decode prog_8_method_1_code 37 = .ok (.newarray .int, 2) := by decide +kernel
theorem d_X6_init_44 : decode prog_8_method_1_code 44 = .ok (.newarray .int, 2) := by decide +kernel
theorem d_X6_init_51 : decode prog_8_method_1_code 51 = .ok (.newarray .int, 2) := by decide +kernel
theorem db00b_28 : Pf_ prog_8_method_1_code [(0, [0x2a]), (1, [0xb7, 0x00, 0x03]), (4, [0x2a]), (5, [0x10, 0x08]), (9, [0xb5, 0x00, 0x0b]), (12, [0x2a]), (13, [0x10, 0x08]), (17, [0xb5, 0x00, 0x0f]), (20, [0x2a]), (21, [0x10, 0x08]), (25, [0xb5, 0x00, 0x12]), (28, [0x2a]), (29, [0x08]), (32, [0xb5, 0x00, 0x15]), (35, [0x2a]), (36, [0x08]), (39, [0xb5, 0x00, 0x19]), (42, [0x2a]), (43, [0x08]), (46, [0xb5, 0x00, 0x1c]), (49, [0x2a]), (50, [0x07]), (53, [0xb5, 0x00, 0x1f]), (56, [0x2a])] := pf_ok prog_8_method_1_code _ 0 (by decide +kernel)
theorem d_X6_init_0 : decode prog_8_method_1_code 0 = .ok (.aload_n 0, 1) := gq_0 db00b_28 eb_0
theorem d_X6_init_1 : decode prog_8_method_1_code 1 = .ok (.invokespecial 3, 3) := gq_1 db00b_28 eb_1
theorem d_X6_init_4 : decode prog_8_method_1_code 4 = .ok (.aload_n 0, 1) := gq_2 db00b_28 eb_0
theorem d_X6_init_5 : decode prog_8_method_1_code 5 = .ok (.bipush 8, 2) := gq_3 db00b_28 eb_94
theorem d_X6_init_9 : decode prog_8_method_1_code 9 = .ok (.putfield 11, 3) := gq_4 db00b_28 eb_3
theorem d_X6_init_12 : decode prog_8_method_1_code 12 = .ok (.aload_n 0, 1) := gq_5 db00b_28 eb_0
theorem d_X6_init_13 : decode prog_8_method_1_code 13 = .ok (.bipush 8, 2) := gq_6 db00b_28 eb_94
theorem d_X6_init_17 : decode prog_8_method_1_code 17 = .ok (.putfield 15, 3) := gq_7 db00b_28 eb_5
theorem d_X6_init_20 : decode prog_8_method_1_code 20 = .ok (.aload_n 0, 1) := gq_8 db00b_28 eb_0
theorem d_X6_init_21 : decode prog_8_method_1_code 21 = .ok (.bipush 8, 2) := gq_9 db00b_28 eb_94
theorem d_X6_init_25 : decode prog_8_method_1_code 25 = .ok (.putfield 18, 3) := gq_10 db00b_28 eb_6
theorem d_X6_init_28 : decode prog_8_method_1_code 28 = .ok (.aload_n 0, 1) := gq_11 db00b_28 eb_0
theorem d_X6_init_29 : decode prog_8_method_1_code 29 = .ok (.iconst 5, 1) := gq_12 db00b_28 eb_122
theorem d_X6_init_32 : decode prog_8_method_1_code 32 = .ok (.putfield 21, 3) := gq_13 db00b_28 eb_47
theorem d_X6_init_35 : decode prog_8_method_1_code 35 = .ok (.aload_n 0, 1) := gq_14 db00b_28 eb_0
theorem d_X6_init_36 : decode prog_8_method_1_code 36 = .ok (.iconst 5, 1) := gq_15 db00b_28 eb_122
theorem d_X6_init_39 : decode prog_8_method_1_code 39 = .ok (.putfield 25, 3) := gq_16 db00b_28 eb_349
theorem d_X6_init_42 : decode prog_8_method_1_code 42 = .ok (.aload_n 0, 1) := gq_17 db00b_28 eb_0
theorem d_X6_init_43 : decode prog_8_method_1_code 43 = .ok (.iconst 5, 1) := gq_18 db00b_28 eb_122
theorem d_X6_init_46 : decode prog_8_method_1_code 46 = .ok (.putfield 28, 3) := gq_19 db00b_28 eb_350
theorem d_X6_init_49 : decode prog_8_method_1_code 49 = .ok (.aload_n 0, 1) := gq_20 db00b_28 eb_0
theorem d_X6_init_50 : decode prog_8_method_1_code 50 = .ok (.iconst 4, 1) := gq_21 db00b_28 eb_291
theorem d_X6_init_53 : decode prog_8_method_1_code 53 = .ok (.putfield 31, 3) := gq_22 db00b_28 eb_351
theorem d_X6_init_56 : decode prog_8_method_1_code 56 = .ok (.aload_n 0, 1) := gq_23 db00b_28 eb_0
theorem d_X6_init_58 : decode prog_8_method_1_code 58 = .ok (.newarray .int, 2) := by decide +kernel
theorem d_X6_init_65 : decode prog_8_method_1_code 65 = .ok (.newarray .int, 2) := by decide +kernel
theorem d_X6_init_73 : decode prog_8_method_1_code 73 = .ok (.newarray .int, 2) := by decide +kernel
theorem d_X6_init_82 : decode prog_8_method_1_code 82 = .ok (.newarray .int, 2) := by decide +kernel
theorem d_X6_init_90 : decode prog_8_method_1_code 90 = .ok (.newarray .int, 2) := by decide +kernel
theorem db00b_29 : Pf_ prog_8_method_1_code [(57, [0x07]), (60, [0xb5, 0x00, 0x22]), (63, [0x2a]), (64, [0x07]), (67, [0xb5, 0x00, 0x25]), (70, [0x2a]), (71, [0x10, 0x30]), (75, [0xb5, 0x00, 0x28]), (78, [0x2a]), (79, [0x11, 0x0d, 0x00]), (84, [0xb5, 0x00, 0x2b]), (87, [0x2a]), (88, [0x10, 0x0c]), (92, [0xb5, 0x00, 0x2e]), (95, [0xb1])] := pf_ok prog_8_method_1_code _ 57 (by decide +kernel)
theorem d_X6_init_57 : decode prog_8_method_1_code 57 = .ok (.iconst 4, 1) := gq_0 db00b_29 eb_291
theorem d_X6_init_60 : decode prog_8_method_1_code 60 = .ok (.putfield 34, 3) := gq_1 db00b_29 eb_265
theorem d_X6_init_63 : decode prog_8_method_1_code 63 = .ok (.aload_n 0, 1) := gq_2 db00b_29 eb_0
theorem d_X6_init_64 : decode prog_8_method_1_code 64 = .ok (.iconst 4, 1) := gq_3 db00b_29 eb_291
theorem d_X6_init_67 : decode prog_8_method_1_code 67 = .ok (.putfield 37, 3) := gq_4 db00b_29 eb_266
theorem d_X6_init_70 : decode prog_8_method_1_code 70 = .ok (.aload_n 0, 1) := gq_5 db00b_29 eb_0
theorem d_X6_init_71 : decode prog_8_method_1_code 71 = .ok (.bipush 48, 2) := gq_6 db00b_29 eb_317
theorem d_X6_init_75 : decode prog_8_method_1_code 75 = .ok (.putfield 40, 3) := gq_7 db00b_29 eb_267
theorem d_X6_init_78 : decode prog_8_method_1_code 78 = .ok (.aload_n 0, 1) := gq_8 db00b_29 eb_0
theorem d_X6_init_79 : decode prog_8_method_1_code 79 = .ok (.sipush 3328, 3) := gq_9 db00b_29 eb_352
theorem d_X6_init_84 : decode prog_8_method_1_code 84 = .ok (.putfield 43, 3) := gq_10 db00b_29 eb_268
theorem d_X6_init_87 : decode prog_8_method_1_code 87 = .ok (.aload_n 0, 1) := gq_11 db00b_29 eb_0
theorem d_X6_init_88 : decode prog_8_method_1_code 88 = .ok (.bipush 12, 2) := gq_12 db00b_29 eb_4
theorem d_X6_init_92 : decode prog_8_method_1_code 92 = .ok (.putfield 46, 3) := gq_13 db00b_29 eb_269
theorem d_X6_init_95 : decode prog_8_method_1_code 95 = .ok (.return_, 1) := gq_14 db00b_29 eb_7
theorem db00b_30 : Pf_ prog_8_method_2_code [(0, [0x2a]), (1, [0xb4, 0x00, 0x31]), (4, [0x10, 0x08]), (6, [0xa1, 0x00, 0x05]), (9, [0x02]), (10, [0xac]), (11, [0x2a]), (12, [0xb4, 0x00, 0x0b]), (15, [0x2a]), (16, [0xb4, 0x00, 0x31]), (19, [0x1b]), (20, [0x4f]), (21, [0x2a]), (22, [0xb4, 0x00, 0x0f]), (25, [0x2a]), (26, [0xb4, 0x00, 0x31]), (29, [0x1c]), (30, [0x4f]), (31, [0x2a]), (32, [0xb4, 0x00, 0x12]), (35, [0x2a]), (36, [0xb4, 0x00, 0x31]), (39, [0x1d]), (40, [0x4f])] := pf_ok prog_8_method_2_code _ 0 (by decide +kernel)
theorem d_X6_addWatch_0 : decode prog_8_method_2_code 0 = .ok (.aload_n 0, 1) := gq_0 db00b_30 eb_0
theorem d_X6_addWatch_1 : decode prog_8_method_2_code 1 = .ok (.getfield 49, 3) := gq_1 db00b_30 eb_285
theorem d_X6_addWatch_4 : decode prog_8_method_2_code 4 = .ok (.bipush 8, 2) := gq_2 db00b_30 eb_94
theorem d_X6_addWatch_6 : decode prog_8_method_2_code 6 = .ok (.if_icmp .lt 5, 3) := gq_3 db00b_30 eb_114
theorem d_X6_addWatch_9 : decode prog_8_method_2_code 9 = .ok (.iconst (-1), 1) := gq_4 db00b_30 eb_26
theorem d_X6_addWatch_10 : decode prog_8_method_2_code 10 = .ok (.ireturn, 1) := gq_5 db00b_30 eb_15
theorem d_X6_addWatch_11 : decode prog_8_method_2_code 11 = .ok (.aload_n 0, 1) := gq_6 db00b_30 eb_0
theorem d_X6_addWatch_12 : decode prog_8_method_2_code 12 = .ok (.getfield 11, 3) := gq_7 db00b_30 eb_32
theorem d_X6_addWatch_15 : decode prog_8_method_2_code 15 = .ok (.aload_n 0, 1) := gq_8 db00b_30 eb_0
theorem d_X6_addWatch_16 : decode prog_8_method_2_code 16 = .ok (.getfield 49, 3) := gq_9 db00b_30 eb_285
theorem d_X6_addWatch_19 : decode prog_8_method_2_code 19 = .ok (.iload_n 1, 1) := gq_10 db00b_30 eb_9
theorem d_X6_addWatch_20 : decode prog_8_method_2_code 20 = .ok (.iastore, 1) := gq_11 db00b_30 eb_38
theorem d_X6_addWatch_21 : decode prog_8_method_2_code 21 = .ok (.aload_n 0, 1) := gq_12 db00b_30 eb_0
theorem d_X6_addWatch_22 : decode prog_8_method_2_code 22 = .ok (.getfield 15, 3) := gq_13 db00b_30 eb_44
theorem d_X6_addWatch_25 : decode prog_8_method_2_code 25 = .ok (.aload_n 0, 1) := gq_14 db00b_30 eb_0
theorem d_X6_addWatch_26 : decode prog_8_method_2_code 26 = .ok (.getfield 49, 3) := gq_15 db00b_30 eb_285
theorem d_X6_addWatch_29 : decode prog_8_method_2_code 29 = .ok (.iload_n 2, 1) := gq_16 db00b_30 eb_13
theorem d_X6_addWatch_30 : decode prog_8_method_2_code 30 = .ok (.iastore, 1) := gq_17 db00b_30 eb_38
theorem d_X6_addWatch_31 : decode prog_8_method_2_code 31 = .ok (.aload_n 0, 1) := gq_18 db00b_30 eb_0
theorem d_X6_addWatch_32 : decode prog_8_method_2_code 32 = .ok (.getfield 18, 3) := gq_19 db00b_30 eb_45
theorem d_X6_addWatch_35 : decode prog_8_method_2_code 35 = .ok (.aload_n 0, 1) := gq_20 db00b_30 eb_0
theorem d_X6_addWatch_36 : decode prog_8_method_2_code 36 = .ok (.getfield 49, 3) := gq_21 db00b_30 eb_285
theorem d_X6_addWatch_39 : decode prog_8_method_2_code 39 = .ok (.iload_n 3, 1) := gq_22 db00b_30 eb_29
theorem d_X6_addWatch_40 : decode prog_8_method_2_code 40 = .ok (.iastore, 1) := gq_23 db00b_30 eb_38
theorem db00b_31 : Pf_ prog_8_method_2_code [(41, [0x2a]), (42, [0x59]), (43, [0xb4, 0x00, 0x31]), (46, [0x04]), (47, [0x60]), (48, [0xb5, 0x00, 0x31]), (51, [0x2a]), (52, [0xb4, 0x00, 0x31]), (55, [0x04]), (56, [0x64]), (57, [0xac])] := pf_ok prog_8_method_2_code _ 41 (by decide +kernel)
theorem d_X6_addWatch_41 : decode prog_8_method_2_code 41 = .ok (.aload_n 0, 1) := gq_0 db00b_31 eb_0
theorem d_X6_addWatch_42 : decode prog_8_method_2_code 42 = .ok (.dup, 1) := gq_1 db00b_31 eb_46
theorem d_X6_addWatch_43 : decode prog_8_method_2_code 43 = .ok (.getfield 49, 3) := gq_2 db00b_31 eb_285
theorem d_X6_addWatch_46 : decode prog_8_method_2_code 46 = .ok (.iconst 1, 1) := gq_3 db00b_31 eb_19
theorem d_X6_addWatch_47 : decode prog_8_method_2_code 47 = .ok (.iadd, 1) := gq_4 db00b_31 eb_35
theorem d_X6_addWatch_48 : decode prog_8_method_2_code 48 = .ok (.putfield 49, 3) := gq_5 db00b_31 eb_270
theorem d_X6_addWatch_51 : decode prog_8_method_2_code 51 = .ok (.aload_n 0, 1) := gq_6 db00b_31 eb_0
theorem d_X6_addWatch_52 : decode prog_8_method_2_code 52 = .ok (.getfield 49, 3) := gq_7 db00b_31 eb_285
theorem d_X6_addWatch_55 : decode prog_8_method_2_code 55 = .ok (.iconst 1, 1) := gq_8 db00b_31 eb_19
theorem d_X6_addWatch_56 : decode prog_8_method_2_code 56 = .ok (.isub, 1) := gq_9 db00b_31 eb_48
theorem d_X6_addWatch_57 : decode prog_8_method_2_code 57 = .ok (.ireturn, 1) := gq_10 db00b_31 eb_15
theorem db00b_32 : Pf_ prog_8_method_3_code [(0, [0x1b]), (1, [0x9b, 0x00, 0x0f]), (4, [0x1b]), (5, [0x2a]), (6, [0xb4, 0x00, 0x31]), (9, [0xa2, 0x00, 0x07]), (12, [0x04]), (13, [0xa7, 0x00, 0x04]), (16, [0x03]), (17, [0xac])] := pf_ok prog_8_method_3_code _ 0 (by decide +kernel)
theorem d_X6_hasWatch_0 : decode prog_8_method_3_code 0 = .ok (.iload_n 1, 1) := gq_0 db00b_32 eb_9
theorem d_X6_hasWatch_1 : decode prog_8_method_3_code 1 = .ok (.ifCond .lt 15, 3) := gq_1 db00b_32 eb_16
theorem d_X6_hasWatch_4 : decode prog_8_method_3_code 4 = .ok (.iload_n 1, 1) := gq_2 db00b_32 eb_9
theorem d_X6_hasWatch_5 : decode prog_8_method_3_code 5 = .ok (.aload_n 0, 1) := gq_3 db00b_32 eb_0
theorem d_X6_hasWatch_6 : decode prog_8_method_3_code 6 = .ok (.getfield 49, 3) := gq_4 db00b_32 eb_285
theorem d_X6_hasWatch_9 : decode prog_8_method_3_code 9 = .ok (.if_icmp .ge 7, 3) := gq_5 db00b_32 eb_18
theorem d_X6_hasWatch_12 : decode prog_8_method_3_code 12 = .ok (.iconst 1, 1) := gq_6 db00b_32 eb_19
theorem d_X6_hasWatch_13 : decode prog_8_method_3_code 13 = .ok (.goto 4, 3) := gq_7 db00b_32 eb_20
theorem d_X6_hasWatch_16 : decode prog_8_method_3_code 16 = .ok (.iconst 0, 1) := gq_8 db00b_32 eb_21
theorem d_X6_hasWatch_17 : decode prog_8_method_3_code 17 = .ok (.ireturn, 1) := gq_9 db00b_32 eb_15
theorem db00b_33 : Pf_ prog_8_method_4_code [(0, [0x2a]), (1, [0x1b]), (2, [0xb6, 0x00, 0x35]), (5, [0x99, 0x00, 0x23]), (8, [0x2d]), (9, [0x1c]), (10, [0x2a]), (11, [0xb4, 0x00, 0x0b]), (14, [0x1b]), (15, [0x2e]), (16, [0x2a]), (17, [0xb4, 0x00, 0x0f]), (20, [0x1b]), (21, [0x2e]), (22, [0x2a]), (23, [0xb4, 0x00, 0x12]), (26, [0x1b]), (27, [0x2e]), (28, [0x19, 0x04]), (30, [0xb6, 0x00, 0x39]), (33, [0x99, 0x00, 0x07]), (36, [0x04]), (37, [0xa7, 0x00, 0x04]), (40, [0x03])] := pf_ok prog_8_method_4_code _ 0 (by decide +kernel)
theorem d_X6_isSeen_0 : decode prog_8_method_4_code 0 = .ok (.aload_n 0, 1) := gq_0 db00b_33 eb_0
theorem d_X6_isSeen_1 : decode prog_8_method_4_code 1 = .ok (.iload_n 1, 1) := gq_1 db00b_33 eb_9
theorem d_X6_isSeen_2 : decode prog_8_method_4_code 2 = .ok (.invokevirtual 53, 3) := gq_2 db00b_33 eb_353
theorem d_X6_isSeen_5 : decode prog_8_method_4_code 5 = .ok (.ifCond .eq 35, 3) := gq_3 db00b_33 eb_354
theorem d_X6_isSeen_8 : decode prog_8_method_4_code 8 = .ok (.aload_n 3, 1) := gq_4 db00b_33 eb_312
theorem d_X6_isSeen_9 : decode prog_8_method_4_code 9 = .ok (.iload_n 2, 1) := gq_5 db00b_33 eb_13
theorem d_X6_isSeen_10 : decode prog_8_method_4_code 10 = .ok (.aload_n 0, 1) := gq_6 db00b_33 eb_0
theorem d_X6_isSeen_11 : decode prog_8_method_4_code 11 = .ok (.getfield 11, 3) := gq_7 db00b_33 eb_32
theorem d_X6_isSeen_14 : decode prog_8_method_4_code 14 = .ok (.iload_n 1, 1) := gq_8 db00b_33 eb_9
theorem d_X6_isSeen_15 : decode prog_8_method_4_code 15 = .ok (.iaload, 1) := gq_9 db00b_33 eb_37
theorem d_X6_isSeen_16 : decode prog_8_method_4_code 16 = .ok (.aload_n 0, 1) := gq_10 db00b_33 eb_0
theorem d_X6_isSeen_17 : decode prog_8_method_4_code 17 = .ok (.getfield 15, 3) := gq_11 db00b_33 eb_44
theorem d_X6_isSeen_20 : decode prog_8_method_4_code 20 = .ok (.iload_n 1, 1) := gq_12 db00b_33 eb_9
theorem d_X6_isSeen_21 : decode prog_8_method_4_code 21 = .ok (.iaload, 1) := gq_13 db00b_33 eb_37
theorem d_X6_isSeen_22 : decode prog_8_method_4_code 22 = .ok (.aload_n 0, 1) := gq_14 db00b_33 eb_0
theorem d_X6_isSeen_23 : decode prog_8_method_4_code 23 = .ok (.getfield 18, 3) := gq_15 db00b_33 eb_45
theorem d_X6_isSeen_26 : decode prog_8_method_4_code 26 = .ok (.iload_n 1, 1) := gq_16 db00b_33 eb_9
theorem d_X6_isSeen_27 : decode prog_8_method_4_code 27 = .ok (.iaload, 1) := gq_17 db00b_33 eb_37
theorem d_X6_isSeen_28 : decode prog_8_method_4_code 28 = .ok (.aload 4, 2) := gq_18 db00b_33 eb_355
theorem d_X6_isSeen_30 : decode prog_8_method_4_code 30 = .ok (.invokevirtual 57, 3) := gq_19 db00b_33 eb_356
theorem d_X6_isSeen_33 : decode prog_8_method_4_code 33 = .ok (.ifCond .eq 7, 3) := gq_20 db00b_33 eb_123
theorem d_X6_isSeen_36 : decode prog_8_method_4_code 36 = .ok (.iconst 1, 1) := gq_21 db00b_33 eb_19
theorem d_X6_isSeen_37 : decode prog_8_method_4_code 37 = .ok (.goto 4, 3) := gq_22 db00b_33 eb_20
theorem d_X6_isSeen_40 : decode prog_8_method_4_code 40 = .ok (.iconst 0, 1) := gq_23 db00b_33 eb_21
theorem db00b_34 : Pf_ prog_8_method_4_code [(41, [0xac])] := pf_ok prog_8_method_4_code _ 41 (by decide +kernel)
theorem d_X6_isSeen_41 : decode prog_8_method_4_code 41 = .ok (.ireturn, 1) := gq_0 db00b_34 eb_15
theorem db00b_35 : Pf_ prog_8_method_5_code [(0, [0x2a]), (1, [0x1b]), (2, [0x2c]), (3, [0x2d]), (4, [0xb6, 0x00, 0x3f]), (7, [0x2a]), (8, [0xb4, 0x00, 0x43]), (11, [0xac])] := pf_ok prog_8_method_5_code _ 0 (by decide +kernel)
theorem d_X6_safety_0 : decode prog_8_method_5_code 0 = .ok (.aload_n 0, 1) := gq_0 db00b_35 eb_0
theorem d_X6_safety_1 : decode prog_8_method_5_code 1 = .ok (.iload_n 1, 1) := gq_1 db00b_35 eb_9
theorem d_X6_safety_2 : decode prog_8_method_5_code 2 = .ok (.aload_n 2, 1) := gq_2 db00b_35 eb_301
theorem d_X6_safety_3 : decode prog_8_method_5_code 3 = .ok (.aload_n 3, 1) := gq_3 db00b_35 eb_312
theorem d_X6_safety_4 : decode prog_8_method_5_code 4 = .ok (.invokevirtual 63, 3) := gq_4 db00b_35 eb_357
theorem d_X6_safety_7 : decode prog_8_method_5_code 7 = .ok (.aload_n 0, 1) := gq_5 db00b_35 eb_0
theorem d_X6_safety_8 : decode prog_8_method_5_code 8 = .ok (.getfield 67, 3) := gq_6 db00b_35 eb_358
theorem d_X6_safety_11 : decode prog_8_method_5_code 11 = .ok (.ireturn, 1) := gq_7 db00b_35 eb_15
theorem db00b_36 : Pf_ prog_8_method_6_code [(0, [0x2a]), (1, [0x1b]), (2, [0x2d]), (3, [0x19, 0x04]), (5, [0xb6, 0x00, 0x3f]), (8, [0x1b]), (9, [0x04]), (10, [0x1c]), (11, [0x78]), (12, [0x04]), (13, [0x64]), (14, [0x7e]), (15, [0xb8, 0x00, 0x46]), (18, [0x36, 0x05]), (20, [0x15, 0x05]), (22, [0x03]), (23, [0x2a]), (24, [0xb4, 0x00, 0x4c]), (27, [0x04]), (28, [0x64]), (29, [0xb8, 0x00, 0x4f]), (32, [0x99, 0x00, 0x0d]), (35, [0x2a]), (36, [0xb4, 0x00, 0x1c])] := pf_ok prog_8_method_6_code _ 0 (by decide +kernel)
theorem d_X6_sharesOf_0 : decode prog_8_method_6_code 0 = .ok (.aload_n 0, 1) := gq_0 db00b_36 eb_0
theorem d_X6_sharesOf_1 : decode prog_8_method_6_code 1 = .ok (.iload_n 1, 1) := gq_1 db00b_36 eb_9
theorem d_X6_sharesOf_2 : decode prog_8_method_6_code 2 = .ok (.aload_n 3, 1) := gq_2 db00b_36 eb_312
theorem d_X6_sharesOf_3 : decode prog_8_method_6_code 3 = .ok (.aload 4, 2) := gq_3 db00b_36 eb_355
theorem d_X6_sharesOf_5 : decode prog_8_method_6_code 5 = .ok (.invokevirtual 63, 3) := gq_4 db00b_36 eb_357
theorem d_X6_sharesOf_8 : decode prog_8_method_6_code 8 = .ok (.iload_n 1, 1) := gq_5 db00b_36 eb_9
theorem d_X6_sharesOf_9 : decode prog_8_method_6_code 9 = .ok (.iconst 1, 1) := gq_6 db00b_36 eb_19
theorem d_X6_sharesOf_10 : decode prog_8_method_6_code 10 = .ok (.iload_n 2, 1) := gq_7 db00b_36 eb_13
theorem d_X6_sharesOf_11 : decode prog_8_method_6_code 11 = .ok (.ishl, 1) := gq_8 db00b_36 eb_11
theorem d_X6_sharesOf_12 : decode prog_8_method_6_code 12 = .ok (.iconst 1, 1) := gq_9 db00b_36 eb_19
theorem d_X6_sharesOf_13 : decode prog_8_method_6_code 13 = .ok (.isub, 1) := gq_10 db00b_36 eb_48
theorem d_X6_sharesOf_14 : decode prog_8_method_6_code 14 = .ok (.iand, 1) := gq_11 db00b_36 eb_55
theorem d_X6_sharesOf_15 : decode prog_8_method_6_code 15 = .ok (.invokestatic 70, 3) := gq_12 db00b_36 eb_359
theorem d_X6_sharesOf_18 : decode prog_8_method_6_code 18 = .ok (.istore 5, 2) := gq_13 db00b_36 eb_134
theorem d_X6_sharesOf_20 : decode prog_8_method_6_code 20 = .ok (.iload 5, 2) := gq_14 db00b_36 eb_125
theorem d_X6_sharesOf_22 : decode prog_8_method_6_code 22 = .ok (.iconst 0, 1) := gq_15 db00b_36 eb_21
theorem d_X6_sharesOf_23 : decode prog_8_method_6_code 23 = .ok (.aload_n 0, 1) := gq_16 db00b_36 eb_0
theorem d_X6_sharesOf_24 : decode prog_8_method_6_code 24 = .ok (.getfield 76, 3) := gq_17 db00b_36 eb_360
theorem d_X6_sharesOf_27 : decode prog_8_method_6_code 27 = .ok (.iconst 1, 1) := gq_18 db00b_36 eb_19
theorem d_X6_sharesOf_28 : decode prog_8_method_6_code 28 = .ok (.isub, 1) := gq_19 db00b_36 eb_48
theorem d_X6_sharesOf_29 : decode prog_8_method_6_code 29 = .ok (.invokestatic 79, 3) := gq_20 db00b_36 eb_151
theorem d_X6_sharesOf_32 : decode prog_8_method_6_code 32 = .ok (.ifCond .eq 13, 3) := gq_21 db00b_36 eb_119
theorem d_X6_sharesOf_35 : decode prog_8_method_6_code 35 = .ok (.aload_n 0, 1) := gq_22 db00b_36 eb_0
theorem d_X6_sharesOf_36 : decode prog_8_method_6_code 36 = .ok (.getfield 28, 3) := gq_23 db00b_36 eb_361
theorem db00b_37 : Pf_ prog_8_method_6_code [(39, [0x15, 0x05]), (41, [0x2e]), (42, [0xa7, 0x00, 0x04]), (45, [0x02]), (46, [0xac])] := pf_ok prog_8_method_6_code _ 39 (by decide +kernel)
theorem d_X6_sharesOf_39 : decode prog_8_method_6_code 39 = .ok (.iload 5, 2) := gq_0 db00b_37 eb_125
theorem d_X6_sharesOf_41 : decode prog_8_method_6_code 41 = .ok (.iaload, 1) := gq_1 db00b_37 eb_37
theorem d_X6_sharesOf_42 : decode prog_8_method_6_code 42 = .ok (.goto 4, 3) := gq_2 db00b_37 eb_20
theorem d_X6_sharesOf_45 : decode prog_8_method_6_code 45 = .ok (.iconst (-1), 1) := gq_3 db00b_37 eb_26
theorem d_X6_sharesOf_46 : decode prog_8_method_6_code 46 = .ok (.ireturn, 1) := gq_4 db00b_37 eb_15
theorem db00b_38 : Pf_ prog_8_method_7_code [(0, [0x1b]), (1, [0x2a]), (2, [0xb4, 0x00, 0x53]), (5, [0xa0, 0x00, 0x1a]), (8, [0x2d]), (9, [0xb4, 0x00, 0x56]), (12, [0x2a]), (13, [0xb4, 0x00, 0x5b]), (16, [0xa0, 0x00, 0x0f]), (19, [0x2a]), (20, [0xb4, 0x00, 0x31]), (23, [0x2a]), (24, [0xb4, 0x00, 0x5e]), (27, [0xa0, 0x00, 0x04]), (30, [0xb1]), (31, [0x2a]), (32, [0x1b]), (33, [0xb5, 0x00, 0x53]), (36, [0x2a]), (37, [0x2d]), (38, [0xb4, 0x00, 0x56]), (41, [0xb5, 0x00, 0x5b]), (44, [0x2a]), (45, [0x2a])] := pf_ok prog_8_method_7_code _ 0 (by decide +kernel)
theorem d_X6_findShares_0 : decode prog_8_method_7_code 0 = .ok (.iload_n 1, 1) := gq_0 db00b_38 eb_9
theorem d_X6_findShares_1 : decode prog_8_method_7_code 1 = .ok (.aload_n 0, 1) := gq_1 db00b_38 eb_0
theorem d_X6_findShares_2 : decode prog_8_method_7_code 2 = .ok (.getfield 83, 3) := gq_2 db00b_38 eb_362
theorem d_X6_findShares_5 : decode prog_8_method_7_code 5 = .ok (.if_icmp .ne 26, 3) := gq_3 db00b_38 eb_279
theorem d_X6_findShares_8 : decode prog_8_method_7_code 8 = .ok (.aload_n 3, 1) := gq_4 db00b_38 eb_312
theorem d_X6_findShares_9 : decode prog_8_method_7_code 9 = .ok (.getfield 86, 3) := gq_5 db00b_38 eb_341
theorem d_X6_findShares_12 : decode prog_8_method_7_code 12 = .ok (.aload_n 0, 1) := gq_6 db00b_38 eb_0
theorem d_X6_findShares_13 : decode prog_8_method_7_code 13 = .ok (.getfield 91, 3) := gq_7 db00b_38 eb_363
theorem d_X6_findShares_16 : decode prog_8_method_7_code 16 = .ok (.if_icmp .ne 15, 3) := gq_8 db00b_38 eb_364
theorem d_X6_findShares_19 : decode prog_8_method_7_code 19 = .ok (.aload_n 0, 1) := gq_9 db00b_38 eb_0
theorem d_X6_findShares_20 : decode prog_8_method_7_code 20 = .ok (.getfield 49, 3) := gq_10 db00b_38 eb_285
theorem d_X6_findShares_23 : decode prog_8_method_7_code 23 = .ok (.aload_n 0, 1) := gq_11 db00b_38 eb_0
theorem d_X6_findShares_24 : decode prog_8_method_7_code 24 = .ok (.getfield 94, 3) := gq_12 db00b_38 eb_365
theorem d_X6_findShares_27 : decode prog_8_method_7_code 27 = .ok (.if_icmp .ne 4, 3) := gq_13 db00b_38 eb_366
theorem d_X6_findShares_30 : decode prog_8_method_7_code 30 = .ok (.return_, 1) := gq_14 db00b_38 eb_7
theorem d_X6_findShares_31 : decode prog_8_method_7_code 31 = .ok (.aload_n 0, 1) := gq_15 db00b_38 eb_0
theorem d_X6_findShares_32 : decode prog_8_method_7_code 32 = .ok (.iload_n 1, 1) := gq_16 db00b_38 eb_9
theorem d_X6_findShares_33 : decode prog_8_method_7_code 33 = .ok (.putfield 83, 3) := gq_17 db00b_38 eb_367
theorem d_X6_findShares_36 : decode prog_8_method_7_code 36 = .ok (.aload_n 0, 1) := gq_18 db00b_38 eb_0
theorem d_X6_findShares_37 : decode prog_8_method_7_code 37 = .ok (.aload_n 3, 1) := gq_19 db00b_38 eb_312
theorem d_X6_findShares_38 : decode prog_8_method_7_code 38 = .ok (.getfield 86, 3) := gq_20 db00b_38 eb_341
theorem d_X6_findShares_41 : decode prog_8_method_7_code 41 = .ok (.putfield 91, 3) := gq_21 db00b_38 eb_368
theorem d_X6_findShares_44 : decode prog_8_method_7_code 44 = .ok (.aload_n 0, 1) := gq_22 db00b_38 eb_0
theorem d_X6_findShares_45 : decode prog_8_method_7_code 45 = .ok (.aload_n 0, 1) := gq_23 db00b_38 eb_0
theorem db00b_39 : Pf_ prog_8_method_7_code [(46, [0xb4, 0x00, 0x31]), (49, [0xb5, 0x00, 0x5e]), (52, [0x2a]), (53, [0x03]), (54, [0xb5, 0x00, 0x4c]), (57, [0x03]), (58, [0x36, 0x04]), (60, [0x15, 0x04]), (62, [0x2c]), (63, [0xb4, 0x00, 0x61]), (66, [0xa2, 0x00, 0x36]), (69, [0x1b]), (70, [0x15, 0x04]), (72, [0x7a]), (73, [0x04]), (74, [0x7e]), (75, [0x04]), (76, [0xa0, 0x00, 0x26]), (79, [0x2a]), (80, [0xb4, 0x00, 0x4c]), (83, [0x08]), (84, [0xa2, 0x00, 0x1e]), (87, [0x2a]), (88, [0xb4, 0x00, 0x15])] := pf_ok prog_8_method_7_code _ 46 (by decide +kernel)
theorem d_X6_findShares_46 : decode prog_8_method_7_code 46 = .ok (.getfield 49, 3) := gq_0 db00b_39 eb_285
theorem d_X6_findShares_49 : decode prog_8_method_7_code 49 = .ok (.putfield 94, 3) := gq_1 db00b_39 eb_369
theorem d_X6_findShares_52 : decode prog_8_method_7_code 52 = .ok (.aload_n 0, 1) := gq_2 db00b_39 eb_0
theorem d_X6_findShares_53 : decode prog_8_method_7_code 53 = .ok (.iconst 0, 1) := gq_3 db00b_39 eb_21
theorem d_X6_findShares_54 : decode prog_8_method_7_code 54 = .ok (.putfield 76, 3) := gq_4 db00b_39 eb_370
theorem d_X6_findShares_57 : decode prog_8_method_7_code 57 = .ok (.iconst 0, 1) := gq_5 db00b_39 eb_21
theorem d_X6_findShares_58 : decode prog_8_method_7_code 58 = .ok (.istore 4, 2) := gq_6 db00b_39 eb_133
theorem d_X6_findShares_60 : decode prog_8_method_7_code 60 = .ok (.iload 4, 2) := gq_7 db00b_39 eb_76
theorem d_X6_findShares_62 : decode prog_8_method_7_code 62 = .ok (.aload_n 2, 1) := gq_8 db00b_39 eb_301
theorem d_X6_findShares_63 : decode prog_8_method_7_code 63 = .ok (.getfield 97, 3) := gq_9 db00b_39 eb_371
theorem d_X6_findShares_66 : decode prog_8_method_7_code 66 = .ok (.if_icmp .ge 54, 3) := gq_10 db00b_39 eb_372
theorem d_X6_findShares_69 : decode prog_8_method_7_code 69 = .ok (.iload_n 1, 1) := gq_11 db00b_39 eb_9
theorem d_X6_findShares_70 : decode prog_8_method_7_code 70 = .ok (.iload 4, 2) := gq_12 db00b_39 eb_76
theorem d_X6_findShares_72 : decode prog_8_method_7_code 72 = .ok (.ishr, 1) := gq_13 db00b_39 eb_56
theorem d_X6_findShares_73 : decode prog_8_method_7_code 73 = .ok (.iconst 1, 1) := gq_14 db00b_39 eb_19
theorem d_X6_findShares_74 : decode prog_8_method_7_code 74 = .ok (.iand, 1) := gq_15 db00b_39 eb_55
theorem d_X6_findShares_75 : decode prog_8_method_7_code 75 = .ok (.iconst 1, 1) := gq_16 db00b_39 eb_19
theorem d_X6_findShares_76 : decode prog_8_method_7_code 76 = .ok (.if_icmp .ne 38, 3) := gq_17 db00b_39 eb_373
theorem d_X6_findShares_79 : decode prog_8_method_7_code 79 = .ok (.aload_n 0, 1) := gq_18 db00b_39 eb_0
theorem d_X6_findShares_80 : decode prog_8_method_7_code 80 = .ok (.getfield 76, 3) := gq_19 db00b_39 eb_360
theorem d_X6_findShares_83 : decode prog_8_method_7_code 83 = .ok (.iconst 5, 1) := gq_20 db00b_39 eb_122
theorem d_X6_findShares_84 : decode prog_8_method_7_code 84 = .ok (.if_icmp .ge 30, 3) := gq_21 db00b_39 eb_247
theorem d_X6_findShares_87 : decode prog_8_method_7_code 87 = .ok (.aload_n 0, 1) := gq_22 db00b_39 eb_0
theorem d_X6_findShares_88 : decode prog_8_method_7_code 88 = .ok (.getfield 21, 3) := gq_23 db00b_39 eb_17
theorem d_X6_findShares_103 : decode prog_8_method_7_code 103 = .ok (.lastore, 1) := by decide +kernel
theorem d_X6_findShares_134 : decode prog_8_method_7_code 134 = .ok (.lconst 0, 1) := by decide +kernel
theorem db00b_40 : Pf_ prog_8_method_7_code [(91, [0x2a]), (92, [0xb4, 0x00, 0x4c]), (95, [0x2a]), (96, [0x15, 0x04]), (98, [0x2c]), (99, [0x2d]), (100, [0xb6, 0x00, 0x64]), (104, [0x2a]), (105, [0x59]), (106, [0xb4, 0x00, 0x4c]), (109, [0x04]), (110, [0x60]), (111, [0xb5, 0x00, 0x4c]), (114, [0x84, 0x04, 0x01]), (117, [0xa7, 0xff, 0xc7]), (120, [0x2a]), (121, [0x02]), (122, [0xb5, 0x00, 0x43]), (125, [0x2a]), (126, [0x02]), (127, [0xb5, 0x00, 0x68]), (130, [0x2a]), (131, [0x03]), (132, [0x10, 0x0c])] := pf_ok prog_8_method_7_code _ 91 (by decide +kernel)
theorem d_X6_findShares_91 : decode prog_8_method_7_code 91 = .ok (.aload_n 0, 1) := gq_0 db00b_40 eb_0
theorem d_X6_findShares_92 : decode prog_8_method_7_code 92 = .ok (.getfield 76, 3) := gq_1 db00b_40 eb_360
theorem d_X6_findShares_95 : decode prog_8_method_7_code 95 = .ok (.aload_n 0, 1) := gq_2 db00b_40 eb_0
theorem d_X6_findShares_96 : decode prog_8_method_7_code 96 = .ok (.iload 4, 2) := gq_3 db00b_40 eb_76
theorem d_X6_findShares_98 : decode prog_8_method_7_code 98 = .ok (.aload_n 2, 1) := gq_4 db00b_40 eb_301
theorem d_X6_findShares_99 : decode prog_8_method_7_code 99 = .ok (.aload_n 3, 1) := gq_5 db00b_40 eb_312
theorem d_X6_findShares_100 : decode prog_8_method_7_code 100 = .ok (.invokevirtual 100, 3) := gq_6 db00b_40 eb_166
theorem d_X6_findShares_104 : decode prog_8_method_7_code 104 = .ok (.aload_n 0, 1) := gq_7 db00b_40 eb_0
theorem d_X6_findShares_105 : decode prog_8_method_7_code 105 = .ok (.dup, 1) := gq_8 db00b_40 eb_46
theorem d_X6_findShares_106 : decode prog_8_method_7_code 106 = .ok (.getfield 76, 3) := gq_9 db00b_40 eb_360
theorem d_X6_findShares_109 : decode prog_8_method_7_code 109 = .ok (.iconst 1, 1) := gq_10 db00b_40 eb_19
theorem d_X6_findShares_110 : decode prog_8_method_7_code 110 = .ok (.iadd, 1) := gq_11 db00b_40 eb_35
theorem d_X6_findShares_111 : decode prog_8_method_7_code 111 = .ok (.putfield 76, 3) := gq_12 db00b_40 eb_370
theorem d_X6_findShares_114 : decode prog_8_method_7_code 114 = .ok (.iinc 4 1, 3) := gq_13 db00b_40 eb_144
theorem d_X6_findShares_117 : decode prog_8_method_7_code 117 = .ok (.goto (-57), 3) := gq_14 db00b_40 eb_374
theorem d_X6_findShares_120 : decode prog_8_method_7_code 120 = .ok (.aload_n 0, 1) := gq_15 db00b_40 eb_0
theorem d_X6_findShares_121 : decode prog_8_method_7_code 121 = .ok (.iconst (-1), 1) := gq_16 db00b_40 eb_26
theorem d_X6_findShares_122 : decode prog_8_method_7_code 122 = .ok (.putfield 67, 3) := gq_17 db00b_40 eb_375
theorem d_X6_findShares_125 : decode prog_8_method_7_code 125 = .ok (.aload_n 0, 1) := gq_18 db00b_40 eb_0
theorem d_X6_findShares_126 : decode prog_8_method_7_code 126 = .ok (.iconst (-1), 1) := gq_19 db00b_40 eb_26
theorem d_X6_findShares_127 : decode prog_8_method_7_code 127 = .ok (.putfield 104, 3) := gq_20 db00b_40 eb_376
theorem d_X6_findShares_130 : decode prog_8_method_7_code 130 = .ok (.aload_n 0, 1) := gq_21 db00b_40 eb_0
theorem d_X6_findShares_131 : decode prog_8_method_7_code 131 = .ok (.iconst 0, 1) := gq_22 db00b_40 eb_21
theorem d_X6_findShares_132 : decode prog_8_method_7_code 132 = .ok (.bipush 12, 2) := gq_23 db00b_40 eb_4
theorem d_X6_sightOf_0 : decode prog_8_method_8_code 0 = .ok (.lconst 0, 1) := by decide +kernel
theorem d_X6_sightOf_1 : decode prog_8_method_8_code 1 = .ok (.lstore 4, 2) := by decide +kernel
theorem db00b_41 : Pf_ prog_8_method_7_code [(135, [0xb6, 0x00, 0x6b]), (138, [0xb1])] := pf_ok prog_8_method_7_code _ 135 (by decide +kernel)
theorem d_X6_findShares_135 : decode prog_8_method_7_code 135 = .ok (.invokevirtual 107, 3) := gq_0 db00b_41 eb_170
theorem d_X6_findShares_138 : decode prog_8_method_7_code 138 = .ok (.return_, 1) := gq_1 db00b_41 eb_7
theorem d_X6_sightOf_27 : decode prog_8_method_8_code 27 = .ok (.lload 4, 2) := by decide +kernel
theorem d_X6_sightOf_29 : decode prog_8_method_8_code 29 = .ok (.lconst 1, 1) := by decide +kernel
theorem d_X6_sightOf_34 : decode prog_8_method_8_code 34 = .ok (.lshl, 1) := by decide +kernel
theorem d_X6_sightOf_35 : decode prog_8_method_8_code 35 = .ok (.lor, 1) := by decide +kernel
theorem d_X6_sightOf_36 : decode prog_8_method_8_code 36 = .ok (.lstore 4, 2) := by decide +kernel
theorem d_X6_sightOf_44 : decode prog_8_method_8_code 44 = .ok (.lload 4, 2) := by decide +kernel
theorem d_X6_sightOf_46 : decode prog_8_method_8_code 46 = .ok (.lreturn, 1) := by decide +kernel
theorem db00b_42 : Pf_ prog_8_method_8_code [(3, [0x03]), (4, [0x36, 0x06]), (6, [0x15, 0x06]), (8, [0x2a]), (9, [0xb4, 0x00, 0x31]), (12, [0xa2, 0x00, 0x20]), (15, [0x2a]), (16, [0x15, 0x06]), (18, [0x1b]), (19, [0x2c]), (20, [0x2d]), (21, [0xb6, 0x00, 0x6f]), (24, [0x99, 0x00, 0x0e]), (30, [0x07]), (31, [0x15, 0x06]), (33, [0x68]), (38, [0x84, 0x06, 0x01]), (41, [0xa7, 0xff, 0xdd])] := pf_ok prog_8_method_8_code _ 3 (by decide +kernel)
theorem d_X6_sightOf_3 : decode prog_8_method_8_code 3 = .ok (.iconst 0, 1) := gq_0 db00b_42 eb_21
theorem d_X6_sightOf_4 : decode prog_8_method_8_code 4 = .ok (.istore 6, 2) := gq_1 db00b_42 eb_58
theorem d_X6_sightOf_6 : decode prog_8_method_8_code 6 = .ok (.iload 6, 2) := gq_2 db00b_42 eb_75
theorem d_X6_sightOf_8 : decode prog_8_method_8_code 8 = .ok (.aload_n 0, 1) := gq_3 db00b_42 eb_0
theorem d_X6_sightOf_9 : decode prog_8_method_8_code 9 = .ok (.getfield 49, 3) := gq_4 db00b_42 eb_285
theorem d_X6_sightOf_12 : decode prog_8_method_8_code 12 = .ok (.if_icmp .ge 32, 3) := gq_5 db00b_42 eb_304
theorem d_X6_sightOf_15 : decode prog_8_method_8_code 15 = .ok (.aload_n 0, 1) := gq_6 db00b_42 eb_0
theorem d_X6_sightOf_16 : decode prog_8_method_8_code 16 = .ok (.iload 6, 2) := gq_7 db00b_42 eb_75
theorem d_X6_sightOf_18 : decode prog_8_method_8_code 18 = .ok (.iload_n 1, 1) := gq_8 db00b_42 eb_9
theorem d_X6_sightOf_19 : decode prog_8_method_8_code 19 = .ok (.aload_n 2, 1) := gq_9 db00b_42 eb_301
theorem d_X6_sightOf_20 : decode prog_8_method_8_code 20 = .ok (.aload_n 3, 1) := gq_10 db00b_42 eb_312
theorem d_X6_sightOf_21 : decode prog_8_method_8_code 21 = .ok (.invokevirtual 111, 3) := gq_11 db00b_42 eb_377
theorem d_X6_sightOf_24 : decode prog_8_method_8_code 24 = .ok (.ifCond .eq 14, 3) := gq_12 db00b_42 eb_174
theorem d_X6_sightOf_30 : decode prog_8_method_8_code 30 = .ok (.iconst 4, 1) := gq_13 db00b_42 eb_291
theorem d_X6_sightOf_31 : decode prog_8_method_8_code 31 = .ok (.iload 6, 2) := gq_14 db00b_42 eb_75
theorem d_X6_sightOf_33 : decode prog_8_method_8_code 33 = .ok (.imul, 1) := gq_15 db00b_42 eb_34
theorem d_X6_sightOf_38 : decode prog_8_method_8_code 38 = .ok (.iinc 6 1, 3) := gq_16 db00b_42 eb_72
theorem d_X6_sightOf_41 : decode prog_8_method_8_code 41 = .ok (.goto (-35), 3) := gq_17 db00b_42 eb_149
theorem db00b_43 : Pf_ prog_8_method_9_code [(0, [0x1b]), (1, [0x2a]), (2, [0xb4, 0x00, 0x4c]), (5, [0xa2, 0x00, 0x08]), (8, [0x1b]), (9, [0x08]), (10, [0xa1, 0x00, 0x04]), (13, [0xb1]), (14, [0x1b]), (15, [0x2a]), (16, [0xb4, 0x00, 0x4c]), (19, [0x04]), (20, [0x64]), (21, [0xa0, 0x00, 0x1a]), (24, [0x2a]), (25, [0xb4, 0x00, 0x19]), (28, [0x1b]), (29, [0x1c]), (30, [0x4f]), (31, [0x2a]), (32, [0x21]), (33, [0x1c]), (34, [0x85]), (35, [0x2a])] := pf_ok prog_8_method_9_code _ 0 (by decide +kernel)
theorem d_X6_deal_0 : decode prog_8_method_9_code 0 = .ok (.iload_n 1, 1) := gq_0 db00b_43 eb_9
theorem d_X6_deal_1 : decode prog_8_method_9_code 1 = .ok (.aload_n 0, 1) := gq_1 db00b_43 eb_0
theorem d_X6_deal_2 : decode prog_8_method_9_code 2 = .ok (.getfield 76, 3) := gq_2 db00b_43 eb_360
theorem d_X6_deal_5 : decode prog_8_method_9_code 5 = .ok (.if_icmp .ge 8, 3) := gq_3 db00b_43 eb_378
theorem d_X6_deal_8 : decode prog_8_method_9_code 8 = .ok (.iload_n 1, 1) := gq_4 db00b_43 eb_9
theorem d_X6_deal_9 : decode prog_8_method_9_code 9 = .ok (.iconst 5, 1) := gq_5 db00b_43 eb_122
theorem d_X6_deal_10 : decode prog_8_method_9_code 10 = .ok (.if_icmp .lt 4, 3) := gq_6 db00b_43 eb_379
theorem d_X6_deal_13 : decode prog_8_method_9_code 13 = .ok (.return_, 1) := gq_7 db00b_43 eb_7
theorem d_X6_deal_14 : decode prog_8_method_9_code 14 = .ok (.iload_n 1, 1) := gq_8 db00b_43 eb_9
theorem d_X6_deal_15 : decode prog_8_method_9_code 15 = .ok (.aload_n 0, 1) := gq_9 db00b_43 eb_0
theorem d_X6_deal_16 : decode prog_8_method_9_code 16 = .ok (.getfield 76, 3) := gq_10 db00b_43 eb_360
theorem d_X6_deal_19 : decode prog_8_method_9_code 19 = .ok (.iconst 1, 1) := gq_11 db00b_43 eb_19
theorem d_X6_deal_20 : decode prog_8_method_9_code 20 = .ok (.isub, 1) := gq_12 db00b_43 eb_48
theorem d_X6_deal_21 : decode prog_8_method_9_code 21 = .ok (.if_icmp .ne 26, 3) := gq_13 db00b_43 eb_279
theorem d_X6_deal_24 : decode prog_8_method_9_code 24 = .ok (.aload_n 0, 1) := gq_14 db00b_43 eb_0
theorem d_X6_deal_25 : decode prog_8_method_9_code 25 = .ok (.getfield 25, 3) := gq_15 db00b_43 eb_24
theorem d_X6_deal_28 : decode prog_8_method_9_code 28 = .ok (.iload_n 1, 1) := gq_16 db00b_43 eb_9
theorem d_X6_deal_29 : decode prog_8_method_9_code 29 = .ok (.iload_n 2, 1) := gq_17 db00b_43 eb_13
theorem d_X6_deal_30 : decode prog_8_method_9_code 30 = .ok (.iastore, 1) := gq_18 db00b_43 eb_38
theorem d_X6_deal_31 : decode prog_8_method_9_code 31 = .ok (.aload_n 0, 1) := gq_19 db00b_43 eb_0
theorem d_X6_deal_32 : decode prog_8_method_9_code 32 = .ok (.lload_n 3, 1) := gq_20 db00b_43 eb_380
theorem d_X6_deal_33 : decode prog_8_method_9_code 33 = .ok (.iload_n 2, 1) := gq_21 db00b_43 eb_13
theorem d_X6_deal_34 : decode prog_8_method_9_code 34 = .ok (.i2l, 1) := gq_22 db00b_43 eb_381
theorem d_X6_deal_35 : decode prog_8_method_9_code 35 = .ok (.aload_n 0, 1) := gq_23 db00b_43 eb_0
theorem d_X6_deal_40 : decode prog_8_method_9_code 40 = .ok (.laload, 1) := by decide +kernel
theorem d_X6_deal_41 : decode prog_8_method_9_code 41 = .ok (.lmul, 1) := by decide +kernel
theorem d_X6_deal_42 : decode prog_8_method_9_code 42 = .ok (.ladd, 1) := by decide +kernel
theorem db00b_44 : Pf_ prog_8_method_9_code [(36, [0xb4, 0x00, 0x15]), (39, [0x1b]), (43, [0xb6, 0x00, 0x73]), (46, [0xb1]), (47, [0x1c]), (48, [0x36, 0x05]), (50, [0x15, 0x05]), (52, [0x9b, 0x00, 0x28]), (55, [0x2a]), (56, [0xb4, 0x00, 0x19]), (59, [0x1b]), (60, [0x15, 0x05]), (62, [0x4f]), (63, [0x2a]), (64, [0x1b]), (65, [0x04]), (66, [0x60]), (67, [0x1c]), (68, [0x15, 0x05]), (70, [0x64]), (71, [0x21]), (72, [0x15, 0x05]), (74, [0x85]), (75, [0x2a])] := pf_ok prog_8_method_9_code _ 36 (by decide +kernel)
theorem d_X6_deal_36 : decode prog_8_method_9_code 36 = .ok (.getfield 21, 3) := gq_0 db00b_44 eb_17
theorem d_X6_deal_39 : decode prog_8_method_9_code 39 = .ok (.iload_n 1, 1) := gq_1 db00b_44 eb_9
theorem d_X6_deal_43 : decode prog_8_method_9_code 43 = .ok (.invokevirtual 115, 3) := gq_2 db00b_44 eb_382
theorem d_X6_deal_46 : decode prog_8_method_9_code 46 = .ok (.return_, 1) := gq_3 db00b_44 eb_7
theorem d_X6_deal_47 : decode prog_8_method_9_code 47 = .ok (.iload_n 2, 1) := gq_4 db00b_44 eb_13
theorem d_X6_deal_48 : decode prog_8_method_9_code 48 = .ok (.istore 5, 2) := gq_5 db00b_44 eb_134
theorem d_X6_deal_50 : decode prog_8_method_9_code 50 = .ok (.iload 5, 2) := gq_6 db00b_44 eb_125
theorem d_X6_deal_52 : decode prog_8_method_9_code 52 = .ok (.ifCond .lt 40, 3) := gq_7 db00b_44 eb_383
theorem d_X6_deal_55 : decode prog_8_method_9_code 55 = .ok (.aload_n 0, 1) := gq_8 db00b_44 eb_0
theorem d_X6_deal_56 : decode prog_8_method_9_code 56 = .ok (.getfield 25, 3) := gq_9 db00b_44 eb_24
theorem d_X6_deal_59 : decode prog_8_method_9_code 59 = .ok (.iload_n 1, 1) := gq_10 db00b_44 eb_9
theorem d_X6_deal_60 : decode prog_8_method_9_code 60 = .ok (.iload 5, 2) := gq_11 db00b_44 eb_125
theorem d_X6_deal_62 : decode prog_8_method_9_code 62 = .ok (.iastore, 1) := gq_12 db00b_44 eb_38
theorem d_X6_deal_63 : decode prog_8_method_9_code 63 = .ok (.aload_n 0, 1) := gq_13 db00b_44 eb_0
theorem d_X6_deal_64 : decode prog_8_method_9_code 64 = .ok (.iload_n 1, 1) := gq_14 db00b_44 eb_9
theorem d_X6_deal_65 : decode prog_8_method_9_code 65 = .ok (.iconst 1, 1) := gq_15 db00b_44 eb_19
theorem d_X6_deal_66 : decode prog_8_method_9_code 66 = .ok (.iadd, 1) := gq_16 db00b_44 eb_35
theorem d_X6_deal_67 : decode prog_8_method_9_code 67 = .ok (.iload_n 2, 1) := gq_17 db00b_44 eb_13
theorem d_X6_deal_68 : decode prog_8_method_9_code 68 = .ok (.iload 5, 2) := gq_18 db00b_44 eb_125
theorem d_X6_deal_70 : decode prog_8_method_9_code 70 = .ok (.isub, 1) := gq_19 db00b_44 eb_48
theorem d_X6_deal_71 : decode prog_8_method_9_code 71 = .ok (.lload_n 3, 1) := gq_20 db00b_44 eb_380
theorem d_X6_deal_72 : decode prog_8_method_9_code 72 = .ok (.iload 5, 2) := gq_21 db00b_44 eb_125
theorem d_X6_deal_74 : decode prog_8_method_9_code 74 = .ok (.i2l, 1) := gq_22 db00b_44 eb_381
theorem d_X6_deal_75 : decode prog_8_method_9_code 75 = .ok (.aload_n 0, 1) := gq_23 db00b_44 eb_0
theorem d_X6_deal_80 : decode prog_8_method_9_code 80 = .ok (.laload, 1) := by decide +kernel
theorem d_X6_deal_81 : decode prog_8_method_9_code 81 = .ok (.lmul, 1) := by decide +kernel
theorem d_X6_deal_82 : decode prog_8_method_9_code 82 = .ok (.ladd, 1) := by decide +kernel
theorem db00b_45 : Pf_ prog_8_method_9_code [(76, [0xb4, 0x00, 0x15]), (79, [0x1b]), (83, [0xb6, 0x00, 0x6b]), (86, [0x84, 0x05, 0xff]), (89, [0xa7, 0xff, 0xd9]), (92, [0xb1])] := pf_ok prog_8_method_9_code _ 76 (by decide +kernel)
theorem d_X6_deal_76 : decode prog_8_method_9_code 76 = .ok (.getfield 21, 3) := gq_0 db00b_45 eb_17
theorem d_X6_deal_79 : decode prog_8_method_9_code 79 = .ok (.iload_n 1, 1) := gq_1 db00b_45 eb_9
theorem d_X6_deal_83 : decode prog_8_method_9_code 83 = .ok (.invokevirtual 107, 3) := gq_2 db00b_45 eb_170
theorem d_X6_deal_86 : decode prog_8_method_9_code 86 = .ok (.iinc 5 (-1), 3) := gq_3 db00b_45 eb_384
theorem d_X6_deal_89 : decode prog_8_method_9_code 89 = .ok (.goto (-39), 3) := gq_4 db00b_45 eb_332
theorem d_X6_deal_92 : decode prog_8_method_9_code 92 = .ok (.return_, 1) := gq_5 db00b_45 eb_7
theorem d_X6_judge_23 : decode prog_8_method_10_code 23 = .ok (.lshr, 1) := by decide +kernel
theorem d_X6_judge_24 : decode prog_8_method_10_code 24 = .ok (.l2i, 1) := by decide +kernel
theorem db00b_46 : Pf_ prog_8_method_10_code [(0, [0x10, 0x0c]), (2, [0x3e]), (3, [0x03]), (4, [0x36, 0x04]), (6, [0x03]), (7, [0x36, 0x05]), (9, [0x15, 0x05]), (11, [0x2a]), (12, [0xb4, 0x00, 0x31]), (15, [0xa2, 0x00, 0x23]), (18, [0x1f]), (19, [0x07]), (20, [0x15, 0x05]), (22, [0x68]), (25, [0x10, 0x0f]), (27, [0x7e]), (28, [0x36, 0x06]), (30, [0x1d]), (31, [0x15, 0x06]), (33, [0xb8, 0x00, 0x77]), (36, [0x3e]), (37, [0x15, 0x04]), (39, [0x15, 0x06]), (41, [0x60])] := pf_ok prog_8_method_10_code _ 0 (by decide +kernel)
theorem d_X6_judge_0 : decode prog_8_method_10_code 0 = .ok (.bipush 12, 2) := gq_0 db00b_46 eb_4
theorem d_X6_judge_2 : decode prog_8_method_10_code 2 = .ok (.istore_n 3, 1) := gq_1 db00b_46 eb_28
theorem d_X6_judge_3 : decode prog_8_method_10_code 3 = .ok (.iconst 0, 1) := gq_2 db00b_46 eb_21
theorem d_X6_judge_4 : decode prog_8_method_10_code 4 = .ok (.istore 4, 2) := gq_3 db00b_46 eb_133
theorem d_X6_judge_6 : decode prog_8_method_10_code 6 = .ok (.iconst 0, 1) := gq_4 db00b_46 eb_21
theorem d_X6_judge_7 : decode prog_8_method_10_code 7 = .ok (.istore 5, 2) := gq_5 db00b_46 eb_134
theorem d_X6_judge_9 : decode prog_8_method_10_code 9 = .ok (.iload 5, 2) := gq_6 db00b_46 eb_125
theorem d_X6_judge_11 : decode prog_8_method_10_code 11 = .ok (.aload_n 0, 1) := gq_7 db00b_46 eb_0
theorem d_X6_judge_12 : decode prog_8_method_10_code 12 = .ok (.getfield 49, 3) := gq_8 db00b_46 eb_285
theorem d_X6_judge_15 : decode prog_8_method_10_code 15 = .ok (.if_icmp .ge 35, 3) := gq_9 db00b_46 eb_146
theorem d_X6_judge_18 : decode prog_8_method_10_code 18 = .ok (.lload_n 1, 1) := gq_10 db00b_46 eb_385
theorem d_X6_judge_19 : decode prog_8_method_10_code 19 = .ok (.iconst 4, 1) := gq_11 db00b_46 eb_291
theorem d_X6_judge_20 : decode prog_8_method_10_code 20 = .ok (.iload 5, 2) := gq_12 db00b_46 eb_125
theorem d_X6_judge_22 : decode prog_8_method_10_code 22 = .ok (.imul, 1) := gq_13 db00b_46 eb_34
theorem d_X6_judge_25 : decode prog_8_method_10_code 25 = .ok (.bipush 15, 2) := gq_14 db00b_46 eb_57
theorem d_X6_judge_27 : decode prog_8_method_10_code 27 = .ok (.iand, 1) := gq_15 db00b_46 eb_55
theorem d_X6_judge_28 : decode prog_8_method_10_code 28 = .ok (.istore 6, 2) := gq_16 db00b_46 eb_58
theorem d_X6_judge_30 : decode prog_8_method_10_code 30 = .ok (.iload_n 3, 1) := gq_17 db00b_46 eb_29
theorem d_X6_judge_31 : decode prog_8_method_10_code 31 = .ok (.iload 6, 2) := gq_18 db00b_46 eb_75
theorem d_X6_judge_33 : decode prog_8_method_10_code 33 = .ok (.invokestatic 119, 3) := gq_19 db00b_46 eb_386
theorem d_X6_judge_36 : decode prog_8_method_10_code 36 = .ok (.istore_n 3, 1) := gq_20 db00b_46 eb_28
theorem d_X6_judge_37 : decode prog_8_method_10_code 37 = .ok (.iload 4, 2) := gq_21 db00b_46 eb_76
theorem d_X6_judge_39 : decode prog_8_method_10_code 39 = .ok (.iload 6, 2) := gq_22 db00b_46 eb_75
theorem d_X6_judge_41 : decode prog_8_method_10_code 41 = .ok (.iadd, 1) := gq_23 db00b_46 eb_35
theorem db00b_47 : Pf_ prog_8_method_10_code [(42, [0x36, 0x04]), (44, [0x84, 0x05, 0x01]), (47, [0xa7, 0xff, 0xda]), (50, [0x1d]), (51, [0x2a]), (52, [0xb4, 0x00, 0x43]), (55, [0xa3, 0x00, 0x14]), (58, [0x1d]), (59, [0x2a]), (60, [0xb4, 0x00, 0x43]), (63, [0xa0, 0x00, 0x25]), (66, [0x15, 0x04]), (68, [0x2a]), (69, [0xb4, 0x00, 0x68]), (72, [0xa4, 0x00, 0x1c]), (75, [0x2a]), (76, [0x1d]), (77, [0xb5, 0x00, 0x43]), (80, [0x2a]), (81, [0x15, 0x04]), (83, [0xb5, 0x00, 0x68]), (86, [0x2a]), (87, [0xb4, 0x00, 0x19]), (90, [0x03])] := pf_ok prog_8_method_10_code _ 42 (by decide +kernel)
theorem d_X6_judge_42 : decode prog_8_method_10_code 42 = .ok (.istore 4, 2) := gq_0 db00b_47 eb_133
theorem d_X6_judge_44 : decode prog_8_method_10_code 44 = .ok (.iinc 5 1, 3) := gq_1 db00b_47 eb_220
theorem d_X6_judge_47 : decode prog_8_method_10_code 47 = .ok (.goto (-38), 3) := gq_2 db00b_47 eb_238
theorem d_X6_judge_50 : decode prog_8_method_10_code 50 = .ok (.iload_n 3, 1) := gq_3 db00b_47 eb_29
theorem d_X6_judge_51 : decode prog_8_method_10_code 51 = .ok (.aload_n 0, 1) := gq_4 db00b_47 eb_0
theorem d_X6_judge_52 : decode prog_8_method_10_code 52 = .ok (.getfield 67, 3) := gq_5 db00b_47 eb_358
theorem d_X6_judge_55 : decode prog_8_method_10_code 55 = .ok (.if_icmp .gt 20, 3) := gq_6 db00b_47 eb_387
theorem d_X6_judge_58 : decode prog_8_method_10_code 58 = .ok (.iload_n 3, 1) := gq_7 db00b_47 eb_29
theorem d_X6_judge_59 : decode prog_8_method_10_code 59 = .ok (.aload_n 0, 1) := gq_8 db00b_47 eb_0
theorem d_X6_judge_60 : decode prog_8_method_10_code 60 = .ok (.getfield 67, 3) := gq_9 db00b_47 eb_358
theorem d_X6_judge_63 : decode prog_8_method_10_code 63 = .ok (.if_icmp .ne 37, 3) := gq_10 db00b_47 eb_388
theorem d_X6_judge_66 : decode prog_8_method_10_code 66 = .ok (.iload 4, 2) := gq_11 db00b_47 eb_76
theorem d_X6_judge_68 : decode prog_8_method_10_code 68 = .ok (.aload_n 0, 1) := gq_12 db00b_47 eb_0
theorem d_X6_judge_69 : decode prog_8_method_10_code 69 = .ok (.getfield 104, 3) := gq_13 db00b_47 eb_389
theorem d_X6_judge_72 : decode prog_8_method_10_code 72 = .ok (.if_icmp .le 28, 3) := gq_14 db00b_47 eb_390
theorem d_X6_judge_75 : decode prog_8_method_10_code 75 = .ok (.aload_n 0, 1) := gq_15 db00b_47 eb_0
theorem d_X6_judge_76 : decode prog_8_method_10_code 76 = .ok (.iload_n 3, 1) := gq_16 db00b_47 eb_29
theorem d_X6_judge_77 : decode prog_8_method_10_code 77 = .ok (.putfield 67, 3) := gq_17 db00b_47 eb_375
theorem d_X6_judge_80 : decode prog_8_method_10_code 80 = .ok (.aload_n 0, 1) := gq_18 db00b_47 eb_0
theorem d_X6_judge_81 : decode prog_8_method_10_code 81 = .ok (.iload 4, 2) := gq_19 db00b_47 eb_76
theorem d_X6_judge_83 : decode prog_8_method_10_code 83 = .ok (.putfield 104, 3) := gq_20 db00b_47 eb_376
theorem d_X6_judge_86 : decode prog_8_method_10_code 86 = .ok (.aload_n 0, 1) := gq_21 db00b_47 eb_0
theorem d_X6_judge_87 : decode prog_8_method_10_code 87 = .ok (.getfield 25, 3) := gq_22 db00b_47 eb_24
theorem d_X6_judge_90 : decode prog_8_method_10_code 90 = .ok (.iconst 0, 1) := gq_23 db00b_47 eb_21
theorem db00b_48 : Pf_ prog_8_method_10_code [(91, [0x2a]), (92, [0xb4, 0x00, 0x1c]), (95, [0x03]), (96, [0x08]), (97, [0xb8, 0x00, 0x7d]), (100, [0xb1])] := pf_ok prog_8_method_10_code _ 91 (by decide +kernel)
theorem d_X6_judge_91 : decode prog_8_method_10_code 91 = .ok (.aload_n 0, 1) := gq_0 db00b_48 eb_0
theorem d_X6_judge_92 : decode prog_8_method_10_code 92 = .ok (.getfield 28, 3) := gq_1 db00b_48 eb_361
theorem d_X6_judge_95 : decode prog_8_method_10_code 95 = .ok (.iconst 0, 1) := gq_2 db00b_48 eb_21
theorem d_X6_judge_96 : decode prog_8_method_10_code 96 = .ok (.iconst 5, 1) := gq_3 db00b_48 eb_122
theorem d_X6_judge_97 : decode prog_8_method_10_code 97 = .ok (.invokestatic 125, 3) := gq_4 db00b_48 eb_391
theorem d_X6_judge_100 : decode prog_8_method_10_code 100 = .ok (.return_, 1) := gq_5 db00b_48 eb_7
theorem db00b_49 : Pf_ prog_8_method_11_code [(0, [0x2a]), (1, [0xb4, 0x00, 0x83]), (4, [0x07]), (5, [0xa1, 0x00, 0x05]), (8, [0x02]), (9, [0xac]), (10, [0x2a]), (11, [0xb4, 0x00, 0x1f]), (14, [0x2a]), (15, [0xb4, 0x00, 0x83]), (18, [0x1b]), (19, [0x4f]), (20, [0x2a]), (21, [0xb4, 0x00, 0x22]), (24, [0x2a]), (25, [0xb4, 0x00, 0x83]), (28, [0x1c]), (29, [0x4f]), (30, [0x2a]), (31, [0xb4, 0x00, 0x25]), (34, [0x2a]), (35, [0xb4, 0x00, 0x83]), (38, [0x1d]), (39, [0x4f])] := pf_ok prog_8_method_11_code _ 0 (by decide +kernel)
theorem d_X6_addFair_0 : decode prog_8_method_11_code 0 = .ok (.aload_n 0, 1) := gq_0 db00b_49 eb_0
theorem d_X6_addFair_1 : decode prog_8_method_11_code 1 = .ok (.getfield 131, 3) := gq_1 db00b_49 eb_392
theorem d_X6_addFair_4 : decode prog_8_method_11_code 4 = .ok (.iconst 4, 1) := gq_2 db00b_49 eb_291
theorem d_X6_addFair_5 : decode prog_8_method_11_code 5 = .ok (.if_icmp .lt 5, 3) := gq_3 db00b_49 eb_114
theorem d_X6_addFair_8 : decode prog_8_method_11_code 8 = .ok (.iconst (-1), 1) := gq_4 db00b_49 eb_26
theorem d_X6_addFair_9 : decode prog_8_method_11_code 9 = .ok (.ireturn, 1) := gq_5 db00b_49 eb_15
theorem d_X6_addFair_10 : decode prog_8_method_11_code 10 = .ok (.aload_n 0, 1) := gq_6 db00b_49 eb_0
theorem d_X6_addFair_11 : decode prog_8_method_11_code 11 = .ok (.getfield 31, 3) := gq_7 db00b_49 eb_30
theorem d_X6_addFair_14 : decode prog_8_method_11_code 14 = .ok (.aload_n 0, 1) := gq_8 db00b_49 eb_0
theorem d_X6_addFair_15 : decode prog_8_method_11_code 15 = .ok (.getfield 131, 3) := gq_9 db00b_49 eb_392
theorem d_X6_addFair_18 : decode prog_8_method_11_code 18 = .ok (.iload_n 1, 1) := gq_10 db00b_49 eb_9
theorem d_X6_addFair_19 : decode prog_8_method_11_code 19 = .ok (.iastore, 1) := gq_11 db00b_49 eb_38
theorem d_X6_addFair_20 : decode prog_8_method_11_code 20 = .ok (.aload_n 0, 1) := gq_12 db00b_49 eb_0
theorem d_X6_addFair_21 : decode prog_8_method_11_code 21 = .ok (.getfield 34, 3) := gq_13 db00b_49 eb_36
theorem d_X6_addFair_24 : decode prog_8_method_11_code 24 = .ok (.aload_n 0, 1) := gq_14 db00b_49 eb_0
theorem d_X6_addFair_25 : decode prog_8_method_11_code 25 = .ok (.getfield 131, 3) := gq_15 db00b_49 eb_392
theorem d_X6_addFair_28 : decode prog_8_method_11_code 28 = .ok (.iload_n 2, 1) := gq_16 db00b_49 eb_13
theorem d_X6_addFair_29 : decode prog_8_method_11_code 29 = .ok (.iastore, 1) := gq_17 db00b_49 eb_38
theorem d_X6_addFair_30 : decode prog_8_method_11_code 30 = .ok (.aload_n 0, 1) := gq_18 db00b_49 eb_0
theorem d_X6_addFair_31 : decode prog_8_method_11_code 31 = .ok (.getfield 37, 3) := gq_19 db00b_49 eb_281
theorem d_X6_addFair_34 : decode prog_8_method_11_code 34 = .ok (.aload_n 0, 1) := gq_20 db00b_49 eb_0
theorem d_X6_addFair_35 : decode prog_8_method_11_code 35 = .ok (.getfield 131, 3) := gq_21 db00b_49 eb_392
theorem d_X6_addFair_38 : decode prog_8_method_11_code 38 = .ok (.iload_n 3, 1) := gq_22 db00b_49 eb_29
theorem d_X6_addFair_39 : decode prog_8_method_11_code 39 = .ok (.iastore, 1) := gq_23 db00b_49 eb_38
theorem db00b_50 : Pf_ prog_8_method_11_code [(40, [0x2a]), (41, [0x59]), (42, [0xb4, 0x00, 0x83]), (45, [0x04]), (46, [0x60]), (47, [0xb5, 0x00, 0x83]), (50, [0x2a]), (51, [0xb4, 0x00, 0x83]), (54, [0x04]), (55, [0x64]), (56, [0xac])] := pf_ok prog_8_method_11_code _ 40 (by decide +kernel)
theorem d_X6_addFair_40 : decode prog_8_method_11_code 40 = .ok (.aload_n 0, 1) := gq_0 db00b_50 eb_0
theorem d_X6_addFair_41 : decode prog_8_method_11_code 41 = .ok (.dup, 1) := gq_1 db00b_50 eb_46
theorem d_X6_addFair_42 : decode prog_8_method_11_code 42 = .ok (.getfield 131, 3) := gq_2 db00b_50 eb_392
theorem d_X6_addFair_45 : decode prog_8_method_11_code 45 = .ok (.iconst 1, 1) := gq_3 db00b_50 eb_19
theorem d_X6_addFair_46 : decode prog_8_method_11_code 46 = .ok (.iadd, 1) := gq_4 db00b_50 eb_35
theorem d_X6_addFair_47 : decode prog_8_method_11_code 47 = .ok (.putfield 131, 3) := gq_5 db00b_50 eb_393
theorem d_X6_addFair_50 : decode prog_8_method_11_code 50 = .ok (.aload_n 0, 1) := gq_6 db00b_50 eb_0
theorem d_X6_addFair_51 : decode prog_8_method_11_code 51 = .ok (.getfield 131, 3) := gq_7 db00b_50 eb_392
theorem d_X6_addFair_54 : decode prog_8_method_11_code 54 = .ok (.iconst 1, 1) := gq_8 db00b_50 eb_19
theorem d_X6_addFair_55 : decode prog_8_method_11_code 55 = .ok (.isub, 1) := gq_9 db00b_50 eb_48
theorem d_X6_addFair_56 : decode prog_8_method_11_code 56 = .ok (.ireturn, 1) := gq_10 db00b_50 eb_15
theorem db00b_51 : Pf_ prog_8_method_12_code [(0, [0x2a]), (1, [0x03]), (2, [0xb5, 0x00, 0x83]), (5, [0xb1])] := pf_ok prog_8_method_12_code _ 0 (by decide +kernel)
theorem d_X6_clearFairs_0 : decode prog_8_method_12_code 0 = .ok (.aload_n 0, 1) := gq_0 db00b_51 eb_0
theorem d_X6_clearFairs_1 : decode prog_8_method_12_code 1 = .ok (.iconst 0, 1) := gq_1 db00b_51 eb_21
theorem d_X6_clearFairs_2 : decode prog_8_method_12_code 2 = .ok (.putfield 131, 3) := gq_2 db00b_51 eb_393
theorem d_X6_clearFairs_5 : decode prog_8_method_12_code 5 = .ok (.return_, 1) := gq_3 db00b_51 eb_7
theorem db00b_52 : Pf_ prog_8_method_13_code [(0, [0x1b]), (1, [0x03]), (2, [0x2a]), (3, [0xb4, 0x00, 0x83]), (6, [0x04]), (7, [0x64]), (8, [0xb8, 0x00, 0x4f]), (11, [0x99, 0x00, 0x0c]), (14, [0x2a]), (15, [0xb4, 0x00, 0x1f]), (18, [0x1b]), (19, [0x2e]), (20, [0xa7, 0x00, 0x04]), (23, [0x02]), (24, [0xac])] := pf_ok prog_8_method_13_code _ 0 (by decide +kernel)
theorem d_X6_placeOfFair_0 : decode prog_8_method_13_code 0 = .ok (.iload_n 1, 1) := gq_0 db00b_52 eb_9
theorem d_X6_placeOfFair_1 : decode prog_8_method_13_code 1 = .ok (.iconst 0, 1) := gq_1 db00b_52 eb_21
theorem d_X6_placeOfFair_2 : decode prog_8_method_13_code 2 = .ok (.aload_n 0, 1) := gq_2 db00b_52 eb_0
theorem d_X6_placeOfFair_3 : decode prog_8_method_13_code 3 = .ok (.getfield 131, 3) := gq_3 db00b_52 eb_392
theorem d_X6_placeOfFair_6 : decode prog_8_method_13_code 6 = .ok (.iconst 1, 1) := gq_4 db00b_52 eb_19
theorem d_X6_placeOfFair_7 : decode prog_8_method_13_code 7 = .ok (.isub, 1) := gq_5 db00b_52 eb_48
theorem d_X6_placeOfFair_8 : decode prog_8_method_13_code 8 = .ok (.invokestatic 79, 3) := gq_6 db00b_52 eb_151
theorem d_X6_placeOfFair_11 : decode prog_8_method_13_code 11 = .ok (.ifCond .eq 12, 3) := gq_7 db00b_52 eb_50
theorem d_X6_placeOfFair_14 : decode prog_8_method_13_code 14 = .ok (.aload_n 0, 1) := gq_8 db00b_52 eb_0
theorem d_X6_placeOfFair_15 : decode prog_8_method_13_code 15 = .ok (.getfield 31, 3) := gq_9 db00b_52 eb_30
theorem d_X6_placeOfFair_18 : decode prog_8_method_13_code 18 = .ok (.iload_n 1, 1) := gq_10 db00b_52 eb_9
theorem d_X6_placeOfFair_19 : decode prog_8_method_13_code 19 = .ok (.iaload, 1) := gq_11 db00b_52 eb_37
theorem d_X6_placeOfFair_20 : decode prog_8_method_13_code 20 = .ok (.goto 4, 3) := gq_12 db00b_52 eb_20
theorem d_X6_placeOfFair_23 : decode prog_8_method_13_code 23 = .ok (.iconst (-1), 1) := gq_13 db00b_52 eb_26
theorem d_X6_placeOfFair_24 : decode prog_8_method_13_code 24 = .ok (.ireturn, 1) := gq_14 db00b_52 eb_15
theorem db00b_53 : Pf_ prog_8_method_14_code [(0, [0x1b]), (1, [0x03]), (2, [0x2a]), (3, [0xb4, 0x00, 0x83]), (6, [0x04]), (7, [0x64]), (8, [0xb8, 0x00, 0x4f]), (11, [0x99, 0x00, 0x0c]), (14, [0x2a]), (15, [0xb4, 0x00, 0x22]), (18, [0x1b]), (19, [0x2e]), (20, [0xa7, 0x00, 0x04]), (23, [0x02]), (24, [0xac])] := pf_ok prog_8_method_14_code _ 0 (by decide +kernel)
theorem d_X6_minuteOfFair_0 : decode prog_8_method_14_code 0 = .ok (.iload_n 1, 1) := gq_0 db00b_53 eb_9
theorem d_X6_minuteOfFair_1 : decode prog_8_method_14_code 1 = .ok (.iconst 0, 1) := gq_1 db00b_53 eb_21
theorem d_X6_minuteOfFair_2 : decode prog_8_method_14_code 2 = .ok (.aload_n 0, 1) := gq_2 db00b_53 eb_0
theorem d_X6_minuteOfFair_3 : decode prog_8_method_14_code 3 = .ok (.getfield 131, 3) := gq_3 db00b_53 eb_392
theorem d_X6_minuteOfFair_6 : decode prog_8_method_14_code 6 = .ok (.iconst 1, 1) := gq_4 db00b_53 eb_19
theorem d_X6_minuteOfFair_7 : decode prog_8_method_14_code 7 = .ok (.isub, 1) := gq_5 db00b_53 eb_48
theorem d_X6_minuteOfFair_8 : decode prog_8_method_14_code 8 = .ok (.invokestatic 79, 3) := gq_6 db00b_53 eb_151
theorem d_X6_minuteOfFair_11 : decode prog_8_method_14_code 11 = .ok (.ifCond .eq 12, 3) := gq_7 db00b_53 eb_50
theorem d_X6_minuteOfFair_14 : decode prog_8_method_14_code 14 = .ok (.aload_n 0, 1) := gq_8 db00b_53 eb_0
theorem d_X6_minuteOfFair_15 : decode prog_8_method_14_code 15 = .ok (.getfield 34, 3) := gq_9 db00b_53 eb_36
theorem d_X6_minuteOfFair_18 : decode prog_8_method_14_code 18 = .ok (.iload_n 1, 1) := gq_10 db00b_53 eb_9
theorem d_X6_minuteOfFair_19 : decode prog_8_method_14_code 19 = .ok (.iaload, 1) := gq_11 db00b_53 eb_37
theorem d_X6_minuteOfFair_20 : decode prog_8_method_14_code 20 = .ok (.goto 4, 3) := gq_12 db00b_53 eb_20
theorem d_X6_minuteOfFair_23 : decode prog_8_method_14_code 23 = .ok (.iconst (-1), 1) := gq_13 db00b_53 eb_26
theorem d_X6_minuteOfFair_24 : decode prog_8_method_14_code 24 = .ok (.ireturn, 1) := gq_14 db00b_53 eb_15
theorem db00b_54 : Pf_ prog_8_method_15_code [(0, [0x1a]), (1, [0x12, 0x86]), (3, [0x68]), (4, [0x1b]), (5, [0x60]), (6, [0xac])] := pf_ok prog_8_method_15_code _ 0 (by decide +kernel)
theorem d_X6_price_0 : decode prog_8_method_15_code 0 = .ok (.iload_n 0, 1) := gq_0 db00b_54 eb_8
theorem d_X6_price_1 : decode prog_8_method_15_code 1 = .ok (.ldc 134, 2) := gq_1 db00b_54 eb_394
theorem d_X6_price_3 : decode prog_8_method_15_code 3 = .ok (.imul, 1) := gq_2 db00b_54 eb_34
theorem d_X6_price_4 : decode prog_8_method_15_code 4 = .ok (.iload_n 1, 1) := gq_3 db00b_54 eb_9
theorem d_X6_price_5 : decode prog_8_method_15_code 5 = .ok (.iadd, 1) := gq_4 db00b_54 eb_35
theorem d_X6_price_6 : decode prog_8_method_15_code 6 = .ok (.ireturn, 1) := gq_5 db00b_54 eb_15
theorem db00b_55 : Pf_ prog_8_method_16_code [(0, [0x1b]), (1, [0x03]), (2, [0x10, 0x0b]), (4, [0xb8, 0x00, 0x4f]), (7, [0x99, 0x00, 0x17]), (10, [0x1c]), (11, [0x03]), (12, [0x06]), (13, [0xb8, 0x00, 0x4f]), (16, [0x99, 0x00, 0x0e]), (19, [0x2a]), (20, [0xb4, 0x00, 0x28]), (23, [0x1b]), (24, [0x07]), (25, [0x68]), (26, [0x1c]), (27, [0x60]), (28, [0x1d]), (29, [0x4f]), (30, [0xb1])] := pf_ok prog_8_method_16_code _ 0 (by decide +kernel)
theorem d_X6_setPrice_0 : decode prog_8_method_16_code 0 = .ok (.iload_n 1, 1) := gq_0 db00b_55 eb_9
theorem d_X6_setPrice_1 : decode prog_8_method_16_code 1 = .ok (.iconst 0, 1) := gq_1 db00b_55 eb_21
theorem d_X6_setPrice_2 : decode prog_8_method_16_code 2 = .ok (.bipush 11, 2) := gq_2 db00b_55 eb_328
theorem d_X6_setPrice_4 : decode prog_8_method_16_code 4 = .ok (.invokestatic 79, 3) := gq_3 db00b_55 eb_151
theorem d_X6_setPrice_7 : decode prog_8_method_16_code 7 = .ok (.ifCond .eq 23, 3) := gq_4 db00b_55 eb_204
theorem d_X6_setPrice_10 : decode prog_8_method_16_code 10 = .ok (.iload_n 2, 1) := gq_5 db00b_55 eb_13
theorem d_X6_setPrice_11 : decode prog_8_method_16_code 11 = .ok (.iconst 0, 1) := gq_6 db00b_55 eb_21
theorem d_X6_setPrice_12 : decode prog_8_method_16_code 12 = .ok (.iconst 3, 1) := gq_7 db00b_55 eb_54
theorem d_X6_setPrice_13 : decode prog_8_method_16_code 13 = .ok (.invokestatic 79, 3) := gq_8 db00b_55 eb_151
theorem d_X6_setPrice_16 : decode prog_8_method_16_code 16 = .ok (.ifCond .eq 14, 3) := gq_9 db00b_55 eb_174
theorem d_X6_setPrice_19 : decode prog_8_method_16_code 19 = .ok (.aload_n 0, 1) := gq_10 db00b_55 eb_0
theorem d_X6_setPrice_20 : decode prog_8_method_16_code 20 = .ok (.getfield 40, 3) := gq_11 db00b_55 eb_282
theorem d_X6_setPrice_23 : decode prog_8_method_16_code 23 = .ok (.iload_n 1, 1) := gq_12 db00b_55 eb_9
theorem d_X6_setPrice_24 : decode prog_8_method_16_code 24 = .ok (.iconst 4, 1) := gq_13 db00b_55 eb_291
theorem d_X6_setPrice_25 : decode prog_8_method_16_code 25 = .ok (.imul, 1) := gq_14 db00b_55 eb_34
theorem d_X6_setPrice_26 : decode prog_8_method_16_code 26 = .ok (.iload_n 2, 1) := gq_15 db00b_55 eb_13
theorem d_X6_setPrice_27 : decode prog_8_method_16_code 27 = .ok (.iadd, 1) := gq_16 db00b_55 eb_35
theorem d_X6_setPrice_28 : decode prog_8_method_16_code 28 = .ok (.iload_n 3, 1) := gq_17 db00b_55 eb_29
theorem d_X6_setPrice_29 : decode prog_8_method_16_code 29 = .ok (.iastore, 1) := gq_18 db00b_55 eb_38
theorem d_X6_setPrice_30 : decode prog_8_method_16_code 30 = .ok (.return_, 1) := gq_19 db00b_55 eb_7
theorem db00b_56 : Pf_ prog_8_method_17_code [(0, [0x03]), (1, [0x3c]), (2, [0x03]), (3, [0x3d]), (4, [0x1c]), (5, [0x2a]), (6, [0xb4, 0x00, 0x83]), (9, [0xa2, 0x00, 0x16]), (12, [0x1b]), (13, [0x2a]), (14, [0xb4, 0x00, 0x25]), (17, [0x1c]), (18, [0x2e]), (19, [0x05]), (20, [0x1c]), (21, [0x68]), (22, [0x78]), (23, [0x80]), (24, [0x3c]), (25, [0x84, 0x02, 0x01]), (28, [0xa7, 0xff, 0xe8]), (31, [0x1b]), (32, [0xac])] := pf_ok prog_8_method_17_code _ 0 (by decide +kernel)
theorem d_X6_allWanted_0 : decode prog_8_method_17_code 0 = .ok (.iconst 0, 1) := gq_0 db00b_56 eb_21
theorem d_X6_allWanted_1 : decode prog_8_method_17_code 1 = .ok (.istore_n 1, 1) := gq_1 db00b_56 eb_222
theorem d_X6_allWanted_2 : decode prog_8_method_17_code 2 = .ok (.iconst 0, 1) := gq_2 db00b_56 eb_21
theorem d_X6_allWanted_3 : decode prog_8_method_17_code 3 = .ok (.istore_n 2, 1) := gq_3 db00b_56 eb_27
theorem d_X6_allWanted_4 : decode prog_8_method_17_code 4 = .ok (.iload_n 2, 1) := gq_4 db00b_56 eb_13
theorem d_X6_allWanted_5 : decode prog_8_method_17_code 5 = .ok (.aload_n 0, 1) := gq_5 db00b_56 eb_0
theorem d_X6_allWanted_6 : decode prog_8_method_17_code 6 = .ok (.getfield 131, 3) := gq_6 db00b_56 eb_392
theorem d_X6_allWanted_9 : decode prog_8_method_17_code 9 = .ok (.if_icmp .ge 22, 3) := gq_7 db00b_56 eb_395
theorem d_X6_allWanted_12 : decode prog_8_method_17_code 12 = .ok (.iload_n 1, 1) := gq_8 db00b_56 eb_9
theorem d_X6_allWanted_13 : decode prog_8_method_17_code 13 = .ok (.aload_n 0, 1) := gq_9 db00b_56 eb_0
theorem d_X6_allWanted_14 : decode prog_8_method_17_code 14 = .ok (.getfield 37, 3) := gq_10 db00b_56 eb_281
theorem d_X6_allWanted_17 : decode prog_8_method_17_code 17 = .ok (.iload_n 2, 1) := gq_11 db00b_56 eb_13
theorem d_X6_allWanted_18 : decode prog_8_method_17_code 18 = .ok (.iaload, 1) := gq_12 db00b_56 eb_37
theorem d_X6_allWanted_19 : decode prog_8_method_17_code 19 = .ok (.iconst 2, 1) := gq_13 db00b_56 eb_10
theorem d_X6_allWanted_20 : decode prog_8_method_17_code 20 = .ok (.iload_n 2, 1) := gq_14 db00b_56 eb_13
theorem d_X6_allWanted_21 : decode prog_8_method_17_code 21 = .ok (.imul, 1) := gq_15 db00b_56 eb_34
theorem d_X6_allWanted_22 : decode prog_8_method_17_code 22 = .ok (.ishl, 1) := gq_16 db00b_56 eb_11
theorem d_X6_allWanted_23 : decode prog_8_method_17_code 23 = .ok (.ior, 1) := gq_17 db00b_56 eb_12
theorem d_X6_allWanted_24 : decode prog_8_method_17_code 24 = .ok (.istore_n 1, 1) := gq_18 db00b_56 eb_222
theorem d_X6_allWanted_25 : decode prog_8_method_17_code 25 = .ok (.iinc 2 1, 3) := gq_19 db00b_56 eb_41
theorem d_X6_allWanted_28 : decode prog_8_method_17_code 28 = .ok (.goto (-24), 3) := gq_20 db00b_56 eb_159
theorem d_X6_allWanted_31 : decode prog_8_method_17_code 31 = .ok (.iload_n 1, 1) := gq_21 db00b_56 eb_9
theorem d_X6_allWanted_32 : decode prog_8_method_17_code 32 = .ok (.ireturn, 1) := gq_22 db00b_56 eb_15
theorem db00b_57 : Pf_ prog_8_method_18_code [(0, [0x1b]), (1, [0x10, 0x0c]), (3, [0xb8, 0x00, 0x77]), (6, [0x3d]), (7, [0x2a]), (8, [0xb6, 0x00, 0x87]), (11, [0x3e]), (12, [0x03]), (13, [0x36, 0x04]), (15, [0x15, 0x04]), (17, [0x1d]), (18, [0xa3, 0x00, 0x21]), (21, [0x2a]), (22, [0xb4, 0x00, 0x2b]), (25, [0x1c]), (26, [0x11, 0x01, 0x00]), (29, [0x68]), (30, [0x15, 0x04]), (32, [0x60]), (33, [0x15, 0x04]), (35, [0x9a, 0x00, 0x07]), (38, [0x03]), (39, [0xa7, 0x00, 0x05]), (42, [0x12, 0x8b])] := pf_ok prog_8_method_18_code _ 0 (by decide +kernel)
theorem d_X6_lend_0 : decode prog_8_method_18_code 0 = .ok (.iload_n 1, 1) := gq_0 db00b_57 eb_9
theorem d_X6_lend_1 : decode prog_8_method_18_code 1 = .ok (.bipush 12, 2) := gq_1 db00b_57 eb_4
theorem d_X6_lend_3 : decode prog_8_method_18_code 3 = .ok (.invokestatic 119, 3) := gq_2 db00b_57 eb_386
theorem d_X6_lend_6 : decode prog_8_method_18_code 6 = .ok (.istore_n 2, 1) := gq_3 db00b_57 eb_27
theorem d_X6_lend_7 : decode prog_8_method_18_code 7 = .ok (.aload_n 0, 1) := gq_4 db00b_57 eb_0
theorem d_X6_lend_8 : decode prog_8_method_18_code 8 = .ok (.invokevirtual 135, 3) := gq_5 db00b_57 eb_396
theorem d_X6_lend_11 : decode prog_8_method_18_code 11 = .ok (.istore_n 3, 1) := gq_6 db00b_57 eb_28
theorem d_X6_lend_12 : decode prog_8_method_18_code 12 = .ok (.iconst 0, 1) := gq_7 db00b_57 eb_21
theorem d_X6_lend_13 : decode prog_8_method_18_code 13 = .ok (.istore 4, 2) := gq_8 db00b_57 eb_133
theorem d_X6_lend_15 : decode prog_8_method_18_code 15 = .ok (.iload 4, 2) := gq_9 db00b_57 eb_76
theorem d_X6_lend_17 : decode prog_8_method_18_code 17 = .ok (.iload_n 3, 1) := gq_10 db00b_57 eb_29
theorem d_X6_lend_18 : decode prog_8_method_18_code 18 = .ok (.if_icmp .gt 33, 3) := gq_11 db00b_57 eb_397
theorem d_X6_lend_21 : decode prog_8_method_18_code 21 = .ok (.aload_n 0, 1) := gq_12 db00b_57 eb_0
theorem d_X6_lend_22 : decode prog_8_method_18_code 22 = .ok (.getfield 43, 3) := gq_13 db00b_57 eb_283
theorem d_X6_lend_25 : decode prog_8_method_18_code 25 = .ok (.iload_n 2, 1) := gq_14 db00b_57 eb_13
theorem d_X6_lend_26 : decode prog_8_method_18_code 26 = .ok (.sipush 256, 3) := gq_15 db00b_57 eb_232
theorem d_X6_lend_29 : decode prog_8_method_18_code 29 = .ok (.imul, 1) := gq_16 db00b_57 eb_34
theorem d_X6_lend_30 : decode prog_8_method_18_code 30 = .ok (.iload 4, 2) := gq_17 db00b_57 eb_76
theorem d_X6_lend_32 : decode prog_8_method_18_code 32 = .ok (.iadd, 1) := gq_18 db00b_57 eb_35
theorem d_X6_lend_33 : decode prog_8_method_18_code 33 = .ok (.iload 4, 2) := gq_19 db00b_57 eb_76
theorem d_X6_lend_35 : decode prog_8_method_18_code 35 = .ok (.ifCond .ne 7, 3) := gq_20 db00b_57 eb_164
theorem d_X6_lend_38 : decode prog_8_method_18_code 38 = .ok (.iconst 0, 1) := gq_21 db00b_57 eb_21
theorem d_X6_lend_39 : decode prog_8_method_18_code 39 = .ok (.goto 5, 3) := gq_22 db00b_57 eb_89
theorem d_X6_lend_42 : decode prog_8_method_18_code 42 = .ok (.ldc 139, 2) := gq_23 db00b_57 eb_398
theorem db00b_58 : Pf_ prog_8_method_18_code [(44, [0x4f]), (45, [0x84, 0x04, 0x01]), (48, [0xa7, 0xff, 0xdf]), (51, [0x1c]), (52, [0x04]), (53, [0x64]), (54, [0x36, 0x04]), (56, [0x15, 0x04]), (58, [0x9b, 0x00, 0x2e]), (61, [0x03]), (62, [0x36, 0x05]), (64, [0x15, 0x05]), (66, [0x1d]), (67, [0xa3, 0x00, 0x1f]), (70, [0x2a]), (71, [0xb4, 0x00, 0x2b]), (74, [0x15, 0x04]), (76, [0x11, 0x01, 0x00]), (79, [0x68]), (80, [0x15, 0x05]), (82, [0x60]), (83, [0x2a]), (84, [0x15, 0x04]), (86, [0x15, 0x05])] := pf_ok prog_8_method_18_code _ 44 (by decide +kernel)
theorem d_X6_lend_44 : decode prog_8_method_18_code 44 = .ok (.iastore, 1) := gq_0 db00b_58 eb_38
theorem d_X6_lend_45 : decode prog_8_method_18_code 45 = .ok (.iinc 4 1, 3) := gq_1 db00b_58 eb_144
theorem d_X6_lend_48 : decode prog_8_method_18_code 48 = .ok (.goto (-33), 3) := gq_2 db00b_58 eb_399
theorem d_X6_lend_51 : decode prog_8_method_18_code 51 = .ok (.iload_n 2, 1) := gq_3 db00b_58 eb_13
theorem d_X6_lend_52 : decode prog_8_method_18_code 52 = .ok (.iconst 1, 1) := gq_4 db00b_58 eb_19
theorem d_X6_lend_53 : decode prog_8_method_18_code 53 = .ok (.isub, 1) := gq_5 db00b_58 eb_48
theorem d_X6_lend_54 : decode prog_8_method_18_code 54 = .ok (.istore 4, 2) := gq_6 db00b_58 eb_133
theorem d_X6_lend_56 : decode prog_8_method_18_code 56 = .ok (.iload 4, 2) := gq_7 db00b_58 eb_76
theorem d_X6_lend_58 : decode prog_8_method_18_code 58 = .ok (.ifCond .lt 46, 3) := gq_8 db00b_58 eb_400
theorem d_X6_lend_61 : decode prog_8_method_18_code 61 = .ok (.iconst 0, 1) := gq_9 db00b_58 eb_21
theorem d_X6_lend_62 : decode prog_8_method_18_code 62 = .ok (.istore 5, 2) := gq_10 db00b_58 eb_134
theorem d_X6_lend_64 : decode prog_8_method_18_code 64 = .ok (.iload 5, 2) := gq_11 db00b_58 eb_125
theorem d_X6_lend_66 : decode prog_8_method_18_code 66 = .ok (.iload_n 3, 1) := gq_12 db00b_58 eb_29
theorem d_X6_lend_67 : decode prog_8_method_18_code 67 = .ok (.if_icmp .gt 31, 3) := gq_13 db00b_58 eb_401
theorem d_X6_lend_70 : decode prog_8_method_18_code 70 = .ok (.aload_n 0, 1) := gq_14 db00b_58 eb_0
theorem d_X6_lend_71 : decode prog_8_method_18_code 71 = .ok (.getfield 43, 3) := gq_15 db00b_58 eb_283
theorem d_X6_lend_74 : decode prog_8_method_18_code 74 = .ok (.iload 4, 2) := gq_16 db00b_58 eb_76
theorem d_X6_lend_76 : decode prog_8_method_18_code 76 = .ok (.sipush 256, 3) := gq_17 db00b_58 eb_232
theorem d_X6_lend_79 : decode prog_8_method_18_code 79 = .ok (.imul, 1) := gq_18 db00b_58 eb_34
theorem d_X6_lend_80 : decode prog_8_method_18_code 80 = .ok (.iload 5, 2) := gq_19 db00b_58 eb_125
theorem d_X6_lend_82 : decode prog_8_method_18_code 82 = .ok (.iadd, 1) := gq_20 db00b_58 eb_35
theorem d_X6_lend_83 : decode prog_8_method_18_code 83 = .ok (.aload_n 0, 1) := gq_21 db00b_58 eb_0
theorem d_X6_lend_84 : decode prog_8_method_18_code 84 = .ok (.iload 4, 2) := gq_22 db00b_58 eb_76
theorem d_X6_lend_86 : decode prog_8_method_18_code 86 = .ok (.iload 5, 2) := gq_23 db00b_58 eb_125
theorem db00b_59 : Pf_ prog_8_method_18_code [(88, [0xb6, 0x00, 0x8c]), (91, [0x4f]), (92, [0x84, 0x05, 0x01]), (95, [0xa7, 0xff, 0xe1]), (98, [0x84, 0x04, 0xff]), (101, [0xa7, 0xff, 0xd3]), (104, [0x2a]), (105, [0xb4, 0x00, 0x2b]), (108, [0x1d]), (109, [0x2e]), (110, [0x12, 0x8b]), (112, [0xa1, 0x00, 0x05]), (115, [0x03]), (116, [0xac]), (117, [0x2a]), (118, [0x1c]), (119, [0x1d]), (120, [0xb6, 0x00, 0x8f]), (123, [0x04]), (124, [0xac])] := pf_ok prog_8_method_18_code _ 88 (by decide +kernel)
theorem d_X6_lend_88 : decode prog_8_method_18_code 88 = .ok (.invokevirtual 140, 3) := gq_0 db00b_59 eb_402
theorem d_X6_lend_91 : decode prog_8_method_18_code 91 = .ok (.iastore, 1) := gq_1 db00b_59 eb_38
theorem d_X6_lend_92 : decode prog_8_method_18_code 92 = .ok (.iinc 5 1, 3) := gq_2 db00b_59 eb_220
theorem d_X6_lend_95 : decode prog_8_method_18_code 95 = .ok (.goto (-31), 3) := gq_3 db00b_59 eb_403
theorem d_X6_lend_98 : decode prog_8_method_18_code 98 = .ok (.iinc 4 (-1), 3) := gq_4 db00b_59 eb_404
theorem d_X6_lend_101 : decode prog_8_method_18_code 101 = .ok (.goto (-45), 3) := gq_5 db00b_59 eb_251
theorem d_X6_lend_104 : decode prog_8_method_18_code 104 = .ok (.aload_n 0, 1) := gq_6 db00b_59 eb_0
theorem d_X6_lend_105 : decode prog_8_method_18_code 105 = .ok (.getfield 43, 3) := gq_7 db00b_59 eb_283
theorem d_X6_lend_108 : decode prog_8_method_18_code 108 = .ok (.iload_n 3, 1) := gq_8 db00b_59 eb_29
theorem d_X6_lend_109 : decode prog_8_method_18_code 109 = .ok (.iaload, 1) := gq_9 db00b_59 eb_37
theorem d_X6_lend_110 : decode prog_8_method_18_code 110 = .ok (.ldc 139, 2) := gq_10 db00b_59 eb_398
theorem d_X6_lend_112 : decode prog_8_method_18_code 112 = .ok (.if_icmp .lt 5, 3) := gq_11 db00b_59 eb_114
theorem d_X6_lend_115 : decode prog_8_method_18_code 115 = .ok (.iconst 0, 1) := gq_12 db00b_59 eb_21
theorem d_X6_lend_116 : decode prog_8_method_18_code 116 = .ok (.ireturn, 1) := gq_13 db00b_59 eb_15
theorem d_X6_lend_117 : decode prog_8_method_18_code 117 = .ok (.aload_n 0, 1) := gq_14 db00b_59 eb_0
theorem d_X6_lend_118 : decode prog_8_method_18_code 118 = .ok (.iload_n 2, 1) := gq_15 db00b_59 eb_13
theorem d_X6_lend_119 : decode prog_8_method_18_code 119 = .ok (.iload_n 3, 1) := gq_16 db00b_59 eb_29
theorem d_X6_lend_120 : decode prog_8_method_18_code 120 = .ok (.invokevirtual 143, 3) := gq_17 db00b_59 eb_405
theorem d_X6_lend_123 : decode prog_8_method_18_code 123 = .ok (.iconst 1, 1) := gq_18 db00b_59 eb_19
theorem d_X6_lend_124 : decode prog_8_method_18_code 124 = .ok (.ireturn, 1) := gq_19 db00b_59 eb_15
theorem db00b_60 : Pf_ prog_8_method_19_code [(0, [0x2a]), (1, [0xb4, 0x00, 0x28]), (4, [0x1b]), (5, [0x07]), (6, [0x68]), (7, [0x1c]), (8, [0x60]), (9, [0x2e]), (10, [0x36, 0x04]), (12, [0x1d]), (13, [0x05]), (14, [0x1c]), (15, [0x68]), (16, [0x7a]), (17, [0x06]), (18, [0x7e]), (19, [0x99, 0x00, 0x09]), (22, [0x15, 0x04]), (24, [0x02]), (25, [0xa0, 0x00, 0x06]), (28, [0x12, 0x8b]), (30, [0xac]), (31, [0x12, 0x8b]), (33, [0x15, 0x04])] := pf_ok prog_8_method_19_code _ 0 (by decide +kernel)
theorem d_X6_costWith_0 : decode prog_8_method_19_code 0 = .ok (.aload_n 0, 1) := gq_0 db00b_60 eb_0
theorem d_X6_costWith_1 : decode prog_8_method_19_code 1 = .ok (.getfield 40, 3) := gq_1 db00b_60 eb_282
theorem d_X6_costWith_4 : decode prog_8_method_19_code 4 = .ok (.iload_n 1, 1) := gq_2 db00b_60 eb_9
theorem d_X6_costWith_5 : decode prog_8_method_19_code 5 = .ok (.iconst 4, 1) := gq_3 db00b_60 eb_291
theorem d_X6_costWith_6 : decode prog_8_method_19_code 6 = .ok (.imul, 1) := gq_4 db00b_60 eb_34
theorem d_X6_costWith_7 : decode prog_8_method_19_code 7 = .ok (.iload_n 2, 1) := gq_5 db00b_60 eb_13
theorem d_X6_costWith_8 : decode prog_8_method_19_code 8 = .ok (.iadd, 1) := gq_6 db00b_60 eb_35
theorem d_X6_costWith_9 : decode prog_8_method_19_code 9 = .ok (.iaload, 1) := gq_7 db00b_60 eb_37
theorem d_X6_costWith_10 : decode prog_8_method_19_code 10 = .ok (.istore 4, 2) := gq_8 db00b_60 eb_133
theorem d_X6_costWith_12 : decode prog_8_method_19_code 12 = .ok (.iload_n 3, 1) := gq_9 db00b_60 eb_29
theorem d_X6_costWith_13 : decode prog_8_method_19_code 13 = .ok (.iconst 2, 1) := gq_10 db00b_60 eb_10
theorem d_X6_costWith_14 : decode prog_8_method_19_code 14 = .ok (.iload_n 2, 1) := gq_11 db00b_60 eb_13
theorem d_X6_costWith_15 : decode prog_8_method_19_code 15 = .ok (.imul, 1) := gq_12 db00b_60 eb_34
theorem d_X6_costWith_16 : decode prog_8_method_19_code 16 = .ok (.ishr, 1) := gq_13 db00b_60 eb_56
theorem d_X6_costWith_17 : decode prog_8_method_19_code 17 = .ok (.iconst 3, 1) := gq_14 db00b_60 eb_54
theorem d_X6_costWith_18 : decode prog_8_method_19_code 18 = .ok (.iand, 1) := gq_15 db00b_60 eb_55
theorem d_X6_costWith_19 : decode prog_8_method_19_code 19 = .ok (.ifCond .eq 9, 3) := gq_16 db00b_60 eb_249
theorem d_X6_costWith_22 : decode prog_8_method_19_code 22 = .ok (.iload 4, 2) := gq_17 db00b_60 eb_76
theorem d_X6_costWith_24 : decode prog_8_method_19_code 24 = .ok (.iconst (-1), 1) := gq_18 db00b_60 eb_26
theorem d_X6_costWith_25 : decode prog_8_method_19_code 25 = .ok (.if_icmp .ne 6, 3) := gq_19 db00b_60 eb_40
theorem d_X6_costWith_28 : decode prog_8_method_19_code 28 = .ok (.ldc 139, 2) := gq_20 db00b_60 eb_398
theorem d_X6_costWith_30 : decode prog_8_method_19_code 30 = .ok (.ireturn, 1) := gq_21 db00b_60 eb_15
theorem d_X6_costWith_31 : decode prog_8_method_19_code 31 = .ok (.ldc 139, 2) := gq_22 db00b_60 eb_398
theorem d_X6_costWith_33 : decode prog_8_method_19_code 33 = .ok (.iload 4, 2) := gq_23 db00b_60 eb_76
theorem db00b_61 : Pf_ prog_8_method_19_code [(35, [0x2a]), (36, [0xb4, 0x00, 0x2b]), (39, [0x1b]), (40, [0x04]), (41, [0x60]), (42, [0x11, 0x01, 0x00]), (45, [0x68]), (46, [0x1d]), (47, [0x60]), (48, [0x04]), (49, [0x05]), (50, [0x1c]), (51, [0x68]), (52, [0x78]), (53, [0x64]), (54, [0x2e]), (55, [0x60]), (56, [0xb8, 0x00, 0x77]), (59, [0xac])] := pf_ok prog_8_method_19_code _ 35 (by decide +kernel)
theorem d_X6_costWith_35 : decode prog_8_method_19_code 35 = .ok (.aload_n 0, 1) := gq_0 db00b_61 eb_0
theorem d_X6_costWith_36 : decode prog_8_method_19_code 36 = .ok (.getfield 43, 3) := gq_1 db00b_61 eb_283
theorem d_X6_costWith_39 : decode prog_8_method_19_code 39 = .ok (.iload_n 1, 1) := gq_2 db00b_61 eb_9
theorem d_X6_costWith_40 : decode prog_8_method_19_code 40 = .ok (.iconst 1, 1) := gq_3 db00b_61 eb_19
theorem d_X6_costWith_41 : decode prog_8_method_19_code 41 = .ok (.iadd, 1) := gq_4 db00b_61 eb_35
theorem d_X6_costWith_42 : decode prog_8_method_19_code 42 = .ok (.sipush 256, 3) := gq_5 db00b_61 eb_232
theorem d_X6_costWith_45 : decode prog_8_method_19_code 45 = .ok (.imul, 1) := gq_6 db00b_61 eb_34
theorem d_X6_costWith_46 : decode prog_8_method_19_code 46 = .ok (.iload_n 3, 1) := gq_7 db00b_61 eb_29
theorem d_X6_costWith_47 : decode prog_8_method_19_code 47 = .ok (.iadd, 1) := gq_8 db00b_61 eb_35
theorem d_X6_costWith_48 : decode prog_8_method_19_code 48 = .ok (.iconst 1, 1) := gq_9 db00b_61 eb_19
theorem d_X6_costWith_49 : decode prog_8_method_19_code 49 = .ok (.iconst 2, 1) := gq_10 db00b_61 eb_10
theorem d_X6_costWith_50 : decode prog_8_method_19_code 50 = .ok (.iload_n 2, 1) := gq_11 db00b_61 eb_13
theorem d_X6_costWith_51 : decode prog_8_method_19_code 51 = .ok (.imul, 1) := gq_12 db00b_61 eb_34
theorem d_X6_costWith_52 : decode prog_8_method_19_code 52 = .ok (.ishl, 1) := gq_13 db00b_61 eb_11
theorem d_X6_costWith_53 : decode prog_8_method_19_code 53 = .ok (.isub, 1) := gq_14 db00b_61 eb_48
theorem d_X6_costWith_54 : decode prog_8_method_19_code 54 = .ok (.iaload, 1) := gq_15 db00b_61 eb_37
theorem d_X6_costWith_55 : decode prog_8_method_19_code 55 = .ok (.iadd, 1) := gq_16 db00b_61 eb_35
theorem d_X6_costWith_56 : decode prog_8_method_19_code 56 = .ok (.invokestatic 119, 3) := gq_17 db00b_61 eb_386
theorem d_X6_costWith_59 : decode prog_8_method_19_code 59 = .ok (.ireturn, 1) := gq_18 db00b_61 eb_15
theorem db00b_62 : Pf_ prog_8_method_20_code [(0, [0x2a]), (1, [0xb4, 0x00, 0x2b]), (4, [0x1b]), (5, [0x04]), (6, [0x60]), (7, [0x11, 0x01, 0x00]), (10, [0x68]), (11, [0x1c]), (12, [0x60]), (13, [0x2e]), (14, [0x3e]), (15, [0x03]), (16, [0x36, 0x04]), (18, [0x15, 0x04]), (20, [0x2a]), (21, [0xb4, 0x00, 0x83]), (24, [0xa2, 0x00, 0x16]), (27, [0x1d]), (28, [0x2a]), (29, [0x1b]), (30, [0x15, 0x04]), (32, [0x1c]), (33, [0xb6, 0x00, 0x93]), (36, [0xb8, 0x00, 0x77])] := pf_ok prog_8_method_20_code _ 0 (by decide +kernel)
theorem d_X6_leastCost_0 : decode prog_8_method_20_code 0 = .ok (.aload_n 0, 1) := gq_0 db00b_62 eb_0
theorem d_X6_leastCost_1 : decode prog_8_method_20_code 1 = .ok (.getfield 43, 3) := gq_1 db00b_62 eb_283
theorem d_X6_leastCost_4 : decode prog_8_method_20_code 4 = .ok (.iload_n 1, 1) := gq_2 db00b_62 eb_9
theorem d_X6_leastCost_5 : decode prog_8_method_20_code 5 = .ok (.iconst 1, 1) := gq_3 db00b_62 eb_19
theorem d_X6_leastCost_6 : decode prog_8_method_20_code 6 = .ok (.iadd, 1) := gq_4 db00b_62 eb_35
theorem d_X6_leastCost_7 : decode prog_8_method_20_code 7 = .ok (.sipush 256, 3) := gq_5 db00b_62 eb_232
theorem d_X6_leastCost_10 : decode prog_8_method_20_code 10 = .ok (.imul, 1) := gq_6 db00b_62 eb_34
theorem d_X6_leastCost_11 : decode prog_8_method_20_code 11 = .ok (.iload_n 2, 1) := gq_7 db00b_62 eb_13
theorem d_X6_leastCost_12 : decode prog_8_method_20_code 12 = .ok (.iadd, 1) := gq_8 db00b_62 eb_35
theorem d_X6_leastCost_13 : decode prog_8_method_20_code 13 = .ok (.iaload, 1) := gq_9 db00b_62 eb_37
theorem d_X6_leastCost_14 : decode prog_8_method_20_code 14 = .ok (.istore_n 3, 1) := gq_10 db00b_62 eb_28
theorem d_X6_leastCost_15 : decode prog_8_method_20_code 15 = .ok (.iconst 0, 1) := gq_11 db00b_62 eb_21
theorem d_X6_leastCost_16 : decode prog_8_method_20_code 16 = .ok (.istore 4, 2) := gq_12 db00b_62 eb_133
theorem d_X6_leastCost_18 : decode prog_8_method_20_code 18 = .ok (.iload 4, 2) := gq_13 db00b_62 eb_76
theorem d_X6_leastCost_20 : decode prog_8_method_20_code 20 = .ok (.aload_n 0, 1) := gq_14 db00b_62 eb_0
theorem d_X6_leastCost_21 : decode prog_8_method_20_code 21 = .ok (.getfield 131, 3) := gq_15 db00b_62 eb_392
theorem d_X6_leastCost_24 : decode prog_8_method_20_code 24 = .ok (.if_icmp .ge 22, 3) := gq_16 db00b_62 eb_395
theorem d_X6_leastCost_27 : decode prog_8_method_20_code 27 = .ok (.iload_n 3, 1) := gq_17 db00b_62 eb_29
theorem d_X6_leastCost_28 : decode prog_8_method_20_code 28 = .ok (.aload_n 0, 1) := gq_18 db00b_62 eb_0
theorem d_X6_leastCost_29 : decode prog_8_method_20_code 29 = .ok (.iload_n 1, 1) := gq_19 db00b_62 eb_9
theorem d_X6_leastCost_30 : decode prog_8_method_20_code 30 = .ok (.iload 4, 2) := gq_20 db00b_62 eb_76
theorem d_X6_leastCost_32 : decode prog_8_method_20_code 32 = .ok (.iload_n 2, 1) := gq_21 db00b_62 eb_13
theorem d_X6_leastCost_33 : decode prog_8_method_20_code 33 = .ok (.invokevirtual 147, 3) := gq_22 db00b_62 eb_406
theorem d_X6_leastCost_36 : decode prog_8_method_20_code 36 = .ok (.invokestatic 119, 3) := gq_23 db00b_62 eb_386
theorem db00b_63 : Pf_ prog_8_method_20_code [(39, [0x3e]), (40, [0x84, 0x04, 0x01]), (43, [0xa7, 0xff, 0xe7]), (46, [0x1d]), (47, [0xac])] := pf_ok prog_8_method_20_code _ 39 (by decide +kernel)
theorem d_X6_leastCost_39 : decode prog_8_method_20_code 39 = .ok (.istore_n 3, 1) := gq_0 db00b_63 eb_28
theorem d_X6_leastCost_40 : decode prog_8_method_20_code 40 = .ok (.iinc 4 1, 3) := gq_1 db00b_63 eb_144
theorem d_X6_leastCost_43 : decode prog_8_method_20_code 43 = .ok (.goto (-25), 3) := gq_2 db00b_63 eb_407
theorem d_X6_leastCost_46 : decode prog_8_method_20_code 46 = .ok (.iload_n 3, 1) := gq_3 db00b_63 eb_29
theorem d_X6_leastCost_47 : decode prog_8_method_20_code 47 = .ok (.ireturn, 1) := gq_4 db00b_63 eb_15
theorem db00b_64 : Pf_ prog_8_method_21_code [(0, [0x1c]), (1, [0x3e]), (2, [0x03]), (3, [0x36, 0x04]), (5, [0x15, 0x04]), (7, [0x1b]), (8, [0xa2, 0x00, 0x74]), (11, [0x2a]), (12, [0xb4, 0x00, 0x2e]), (15, [0x15, 0x04]), (17, [0x02]), (18, [0x4f]), (19, [0x03]), (20, [0x36, 0x05]), (22, [0x15, 0x05]), (24, [0x2a]), (25, [0xb4, 0x00, 0x83]), (28, [0xa2, 0x00, 0x41]), (31, [0x2a]), (32, [0xb4, 0x00, 0x2e]), (35, [0x15, 0x04]), (37, [0x2e]), (38, [0x02]), (39, [0xa0, 0x00, 0x36])] := pf_ok prog_8_method_21_code _ 0 (by decide +kernel)
theorem d_X6_traceLending_0 : decode prog_8_method_21_code 0 = .ok (.iload_n 2, 1) := gq_0 db00b_64 eb_13
theorem d_X6_traceLending_1 : decode prog_8_method_21_code 1 = .ok (.istore_n 3, 1) := gq_1 db00b_64 eb_28
theorem d_X6_traceLending_2 : decode prog_8_method_21_code 2 = .ok (.iconst 0, 1) := gq_2 db00b_64 eb_21
theorem d_X6_traceLending_3 : decode prog_8_method_21_code 3 = .ok (.istore 4, 2) := gq_3 db00b_64 eb_133
theorem d_X6_traceLending_5 : decode prog_8_method_21_code 5 = .ok (.iload 4, 2) := gq_4 db00b_64 eb_76
theorem d_X6_traceLending_7 : decode prog_8_method_21_code 7 = .ok (.iload_n 1, 1) := gq_5 db00b_64 eb_9
theorem d_X6_traceLending_8 : decode prog_8_method_21_code 8 = .ok (.if_icmp .ge 116, 3) := gq_6 db00b_64 eb_408
theorem d_X6_traceLending_11 : decode prog_8_method_21_code 11 = .ok (.aload_n 0, 1) := gq_7 db00b_64 eb_0
theorem d_X6_traceLending_12 : decode prog_8_method_21_code 12 = .ok (.getfield 46, 3) := gq_8 db00b_64 eb_284
theorem d_X6_traceLending_15 : decode prog_8_method_21_code 15 = .ok (.iload 4, 2) := gq_9 db00b_64 eb_76
theorem d_X6_traceLending_17 : decode prog_8_method_21_code 17 = .ok (.iconst (-1), 1) := gq_10 db00b_64 eb_26
theorem d_X6_traceLending_18 : decode prog_8_method_21_code 18 = .ok (.iastore, 1) := gq_11 db00b_64 eb_38
theorem d_X6_traceLending_19 : decode prog_8_method_21_code 19 = .ok (.iconst 0, 1) := gq_12 db00b_64 eb_21
theorem d_X6_traceLending_20 : decode prog_8_method_21_code 20 = .ok (.istore 5, 2) := gq_13 db00b_64 eb_134
theorem d_X6_traceLending_22 : decode prog_8_method_21_code 22 = .ok (.iload 5, 2) := gq_14 db00b_64 eb_125
theorem d_X6_traceLending_24 : decode prog_8_method_21_code 24 = .ok (.aload_n 0, 1) := gq_15 db00b_64 eb_0
theorem d_X6_traceLending_25 : decode prog_8_method_21_code 25 = .ok (.getfield 131, 3) := gq_16 db00b_64 eb_392
theorem d_X6_traceLending_28 : decode prog_8_method_21_code 28 = .ok (.if_icmp .ge 65, 3) := gq_17 db00b_64 eb_223
theorem d_X6_traceLending_31 : decode prog_8_method_21_code 31 = .ok (.aload_n 0, 1) := gq_18 db00b_64 eb_0
theorem d_X6_traceLending_32 : decode prog_8_method_21_code 32 = .ok (.getfield 46, 3) := gq_19 db00b_64 eb_284
theorem d_X6_traceLending_35 : decode prog_8_method_21_code 35 = .ok (.iload 4, 2) := gq_20 db00b_64 eb_76
theorem d_X6_traceLending_37 : decode prog_8_method_21_code 37 = .ok (.iaload, 1) := gq_21 db00b_64 eb_37
theorem d_X6_traceLending_38 : decode prog_8_method_21_code 38 = .ok (.iconst (-1), 1) := gq_22 db00b_64 eb_26
theorem d_X6_traceLending_39 : decode prog_8_method_21_code 39 = .ok (.if_icmp .ne 54, 3) := gq_23 db00b_64 eb_409
theorem db00b_65 : Pf_ prog_8_method_21_code [(42, [0x2a]), (43, [0x15, 0x04]), (45, [0x15, 0x05]), (47, [0x1d]), (48, [0xb6, 0x00, 0x93]), (51, [0x36, 0x06]), (53, [0x15, 0x06]), (55, [0x12, 0x8b]), (57, [0xa2, 0x00, 0x1e]), (60, [0x15, 0x06]), (62, [0x2a]), (63, [0xb4, 0x00, 0x2b]), (66, [0x15, 0x04]), (68, [0x11, 0x01, 0x00]), (71, [0x68]), (72, [0x1d]), (73, [0x60]), (74, [0x2e]), (75, [0xa0, 0x00, 0x0c]), (78, [0x2a]), (79, [0xb4, 0x00, 0x2e]), (82, [0x15, 0x04]), (84, [0x15, 0x05]), (86, [0x4f])] := pf_ok prog_8_method_21_code _ 42 (by decide +kernel)
theorem d_X6_traceLending_42 : decode prog_8_method_21_code 42 = .ok (.aload_n 0, 1) := gq_0 db00b_65 eb_0
theorem d_X6_traceLending_43 : decode prog_8_method_21_code 43 = .ok (.iload 4, 2) := gq_1 db00b_65 eb_76
theorem d_X6_traceLending_45 : decode prog_8_method_21_code 45 = .ok (.iload 5, 2) := gq_2 db00b_65 eb_125
theorem d_X6_traceLending_47 : decode prog_8_method_21_code 47 = .ok (.iload_n 3, 1) := gq_3 db00b_65 eb_29
theorem d_X6_traceLending_48 : decode prog_8_method_21_code 48 = .ok (.invokevirtual 147, 3) := gq_4 db00b_65 eb_406
theorem d_X6_traceLending_51 : decode prog_8_method_21_code 51 = .ok (.istore 6, 2) := gq_5 db00b_65 eb_58
theorem d_X6_traceLending_53 : decode prog_8_method_21_code 53 = .ok (.iload 6, 2) := gq_6 db00b_65 eb_75
theorem d_X6_traceLending_55 : decode prog_8_method_21_code 55 = .ok (.ldc 139, 2) := gq_7 db00b_65 eb_398
theorem d_X6_traceLending_57 : decode prog_8_method_21_code 57 = .ok (.if_icmp .ge 30, 3) := gq_8 db00b_65 eb_247
theorem d_X6_traceLending_60 : decode prog_8_method_21_code 60 = .ok (.iload 6, 2) := gq_9 db00b_65 eb_75
theorem d_X6_traceLending_62 : decode prog_8_method_21_code 62 = .ok (.aload_n 0, 1) := gq_10 db00b_65 eb_0
theorem d_X6_traceLending_63 : decode prog_8_method_21_code 63 = .ok (.getfield 43, 3) := gq_11 db00b_65 eb_283
theorem d_X6_traceLending_66 : decode prog_8_method_21_code 66 = .ok (.iload 4, 2) := gq_12 db00b_65 eb_76
theorem d_X6_traceLending_68 : decode prog_8_method_21_code 68 = .ok (.sipush 256, 3) := gq_13 db00b_65 eb_232
theorem d_X6_traceLending_71 : decode prog_8_method_21_code 71 = .ok (.imul, 1) := gq_14 db00b_65 eb_34
theorem d_X6_traceLending_72 : decode prog_8_method_21_code 72 = .ok (.iload_n 3, 1) := gq_15 db00b_65 eb_29
theorem d_X6_traceLending_73 : decode prog_8_method_21_code 73 = .ok (.iadd, 1) := gq_16 db00b_65 eb_35
theorem d_X6_traceLending_74 : decode prog_8_method_21_code 74 = .ok (.iaload, 1) := gq_17 db00b_65 eb_37
theorem d_X6_traceLending_75 : decode prog_8_method_21_code 75 = .ok (.if_icmp .ne 12, 3) := gq_18 db00b_65 eb_410
theorem d_X6_traceLending_78 : decode prog_8_method_21_code 78 = .ok (.aload_n 0, 1) := gq_19 db00b_65 eb_0
theorem d_X6_traceLending_79 : decode prog_8_method_21_code 79 = .ok (.getfield 46, 3) := gq_20 db00b_65 eb_284
theorem d_X6_traceLending_82 : decode prog_8_method_21_code 82 = .ok (.iload 4, 2) := gq_21 db00b_65 eb_76
theorem d_X6_traceLending_84 : decode prog_8_method_21_code 84 = .ok (.iload 5, 2) := gq_22 db00b_65 eb_125
theorem d_X6_traceLending_86 : decode prog_8_method_21_code 86 = .ok (.iastore, 1) := gq_23 db00b_65 eb_38
theorem db00b_66 : Pf_ prog_8_method_21_code [(87, [0x84, 0x05, 0x01]), (90, [0xa7, 0xff, 0xbc]), (93, [0x2a]), (94, [0xb4, 0x00, 0x2e]), (97, [0x15, 0x04]), (99, [0x2e]), (100, [0x02]), (101, [0x9f, 0x00, 0x11]), (104, [0x1d]), (105, [0x04]), (106, [0x05]), (107, [0x2a]), (108, [0xb4, 0x00, 0x2e]), (111, [0x15, 0x04]), (113, [0x2e]), (114, [0x68]), (115, [0x78]), (116, [0x64]), (117, [0x3e]), (118, [0x84, 0x04, 0x01]), (121, [0xa7, 0xff, 0x8c]), (124, [0xb1])] := pf_ok prog_8_method_21_code _ 87 (by decide +kernel)
theorem d_X6_traceLending_87 : decode prog_8_method_21_code 87 = .ok (.iinc 5 1, 3) := gq_0 db00b_66 eb_220
theorem d_X6_traceLending_90 : decode prog_8_method_21_code 90 = .ok (.goto (-68), 3) := gq_1 db00b_66 eb_255
theorem d_X6_traceLending_93 : decode prog_8_method_21_code 93 = .ok (.aload_n 0, 1) := gq_2 db00b_66 eb_0
theorem d_X6_traceLending_94 : decode prog_8_method_21_code 94 = .ok (.getfield 46, 3) := gq_3 db00b_66 eb_284
theorem d_X6_traceLending_97 : decode prog_8_method_21_code 97 = .ok (.iload 4, 2) := gq_4 db00b_66 eb_76
theorem d_X6_traceLending_99 : decode prog_8_method_21_code 99 = .ok (.iaload, 1) := gq_5 db00b_66 eb_37
theorem d_X6_traceLending_100 : decode prog_8_method_21_code 100 = .ok (.iconst (-1), 1) := gq_6 db00b_66 eb_26
theorem d_X6_traceLending_101 : decode prog_8_method_21_code 101 = .ok (.if_icmp .eq 17, 3) := gq_7 db00b_66 eb_411
theorem d_X6_traceLending_104 : decode prog_8_method_21_code 104 = .ok (.iload_n 3, 1) := gq_8 db00b_66 eb_29
theorem d_X6_traceLending_105 : decode prog_8_method_21_code 105 = .ok (.iconst 1, 1) := gq_9 db00b_66 eb_19
theorem d_X6_traceLending_106 : decode prog_8_method_21_code 106 = .ok (.iconst 2, 1) := gq_10 db00b_66 eb_10
theorem d_X6_traceLending_107 : decode prog_8_method_21_code 107 = .ok (.aload_n 0, 1) := gq_11 db00b_66 eb_0
theorem d_X6_traceLending_108 : decode prog_8_method_21_code 108 = .ok (.getfield 46, 3) := gq_12 db00b_66 eb_284
theorem d_X6_traceLending_111 : decode prog_8_method_21_code 111 = .ok (.iload 4, 2) := gq_13 db00b_66 eb_76
theorem d_X6_traceLending_113 : decode prog_8_method_21_code 113 = .ok (.iaload, 1) := gq_14 db00b_66 eb_37
theorem d_X6_traceLending_114 : decode prog_8_method_21_code 114 = .ok (.imul, 1) := gq_15 db00b_66 eb_34
theorem d_X6_traceLending_115 : decode prog_8_method_21_code 115 = .ok (.ishl, 1) := gq_16 db00b_66 eb_11
theorem d_X6_traceLending_116 : decode prog_8_method_21_code 116 = .ok (.isub, 1) := gq_17 db00b_66 eb_48
theorem d_X6_traceLending_117 : decode prog_8_method_21_code 117 = .ok (.istore_n 3, 1) := gq_18 db00b_66 eb_28
theorem d_X6_traceLending_118 : decode prog_8_method_21_code 118 = .ok (.iinc 4 1, 3) := gq_19 db00b_66 eb_144
theorem d_X6_traceLending_121 : decode prog_8_method_21_code 121 = .ok (.goto (-116), 3) := gq_20 db00b_66 eb_412
theorem d_X6_traceLending_124 : decode prog_8_method_21_code 124 = .ok (.return_, 1) := gq_21 db00b_66 eb_7
theorem db00b_67 : Pf_ prog_8_method_22_code [(0, [0x2a]), (1, [0xb4, 0x00, 0x2b]), (4, [0x2a]), (5, [0xb6, 0x00, 0x87]), (8, [0x2e]), (9, [0x12, 0x86]), (11, [0x6c]), (12, [0xac])] := pf_ok prog_8_method_22_code _ 0 (by decide +kernel)
theorem d_X6_pointsLost_0 : decode prog_8_method_22_code 0 = .ok (.aload_n 0, 1) := gq_0 db00b_67 eb_0
theorem d_X6_pointsLost_1 : decode prog_8_method_22_code 1 = .ok (.getfield 43, 3) := gq_1 db00b_67 eb_283
theorem d_X6_pointsLost_4 : decode prog_8_method_22_code 4 = .ok (.aload_n 0, 1) := gq_2 db00b_67 eb_0
theorem d_X6_pointsLost_5 : decode prog_8_method_22_code 5 = .ok (.invokevirtual 135, 3) := gq_3 db00b_67 eb_396
theorem d_X6_pointsLost_8 : decode prog_8_method_22_code 8 = .ok (.iaload, 1) := gq_4 db00b_67 eb_37
theorem d_X6_pointsLost_9 : decode prog_8_method_22_code 9 = .ok (.ldc 134, 2) := gq_5 db00b_67 eb_394
theorem d_X6_pointsLost_11 : decode prog_8_method_22_code 11 = .ok (.idiv, 1) := gq_6 db00b_67 eb_219
theorem d_X6_pointsLost_12 : decode prog_8_method_22_code 12 = .ok (.ireturn, 1) := gq_7 db00b_67 eb_15
theorem db00b_68 : Pf_ prog_8_method_23_code [(0, [0x2a]), (1, [0xb4, 0x00, 0x2b]), (4, [0x2a]), (5, [0xb6, 0x00, 0x87]), (8, [0x2e]), (9, [0x12, 0x86]), (11, [0x70]), (12, [0xac])] := pf_ok prog_8_method_23_code _ 0 (by decide +kernel)
theorem d_X6_minutesWalked_0 : decode prog_8_method_23_code 0 = .ok (.aload_n 0, 1) := gq_0 db00b_68 eb_0
theorem d_X6_minutesWalked_1 : decode prog_8_method_23_code 1 = .ok (.getfield 43, 3) := gq_1 db00b_68 eb_283
theorem d_X6_minutesWalked_4 : decode prog_8_method_23_code 4 = .ok (.aload_n 0, 1) := gq_2 db00b_68 eb_0
theorem d_X6_minutesWalked_5 : decode prog_8_method_23_code 5 = .ok (.invokevirtual 135, 3) := gq_3 db00b_68 eb_396
theorem d_X6_minutesWalked_8 : decode prog_8_method_23_code 8 = .ok (.iaload, 1) := gq_4 db00b_68 eb_37
theorem d_X6_minutesWalked_9 : decode prog_8_method_23_code 9 = .ok (.ldc 134, 2) := gq_5 db00b_68 eb_394
theorem d_X6_minutesWalked_11 : decode prog_8_method_23_code 11 = .ok (.irem, 1) := gq_6 db00b_68 eb_218
theorem d_X6_minutesWalked_12 : decode prog_8_method_23_code 12 = .ok (.ireturn, 1) := gq_7 db00b_68 eb_15
theorem db00b_69 : Pf_ prog_8_method_24_code [(0, [0x1b]), (1, [0x03]), (2, [0x10, 0x0b]), (4, [0xb8, 0x00, 0x4f]), (7, [0x99, 0x00, 0x0c]), (10, [0x2a]), (11, [0xb4, 0x00, 0x2e]), (14, [0x1b]), (15, [0x2e]), (16, [0xa7, 0x00, 0x04]), (19, [0x02]), (20, [0xac])] := pf_ok prog_8_method_24_code _ 0 (by decide +kernel)
theorem d_X6_fairOf_0 : decode prog_8_method_24_code 0 = .ok (.iload_n 1, 1) := gq_0 db00b_69 eb_9
theorem d_X6_fairOf_1 : decode prog_8_method_24_code 1 = .ok (.iconst 0, 1) := gq_1 db00b_69 eb_21
theorem d_X6_fairOf_2 : decode prog_8_method_24_code 2 = .ok (.bipush 11, 2) := gq_2 db00b_69 eb_328
theorem d_X6_fairOf_4 : decode prog_8_method_24_code 4 = .ok (.invokestatic 79, 3) := gq_3 db00b_69 eb_151
theorem d_X6_fairOf_7 : decode prog_8_method_24_code 7 = .ok (.ifCond .eq 12, 3) := gq_4 db00b_69 eb_50
theorem d_X6_fairOf_10 : decode prog_8_method_24_code 10 = .ok (.aload_n 0, 1) := gq_5 db00b_69 eb_0
theorem d_X6_fairOf_11 : decode prog_8_method_24_code 11 = .ok (.getfield 46, 3) := gq_6 db00b_69 eb_284
theorem d_X6_fairOf_14 : decode prog_8_method_24_code 14 = .ok (.iload_n 1, 1) := gq_7 db00b_69 eb_9
theorem d_X6_fairOf_15 : decode prog_8_method_24_code 15 = .ok (.iaload, 1) := gq_8 db00b_69 eb_37
theorem d_X6_fairOf_16 : decode prog_8_method_24_code 16 = .ok (.goto 4, 3) := gq_9 db00b_69 eb_20
theorem d_X6_fairOf_19 : decode prog_8_method_24_code 19 = .ok (.iconst (-1), 1) := gq_10 db00b_69 eb_26
theorem d_X6_fairOf_20 : decode prog_8_method_24_code 20 = .ok (.ireturn, 1) := gq_11 db00b_69 eb_15
theorem d_X7_init_8 : decode prog_9_method_1_code 8 = .ok (.newarray .int, 2) := by decide +kernel
theorem d_X7_init_17 : decode prog_9_method_1_code 17 = .ok (.newarray .int, 2) := by decide +kernel
theorem d_X7_init_26 : decode prog_9_method_1_code 26 = .ok (.newarray .int, 2) := by decide +kernel
theorem d_X7_init_35 : decode prog_9_method_1_code 35 = .ok (.newarray .int, 2) := by decide +kernel
theorem d_X7_init_44 : decode prog_9_method_1_code 44 = .ok (.newarray .int, 2) := by decide +kernel
theorem d_X7_init_53 : decode prog_9_method_1_code 53 = .ok (.newarray .int, 2) := by decide +kernel
theorem d_X7_init_62 : decode prog_9_method_1_code 62 = .ok (.newarray .int, 2) := by decide +kernel
theorem db00b_70 : Pf_ prog_9_method_1_code [(0, [0x2a]), (1, [0xb7, 0x00, 0x03]), (4, [0x2a]), (5, [0x11, 0x01, 0x90]), (10, [0xb5, 0x00, 0x0b]), (13, [0x2a]), (14, [0x11, 0x01, 0x90]), (19, [0xb5, 0x00, 0x0f]), (22, [0x2a]), (23, [0x11, 0x01, 0x90]), (28, [0xb5, 0x00, 0x12]), (31, [0x2a]), (32, [0x11, 0x01, 0x90]), (37, [0xb5, 0x00, 0x15]), (40, [0x2a]), (41, [0x11, 0x01, 0x90]), (46, [0xb5, 0x00, 0x18]), (49, [0x2a]), (50, [0x11, 0x01, 0x90]), (55, [0xb5, 0x00, 0x1b]), (58, [0x2a]), (59, [0x11, 0x01, 0x90]), (64, [0xb5, 0x00, 0x1e]), (67, [0x2a])] := pf_ok prog_9_method_1_code _ 0 (by decide +kernel)
theorem d_X7_init_0 : decode prog_9_method_1_code 0 = .ok (.aload_n 0, 1) := gq_0 db00b_70 eb_0
theorem d_X7_init_1 : decode prog_9_method_1_code 1 = .ok (.invokespecial 3, 3) := gq_1 db00b_70 eb_1
theorem d_X7_init_4 : decode prog_9_method_1_code 4 = .ok (.aload_n 0, 1) := gq_2 db00b_70 eb_0
theorem d_X7_init_5 : decode prog_9_method_1_code 5 = .ok (.sipush 400, 3) := gq_3 db00b_70 eb_413
theorem d_X7_init_10 : decode prog_9_method_1_code 10 = .ok (.putfield 11, 3) := gq_4 db00b_70 eb_3
theorem d_X7_init_13 : decode prog_9_method_1_code 13 = .ok (.aload_n 0, 1) := gq_5 db00b_70 eb_0
theorem d_X7_init_14 : decode prog_9_method_1_code 14 = .ok (.sipush 400, 3) := gq_6 db00b_70 eb_413
theorem d_X7_init_19 : decode prog_9_method_1_code 19 = .ok (.putfield 15, 3) := gq_7 db00b_70 eb_5
theorem d_X7_init_22 : decode prog_9_method_1_code 22 = .ok (.aload_n 0, 1) := gq_8 db00b_70 eb_0
theorem d_X7_init_23 : decode prog_9_method_1_code 23 = .ok (.sipush 400, 3) := gq_9 db00b_70 eb_413
theorem d_X7_init_28 : decode prog_9_method_1_code 28 = .ok (.putfield 18, 3) := gq_10 db00b_70 eb_6
theorem d_X7_init_31 : decode prog_9_method_1_code 31 = .ok (.aload_n 0, 1) := gq_11 db00b_70 eb_0
theorem d_X7_init_32 : decode prog_9_method_1_code 32 = .ok (.sipush 400, 3) := gq_12 db00b_70 eb_413
theorem d_X7_init_37 : decode prog_9_method_1_code 37 = .ok (.putfield 21, 3) := gq_13 db00b_70 eb_47
theorem d_X7_init_40 : decode prog_9_method_1_code 40 = .ok (.aload_n 0, 1) := gq_14 db00b_70 eb_0
theorem d_X7_init_41 : decode prog_9_method_1_code 41 = .ok (.sipush 400, 3) := gq_15 db00b_70 eb_413
theorem d_X7_init_46 : decode prog_9_method_1_code 46 = .ok (.putfield 24, 3) := gq_16 db00b_70 eb_95
theorem d_X7_init_49 : decode prog_9_method_1_code 49 = .ok (.aload_n 0, 1) := gq_17 db00b_70 eb_0
theorem d_X7_init_50 : decode prog_9_method_1_code 50 = .ok (.sipush 400, 3) := gq_18 db00b_70 eb_413
theorem d_X7_init_55 : decode prog_9_method_1_code 55 = .ok (.putfield 27, 3) := gq_19 db00b_70 eb_97
theorem d_X7_init_58 : decode prog_9_method_1_code 58 = .ok (.aload_n 0, 1) := gq_20 db00b_70 eb_0
theorem d_X7_init_59 : decode prog_9_method_1_code 59 = .ok (.sipush 400, 3) := gq_21 db00b_70 eb_413
theorem d_X7_init_64 : decode prog_9_method_1_code 64 = .ok (.putfield 30, 3) := gq_22 db00b_70 eb_98
theorem d_X7_init_67 : decode prog_9_method_1_code 67 = .ok (.aload_n 0, 1) := gq_23 db00b_70 eb_0
theorem d_X7_init_71 : decode prog_9_method_1_code 71 = .ok (.newarray .int, 2) := by decide +kernel
theorem d_X7_init_80 : decode prog_9_method_1_code 80 = .ok (.newarray .int, 2) := by decide +kernel
theorem d_X7_init_89 : decode prog_9_method_1_code 89 = .ok (.newarray .int, 2) := by decide +kernel
theorem db00b_71 : Pf_ prog_9_method_1_code [(68, [0x11, 0x00, 0xc8]), (73, [0xb5, 0x00, 0x21]), (76, [0x2a]), (77, [0x11, 0x00, 0xc8]), (82, [0xb5, 0x00, 0x24]), (85, [0x2a]), (86, [0x11, 0x00, 0xc8]), (91, [0xb5, 0x00, 0x27]), (94, [0xb1])] := pf_ok prog_9_method_1_code _ 68 (by decide +kernel)
theorem d_X7_init_68 : decode prog_9_method_1_code 68 = .ok (.sipush 200, 3) := gq_0 db00b_71 eb_96
theorem d_X7_init_73 : decode prog_9_method_1_code 73 = .ok (.putfield 33, 3) := gq_1 db00b_71 eb_100
theorem d_X7_init_76 : decode prog_9_method_1_code 76 = .ok (.aload_n 0, 1) := gq_2 db00b_71 eb_0
theorem d_X7_init_77 : decode prog_9_method_1_code 77 = .ok (.sipush 200, 3) := gq_3 db00b_71 eb_96
theorem d_X7_init_82 : decode prog_9_method_1_code 82 = .ok (.putfield 36, 3) := gq_4 db00b_71 eb_102
theorem d_X7_init_85 : decode prog_9_method_1_code 85 = .ok (.aload_n 0, 1) := gq_5 db00b_71 eb_0
theorem d_X7_init_86 : decode prog_9_method_1_code 86 = .ok (.sipush 200, 3) := gq_6 db00b_71 eb_96
theorem d_X7_init_91 : decode prog_9_method_1_code 91 = .ok (.putfield 39, 3) := gq_7 db00b_71 eb_103
theorem d_X7_init_94 : decode prog_9_method_1_code 94 = .ok (.return_, 1) := gq_8 db00b_71 eb_7
theorem db00b_72 : Pf_ prog_9_method_2_code [(0, [0x1b]), (1, [0x9b, 0x00, 0x0f]), (4, [0x1b]), (5, [0x2a]), (6, [0xb4, 0x00, 0x2a]), (9, [0xa2, 0x00, 0x07]), (12, [0x04]), (13, [0xa7, 0x00, 0x04]), (16, [0x03]), (17, [0xac])] := pf_ok prog_9_method_2_code _ 0 (by decide +kernel)
theorem d_X7_has_0 : decode prog_9_method_2_code 0 = .ok (.iload_n 1, 1) := gq_0 db00b_72 eb_9
theorem d_X7_has_1 : decode prog_9_method_2_code 1 = .ok (.ifCond .lt 15, 3) := gq_1 db00b_72 eb_16
theorem d_X7_has_4 : decode prog_9_method_2_code 4 = .ok (.iload_n 1, 1) := gq_2 db00b_72 eb_9
theorem d_X7_has_5 : decode prog_9_method_2_code 5 = .ok (.aload_n 0, 1) := gq_3 db00b_72 eb_0
theorem d_X7_has_6 : decode prog_9_method_2_code 6 = .ok (.getfield 42, 3) := gq_4 db00b_72 eb_177
theorem d_X7_has_9 : decode prog_9_method_2_code 9 = .ok (.if_icmp .ge 7, 3) := gq_5 db00b_72 eb_18
theorem d_X7_has_12 : decode prog_9_method_2_code 12 = .ok (.iconst 1, 1) := gq_6 db00b_72 eb_19
theorem d_X7_has_13 : decode prog_9_method_2_code 13 = .ok (.goto 4, 3) := gq_7 db00b_72 eb_20
theorem d_X7_has_16 : decode prog_9_method_2_code 16 = .ok (.iconst 0, 1) := gq_8 db00b_72 eb_21
theorem d_X7_has_17 : decode prog_9_method_2_code 17 = .ok (.ireturn, 1) := gq_9 db00b_72 eb_15
theorem db00b_73 : Pf_ prog_9_method_3_code [(0, [0x2a]), (1, [0xb4, 0x00, 0x2a]), (4, [0x1b]), (5, [0x60]), (6, [0x11, 0x01, 0x90]), (9, [0xa3, 0x00, 0x07]), (12, [0x04]), (13, [0xa7, 0x00, 0x04]), (16, [0x03]), (17, [0xac])] := pf_ok prog_9_method_3_code _ 0 (by decide +kernel)
theorem d_X7_hasRoom_0 : decode prog_9_method_3_code 0 = .ok (.aload_n 0, 1) := gq_0 db00b_73 eb_0
theorem d_X7_hasRoom_1 : decode prog_9_method_3_code 1 = .ok (.getfield 42, 3) := gq_1 db00b_73 eb_177
theorem d_X7_hasRoom_4 : decode prog_9_method_3_code 4 = .ok (.iload_n 1, 1) := gq_2 db00b_73 eb_9
theorem d_X7_hasRoom_5 : decode prog_9_method_3_code 5 = .ok (.iadd, 1) := gq_3 db00b_73 eb_35
theorem d_X7_hasRoom_6 : decode prog_9_method_3_code 6 = .ok (.sipush 400, 3) := gq_4 db00b_73 eb_413
theorem d_X7_hasRoom_9 : decode prog_9_method_3_code 9 = .ok (.if_icmp .gt 7, 3) := gq_5 db00b_73 eb_113
theorem d_X7_hasRoom_12 : decode prog_9_method_3_code 12 = .ok (.iconst 1, 1) := gq_6 db00b_73 eb_19
theorem d_X7_hasRoom_13 : decode prog_9_method_3_code 13 = .ok (.goto 4, 3) := gq_7 db00b_73 eb_20
theorem d_X7_hasRoom_16 : decode prog_9_method_3_code 16 = .ok (.iconst 0, 1) := gq_8 db00b_73 eb_21
theorem d_X7_hasRoom_17 : decode prog_9_method_3_code 17 = .ok (.ireturn, 1) := gq_9 db00b_73 eb_15
theorem db00b_74 : Pf_ prog_9_method_4_code [(0, [0x2a]), (1, [0xb4, 0x00, 0x2a]), (4, [0x11, 0x01, 0x90]), (7, [0xa2, 0x00, 0x36]), (10, [0x2a]), (11, [0xb4, 0x00, 0x0b]), (14, [0x2a]), (15, [0xb4, 0x00, 0x2a]), (18, [0x1b]), (19, [0x4f]), (20, [0x2a]), (21, [0xb4, 0x00, 0x0f]), (24, [0x2a]), (25, [0xb4, 0x00, 0x2a]), (28, [0x1c]), (29, [0x4f]), (30, [0x2a]), (31, [0xb4, 0x00, 0x12]), (34, [0x2a]), (35, [0xb4, 0x00, 0x2a]), (38, [0x1d]), (39, [0x4f]), (40, [0x2a]), (41, [0xb4, 0x00, 0x15])] := pf_ok prog_9_method_4_code _ 0 (by decide +kernel)
theorem d_X7_write_0 : decode prog_9_method_4_code 0 = .ok (.aload_n 0, 1) := gq_0 db00b_74 eb_0
theorem d_X7_write_1 : decode prog_9_method_4_code 1 = .ok (.getfield 42, 3) := gq_1 db00b_74 eb_177
theorem d_X7_write_4 : decode prog_9_method_4_code 4 = .ok (.sipush 400, 3) := gq_2 db00b_74 eb_413
theorem d_X7_write_7 : decode prog_9_method_4_code 7 = .ok (.if_icmp .ge 54, 3) := gq_3 db00b_74 eb_372
theorem d_X7_write_10 : decode prog_9_method_4_code 10 = .ok (.aload_n 0, 1) := gq_4 db00b_74 eb_0
theorem d_X7_write_11 : decode prog_9_method_4_code 11 = .ok (.getfield 11, 3) := gq_5 db00b_74 eb_32
theorem d_X7_write_14 : decode prog_9_method_4_code 14 = .ok (.aload_n 0, 1) := gq_6 db00b_74 eb_0
theorem d_X7_write_15 : decode prog_9_method_4_code 15 = .ok (.getfield 42, 3) := gq_7 db00b_74 eb_177
theorem d_X7_write_18 : decode prog_9_method_4_code 18 = .ok (.iload_n 1, 1) := gq_8 db00b_74 eb_9
theorem d_X7_write_19 : decode prog_9_method_4_code 19 = .ok (.iastore, 1) := gq_9 db00b_74 eb_38
theorem d_X7_write_20 : decode prog_9_method_4_code 20 = .ok (.aload_n 0, 1) := gq_10 db00b_74 eb_0
theorem d_X7_write_21 : decode prog_9_method_4_code 21 = .ok (.getfield 15, 3) := gq_11 db00b_74 eb_44
theorem d_X7_write_24 : decode prog_9_method_4_code 24 = .ok (.aload_n 0, 1) := gq_12 db00b_74 eb_0
theorem d_X7_write_25 : decode prog_9_method_4_code 25 = .ok (.getfield 42, 3) := gq_13 db00b_74 eb_177
theorem d_X7_write_28 : decode prog_9_method_4_code 28 = .ok (.iload_n 2, 1) := gq_14 db00b_74 eb_13
theorem d_X7_write_29 : decode prog_9_method_4_code 29 = .ok (.iastore, 1) := gq_15 db00b_74 eb_38
theorem d_X7_write_30 : decode prog_9_method_4_code 30 = .ok (.aload_n 0, 1) := gq_16 db00b_74 eb_0
theorem d_X7_write_31 : decode prog_9_method_4_code 31 = .ok (.getfield 18, 3) := gq_17 db00b_74 eb_45
theorem d_X7_write_34 : decode prog_9_method_4_code 34 = .ok (.aload_n 0, 1) := gq_18 db00b_74 eb_0
theorem d_X7_write_35 : decode prog_9_method_4_code 35 = .ok (.getfield 42, 3) := gq_19 db00b_74 eb_177
theorem d_X7_write_38 : decode prog_9_method_4_code 38 = .ok (.iload_n 3, 1) := gq_20 db00b_74 eb_29
theorem d_X7_write_39 : decode prog_9_method_4_code 39 = .ok (.iastore, 1) := gq_21 db00b_74 eb_38
theorem d_X7_write_40 : decode prog_9_method_4_code 40 = .ok (.aload_n 0, 1) := gq_22 db00b_74 eb_0
theorem d_X7_write_41 : decode prog_9_method_4_code 41 = .ok (.getfield 21, 3) := gq_23 db00b_74 eb_17
theorem db00b_75 : Pf_ prog_9_method_4_code [(44, [0x2a]), (45, [0xb4, 0x00, 0x2a]), (48, [0x15, 0x04]), (50, [0x4f]), (51, [0x2a]), (52, [0x59]), (53, [0xb4, 0x00, 0x2a]), (56, [0x04]), (57, [0x60]), (58, [0xb5, 0x00, 0x2a]), (61, [0xb1])] := pf_ok prog_9_method_4_code _ 44 (by decide +kernel)
theorem d_X7_write_44 : decode prog_9_method_4_code 44 = .ok (.aload_n 0, 1) := gq_0 db00b_75 eb_0
theorem d_X7_write_45 : decode prog_9_method_4_code 45 = .ok (.getfield 42, 3) := gq_1 db00b_75 eb_177
theorem d_X7_write_48 : decode prog_9_method_4_code 48 = .ok (.iload 4, 2) := gq_2 db00b_75 eb_76
theorem d_X7_write_50 : decode prog_9_method_4_code 50 = .ok (.iastore, 1) := gq_3 db00b_75 eb_38
theorem d_X7_write_51 : decode prog_9_method_4_code 51 = .ok (.aload_n 0, 1) := gq_4 db00b_75 eb_0
theorem d_X7_write_52 : decode prog_9_method_4_code 52 = .ok (.dup, 1) := gq_5 db00b_75 eb_46
theorem d_X7_write_53 : decode prog_9_method_4_code 53 = .ok (.getfield 42, 3) := gq_6 db00b_75 eb_177
theorem d_X7_write_56 : decode prog_9_method_4_code 56 = .ok (.iconst 1, 1) := gq_7 db00b_75 eb_19
theorem d_X7_write_57 : decode prog_9_method_4_code 57 = .ok (.iadd, 1) := gq_8 db00b_75 eb_35
theorem d_X7_write_58 : decode prog_9_method_4_code 58 = .ok (.putfield 42, 3) := gq_9 db00b_75 eb_104
theorem d_X7_write_61 : decode prog_9_method_4_code 61 = .ok (.return_, 1) := gq_10 db00b_75 eb_7
theorem db00b_76 : Pf_ prog_9_method_5_code [(0, [0x1b]), (1, [0x9b, 0x00, 0x21]), (4, [0x1b]), (5, [0x2a]), (6, [0xb4, 0x00, 0x2a]), (9, [0xa2, 0x00, 0x19]), (12, [0x2a]), (13, [0xb4, 0x00, 0x18]), (16, [0x1b]), (17, [0x1c]), (18, [0x4f]), (19, [0x2a]), (20, [0xb4, 0x00, 0x1e]), (23, [0x1b]), (24, [0x1d]), (25, [0x4f]), (26, [0x2a]), (27, [0xb4, 0x00, 0x1b]), (30, [0x1b]), (31, [0x15, 0x04]), (33, [0x4f]), (34, [0xb1])] := pf_ok prog_9_method_5_code _ 0 (by decide +kernel)
theorem d_X7_settle_0 : decode prog_9_method_5_code 0 = .ok (.iload_n 1, 1) := gq_0 db00b_76 eb_9
theorem d_X7_settle_1 : decode prog_9_method_5_code 1 = .ok (.ifCond .lt 33, 3) := gq_1 db00b_76 eb_414
theorem d_X7_settle_4 : decode prog_9_method_5_code 4 = .ok (.iload_n 1, 1) := gq_2 db00b_76 eb_9
theorem d_X7_settle_5 : decode prog_9_method_5_code 5 = .ok (.aload_n 0, 1) := gq_3 db00b_76 eb_0
theorem d_X7_settle_6 : decode prog_9_method_5_code 6 = .ok (.getfield 42, 3) := gq_4 db00b_76 eb_177
theorem d_X7_settle_9 : decode prog_9_method_5_code 9 = .ok (.if_icmp .ge 25, 3) := gq_5 db00b_76 eb_415
theorem d_X7_settle_12 : decode prog_9_method_5_code 12 = .ok (.aload_n 0, 1) := gq_6 db00b_76 eb_0
theorem d_X7_settle_13 : decode prog_9_method_5_code 13 = .ok (.getfield 24, 3) := gq_7 db00b_76 eb_108
theorem d_X7_settle_16 : decode prog_9_method_5_code 16 = .ok (.iload_n 1, 1) := gq_8 db00b_76 eb_9
theorem d_X7_settle_17 : decode prog_9_method_5_code 17 = .ok (.iload_n 2, 1) := gq_9 db00b_76 eb_13
theorem d_X7_settle_18 : decode prog_9_method_5_code 18 = .ok (.iastore, 1) := gq_10 db00b_76 eb_38
theorem d_X7_settle_19 : decode prog_9_method_5_code 19 = .ok (.aload_n 0, 1) := gq_11 db00b_76 eb_0
theorem d_X7_settle_20 : decode prog_9_method_5_code 20 = .ok (.getfield 30, 3) := gq_12 db00b_76 eb_124
theorem d_X7_settle_23 : decode prog_9_method_5_code 23 = .ok (.iload_n 1, 1) := gq_13 db00b_76 eb_9
theorem d_X7_settle_24 : decode prog_9_method_5_code 24 = .ok (.iload_n 3, 1) := gq_14 db00b_76 eb_29
theorem d_X7_settle_25 : decode prog_9_method_5_code 25 = .ok (.iastore, 1) := gq_15 db00b_76 eb_38
theorem d_X7_settle_26 : decode prog_9_method_5_code 26 = .ok (.aload_n 0, 1) := gq_16 db00b_76 eb_0
theorem d_X7_settle_27 : decode prog_9_method_5_code 27 = .ok (.getfield 27, 3) := gq_17 db00b_76 eb_121
theorem d_X7_settle_30 : decode prog_9_method_5_code 30 = .ok (.iload_n 1, 1) := gq_18 db00b_76 eb_9
theorem d_X7_settle_31 : decode prog_9_method_5_code 31 = .ok (.iload 4, 2) := gq_19 db00b_76 eb_76
theorem d_X7_settle_33 : decode prog_9_method_5_code 33 = .ok (.iastore, 1) := gq_20 db00b_76 eb_38
theorem d_X7_settle_34 : decode prog_9_method_5_code 34 = .ok (.return_, 1) := gq_21 db00b_76 eb_7
theorem db00b_77 : Pf_ prog_9_method_6_code [(0, [0x2a]), (1, [0xb4, 0x00, 0x18]), (4, [0x1b]), (5, [0x2e]), (6, [0x99, 0x00, 0x16]), (9, [0x2a]), (10, [0xb4, 0x00, 0x1b]), (13, [0x1b]), (14, [0x2e]), (15, [0x1c]), (16, [0xa3, 0x00, 0x0c]), (19, [0x2a]), (20, [0xb4, 0x00, 0x18]), (23, [0x1b]), (24, [0x2e]), (25, [0xa7, 0x00, 0x04]), (28, [0x03]), (29, [0xac])] := pf_ok prog_9_method_6_code _ 0 (by decide +kernel)
theorem d_X7_outcomeAt_0 : decode prog_9_method_6_code 0 = .ok (.aload_n 0, 1) := gq_0 db00b_77 eb_0
theorem d_X7_outcomeAt_1 : decode prog_9_method_6_code 1 = .ok (.getfield 24, 3) := gq_1 db00b_77 eb_108
theorem d_X7_outcomeAt_4 : decode prog_9_method_6_code 4 = .ok (.iload_n 1, 1) := gq_2 db00b_77 eb_9
theorem d_X7_outcomeAt_5 : decode prog_9_method_6_code 5 = .ok (.iaload, 1) := gq_3 db00b_77 eb_37
theorem d_X7_outcomeAt_6 : decode prog_9_method_6_code 6 = .ok (.ifCond .eq 22, 3) := gq_4 db00b_77 eb_416
theorem d_X7_outcomeAt_9 : decode prog_9_method_6_code 9 = .ok (.aload_n 0, 1) := gq_5 db00b_77 eb_0
theorem d_X7_outcomeAt_10 : decode prog_9_method_6_code 10 = .ok (.getfield 27, 3) := gq_6 db00b_77 eb_121
theorem d_X7_outcomeAt_13 : decode prog_9_method_6_code 13 = .ok (.iload_n 1, 1) := gq_7 db00b_77 eb_9
theorem d_X7_outcomeAt_14 : decode prog_9_method_6_code 14 = .ok (.iaload, 1) := gq_8 db00b_77 eb_37
theorem d_X7_outcomeAt_15 : decode prog_9_method_6_code 15 = .ok (.iload_n 2, 1) := gq_9 db00b_77 eb_13
theorem d_X7_outcomeAt_16 : decode prog_9_method_6_code 16 = .ok (.if_icmp .gt 12, 3) := gq_10 db00b_77 eb_417
theorem d_X7_outcomeAt_19 : decode prog_9_method_6_code 19 = .ok (.aload_n 0, 1) := gq_11 db00b_77 eb_0
theorem d_X7_outcomeAt_20 : decode prog_9_method_6_code 20 = .ok (.getfield 24, 3) := gq_12 db00b_77 eb_108
theorem d_X7_outcomeAt_23 : decode prog_9_method_6_code 23 = .ok (.iload_n 1, 1) := gq_13 db00b_77 eb_9
theorem d_X7_outcomeAt_24 : decode prog_9_method_6_code 24 = .ok (.iaload, 1) := gq_14 db00b_77 eb_37
theorem d_X7_outcomeAt_25 : decode prog_9_method_6_code 25 = .ok (.goto 4, 3) := gq_15 db00b_77 eb_20
theorem d_X7_outcomeAt_28 : decode prog_9_method_6_code 28 = .ok (.iconst 0, 1) := gq_16 db00b_77 eb_21
theorem d_X7_outcomeAt_29 : decode prog_9_method_6_code 29 = .ok (.ireturn, 1) := gq_17 db00b_77 eb_15
theorem db00b_78 : Pf_ prog_9_method_7_code [(0, [0x2a]), (1, [0x1b]), (2, [0x1c]), (3, [0xb6, 0x00, 0x2e]), (6, [0x05]), (7, [0x9f, 0x00, 0x05]), (10, [0x02]), (11, [0xac]), (12, [0x2a]), (13, [0xb4, 0x00, 0x1e]), (16, [0x1b]), (17, [0x2e]), (18, [0x3e]), (19, [0x03]), (20, [0x36, 0x04]), (22, [0x15, 0x04]), (24, [0x2a]), (25, [0xb4, 0x00, 0x32]), (28, [0xa2, 0x00, 0x27]), (31, [0x2a]), (32, [0xb4, 0x00, 0x21]), (35, [0x15, 0x04]), (37, [0x2e]), (38, [0x1b])] := pf_ok prog_9_method_7_code _ 0 (by decide +kernel)
theorem d_X7_causeAt_0 : decode prog_9_method_7_code 0 = .ok (.aload_n 0, 1) := gq_0 db00b_78 eb_0
theorem d_X7_causeAt_1 : decode prog_9_method_7_code 1 = .ok (.iload_n 1, 1) := gq_1 db00b_78 eb_9
theorem d_X7_causeAt_2 : decode prog_9_method_7_code 2 = .ok (.iload_n 2, 1) := gq_2 db00b_78 eb_13
theorem d_X7_causeAt_3 : decode prog_9_method_7_code 3 = .ok (.invokevirtual 46, 3) := gq_3 db00b_78 eb_66
theorem d_X7_causeAt_6 : decode prog_9_method_7_code 6 = .ok (.iconst 2, 1) := gq_4 db00b_78 eb_10
theorem d_X7_causeAt_7 : decode prog_9_method_7_code 7 = .ok (.if_icmp .eq 5, 3) := gq_5 db00b_78 eb_120
theorem d_X7_causeAt_10 : decode prog_9_method_7_code 10 = .ok (.iconst (-1), 1) := gq_6 db00b_78 eb_26
theorem d_X7_causeAt_11 : decode prog_9_method_7_code 11 = .ok (.ireturn, 1) := gq_7 db00b_78 eb_15
theorem d_X7_causeAt_12 : decode prog_9_method_7_code 12 = .ok (.aload_n 0, 1) := gq_8 db00b_78 eb_0
theorem d_X7_causeAt_13 : decode prog_9_method_7_code 13 = .ok (.getfield 30, 3) := gq_9 db00b_78 eb_124
theorem d_X7_causeAt_16 : decode prog_9_method_7_code 16 = .ok (.iload_n 1, 1) := gq_10 db00b_78 eb_9
theorem d_X7_causeAt_17 : decode prog_9_method_7_code 17 = .ok (.iaload, 1) := gq_11 db00b_78 eb_37
theorem d_X7_causeAt_18 : decode prog_9_method_7_code 18 = .ok (.istore_n 3, 1) := gq_12 db00b_78 eb_28
theorem d_X7_causeAt_19 : decode prog_9_method_7_code 19 = .ok (.iconst 0, 1) := gq_13 db00b_78 eb_21
theorem d_X7_causeAt_20 : decode prog_9_method_7_code 20 = .ok (.istore 4, 2) := gq_14 db00b_78 eb_133
theorem d_X7_causeAt_22 : decode prog_9_method_7_code 22 = .ok (.iload 4, 2) := gq_15 db00b_78 eb_76
theorem d_X7_causeAt_24 : decode prog_9_method_7_code 24 = .ok (.aload_n 0, 1) := gq_16 db00b_78 eb_0
theorem d_X7_causeAt_25 : decode prog_9_method_7_code 25 = .ok (.getfield 50, 3) := gq_17 db00b_78 eb_418
theorem d_X7_causeAt_28 : decode prog_9_method_7_code 28 = .ok (.if_icmp .ge 39, 3) := gq_18 db00b_78 eb_419
theorem d_X7_causeAt_31 : decode prog_9_method_7_code 31 = .ok (.aload_n 0, 1) := gq_19 db00b_78 eb_0
theorem d_X7_causeAt_32 : decode prog_9_method_7_code 32 = .ok (.getfield 33, 3) := gq_20 db00b_78 eb_109
theorem d_X7_causeAt_35 : decode prog_9_method_7_code 35 = .ok (.iload 4, 2) := gq_21 db00b_78 eb_76
theorem d_X7_causeAt_37 : decode prog_9_method_7_code 37 = .ok (.iaload, 1) := gq_22 db00b_78 eb_37
theorem d_X7_causeAt_38 : decode prog_9_method_7_code 38 = .ok (.iload_n 1, 1) := gq_23 db00b_78 eb_9
theorem db00b_79 : Pf_ prog_9_method_7_code [(39, [0xa0, 0x00, 0x16]), (42, [0x2a]), (43, [0xb4, 0x00, 0x27]), (46, [0x15, 0x04]), (48, [0x2e]), (49, [0x1c]), (50, [0xa3, 0x00, 0x0b]), (53, [0x2a]), (54, [0xb4, 0x00, 0x24]), (57, [0x15, 0x04]), (59, [0x2e]), (60, [0x3e]), (61, [0x84, 0x04, 0x01]), (64, [0xa7, 0xff, 0xd6]), (67, [0x1d]), (68, [0xac])] := pf_ok prog_9_method_7_code _ 39 (by decide +kernel)
theorem d_X7_causeAt_39 : decode prog_9_method_7_code 39 = .ok (.if_icmp .ne 22, 3) := gq_0 db00b_79 eb_420
theorem d_X7_causeAt_42 : decode prog_9_method_7_code 42 = .ok (.aload_n 0, 1) := gq_1 db00b_79 eb_0
theorem d_X7_causeAt_43 : decode prog_9_method_7_code 43 = .ok (.getfield 39, 3) := gq_2 db00b_79 eb_176
theorem d_X7_causeAt_46 : decode prog_9_method_7_code 46 = .ok (.iload 4, 2) := gq_3 db00b_79 eb_76
theorem d_X7_causeAt_48 : decode prog_9_method_7_code 48 = .ok (.iaload, 1) := gq_4 db00b_79 eb_37
theorem d_X7_causeAt_49 : decode prog_9_method_7_code 49 = .ok (.iload_n 2, 1) := gq_5 db00b_79 eb_13
theorem d_X7_causeAt_50 : decode prog_9_method_7_code 50 = .ok (.if_icmp .gt 11, 3) := gq_6 db00b_79 eb_421
theorem d_X7_causeAt_53 : decode prog_9_method_7_code 53 = .ok (.aload_n 0, 1) := gq_7 db00b_79 eb_0
theorem d_X7_causeAt_54 : decode prog_9_method_7_code 54 = .ok (.getfield 36, 3) := gq_8 db00b_79 eb_175
theorem d_X7_causeAt_57 : decode prog_9_method_7_code 57 = .ok (.iload 4, 2) := gq_9 db00b_79 eb_76
theorem d_X7_causeAt_59 : decode prog_9_method_7_code 59 = .ok (.iaload, 1) := gq_10 db00b_79 eb_37
theorem d_X7_causeAt_60 : decode prog_9_method_7_code 60 = .ok (.istore_n 3, 1) := gq_11 db00b_79 eb_28
theorem d_X7_causeAt_61 : decode prog_9_method_7_code 61 = .ok (.iinc 4 1, 3) := gq_12 db00b_79 eb_144
theorem d_X7_causeAt_64 : decode prog_9_method_7_code 64 = .ok (.goto (-42), 3) := gq_13 db00b_79 eb_422
theorem d_X7_causeAt_67 : decode prog_9_method_7_code 67 = .ok (.iload_n 3, 1) := gq_14 db00b_79 eb_29
theorem d_X7_causeAt_68 : decode prog_9_method_7_code 68 = .ok (.ireturn, 1) := gq_15 db00b_79 eb_15
theorem d_X7_tell_21 : decode prog_9_method_8_code 21 = .ok (.tableswitch 70 0 4 #[35, 42, 49, 56, 63], 35) := by decide +kernel
theorem db00b_80 : Pf_ prog_9_method_8_code [(0, [0x2a]), (1, [0x1b]), (2, [0xb6, 0x00, 0x35]), (5, [0x99, 0x00, 0x0d]), (8, [0x2a]), (9, [0xb4, 0x00, 0x15]), (12, [0x1b]), (13, [0x2e]), (14, [0x1c]), (15, [0xa4, 0x00, 0x05]), (18, [0x02]), (19, [0xac]), (20, [0x1d]), (56, [0x2a]), (57, [0xb4, 0x00, 0x0b]), (60, [0x1b]), (61, [0x2e]), (62, [0xac]), (63, [0x2a]), (64, [0xb4, 0x00, 0x0f]), (67, [0x1b]), (68, [0x2e]), (69, [0xac]), (70, [0x2a])] := pf_ok prog_9_method_8_code _ 0 (by decide +kernel)
theorem d_X7_tell_0 : decode prog_9_method_8_code 0 = .ok (.aload_n 0, 1) := gq_0 db00b_80 eb_0
theorem d_X7_tell_1 : decode prog_9_method_8_code 1 = .ok (.iload_n 1, 1) := gq_1 db00b_80 eb_9
theorem d_X7_tell_2 : decode prog_9_method_8_code 2 = .ok (.invokevirtual 53, 3) := gq_2 db00b_80 eb_353
theorem d_X7_tell_5 : decode prog_9_method_8_code 5 = .ok (.ifCond .eq 13, 3) := gq_3 db00b_80 eb_119
theorem d_X7_tell_8 : decode prog_9_method_8_code 8 = .ok (.aload_n 0, 1) := gq_4 db00b_80 eb_0
theorem d_X7_tell_9 : decode prog_9_method_8_code 9 = .ok (.getfield 21, 3) := gq_5 db00b_80 eb_17
theorem d_X7_tell_12 : decode prog_9_method_8_code 12 = .ok (.iload_n 1, 1) := gq_6 db00b_80 eb_9
theorem d_X7_tell_13 : decode prog_9_method_8_code 13 = .ok (.iaload, 1) := gq_7 db00b_80 eb_37
theorem d_X7_tell_14 : decode prog_9_method_8_code 14 = .ok (.iload_n 2, 1) := gq_8 db00b_80 eb_13
theorem d_X7_tell_15 : decode prog_9_method_8_code 15 = .ok (.if_icmp .le 5, 3) := gq_9 db00b_80 eb_334
theorem d_X7_tell_18 : decode prog_9_method_8_code 18 = .ok (.iconst (-1), 1) := gq_10 db00b_80 eb_26
theorem d_X7_tell_19 : decode prog_9_method_8_code 19 = .ok (.ireturn, 1) := gq_11 db00b_80 eb_15
theorem d_X7_tell_20 : decode prog_9_method_8_code 20 = .ok (.iload_n 3, 1) := gq_12 db00b_80 eb_29
theorem d_X7_tell_56 : decode prog_9_method_8_code 56 = .ok (.aload_n 0, 1) := gq_13 db00b_80 eb_0
theorem d_X7_tell_57 : decode prog_9_method_8_code 57 = .ok (.getfield 11, 3) := gq_14 db00b_80 eb_32
theorem d_X7_tell_60 : decode prog_9_method_8_code 60 = .ok (.iload_n 1, 1) := gq_15 db00b_80 eb_9
theorem d_X7_tell_61 : decode prog_9_method_8_code 61 = .ok (.iaload, 1) := gq_16 db00b_80 eb_37
theorem d_X7_tell_62 : decode prog_9_method_8_code 62 = .ok (.ireturn, 1) := gq_17 db00b_80 eb_15
theorem d_X7_tell_63 : decode prog_9_method_8_code 63 = .ok (.aload_n 0, 1) := gq_18 db00b_80 eb_0
theorem d_X7_tell_64 : decode prog_9_method_8_code 64 = .ok (.getfield 15, 3) := gq_19 db00b_80 eb_44
theorem d_X7_tell_67 : decode prog_9_method_8_code 67 = .ok (.iload_n 1, 1) := gq_20 db00b_80 eb_9
theorem d_X7_tell_68 : decode prog_9_method_8_code 68 = .ok (.iaload, 1) := gq_21 db00b_80 eb_37
theorem d_X7_tell_69 : decode prog_9_method_8_code 69 = .ok (.ireturn, 1) := gq_22 db00b_80 eb_15
theorem d_X7_tell_70 : decode prog_9_method_8_code 70 = .ok (.aload_n 0, 1) := gq_23 db00b_80 eb_0
theorem db00b_81 : Pf_ prog_9_method_8_code [(71, [0xb4, 0x00, 0x12]), (74, [0x1b]), (75, [0x2e]), (76, [0xac]), (77, [0x2a]), (78, [0x1b]), (79, [0x1c]), (80, [0xb6, 0x00, 0x2e]), (83, [0xac]), (84, [0x2a]), (85, [0x1b]), (86, [0x1c]), (87, [0xb6, 0x00, 0x39]), (90, [0xac]), (91, [0x02]), (92, [0xac])] := pf_ok prog_9_method_8_code _ 71 (by decide +kernel)
theorem d_X7_tell_71 : decode prog_9_method_8_code 71 = .ok (.getfield 18, 3) := gq_0 db00b_81 eb_45
theorem d_X7_tell_74 : decode prog_9_method_8_code 74 = .ok (.iload_n 1, 1) := gq_1 db00b_81 eb_9
theorem d_X7_tell_75 : decode prog_9_method_8_code 75 = .ok (.iaload, 1) := gq_2 db00b_81 eb_37
theorem d_X7_tell_76 : decode prog_9_method_8_code 76 = .ok (.ireturn, 1) := gq_3 db00b_81 eb_15
theorem d_X7_tell_77 : decode prog_9_method_8_code 77 = .ok (.aload_n 0, 1) := gq_4 db00b_81 eb_0
theorem d_X7_tell_78 : decode prog_9_method_8_code 78 = .ok (.iload_n 1, 1) := gq_5 db00b_81 eb_9
theorem d_X7_tell_79 : decode prog_9_method_8_code 79 = .ok (.iload_n 2, 1) := gq_6 db00b_81 eb_13
theorem d_X7_tell_80 : decode prog_9_method_8_code 80 = .ok (.invokevirtual 46, 3) := gq_7 db00b_81 eb_66
theorem d_X7_tell_83 : decode prog_9_method_8_code 83 = .ok (.ireturn, 1) := gq_8 db00b_81 eb_15
theorem d_X7_tell_84 : decode prog_9_method_8_code 84 = .ok (.aload_n 0, 1) := gq_9 db00b_81 eb_0
theorem d_X7_tell_85 : decode prog_9_method_8_code 85 = .ok (.iload_n 1, 1) := gq_10 db00b_81 eb_9
theorem d_X7_tell_86 : decode prog_9_method_8_code 86 = .ok (.iload_n 2, 1) := gq_11 db00b_81 eb_13
theorem d_X7_tell_87 : decode prog_9_method_8_code 87 = .ok (.invokevirtual 57, 3) := gq_12 db00b_81 eb_356
theorem d_X7_tell_90 : decode prog_9_method_8_code 90 = .ok (.ireturn, 1) := gq_13 db00b_81 eb_15
theorem d_X7_tell_91 : decode prog_9_method_8_code 91 = .ok (.iconst (-1), 1) := gq_14 db00b_81 eb_26
theorem d_X7_tell_92 : decode prog_9_method_8_code 92 = .ok (.ireturn, 1) := gq_15 db00b_81 eb_15
theorem db00b_82 : Pf_ prog_9_method_9_code [(0, [0x2a]), (1, [0x1b]), (2, [0xb6, 0x00, 0x35]), (5, [0x99, 0x00, 0x17]), (8, [0x2a]), (9, [0xb4, 0x00, 0x18]), (12, [0x1b]), (13, [0x2e]), (14, [0x05]), (15, [0xa0, 0x00, 0x0d]), (18, [0x2a]), (19, [0xb4, 0x00, 0x32]), (22, [0x11, 0x00, 0xc8]), (25, [0xa1, 0x00, 0x05]), (28, [0x03]), (29, [0xac]), (30, [0x2a]), (31, [0xb4, 0x00, 0x21]), (34, [0x2a]), (35, [0xb4, 0x00, 0x32]), (38, [0x1b]), (39, [0x4f]), (40, [0x2a]), (41, [0xb4, 0x00, 0x24])] := pf_ok prog_9_method_9_code _ 0 (by decide +kernel)
theorem d_X7_tellAnew_0 : decode prog_9_method_9_code 0 = .ok (.aload_n 0, 1) := gq_0 db00b_82 eb_0
theorem d_X7_tellAnew_1 : decode prog_9_method_9_code 1 = .ok (.iload_n 1, 1) := gq_1 db00b_82 eb_9
theorem d_X7_tellAnew_2 : decode prog_9_method_9_code 2 = .ok (.invokevirtual 53, 3) := gq_2 db00b_82 eb_353
theorem d_X7_tellAnew_5 : decode prog_9_method_9_code 5 = .ok (.ifCond .eq 23, 3) := gq_3 db00b_82 eb_204
theorem d_X7_tellAnew_8 : decode prog_9_method_9_code 8 = .ok (.aload_n 0, 1) := gq_4 db00b_82 eb_0
theorem d_X7_tellAnew_9 : decode prog_9_method_9_code 9 = .ok (.getfield 24, 3) := gq_5 db00b_82 eb_108
theorem d_X7_tellAnew_12 : decode prog_9_method_9_code 12 = .ok (.iload_n 1, 1) := gq_6 db00b_82 eb_9
theorem d_X7_tellAnew_13 : decode prog_9_method_9_code 13 = .ok (.iaload, 1) := gq_7 db00b_82 eb_37
theorem d_X7_tellAnew_14 : decode prog_9_method_9_code 14 = .ok (.iconst 2, 1) := gq_8 db00b_82 eb_10
theorem d_X7_tellAnew_15 : decode prog_9_method_9_code 15 = .ok (.if_icmp .ne 13, 3) := gq_9 db00b_82 eb_423
theorem d_X7_tellAnew_18 : decode prog_9_method_9_code 18 = .ok (.aload_n 0, 1) := gq_10 db00b_82 eb_0
theorem d_X7_tellAnew_19 : decode prog_9_method_9_code 19 = .ok (.getfield 50, 3) := gq_11 db00b_82 eb_418
theorem d_X7_tellAnew_22 : decode prog_9_method_9_code 22 = .ok (.sipush 200, 3) := gq_12 db00b_82 eb_96
theorem d_X7_tellAnew_25 : decode prog_9_method_9_code 25 = .ok (.if_icmp .lt 5, 3) := gq_13 db00b_82 eb_114
theorem d_X7_tellAnew_28 : decode prog_9_method_9_code 28 = .ok (.iconst 0, 1) := gq_14 db00b_82 eb_21
theorem d_X7_tellAnew_29 : decode prog_9_method_9_code 29 = .ok (.ireturn, 1) := gq_15 db00b_82 eb_15
theorem d_X7_tellAnew_30 : decode prog_9_method_9_code 30 = .ok (.aload_n 0, 1) := gq_16 db00b_82 eb_0
theorem d_X7_tellAnew_31 : decode prog_9_method_9_code 31 = .ok (.getfield 33, 3) := gq_17 db00b_82 eb_109
theorem d_X7_tellAnew_34 : decode prog_9_method_9_code 34 = .ok (.aload_n 0, 1) := gq_18 db00b_82 eb_0
theorem d_X7_tellAnew_35 : decode prog_9_method_9_code 35 = .ok (.getfield 50, 3) := gq_19 db00b_82 eb_418
theorem d_X7_tellAnew_38 : decode prog_9_method_9_code 38 = .ok (.iload_n 1, 1) := gq_20 db00b_82 eb_9
theorem d_X7_tellAnew_39 : decode prog_9_method_9_code 39 = .ok (.iastore, 1) := gq_21 db00b_82 eb_38
theorem d_X7_tellAnew_40 : decode prog_9_method_9_code 40 = .ok (.aload_n 0, 1) := gq_22 db00b_82 eb_0
theorem d_X7_tellAnew_41 : decode prog_9_method_9_code 41 = .ok (.getfield 36, 3) := gq_23 db00b_82 eb_175
theorem db00b_83 : Pf_ prog_9_method_9_code [(44, [0x2a]), (45, [0xb4, 0x00, 0x32]), (48, [0x1c]), (49, [0x4f]), (50, [0x2a]), (51, [0xb4, 0x00, 0x27]), (54, [0x2a]), (55, [0xb4, 0x00, 0x32]), (58, [0x1d]), (59, [0x4f]), (60, [0x2a]), (61, [0x59]), (62, [0xb4, 0x00, 0x32]), (65, [0x04]), (66, [0x60]), (67, [0xb5, 0x00, 0x32]), (70, [0x04]), (71, [0xac])] := pf_ok prog_9_method_9_code _ 44 (by decide +kernel)
theorem d_X7_tellAnew_44 : decode prog_9_method_9_code 44 = .ok (.aload_n 0, 1) := gq_0 db00b_83 eb_0
theorem d_X7_tellAnew_45 : decode prog_9_method_9_code 45 = .ok (.getfield 50, 3) := gq_1 db00b_83 eb_418
theorem d_X7_tellAnew_48 : decode prog_9_method_9_code 48 = .ok (.iload_n 2, 1) := gq_2 db00b_83 eb_13
theorem d_X7_tellAnew_49 : decode prog_9_method_9_code 49 = .ok (.iastore, 1) := gq_3 db00b_83 eb_38
theorem d_X7_tellAnew_50 : decode prog_9_method_9_code 50 = .ok (.aload_n 0, 1) := gq_4 db00b_83 eb_0
theorem d_X7_tellAnew_51 : decode prog_9_method_9_code 51 = .ok (.getfield 39, 3) := gq_5 db00b_83 eb_176
theorem d_X7_tellAnew_54 : decode prog_9_method_9_code 54 = .ok (.aload_n 0, 1) := gq_6 db00b_83 eb_0
theorem d_X7_tellAnew_55 : decode prog_9_method_9_code 55 = .ok (.getfield 50, 3) := gq_7 db00b_83 eb_418
theorem d_X7_tellAnew_58 : decode prog_9_method_9_code 58 = .ok (.iload_n 3, 1) := gq_8 db00b_83 eb_29
theorem d_X7_tellAnew_59 : decode prog_9_method_9_code 59 = .ok (.iastore, 1) := gq_9 db00b_83 eb_38
theorem d_X7_tellAnew_60 : decode prog_9_method_9_code 60 = .ok (.aload_n 0, 1) := gq_10 db00b_83 eb_0
theorem d_X7_tellAnew_61 : decode prog_9_method_9_code 61 = .ok (.dup, 1) := gq_11 db00b_83 eb_46
theorem d_X7_tellAnew_62 : decode prog_9_method_9_code 62 = .ok (.getfield 50, 3) := gq_12 db00b_83 eb_418
theorem d_X7_tellAnew_65 : decode prog_9_method_9_code 65 = .ok (.iconst 1, 1) := gq_13 db00b_83 eb_19
theorem d_X7_tellAnew_66 : decode prog_9_method_9_code 66 = .ok (.iadd, 1) := gq_14 db00b_83 eb_35
theorem d_X7_tellAnew_67 : decode prog_9_method_9_code 67 = .ok (.putfield 50, 3) := gq_15 db00b_83 eb_424
theorem d_X7_tellAnew_70 : decode prog_9_method_9_code 70 = .ok (.iconst 1, 1) := gq_16 db00b_83 eb_19
theorem d_X7_tellAnew_71 : decode prog_9_method_9_code 71 = .ok (.ireturn, 1) := gq_17 db00b_83 eb_15
theorem db00b_84 : Pf_ prog_9_method_10_code [(0, [0x03]), (1, [0x3e]), (2, [0x03]), (3, [0x36, 0x04]), (5, [0x15, 0x04]), (7, [0x2a]), (8, [0xb4, 0x00, 0x2a]), (11, [0xa2, 0x00, 0x17]), (14, [0x2a]), (15, [0x15, 0x04]), (17, [0x1c]), (18, [0xb6, 0x00, 0x39]), (21, [0x1b]), (22, [0xa0, 0x00, 0x06]), (25, [0x84, 0x03, 0x01]), (28, [0x84, 0x04, 0x01]), (31, [0xa7, 0xff, 0xe6]), (34, [0x1d]), (35, [0xac])] := pf_ok prog_9_method_10_code _ 0 (by decide +kernel)
theorem d_X7_countCause_0 : decode prog_9_method_10_code 0 = .ok (.iconst 0, 1) := gq_0 db00b_84 eb_21
theorem d_X7_countCause_1 : decode prog_9_method_10_code 1 = .ok (.istore_n 3, 1) := gq_1 db00b_84 eb_28
theorem d_X7_countCause_2 : decode prog_9_method_10_code 2 = .ok (.iconst 0, 1) := gq_2 db00b_84 eb_21
theorem d_X7_countCause_3 : decode prog_9_method_10_code 3 = .ok (.istore 4, 2) := gq_3 db00b_84 eb_133
theorem d_X7_countCause_5 : decode prog_9_method_10_code 5 = .ok (.iload 4, 2) := gq_4 db00b_84 eb_76
theorem d_X7_countCause_7 : decode prog_9_method_10_code 7 = .ok (.aload_n 0, 1) := gq_5 db00b_84 eb_0
theorem d_X7_countCause_8 : decode prog_9_method_10_code 8 = .ok (.getfield 42, 3) := gq_6 db00b_84 eb_177
theorem d_X7_countCause_11 : decode prog_9_method_10_code 11 = .ok (.if_icmp .ge 23, 3) := gq_7 db00b_84 eb_117
theorem d_X7_countCause_14 : decode prog_9_method_10_code 14 = .ok (.aload_n 0, 1) := gq_8 db00b_84 eb_0
theorem d_X7_countCause_15 : decode prog_9_method_10_code 15 = .ok (.iload 4, 2) := gq_9 db00b_84 eb_76
theorem d_X7_countCause_17 : decode prog_9_method_10_code 17 = .ok (.iload_n 2, 1) := gq_10 db00b_84 eb_13
theorem d_X7_countCause_18 : decode prog_9_method_10_code 18 = .ok (.invokevirtual 57, 3) := gq_11 db00b_84 eb_356
theorem d_X7_countCause_21 : decode prog_9_method_10_code 21 = .ok (.iload_n 1, 1) := gq_12 db00b_84 eb_9
theorem d_X7_countCause_22 : decode prog_9_method_10_code 22 = .ok (.if_icmp .ne 6, 3) := gq_13 db00b_84 eb_40
theorem d_X7_countCause_25 : decode prog_9_method_10_code 25 = .ok (.iinc 3 1, 3) := gq_14 db00b_84 eb_42
theorem d_X7_countCause_28 : decode prog_9_method_10_code 28 = .ok (.iinc 4 1, 3) := gq_15 db00b_84 eb_144
theorem d_X7_countCause_31 : decode prog_9_method_10_code 31 = .ok (.goto (-26), 3) := gq_16 db00b_84 eb_425
theorem d_X7_countCause_34 : decode prog_9_method_10_code 34 = .ok (.iload_n 3, 1) := gq_17 db00b_84 eb_29
theorem d_X7_countCause_35 : decode prog_9_method_10_code 35 = .ok (.ireturn, 1) := gq_18 db00b_84 eb_15
theorem db00b_85 : Pf_ prog_9_method_11_code [(0, [0x2a]), (1, [0xb4, 0x00, 0x0b]), (4, [0x1b]), (5, [0x2e]), (6, [0x1c]), (7, [0xa0, 0x00, 0x15]), (10, [0x2a]), (11, [0xb4, 0x00, 0x12]), (14, [0x1b]), (15, [0x2e]), (16, [0x11, 0x05, 0xa0]), (19, [0x6c]), (20, [0x1d]), (21, [0xa0, 0x00, 0x07]), (24, [0x04]), (25, [0xa7, 0x00, 0x04]), (28, [0x03]), (29, [0xac])] := pf_ok prog_9_method_11_code _ 0 (by decide +kernel)
theorem d_X7_wasDue_0 : decode prog_9_method_11_code 0 = .ok (.aload_n 0, 1) := gq_0 db00b_85 eb_0
theorem d_X7_wasDue_1 : decode prog_9_method_11_code 1 = .ok (.getfield 11, 3) := gq_1 db00b_85 eb_32
theorem d_X7_wasDue_4 : decode prog_9_method_11_code 4 = .ok (.iload_n 1, 1) := gq_2 db00b_85 eb_9
theorem d_X7_wasDue_5 : decode prog_9_method_11_code 5 = .ok (.iaload, 1) := gq_3 db00b_85 eb_37
theorem d_X7_wasDue_6 : decode prog_9_method_11_code 6 = .ok (.iload_n 2, 1) := gq_4 db00b_85 eb_13
theorem d_X7_wasDue_7 : decode prog_9_method_11_code 7 = .ok (.if_icmp .ne 21, 3) := gq_5 db00b_85 eb_426
theorem d_X7_wasDue_10 : decode prog_9_method_11_code 10 = .ok (.aload_n 0, 1) := gq_6 db00b_85 eb_0
theorem d_X7_wasDue_11 : decode prog_9_method_11_code 11 = .ok (.getfield 18, 3) := gq_7 db00b_85 eb_45
theorem d_X7_wasDue_14 : decode prog_9_method_11_code 14 = .ok (.iload_n 1, 1) := gq_8 db00b_85 eb_9
theorem d_X7_wasDue_15 : decode prog_9_method_11_code 15 = .ok (.iaload, 1) := gq_9 db00b_85 eb_37
theorem d_X7_wasDue_16 : decode prog_9_method_11_code 16 = .ok (.sipush 1440, 3) := gq_10 db00b_85 eb_289
theorem d_X7_wasDue_19 : decode prog_9_method_11_code 19 = .ok (.idiv, 1) := gq_11 db00b_85 eb_219
theorem d_X7_wasDue_20 : decode prog_9_method_11_code 20 = .ok (.iload_n 3, 1) := gq_12 db00b_85 eb_29
theorem d_X7_wasDue_21 : decode prog_9_method_11_code 21 = .ok (.if_icmp .ne 7, 3) := gq_13 db00b_85 eb_135
theorem d_X7_wasDue_24 : decode prog_9_method_11_code 24 = .ok (.iconst 1, 1) := gq_14 db00b_85 eb_19
theorem d_X7_wasDue_25 : decode prog_9_method_11_code 25 = .ok (.goto 4, 3) := gq_15 db00b_85 eb_20
theorem d_X7_wasDue_28 : decode prog_9_method_11_code 28 = .ok (.iconst 0, 1) := gq_16 db00b_85 eb_21
theorem d_X7_wasDue_29 : decode prog_9_method_11_code 29 = .ok (.ireturn, 1) := gq_17 db00b_85 eb_15
theorem db00b_86 : Pf_ prog_9_method_12_code [(0, [0x03]), (1, [0x36, 0x04]), (3, [0x03]), (4, [0x36, 0x05]), (6, [0x15, 0x05]), (8, [0x2a]), (9, [0xb4, 0x00, 0x2a]), (12, [0xa2, 0x00, 0x22]), (15, [0x2a]), (16, [0x15, 0x05]), (18, [0x1b]), (19, [0x1c]), (20, [0xb6, 0x00, 0x3c]), (23, [0x99, 0x00, 0x11]), (26, [0x2a]), (27, [0x15, 0x05]), (29, [0x1d]), (30, [0xb6, 0x00, 0x2e]), (33, [0x04]), (34, [0xa0, 0x00, 0x06]), (37, [0x84, 0x04, 0x01]), (40, [0x84, 0x05, 0x01]), (43, [0xa7, 0xff, 0xdb]), (46, [0x15, 0x04])] := pf_ok prog_9_method_12_code _ 0 (by decide +kernel)
theorem d_X7_countMet_0 : decode prog_9_method_12_code 0 = .ok (.iconst 0, 1) := gq_0 db00b_86 eb_21
theorem d_X7_countMet_1 : decode prog_9_method_12_code 1 = .ok (.istore 4, 2) := gq_1 db00b_86 eb_133
theorem d_X7_countMet_3 : decode prog_9_method_12_code 3 = .ok (.iconst 0, 1) := gq_2 db00b_86 eb_21
theorem d_X7_countMet_4 : decode prog_9_method_12_code 4 = .ok (.istore 5, 2) := gq_3 db00b_86 eb_134
theorem d_X7_countMet_6 : decode prog_9_method_12_code 6 = .ok (.iload 5, 2) := gq_4 db00b_86 eb_125
theorem d_X7_countMet_8 : decode prog_9_method_12_code 8 = .ok (.aload_n 0, 1) := gq_5 db00b_86 eb_0
theorem d_X7_countMet_9 : decode prog_9_method_12_code 9 = .ok (.getfield 42, 3) := gq_6 db00b_86 eb_177
theorem d_X7_countMet_12 : decode prog_9_method_12_code 12 = .ok (.if_icmp .ge 34, 3) := gq_7 db00b_86 eb_427
theorem d_X7_countMet_15 : decode prog_9_method_12_code 15 = .ok (.aload_n 0, 1) := gq_8 db00b_86 eb_0
theorem d_X7_countMet_16 : decode prog_9_method_12_code 16 = .ok (.iload 5, 2) := gq_9 db00b_86 eb_125
theorem d_X7_countMet_18 : decode prog_9_method_12_code 18 = .ok (.iload_n 1, 1) := gq_10 db00b_86 eb_9
theorem d_X7_countMet_19 : decode prog_9_method_12_code 19 = .ok (.iload_n 2, 1) := gq_11 db00b_86 eb_13
theorem d_X7_countMet_20 : decode prog_9_method_12_code 20 = .ok (.invokevirtual 60, 3) := gq_12 db00b_86 eb_84
theorem d_X7_countMet_23 : decode prog_9_method_12_code 23 = .ok (.ifCond .eq 17, 3) := gq_13 db00b_86 eb_112
theorem d_X7_countMet_26 : decode prog_9_method_12_code 26 = .ok (.aload_n 0, 1) := gq_14 db00b_86 eb_0
theorem d_X7_countMet_27 : decode prog_9_method_12_code 27 = .ok (.iload 5, 2) := gq_15 db00b_86 eb_125
theorem d_X7_countMet_29 : decode prog_9_method_12_code 29 = .ok (.iload_n 3, 1) := gq_16 db00b_86 eb_29
theorem d_X7_countMet_30 : decode prog_9_method_12_code 30 = .ok (.invokevirtual 46, 3) := gq_17 db00b_86 eb_66
theorem d_X7_countMet_33 : decode prog_9_method_12_code 33 = .ok (.iconst 1, 1) := gq_18 db00b_86 eb_19
theorem d_X7_countMet_34 : decode prog_9_method_12_code 34 = .ok (.if_icmp .ne 6, 3) := gq_19 db00b_86 eb_40
theorem d_X7_countMet_37 : decode prog_9_method_12_code 37 = .ok (.iinc 4 1, 3) := gq_20 db00b_86 eb_144
theorem d_X7_countMet_40 : decode prog_9_method_12_code 40 = .ok (.iinc 5 1, 3) := gq_21 db00b_86 eb_220
theorem d_X7_countMet_43 : decode prog_9_method_12_code 43 = .ok (.goto (-37), 3) := gq_22 db00b_86 eb_428
theorem d_X7_countMet_46 : decode prog_9_method_12_code 46 = .ok (.iload 4, 2) := gq_23 db00b_86 eb_76
theorem db00b_87 : Pf_ prog_9_method_12_code [(48, [0xac])] := pf_ok prog_9_method_12_code _ 48 (by decide +kernel)
theorem d_X7_countMet_48 : decode prog_9_method_12_code 48 = .ok (.ireturn, 1) := gq_0 db00b_87 eb_15
theorem db00b_88 : Pf_ prog_9_method_13_code [(0, [0x03]), (1, [0x36, 0x04]), (3, [0x03]), (4, [0x36, 0x05]), (6, [0x15, 0x05]), (8, [0x2a]), (9, [0xb4, 0x00, 0x2a]), (12, [0xa2, 0x00, 0x2c]), (15, [0x2a]), (16, [0x15, 0x05]), (18, [0x1b]), (19, [0x1c]), (20, [0xb6, 0x00, 0x3c]), (23, [0x99, 0x00, 0x1b]), (26, [0x2a]), (27, [0x15, 0x05]), (29, [0x1d]), (30, [0xb6, 0x00, 0x39]), (33, [0x36, 0x06]), (35, [0x15, 0x06]), (37, [0x04]), (38, [0x9f, 0x00, 0x09]), (41, [0x15, 0x06]), (43, [0x08])] := pf_ok prog_9_method_13_code _ 0 (by decide +kernel)
theorem d_X7_countBlamed_0 : decode prog_9_method_13_code 0 = .ok (.iconst 0, 1) := gq_0 db00b_88 eb_21
theorem d_X7_countBlamed_1 : decode prog_9_method_13_code 1 = .ok (.istore 4, 2) := gq_1 db00b_88 eb_133
theorem d_X7_countBlamed_3 : decode prog_9_method_13_code 3 = .ok (.iconst 0, 1) := gq_2 db00b_88 eb_21
theorem d_X7_countBlamed_4 : decode prog_9_method_13_code 4 = .ok (.istore 5, 2) := gq_3 db00b_88 eb_134
theorem d_X7_countBlamed_6 : decode prog_9_method_13_code 6 = .ok (.iload 5, 2) := gq_4 db00b_88 eb_125
theorem d_X7_countBlamed_8 : decode prog_9_method_13_code 8 = .ok (.aload_n 0, 1) := gq_5 db00b_88 eb_0
theorem d_X7_countBlamed_9 : decode prog_9_method_13_code 9 = .ok (.getfield 42, 3) := gq_6 db00b_88 eb_177
theorem d_X7_countBlamed_12 : decode prog_9_method_13_code 12 = .ok (.if_icmp .ge 44, 3) := gq_7 db00b_88 eb_429
theorem d_X7_countBlamed_15 : decode prog_9_method_13_code 15 = .ok (.aload_n 0, 1) := gq_8 db00b_88 eb_0
theorem d_X7_countBlamed_16 : decode prog_9_method_13_code 16 = .ok (.iload 5, 2) := gq_9 db00b_88 eb_125
theorem d_X7_countBlamed_18 : decode prog_9_method_13_code 18 = .ok (.iload_n 1, 1) := gq_10 db00b_88 eb_9
theorem d_X7_countBlamed_19 : decode prog_9_method_13_code 19 = .ok (.iload_n 2, 1) := gq_11 db00b_88 eb_13
theorem d_X7_countBlamed_20 : decode prog_9_method_13_code 20 = .ok (.invokevirtual 60, 3) := gq_12 db00b_88 eb_84
theorem d_X7_countBlamed_23 : decode prog_9_method_13_code 23 = .ok (.ifCond .eq 27, 3) := gq_13 db00b_88 eb_430
theorem d_X7_countBlamed_26 : decode prog_9_method_13_code 26 = .ok (.aload_n 0, 1) := gq_14 db00b_88 eb_0
theorem d_X7_countBlamed_27 : decode prog_9_method_13_code 27 = .ok (.iload 5, 2) := gq_15 db00b_88 eb_125
theorem d_X7_countBlamed_29 : decode prog_9_method_13_code 29 = .ok (.iload_n 3, 1) := gq_16 db00b_88 eb_29
theorem d_X7_countBlamed_30 : decode prog_9_method_13_code 30 = .ok (.invokevirtual 57, 3) := gq_17 db00b_88 eb_356
theorem d_X7_countBlamed_33 : decode prog_9_method_13_code 33 = .ok (.istore 6, 2) := gq_18 db00b_88 eb_58
theorem d_X7_countBlamed_35 : decode prog_9_method_13_code 35 = .ok (.iload 6, 2) := gq_19 db00b_88 eb_75
theorem d_X7_countBlamed_37 : decode prog_9_method_13_code 37 = .ok (.iconst 1, 1) := gq_20 db00b_88 eb_19
theorem d_X7_countBlamed_38 : decode prog_9_method_13_code 38 = .ok (.if_icmp .eq 9, 3) := gq_21 db00b_88 eb_431
theorem d_X7_countBlamed_41 : decode prog_9_method_13_code 41 = .ok (.iload 6, 2) := gq_22 db00b_88 eb_75
theorem d_X7_countBlamed_43 : decode prog_9_method_13_code 43 = .ok (.iconst 5, 1) := gq_23 db00b_88 eb_122
theorem db00b_89 : Pf_ prog_9_method_13_code [(44, [0xa1, 0x00, 0x06]), (47, [0x84, 0x04, 0x01]), (50, [0x84, 0x05, 0x01]), (53, [0xa7, 0xff, 0xd1]), (56, [0x15, 0x04]), (58, [0xac])] := pf_ok prog_9_method_13_code _ 44 (by decide +kernel)
theorem d_X7_countBlamed_44 : decode prog_9_method_13_code 44 = .ok (.if_icmp .lt 6, 3) := gq_0 db00b_89 eb_432
theorem d_X7_countBlamed_47 : decode prog_9_method_13_code 47 = .ok (.iinc 4 1, 3) := gq_1 db00b_89 eb_144
theorem d_X7_countBlamed_50 : decode prog_9_method_13_code 50 = .ok (.iinc 5 1, 3) := gq_2 db00b_89 eb_220
theorem d_X7_countBlamed_53 : decode prog_9_method_13_code 53 = .ok (.goto (-47), 3) := gq_3 db00b_89 eb_433
theorem d_X7_countBlamed_56 : decode prog_9_method_13_code 56 = .ok (.iload 4, 2) := gq_4 db00b_89 eb_76
theorem d_X7_countBlamed_58 : decode prog_9_method_13_code 58 = .ok (.ireturn, 1) := gq_5 db00b_89 eb_15
theorem d_X8_init_8 : decode prog_10_method_1_code 8 = .ok (.newarray .int, 2) := by decide +kernel
theorem d_X8_init_23 : decode prog_10_method_1_code 23 = .ok (.newarray .int, 2) := by decide +kernel
theorem d_X8_init_32 : decode prog_10_method_1_code 32 = .ok (.newarray .int, 2) := by decide +kernel
theorem db00b_90 : Pf_ prog_10_method_1_code [(0, [0x2a]), (1, [0xb7, 0x00, 0x03]), (4, [0x2a]), (5, [0x11, 0x00, 0xa0]), (10, [0xb5, 0x00, 0x0b]), (13, [0x2a]), (14, [0x12, 0x0f]), (16, [0xb5, 0x00, 0x11]), (19, [0x2a]), (20, [0x11, 0x00, 0x96]), (25, [0xb5, 0x00, 0x17]), (28, [0x2a]), (29, [0x11, 0x00, 0xa4]), (34, [0xb5, 0x00, 0x1c]), (37, [0xb1])] := pf_ok prog_10_method_1_code _ 0 (by decide +kernel)
theorem d_X8_init_0 : decode prog_10_method_1_code 0 = .ok (.aload_n 0, 1) := gq_0 db00b_90 eb_0
theorem d_X8_init_1 : decode prog_10_method_1_code 1 = .ok (.invokespecial 3, 3) := gq_1 db00b_90 eb_1
theorem d_X8_init_4 : decode prog_10_method_1_code 4 = .ok (.aload_n 0, 1) := gq_2 db00b_90 eb_0
theorem d_X8_init_5 : decode prog_10_method_1_code 5 = .ok (.sipush 160, 3) := gq_3 db00b_90 eb_434
theorem d_X8_init_10 : decode prog_10_method_1_code 10 = .ok (.putfield 11, 3) := gq_4 db00b_90 eb_3
theorem d_X8_init_13 : decode prog_10_method_1_code 13 = .ok (.aload_n 0, 1) := gq_5 db00b_90 eb_0
theorem d_X8_init_14 : decode prog_10_method_1_code 14 = .ok (.ldc 15, 2) := gq_6 db00b_90 eb_435
theorem d_X8_init_16 : decode prog_10_method_1_code 16 = .ok (.putfield 17, 3) := gq_7 db00b_90 eb_436
theorem d_X8_init_19 : decode prog_10_method_1_code 19 = .ok (.aload_n 0, 1) := gq_8 db00b_90 eb_0
theorem d_X8_init_20 : decode prog_10_method_1_code 20 = .ok (.sipush 150, 3) := gq_9 db00b_90 eb_33
theorem d_X8_init_25 : decode prog_10_method_1_code 25 = .ok (.putfield 23, 3) := gq_10 db00b_90 eb_437
theorem d_X8_init_28 : decode prog_10_method_1_code 28 = .ok (.aload_n 0, 1) := gq_11 db00b_90 eb_0
theorem d_X8_init_29 : decode prog_10_method_1_code 29 = .ok (.sipush 164, 3) := gq_12 db00b_90 eb_438
theorem d_X8_init_34 : decode prog_10_method_1_code 34 = .ok (.putfield 28, 3) := gq_13 db00b_90 eb_350
theorem d_X8_init_37 : decode prog_10_method_1_code 37 = .ok (.return_, 1) := gq_14 db00b_90 eb_7
theorem db00b_91 : Pf_ prog_10_method_2_code [(0, [0x1b]), (1, [0xb8, 0x00, 0x1f]), (4, [0x1c]), (5, [0xb8, 0x00, 0x1f]), (8, [0x60]), (9, [0x1d]), (10, [0xb8, 0x00, 0x1f]), (13, [0x60]), (14, [0x15, 0x04]), (16, [0xb8, 0x00, 0x1f]), (19, [0x60]), (20, [0x15, 0x05]), (22, [0xb8, 0x00, 0x1f]), (25, [0x60]), (26, [0x36, 0x06]), (28, [0x2a]), (29, [0xb4, 0x00, 0x23]), (32, [0x15, 0x06]), (34, [0x60]), (35, [0x11, 0x00, 0xa0]), (38, [0xa4, 0x00, 0x05]), (41, [0x02]), (42, [0xac]), (43, [0x2a])] := pf_ok prog_10_method_2_code _ 0 (by decide +kernel)
theorem d_X8_takeIn_0 : decode prog_10_method_2_code 0 = .ok (.iload_n 1, 1) := gq_0 db00b_91 eb_9
theorem d_X8_takeIn_1 : decode prog_10_method_2_code 1 = .ok (.invokestatic 31, 3) := gq_1 db00b_91 eb_439
theorem d_X8_takeIn_4 : decode prog_10_method_2_code 4 = .ok (.iload_n 2, 1) := gq_2 db00b_91 eb_13
theorem d_X8_takeIn_5 : decode prog_10_method_2_code 5 = .ok (.invokestatic 31, 3) := gq_3 db00b_91 eb_439
theorem d_X8_takeIn_8 : decode prog_10_method_2_code 8 = .ok (.iadd, 1) := gq_4 db00b_91 eb_35
theorem d_X8_takeIn_9 : decode prog_10_method_2_code 9 = .ok (.iload_n 3, 1) := gq_5 db00b_91 eb_29
theorem d_X8_takeIn_10 : decode prog_10_method_2_code 10 = .ok (.invokestatic 31, 3) := gq_6 db00b_91 eb_439
theorem d_X8_takeIn_13 : decode prog_10_method_2_code 13 = .ok (.iadd, 1) := gq_7 db00b_91 eb_35
theorem d_X8_takeIn_14 : decode prog_10_method_2_code 14 = .ok (.iload 4, 2) := gq_8 db00b_91 eb_76
theorem d_X8_takeIn_16 : decode prog_10_method_2_code 16 = .ok (.invokestatic 31, 3) := gq_9 db00b_91 eb_439
theorem d_X8_takeIn_19 : decode prog_10_method_2_code 19 = .ok (.iadd, 1) := gq_10 db00b_91 eb_35
theorem d_X8_takeIn_20 : decode prog_10_method_2_code 20 = .ok (.iload 5, 2) := gq_11 db00b_91 eb_125
theorem d_X8_takeIn_22 : decode prog_10_method_2_code 22 = .ok (.invokestatic 31, 3) := gq_12 db00b_91 eb_439
theorem d_X8_takeIn_25 : decode prog_10_method_2_code 25 = .ok (.iadd, 1) := gq_13 db00b_91 eb_35
theorem d_X8_takeIn_26 : decode prog_10_method_2_code 26 = .ok (.istore 6, 2) := gq_14 db00b_91 eb_58
theorem d_X8_takeIn_28 : decode prog_10_method_2_code 28 = .ok (.aload_n 0, 1) := gq_15 db00b_91 eb_0
theorem d_X8_takeIn_29 : decode prog_10_method_2_code 29 = .ok (.getfield 35, 3) := gq_16 db00b_91 eb_440
theorem d_X8_takeIn_32 : decode prog_10_method_2_code 32 = .ok (.iload 6, 2) := gq_17 db00b_91 eb_75
theorem d_X8_takeIn_34 : decode prog_10_method_2_code 34 = .ok (.iadd, 1) := gq_18 db00b_91 eb_35
theorem d_X8_takeIn_35 : decode prog_10_method_2_code 35 = .ok (.sipush 160, 3) := gq_19 db00b_91 eb_434
theorem d_X8_takeIn_38 : decode prog_10_method_2_code 38 = .ok (.if_icmp .le 5, 3) := gq_20 db00b_91 eb_334
theorem d_X8_takeIn_41 : decode prog_10_method_2_code 41 = .ok (.iconst (-1), 1) := gq_21 db00b_91 eb_26
theorem d_X8_takeIn_42 : decode prog_10_method_2_code 42 = .ok (.ireturn, 1) := gq_22 db00b_91 eb_15
theorem d_X8_takeIn_43 : decode prog_10_method_2_code 43 = .ok (.aload_n 0, 1) := gq_23 db00b_91 eb_0
theorem db00b_92 : Pf_ prog_10_method_2_code [(44, [0x1b]), (45, [0xb6, 0x00, 0x27]), (48, [0x2a]), (49, [0x1c]), (50, [0xb6, 0x00, 0x27]), (53, [0x2a]), (54, [0x1d]), (55, [0xb6, 0x00, 0x27]), (58, [0x2a]), (59, [0x15, 0x04]), (61, [0xb6, 0x00, 0x27]), (64, [0x2a]), (65, [0x15, 0x05]), (67, [0xb6, 0x00, 0x27]), (70, [0x2a]), (71, [0xb4, 0x00, 0x23]), (74, [0xac])] := pf_ok prog_10_method_2_code _ 44 (by decide +kernel)
theorem d_X8_takeIn_44 : decode prog_10_method_2_code 44 = .ok (.iload_n 1, 1) := gq_0 db00b_92 eb_9
theorem d_X8_takeIn_45 : decode prog_10_method_2_code 45 = .ok (.invokevirtual 39, 3) := gq_1 db00b_92 eb_49
theorem d_X8_takeIn_48 : decode prog_10_method_2_code 48 = .ok (.aload_n 0, 1) := gq_2 db00b_92 eb_0
theorem d_X8_takeIn_49 : decode prog_10_method_2_code 49 = .ok (.iload_n 2, 1) := gq_3 db00b_92 eb_13
theorem d_X8_takeIn_50 : decode prog_10_method_2_code 50 = .ok (.invokevirtual 39, 3) := gq_4 db00b_92 eb_49
theorem d_X8_takeIn_53 : decode prog_10_method_2_code 53 = .ok (.aload_n 0, 1) := gq_5 db00b_92 eb_0
theorem d_X8_takeIn_54 : decode prog_10_method_2_code 54 = .ok (.iload_n 3, 1) := gq_6 db00b_92 eb_29
theorem d_X8_takeIn_55 : decode prog_10_method_2_code 55 = .ok (.invokevirtual 39, 3) := gq_7 db00b_92 eb_49
theorem d_X8_takeIn_58 : decode prog_10_method_2_code 58 = .ok (.aload_n 0, 1) := gq_8 db00b_92 eb_0
theorem d_X8_takeIn_59 : decode prog_10_method_2_code 59 = .ok (.iload 4, 2) := gq_9 db00b_92 eb_76
theorem d_X8_takeIn_61 : decode prog_10_method_2_code 61 = .ok (.invokevirtual 39, 3) := gq_10 db00b_92 eb_49
theorem d_X8_takeIn_64 : decode prog_10_method_2_code 64 = .ok (.aload_n 0, 1) := gq_11 db00b_92 eb_0
theorem d_X8_takeIn_65 : decode prog_10_method_2_code 65 = .ok (.iload 5, 2) := gq_12 db00b_92 eb_125
theorem d_X8_takeIn_67 : decode prog_10_method_2_code 67 = .ok (.invokevirtual 39, 3) := gq_13 db00b_92 eb_49
theorem d_X8_takeIn_70 : decode prog_10_method_2_code 70 = .ok (.aload_n 0, 1) := gq_14 db00b_92 eb_0
theorem d_X8_takeIn_71 : decode prog_10_method_2_code 71 = .ok (.getfield 35, 3) := gq_15 db00b_92 eb_440
theorem d_X8_takeIn_74 : decode prog_10_method_2_code 74 = .ok (.ireturn, 1) := gq_16 db00b_92 eb_15
theorem db00b_93 : Pf_ prog_10_method_3_code [(0, [0x03]), (1, [0x3c]), (2, [0x10, 0x18]), (4, [0x3d]), (5, [0x1c]), (6, [0x9b, 0x00, 0x16]), (9, [0x1a]), (10, [0x1c]), (11, [0x7a]), (12, [0x11, 0x00, 0xff]), (15, [0x7e]), (16, [0x99, 0x00, 0x06]), (19, [0x84, 0x01, 0x01]), (22, [0x84, 0x02, 0xf8]), (25, [0xa7, 0xff, 0xec]), (28, [0x1b]), (29, [0xac])] := pf_ok prog_10_method_3_code _ 0 (by decide +kernel)
theorem d_X8_signs_0 : decode prog_10_method_3_code 0 = .ok (.iconst 0, 1) := gq_0 db00b_93 eb_21
theorem d_X8_signs_1 : decode prog_10_method_3_code 1 = .ok (.istore_n 1, 1) := gq_1 db00b_93 eb_222
theorem d_X8_signs_2 : decode prog_10_method_3_code 2 = .ok (.bipush 24, 2) := gq_2 db00b_93 eb_441
theorem d_X8_signs_4 : decode prog_10_method_3_code 4 = .ok (.istore_n 2, 1) := gq_3 db00b_93 eb_27
theorem d_X8_signs_5 : decode prog_10_method_3_code 5 = .ok (.iload_n 2, 1) := gq_4 db00b_93 eb_13
theorem d_X8_signs_6 : decode prog_10_method_3_code 6 = .ok (.ifCond .lt 22, 3) := gq_5 db00b_93 eb_442
theorem d_X8_signs_9 : decode prog_10_method_3_code 9 = .ok (.iload_n 0, 1) := gq_6 db00b_93 eb_8
theorem d_X8_signs_10 : decode prog_10_method_3_code 10 = .ok (.iload_n 2, 1) := gq_7 db00b_93 eb_13
theorem d_X8_signs_11 : decode prog_10_method_3_code 11 = .ok (.ishr, 1) := gq_8 db00b_93 eb_56
theorem d_X8_signs_12 : decode prog_10_method_3_code 12 = .ok (.sipush 255, 3) := gq_9 db00b_93 eb_443
theorem d_X8_signs_15 : decode prog_10_method_3_code 15 = .ok (.iand, 1) := gq_10 db00b_93 eb_55
theorem d_X8_signs_16 : decode prog_10_method_3_code 16 = .ok (.ifCond .eq 6, 3) := gq_11 db00b_93 eb_444
theorem d_X8_signs_19 : decode prog_10_method_3_code 19 = .ok (.iinc 1 1, 3) := gq_12 db00b_93 eb_228
theorem d_X8_signs_22 : decode prog_10_method_3_code 22 = .ok (.iinc 2 (-8), 3) := gq_13 db00b_93 eb_445
theorem d_X8_signs_25 : decode prog_10_method_3_code 25 = .ok (.goto (-20), 3) := gq_14 db00b_93 eb_446
theorem d_X8_signs_28 : decode prog_10_method_3_code 28 = .ok (.iload_n 1, 1) := gq_15 db00b_93 eb_9
theorem d_X8_signs_29 : decode prog_10_method_3_code 29 = .ok (.ireturn, 1) := gq_16 db00b_93 eb_15
theorem db00b_94 : Pf_ prog_10_method_4_code [(0, [0x10, 0x18]), (2, [0x3d]), (3, [0x1c]), (4, [0x9b, 0x00, 0x33]), (7, [0x1b]), (8, [0x1c]), (9, [0x7a]), (10, [0x11, 0x00, 0xff]), (13, [0x7e]), (14, [0x3e]), (15, [0x1d]), (16, [0x99, 0x00, 0x21]), (19, [0x2a]), (20, [0xb4, 0x00, 0x23]), (23, [0x11, 0x00, 0xa0]), (26, [0xa2, 0x00, 0x17]), (29, [0x2a]), (30, [0xb4, 0x00, 0x0b]), (33, [0x2a]), (34, [0xb4, 0x00, 0x23]), (37, [0x1d]), (38, [0x4f]), (39, [0x2a]), (40, [0x59])] := pf_ok prog_10_method_4_code _ 0 (by decide +kernel)
theorem d_X8_append_0 : decode prog_10_method_4_code 0 = .ok (.bipush 24, 2) := gq_0 db00b_94 eb_441
theorem d_X8_append_2 : decode prog_10_method_4_code 2 = .ok (.istore_n 2, 1) := gq_1 db00b_94 eb_27
theorem d_X8_append_3 : decode prog_10_method_4_code 3 = .ok (.iload_n 2, 1) := gq_2 db00b_94 eb_13
theorem d_X8_append_4 : decode prog_10_method_4_code 4 = .ok (.ifCond .lt 51, 3) := gq_3 db00b_94 eb_447
theorem d_X8_append_7 : decode prog_10_method_4_code 7 = .ok (.iload_n 1, 1) := gq_4 db00b_94 eb_9
theorem d_X8_append_8 : decode prog_10_method_4_code 8 = .ok (.iload_n 2, 1) := gq_5 db00b_94 eb_13
theorem d_X8_append_9 : decode prog_10_method_4_code 9 = .ok (.ishr, 1) := gq_6 db00b_94 eb_56
theorem d_X8_append_10 : decode prog_10_method_4_code 10 = .ok (.sipush 255, 3) := gq_7 db00b_94 eb_443
theorem d_X8_append_13 : decode prog_10_method_4_code 13 = .ok (.iand, 1) := gq_8 db00b_94 eb_55
theorem d_X8_append_14 : decode prog_10_method_4_code 14 = .ok (.istore_n 3, 1) := gq_9 db00b_94 eb_28
theorem d_X8_append_15 : decode prog_10_method_4_code 15 = .ok (.iload_n 3, 1) := gq_10 db00b_94 eb_29
theorem d_X8_append_16 : decode prog_10_method_4_code 16 = .ok (.ifCond .eq 33, 3) := gq_11 db00b_94 eb_448
theorem d_X8_append_19 : decode prog_10_method_4_code 19 = .ok (.aload_n 0, 1) := gq_12 db00b_94 eb_0
theorem d_X8_append_20 : decode prog_10_method_4_code 20 = .ok (.getfield 35, 3) := gq_13 db00b_94 eb_440
theorem d_X8_append_23 : decode prog_10_method_4_code 23 = .ok (.sipush 160, 3) := gq_14 db00b_94 eb_434
theorem d_X8_append_26 : decode prog_10_method_4_code 26 = .ok (.if_icmp .ge 23, 3) := gq_15 db00b_94 eb_117
theorem d_X8_append_29 : decode prog_10_method_4_code 29 = .ok (.aload_n 0, 1) := gq_16 db00b_94 eb_0
theorem d_X8_append_30 : decode prog_10_method_4_code 30 = .ok (.getfield 11, 3) := gq_17 db00b_94 eb_32
theorem d_X8_append_33 : decode prog_10_method_4_code 33 = .ok (.aload_n 0, 1) := gq_18 db00b_94 eb_0
theorem d_X8_append_34 : decode prog_10_method_4_code 34 = .ok (.getfield 35, 3) := gq_19 db00b_94 eb_440
theorem d_X8_append_37 : decode prog_10_method_4_code 37 = .ok (.iload_n 3, 1) := gq_20 db00b_94 eb_29
theorem d_X8_append_38 : decode prog_10_method_4_code 38 = .ok (.iastore, 1) := gq_21 db00b_94 eb_38
theorem d_X8_append_39 : decode prog_10_method_4_code 39 = .ok (.aload_n 0, 1) := gq_22 db00b_94 eb_0
theorem d_X8_append_40 : decode prog_10_method_4_code 40 = .ok (.dup, 1) := gq_23 db00b_94 eb_46
theorem db00b_95 : Pf_ prog_10_method_4_code [(41, [0xb4, 0x00, 0x23]), (44, [0x04]), (45, [0x60]), (46, [0xb5, 0x00, 0x23]), (49, [0x84, 0x02, 0xf8]), (52, [0xa7, 0xff, 0xcf]), (55, [0xb1])] := pf_ok prog_10_method_4_code _ 41 (by decide +kernel)
theorem d_X8_append_41 : decode prog_10_method_4_code 41 = .ok (.getfield 35, 3) := gq_0 db00b_95 eb_440
theorem d_X8_append_44 : decode prog_10_method_4_code 44 = .ok (.iconst 1, 1) := gq_1 db00b_95 eb_19
theorem d_X8_append_45 : decode prog_10_method_4_code 45 = .ok (.iadd, 1) := gq_2 db00b_95 eb_35
theorem d_X8_append_46 : decode prog_10_method_4_code 46 = .ok (.putfield 35, 3) := gq_3 db00b_95 eb_449
theorem d_X8_append_49 : decode prog_10_method_4_code 49 = .ok (.iinc 2 (-8), 3) := gq_4 db00b_95 eb_445
theorem d_X8_append_52 : decode prog_10_method_4_code 52 = .ok (.goto (-49), 3) := gq_5 db00b_95 eb_450
theorem d_X8_append_55 : decode prog_10_method_4_code 55 = .ok (.return_, 1) := gq_6 db00b_95 eb_7
theorem db00b_96 : Pf_ prog_10_method_5_code [(0, [0x1b]), (1, [0x03]), (2, [0x2a]), (3, [0xb4, 0x00, 0x23]), (6, [0xb8, 0x00, 0x2b]), (9, [0x9a, 0x00, 0x05]), (12, [0x03]), (13, [0xac]), (14, [0x2a]), (15, [0x1b]), (16, [0xb5, 0x00, 0x23]), (19, [0x04]), (20, [0xac])] := pf_ok prog_10_method_5_code _ 0 (by decide +kernel)
theorem d_X8_cut_0 : decode prog_10_method_5_code 0 = .ok (.iload_n 1, 1) := gq_0 db00b_96 eb_9
theorem d_X8_cut_1 : decode prog_10_method_5_code 1 = .ok (.iconst 0, 1) := gq_1 db00b_96 eb_21
theorem d_X8_cut_2 : decode prog_10_method_5_code 2 = .ok (.aload_n 0, 1) := gq_2 db00b_96 eb_0
theorem d_X8_cut_3 : decode prog_10_method_5_code 3 = .ok (.getfield 35, 3) := gq_3 db00b_96 eb_440
theorem d_X8_cut_6 : decode prog_10_method_5_code 6 = .ok (.invokestatic 43, 3) := gq_4 db00b_96 eb_451
theorem d_X8_cut_9 : decode prog_10_method_5_code 9 = .ok (.ifCond .ne 5, 3) := gq_5 db00b_96 eb_150
theorem d_X8_cut_12 : decode prog_10_method_5_code 12 = .ok (.iconst 0, 1) := gq_6 db00b_96 eb_21
theorem d_X8_cut_13 : decode prog_10_method_5_code 13 = .ok (.ireturn, 1) := gq_7 db00b_96 eb_15
theorem d_X8_cut_14 : decode prog_10_method_5_code 14 = .ok (.aload_n 0, 1) := gq_8 db00b_96 eb_0
theorem d_X8_cut_15 : decode prog_10_method_5_code 15 = .ok (.iload_n 1, 1) := gq_9 db00b_96 eb_9
theorem d_X8_cut_16 : decode prog_10_method_5_code 16 = .ok (.putfield 35, 3) := gq_10 db00b_96 eb_449
theorem d_X8_cut_19 : decode prog_10_method_5_code 19 = .ok (.iconst 1, 1) := gq_11 db00b_96 eb_19
theorem d_X8_cut_20 : decode prog_10_method_5_code 20 = .ok (.ireturn, 1) := gq_12 db00b_96 eb_15
theorem db00b_97 : Pf_ prog_10_method_6_code [(0, [0x2a]), (1, [0x03]), (2, [0xb5, 0x00, 0x2f]), (5, [0x2a]), (6, [0x02]), (7, [0xb5, 0x00, 0x32]), (10, [0x2a]), (11, [0x2b]), (12, [0xb5, 0x00, 0x11]), (15, [0x2a]), (16, [0x03]), (17, [0xb5, 0x00, 0x35]), (20, [0x2a]), (21, [0x03]), (22, [0xb5, 0x00, 0x38]), (25, [0x2a]), (26, [0x03]), (27, [0xb5, 0x00, 0x3c]), (30, [0xb1])] := pf_ok prog_10_method_6_code _ 0 (by decide +kernel)
theorem d_X8_restart_0 : decode prog_10_method_6_code 0 = .ok (.aload_n 0, 1) := gq_0 db00b_97 eb_0
theorem d_X8_restart_1 : decode prog_10_method_6_code 1 = .ok (.iconst 0, 1) := gq_1 db00b_97 eb_21
theorem d_X8_restart_2 : decode prog_10_method_6_code 2 = .ok (.putfield 47, 3) := gq_2 db00b_97 eb_452
theorem d_X8_restart_5 : decode prog_10_method_6_code 5 = .ok (.aload_n 0, 1) := gq_3 db00b_97 eb_0
theorem d_X8_restart_6 : decode prog_10_method_6_code 6 = .ok (.iconst (-1), 1) := gq_4 db00b_97 eb_26
theorem d_X8_restart_7 : decode prog_10_method_6_code 7 = .ok (.putfield 50, 3) := gq_5 db00b_97 eb_424
theorem d_X8_restart_10 : decode prog_10_method_6_code 10 = .ok (.aload_n 0, 1) := gq_6 db00b_97 eb_0
theorem d_X8_restart_11 : decode prog_10_method_6_code 11 = .ok (.aload_n 1, 1) := gq_7 db00b_97 eb_23
theorem d_X8_restart_12 : decode prog_10_method_6_code 12 = .ok (.putfield 17, 3) := gq_8 db00b_97 eb_436
theorem d_X8_restart_15 : decode prog_10_method_6_code 15 = .ok (.aload_n 0, 1) := gq_9 db00b_97 eb_0
theorem d_X8_restart_16 : decode prog_10_method_6_code 16 = .ok (.iconst 0, 1) := gq_10 db00b_97 eb_21
theorem d_X8_restart_17 : decode prog_10_method_6_code 17 = .ok (.putfield 53, 3) := gq_11 db00b_97 eb_453
theorem d_X8_restart_20 : decode prog_10_method_6_code 20 = .ok (.aload_n 0, 1) := gq_12 db00b_97 eb_0
theorem d_X8_restart_21 : decode prog_10_method_6_code 21 = .ok (.iconst 0, 1) := gq_13 db00b_97 eb_21
theorem d_X8_restart_22 : decode prog_10_method_6_code 22 = .ok (.putfield 56, 3) := gq_14 db00b_97 eb_454
theorem d_X8_restart_25 : decode prog_10_method_6_code 25 = .ok (.aload_n 0, 1) := gq_15 db00b_97 eb_0
theorem d_X8_restart_26 : decode prog_10_method_6_code 26 = .ok (.iconst 0, 1) := gq_16 db00b_97 eb_21
theorem d_X8_restart_27 : decode prog_10_method_6_code 27 = .ok (.putfield 60, 3) := gq_17 db00b_97 eb_115
theorem d_X8_restart_30 : decode prog_10_method_6_code 30 = .ok (.return_, 1) := gq_18 db00b_97 eb_7
theorem db00b_98 : Pf_ prog_10_method_7_code [(0, [0x2a]), (1, [0xb4, 0x00, 0x2f]), (4, [0x2a]), (5, [0xb4, 0x00, 0x23]), (8, [0xa2, 0x00, 0x1e]), (11, [0x2a]), (12, [0xb4, 0x00, 0x0b]), (15, [0x2a]), (16, [0xb4, 0x00, 0x2f]), (19, [0x2e]), (20, [0x10, 0x20]), (22, [0xa0, 0x00, 0x10]), (25, [0x2a]), (26, [0x59]), (27, [0xb4, 0x00, 0x2f]), (30, [0x04]), (31, [0x60]), (32, [0xb5, 0x00, 0x2f]), (35, [0xa7, 0xff, 0xdd]), (38, [0x2a]), (39, [0xb4, 0x00, 0x2f]), (42, [0x2a]), (43, [0xb4, 0x00, 0x23]), (46, [0xa2, 0x00, 0x0f])] := pf_ok prog_10_method_7_code _ 0 (by decide +kernel)
theorem d_X8_peek_0 : decode prog_10_method_7_code 0 = .ok (.aload_n 0, 1) := gq_0 db00b_98 eb_0
theorem d_X8_peek_1 : decode prog_10_method_7_code 1 = .ok (.getfield 47, 3) := gq_1 db00b_98 eb_455
theorem d_X8_peek_4 : decode prog_10_method_7_code 4 = .ok (.aload_n 0, 1) := gq_2 db00b_98 eb_0
theorem d_X8_peek_5 : decode prog_10_method_7_code 5 = .ok (.getfield 35, 3) := gq_3 db00b_98 eb_440
theorem d_X8_peek_8 : decode prog_10_method_7_code 8 = .ok (.if_icmp .ge 30, 3) := gq_4 db00b_98 eb_247
theorem d_X8_peek_11 : decode prog_10_method_7_code 11 = .ok (.aload_n 0, 1) := gq_5 db00b_98 eb_0
theorem d_X8_peek_12 : decode prog_10_method_7_code 12 = .ok (.getfield 11, 3) := gq_6 db00b_98 eb_32
theorem d_X8_peek_15 : decode prog_10_method_7_code 15 = .ok (.aload_n 0, 1) := gq_7 db00b_98 eb_0
theorem d_X8_peek_16 : decode prog_10_method_7_code 16 = .ok (.getfield 47, 3) := gq_8 db00b_98 eb_455
theorem d_X8_peek_19 : decode prog_10_method_7_code 19 = .ok (.iaload, 1) := gq_9 db00b_98 eb_37
theorem d_X8_peek_20 : decode prog_10_method_7_code 20 = .ok (.bipush 32, 2) := gq_10 db00b_98 eb_456
theorem d_X8_peek_22 : decode prog_10_method_7_code 22 = .ok (.if_icmp .ne 16, 3) := gq_11 db00b_98 eb_79
theorem d_X8_peek_25 : decode prog_10_method_7_code 25 = .ok (.aload_n 0, 1) := gq_12 db00b_98 eb_0
theorem d_X8_peek_26 : decode prog_10_method_7_code 26 = .ok (.dup, 1) := gq_13 db00b_98 eb_46
theorem d_X8_peek_27 : decode prog_10_method_7_code 27 = .ok (.getfield 47, 3) := gq_14 db00b_98 eb_455
theorem d_X8_peek_30 : decode prog_10_method_7_code 30 = .ok (.iconst 1, 1) := gq_15 db00b_98 eb_19
theorem d_X8_peek_31 : decode prog_10_method_7_code 31 = .ok (.iadd, 1) := gq_16 db00b_98 eb_35
theorem d_X8_peek_32 : decode prog_10_method_7_code 32 = .ok (.putfield 47, 3) := gq_17 db00b_98 eb_452
theorem d_X8_peek_35 : decode prog_10_method_7_code 35 = .ok (.goto (-35), 3) := gq_18 db00b_98 eb_149
theorem d_X8_peek_38 : decode prog_10_method_7_code 38 = .ok (.aload_n 0, 1) := gq_19 db00b_98 eb_0
theorem d_X8_peek_39 : decode prog_10_method_7_code 39 = .ok (.getfield 47, 3) := gq_20 db00b_98 eb_455
theorem d_X8_peek_42 : decode prog_10_method_7_code 42 = .ok (.aload_n 0, 1) := gq_21 db00b_98 eb_0
theorem d_X8_peek_43 : decode prog_10_method_7_code 43 = .ok (.getfield 35, 3) := gq_22 db00b_98 eb_440
theorem d_X8_peek_46 : decode prog_10_method_7_code 46 = .ok (.if_icmp .ge 15, 3) := gq_23 db00b_98 eb_457
theorem db00b_99 : Pf_ prog_10_method_7_code [(49, [0x2a]), (50, [0xb4, 0x00, 0x0b]), (53, [0x2a]), (54, [0xb4, 0x00, 0x2f]), (57, [0x2e]), (58, [0xa7, 0x00, 0x04]), (61, [0x02]), (62, [0xac])] := pf_ok prog_10_method_7_code _ 49 (by decide +kernel)
theorem d_X8_peek_49 : decode prog_10_method_7_code 49 = .ok (.aload_n 0, 1) := gq_0 db00b_99 eb_0
theorem d_X8_peek_50 : decode prog_10_method_7_code 50 = .ok (.getfield 11, 3) := gq_1 db00b_99 eb_32
theorem d_X8_peek_53 : decode prog_10_method_7_code 53 = .ok (.aload_n 0, 1) := gq_2 db00b_99 eb_0
theorem d_X8_peek_54 : decode prog_10_method_7_code 54 = .ok (.getfield 47, 3) := gq_3 db00b_99 eb_455
theorem d_X8_peek_57 : decode prog_10_method_7_code 57 = .ok (.iaload, 1) := gq_4 db00b_99 eb_37
theorem d_X8_peek_58 : decode prog_10_method_7_code 58 = .ok (.goto 4, 3) := gq_5 db00b_99 eb_20
theorem d_X8_peek_61 : decode prog_10_method_7_code 61 = .ok (.iconst (-1), 1) := gq_6 db00b_99 eb_26
theorem d_X8_peek_62 : decode prog_10_method_7_code 62 = .ok (.ireturn, 1) := gq_7 db00b_99 eb_15
theorem db00b_100 : Pf_ prog_10_method_8_code [(0, [0x2a]), (1, [0x2a]), (2, [0xb4, 0x00, 0x2f]), (5, [0xb5, 0x00, 0x32]), (8, [0x03]), (9, [0xac])] := pf_ok prog_10_method_8_code _ 0 (by decide +kernel)
theorem d_X8_fail_0 : decode prog_10_method_8_code 0 = .ok (.aload_n 0, 1) := gq_0 db00b_100 eb_0
theorem d_X8_fail_1 : decode prog_10_method_8_code 1 = .ok (.aload_n 0, 1) := gq_1 db00b_100 eb_0
theorem d_X8_fail_2 : decode prog_10_method_8_code 2 = .ok (.getfield 47, 3) := gq_2 db00b_100 eb_455
theorem d_X8_fail_5 : decode prog_10_method_8_code 5 = .ok (.putfield 50, 3) := gq_3 db00b_100 eb_424
theorem d_X8_fail_8 : decode prog_10_method_8_code 8 = .ok (.iconst 0, 1) := gq_4 db00b_100 eb_21
theorem d_X8_fail_9 : decode prog_10_method_8_code 9 = .ok (.ireturn, 1) := gq_5 db00b_100 eb_15
theorem db00b_101 : Pf_ prog_10_method_9_code [(0, [0x2a]), (1, [0xb6, 0x00, 0x3f]), (4, [0x1b]), (5, [0x9f, 0x00, 0x08]), (8, [0x2a]), (9, [0xb6, 0x00, 0x43]), (12, [0xac]), (13, [0x2a]), (14, [0x59]), (15, [0xb4, 0x00, 0x2f]), (18, [0x04]), (19, [0x60]), (20, [0xb5, 0x00, 0x2f]), (23, [0x04]), (24, [0xac])] := pf_ok prog_10_method_9_code _ 0 (by decide +kernel)
theorem d_X8_expect_0 : decode prog_10_method_9_code 0 = .ok (.aload_n 0, 1) := gq_0 db00b_101 eb_0
theorem d_X8_expect_1 : decode prog_10_method_9_code 1 = .ok (.invokevirtual 63, 3) := gq_1 db00b_101 eb_357
theorem d_X8_expect_4 : decode prog_10_method_9_code 4 = .ok (.iload_n 1, 1) := gq_2 db00b_101 eb_9
theorem d_X8_expect_5 : decode prog_10_method_9_code 5 = .ok (.if_icmp .eq 8, 3) := gq_3 db00b_101 eb_458
theorem d_X8_expect_8 : decode prog_10_method_9_code 8 = .ok (.aload_n 0, 1) := gq_4 db00b_101 eb_0
theorem d_X8_expect_9 : decode prog_10_method_9_code 9 = .ok (.invokevirtual 67, 3) := gq_5 db00b_101 eb_215
theorem d_X8_expect_12 : decode prog_10_method_9_code 12 = .ok (.ireturn, 1) := gq_6 db00b_101 eb_15
theorem d_X8_expect_13 : decode prog_10_method_9_code 13 = .ok (.aload_n 0, 1) := gq_7 db00b_101 eb_0
theorem d_X8_expect_14 : decode prog_10_method_9_code 14 = .ok (.dup, 1) := gq_8 db00b_101 eb_46
theorem d_X8_expect_15 : decode prog_10_method_9_code 15 = .ok (.getfield 47, 3) := gq_9 db00b_101 eb_455
theorem d_X8_expect_18 : decode prog_10_method_9_code 18 = .ok (.iconst 1, 1) := gq_10 db00b_101 eb_19
theorem d_X8_expect_19 : decode prog_10_method_9_code 19 = .ok (.iadd, 1) := gq_11 db00b_101 eb_35
theorem d_X8_expect_20 : decode prog_10_method_9_code 20 = .ok (.putfield 47, 3) := gq_12 db00b_101 eb_452
theorem d_X8_expect_23 : decode prog_10_method_9_code 23 = .ok (.iconst 1, 1) := gq_13 db00b_101 eb_19
theorem d_X8_expect_24 : decode prog_10_method_9_code 24 = .ok (.ireturn, 1) := gq_14 db00b_101 eb_15
theorem db00b_102 : Pf_ prog_10_method_10_code [(0, [0x1a]), (1, [0x10, 0x30]), (3, [0xa1, 0x00, 0x0d]), (6, [0x1a]), (7, [0x10, 0x39]), (9, [0xa3, 0x00, 0x07]), (12, [0x04]), (13, [0xa7, 0x00, 0x04]), (16, [0x03]), (17, [0xac])] := pf_ok prog_10_method_10_code _ 0 (by decide +kernel)
theorem d_X8_isDigit_0 : decode prog_10_method_10_code 0 = .ok (.iload_n 0, 1) := gq_0 db00b_102 eb_8
theorem d_X8_isDigit_1 : decode prog_10_method_10_code 1 = .ok (.bipush 48, 2) := gq_1 db00b_102 eb_317
theorem d_X8_isDigit_3 : decode prog_10_method_10_code 3 = .ok (.if_icmp .lt 13, 3) := gq_2 db00b_102 eb_459
theorem d_X8_isDigit_6 : decode prog_10_method_10_code 6 = .ok (.iload_n 0, 1) := gq_3 db00b_102 eb_8
theorem d_X8_isDigit_7 : decode prog_10_method_10_code 7 = .ok (.bipush 57, 2) := gq_4 db00b_102 eb_460
theorem d_X8_isDigit_9 : decode prog_10_method_10_code 9 = .ok (.if_icmp .gt 7, 3) := gq_5 db00b_102 eb_113
theorem d_X8_isDigit_12 : decode prog_10_method_10_code 12 = .ok (.iconst 1, 1) := gq_6 db00b_102 eb_19
theorem d_X8_isDigit_13 : decode prog_10_method_10_code 13 = .ok (.goto 4, 3) := gq_7 db00b_102 eb_20
theorem d_X8_isDigit_16 : decode prog_10_method_10_code 16 = .ok (.iconst 0, 1) := gq_8 db00b_102 eb_21
theorem d_X8_isDigit_17 : decode prog_10_method_10_code 17 = .ok (.ireturn, 1) := gq_9 db00b_102 eb_15
theorem db00b_103 : Pf_ prog_10_method_11_code [(0, [0x03]), (1, [0x3e]), (2, [0x03]), (3, [0x36, 0x04]), (5, [0x2a]), (6, [0xb6, 0x00, 0x3f]), (9, [0xb8, 0x00, 0x47]), (12, [0x36, 0x05]), (14, [0x15, 0x05]), (16, [0x99, 0x00, 0x4f]), (19, [0x2a]), (20, [0xb4, 0x00, 0x2f]), (23, [0x2a]), (24, [0xb4, 0x00, 0x23]), (27, [0xa2, 0x00, 0x44]), (30, [0x2a]), (31, [0xb4, 0x00, 0x0b]), (34, [0x2a]), (35, [0xb4, 0x00, 0x2f]), (38, [0x2e]), (39, [0xb8, 0x00, 0x47]), (42, [0x99, 0x00, 0x35]), (45, [0x15, 0x04]), (47, [0x07])] := pf_ok prog_10_method_11_code _ 0 (by decide +kernel)
theorem d_X8_readNumber_0 : decode prog_10_method_11_code 0 = .ok (.iconst 0, 1) := gq_0 db00b_103 eb_21
theorem d_X8_readNumber_1 : decode prog_10_method_11_code 1 = .ok (.istore_n 3, 1) := gq_1 db00b_103 eb_28
theorem d_X8_readNumber_2 : decode prog_10_method_11_code 2 = .ok (.iconst 0, 1) := gq_2 db00b_103 eb_21
theorem d_X8_readNumber_3 : decode prog_10_method_11_code 3 = .ok (.istore 4, 2) := gq_3 db00b_103 eb_133
theorem d_X8_readNumber_5 : decode prog_10_method_11_code 5 = .ok (.aload_n 0, 1) := gq_4 db00b_103 eb_0
theorem d_X8_readNumber_6 : decode prog_10_method_11_code 6 = .ok (.invokevirtual 63, 3) := gq_5 db00b_103 eb_357
theorem d_X8_readNumber_9 : decode prog_10_method_11_code 9 = .ok (.invokestatic 71, 3) := gq_6 db00b_103 eb_118
theorem d_X8_readNumber_12 : decode prog_10_method_11_code 12 = .ok (.istore 5, 2) := gq_7 db00b_103 eb_134
theorem d_X8_readNumber_14 : decode prog_10_method_11_code 14 = .ok (.iload 5, 2) := gq_8 db00b_103 eb_125
theorem d_X8_readNumber_16 : decode prog_10_method_11_code 16 = .ok (.ifCond .eq 79, 3) := gq_9 db00b_103 eb_461
theorem d_X8_readNumber_19 : decode prog_10_method_11_code 19 = .ok (.aload_n 0, 1) := gq_10 db00b_103 eb_0
theorem d_X8_readNumber_20 : decode prog_10_method_11_code 20 = .ok (.getfield 47, 3) := gq_11 db00b_103 eb_455
theorem d_X8_readNumber_23 : decode prog_10_method_11_code 23 = .ok (.aload_n 0, 1) := gq_12 db00b_103 eb_0
theorem d_X8_readNumber_24 : decode prog_10_method_11_code 24 = .ok (.getfield 35, 3) := gq_13 db00b_103 eb_440
theorem d_X8_readNumber_27 : decode prog_10_method_11_code 27 = .ok (.if_icmp .ge 68, 3) := gq_14 db00b_103 eb_322
theorem d_X8_readNumber_30 : decode prog_10_method_11_code 30 = .ok (.aload_n 0, 1) := gq_15 db00b_103 eb_0
theorem d_X8_readNumber_31 : decode prog_10_method_11_code 31 = .ok (.getfield 11, 3) := gq_16 db00b_103 eb_32
theorem d_X8_readNumber_34 : decode prog_10_method_11_code 34 = .ok (.aload_n 0, 1) := gq_17 db00b_103 eb_0
theorem d_X8_readNumber_35 : decode prog_10_method_11_code 35 = .ok (.getfield 47, 3) := gq_18 db00b_103 eb_455
theorem d_X8_readNumber_38 : decode prog_10_method_11_code 38 = .ok (.iaload, 1) := gq_19 db00b_103 eb_37
theorem d_X8_readNumber_39 : decode prog_10_method_11_code 39 = .ok (.invokestatic 71, 3) := gq_20 db00b_103 eb_118
theorem d_X8_readNumber_42 : decode prog_10_method_11_code 42 = .ok (.ifCond .eq 53, 3) := gq_21 db00b_103 eb_462
theorem d_X8_readNumber_45 : decode prog_10_method_11_code 45 = .ok (.iload 4, 2) := gq_22 db00b_103 eb_76
theorem d_X8_readNumber_47 : decode prog_10_method_11_code 47 = .ok (.iconst 4, 1) := gq_23 db00b_103 eb_291
theorem db00b_104 : Pf_ prog_10_method_11_code [(48, [0xa0, 0x00, 0x0d]), (51, [0x2a]), (52, [0x2a]), (53, [0xb4, 0x00, 0x2f]), (56, [0xb5, 0x00, 0x32]), (59, [0x02]), (60, [0xac]), (61, [0x1d]), (62, [0x10, 0x0a]), (64, [0x68]), (65, [0x2a]), (66, [0xb4, 0x00, 0x0b]), (69, [0x2a]), (70, [0xb4, 0x00, 0x2f]), (73, [0x2e]), (74, [0x60]), (75, [0x10, 0x30]), (77, [0x64]), (78, [0x3e]), (79, [0x84, 0x04, 0x01]), (82, [0x2a]), (83, [0x59]), (84, [0xb4, 0x00, 0x2f]), (87, [0x04])] := pf_ok prog_10_method_11_code _ 48 (by decide +kernel)
theorem d_X8_readNumber_48 : decode prog_10_method_11_code 48 = .ok (.if_icmp .ne 13, 3) := gq_0 db00b_104 eb_423
theorem d_X8_readNumber_51 : decode prog_10_method_11_code 51 = .ok (.aload_n 0, 1) := gq_1 db00b_104 eb_0
theorem d_X8_readNumber_52 : decode prog_10_method_11_code 52 = .ok (.aload_n 0, 1) := gq_2 db00b_104 eb_0
theorem d_X8_readNumber_53 : decode prog_10_method_11_code 53 = .ok (.getfield 47, 3) := gq_3 db00b_104 eb_455
theorem d_X8_readNumber_56 : decode prog_10_method_11_code 56 = .ok (.putfield 50, 3) := gq_4 db00b_104 eb_424
theorem d_X8_readNumber_59 : decode prog_10_method_11_code 59 = .ok (.iconst (-1), 1) := gq_5 db00b_104 eb_26
theorem d_X8_readNumber_60 : decode prog_10_method_11_code 60 = .ok (.ireturn, 1) := gq_6 db00b_104 eb_15
theorem d_X8_readNumber_61 : decode prog_10_method_11_code 61 = .ok (.iload_n 3, 1) := gq_7 db00b_104 eb_29
theorem d_X8_readNumber_62 : decode prog_10_method_11_code 62 = .ok (.bipush 10, 2) := gq_8 db00b_104 eb_93
theorem d_X8_readNumber_64 : decode prog_10_method_11_code 64 = .ok (.imul, 1) := gq_9 db00b_104 eb_34
theorem d_X8_readNumber_65 : decode prog_10_method_11_code 65 = .ok (.aload_n 0, 1) := gq_10 db00b_104 eb_0
theorem d_X8_readNumber_66 : decode prog_10_method_11_code 66 = .ok (.getfield 11, 3) := gq_11 db00b_104 eb_32
theorem d_X8_readNumber_69 : decode prog_10_method_11_code 69 = .ok (.aload_n 0, 1) := gq_12 db00b_104 eb_0
theorem d_X8_readNumber_70 : decode prog_10_method_11_code 70 = .ok (.getfield 47, 3) := gq_13 db00b_104 eb_455
theorem d_X8_readNumber_73 : decode prog_10_method_11_code 73 = .ok (.iaload, 1) := gq_14 db00b_104 eb_37
theorem d_X8_readNumber_74 : decode prog_10_method_11_code 74 = .ok (.iadd, 1) := gq_15 db00b_104 eb_35
theorem d_X8_readNumber_75 : decode prog_10_method_11_code 75 = .ok (.bipush 48, 2) := gq_16 db00b_104 eb_317
theorem d_X8_readNumber_77 : decode prog_10_method_11_code 77 = .ok (.isub, 1) := gq_17 db00b_104 eb_48
theorem d_X8_readNumber_78 : decode prog_10_method_11_code 78 = .ok (.istore_n 3, 1) := gq_18 db00b_104 eb_28
theorem d_X8_readNumber_79 : decode prog_10_method_11_code 79 = .ok (.iinc 4 1, 3) := gq_19 db00b_104 eb_144
theorem d_X8_readNumber_82 : decode prog_10_method_11_code 82 = .ok (.aload_n 0, 1) := gq_20 db00b_104 eb_0
theorem d_X8_readNumber_83 : decode prog_10_method_11_code 83 = .ok (.dup, 1) := gq_21 db00b_104 eb_46
theorem d_X8_readNumber_84 : decode prog_10_method_11_code 84 = .ok (.getfield 47, 3) := gq_22 db00b_104 eb_455
theorem d_X8_readNumber_87 : decode prog_10_method_11_code 87 = .ok (.iconst 1, 1) := gq_23 db00b_104 eb_19
theorem db00b_105 : Pf_ prog_10_method_11_code [(88, [0x60]), (89, [0xb5, 0x00, 0x2f]), (92, [0xa7, 0xff, 0xb2]), (95, [0x15, 0x05]), (97, [0x9a, 0x00, 0x0d]), (100, [0x2a]), (101, [0x2a]), (102, [0xb4, 0x00, 0x2f]), (105, [0xb5, 0x00, 0x32]), (108, [0x02]), (109, [0xac]), (110, [0x1d]), (111, [0x1b]), (112, [0x1c]), (113, [0xb8, 0x00, 0x2b]), (116, [0x9a, 0x00, 0x0f]), (119, [0x2a]), (120, [0x2a]), (121, [0xb4, 0x00, 0x2f]), (124, [0x04]), (125, [0x64]), (126, [0xb5, 0x00, 0x32]), (129, [0x02]), (130, [0xac])] := pf_ok prog_10_method_11_code _ 88 (by decide +kernel)
theorem d_X8_readNumber_88 : decode prog_10_method_11_code 88 = .ok (.iadd, 1) := gq_0 db00b_105 eb_35
theorem d_X8_readNumber_89 : decode prog_10_method_11_code 89 = .ok (.putfield 47, 3) := gq_1 db00b_105 eb_452
theorem d_X8_readNumber_92 : decode prog_10_method_11_code 92 = .ok (.goto (-78), 3) := gq_2 db00b_105 eb_463
theorem d_X8_readNumber_95 : decode prog_10_method_11_code 95 = .ok (.iload 5, 2) := gq_3 db00b_105 eb_125
theorem d_X8_readNumber_97 : decode prog_10_method_11_code 97 = .ok (.ifCond .ne 13, 3) := gq_4 db00b_105 eb_464
theorem d_X8_readNumber_100 : decode prog_10_method_11_code 100 = .ok (.aload_n 0, 1) := gq_5 db00b_105 eb_0
theorem d_X8_readNumber_101 : decode prog_10_method_11_code 101 = .ok (.aload_n 0, 1) := gq_6 db00b_105 eb_0
theorem d_X8_readNumber_102 : decode prog_10_method_11_code 102 = .ok (.getfield 47, 3) := gq_7 db00b_105 eb_455
theorem d_X8_readNumber_105 : decode prog_10_method_11_code 105 = .ok (.putfield 50, 3) := gq_8 db00b_105 eb_424
theorem d_X8_readNumber_108 : decode prog_10_method_11_code 108 = .ok (.iconst (-1), 1) := gq_9 db00b_105 eb_26
theorem d_X8_readNumber_109 : decode prog_10_method_11_code 109 = .ok (.ireturn, 1) := gq_10 db00b_105 eb_15
theorem d_X8_readNumber_110 : decode prog_10_method_11_code 110 = .ok (.iload_n 3, 1) := gq_11 db00b_105 eb_29
theorem d_X8_readNumber_111 : decode prog_10_method_11_code 111 = .ok (.iload_n 1, 1) := gq_12 db00b_105 eb_9
theorem d_X8_readNumber_112 : decode prog_10_method_11_code 112 = .ok (.iload_n 2, 1) := gq_13 db00b_105 eb_13
theorem d_X8_readNumber_113 : decode prog_10_method_11_code 113 = .ok (.invokestatic 43, 3) := gq_14 db00b_105 eb_451
theorem d_X8_readNumber_116 : decode prog_10_method_11_code 116 = .ok (.ifCond .ne 15, 3) := gq_15 db00b_105 eb_465
theorem d_X8_readNumber_119 : decode prog_10_method_11_code 119 = .ok (.aload_n 0, 1) := gq_16 db00b_105 eb_0
theorem d_X8_readNumber_120 : decode prog_10_method_11_code 120 = .ok (.aload_n 0, 1) := gq_17 db00b_105 eb_0
theorem d_X8_readNumber_121 : decode prog_10_method_11_code 121 = .ok (.getfield 47, 3) := gq_18 db00b_105 eb_455
theorem d_X8_readNumber_124 : decode prog_10_method_11_code 124 = .ok (.iconst 1, 1) := gq_19 db00b_105 eb_19
theorem d_X8_readNumber_125 : decode prog_10_method_11_code 125 = .ok (.isub, 1) := gq_20 db00b_105 eb_48
theorem d_X8_readNumber_126 : decode prog_10_method_11_code 126 = .ok (.putfield 50, 3) := gq_21 db00b_105 eb_424
theorem d_X8_readNumber_129 : decode prog_10_method_11_code 129 = .ok (.iconst (-1), 1) := gq_22 db00b_105 eb_26
theorem d_X8_readNumber_130 : decode prog_10_method_11_code 130 = .ok (.ireturn, 1) := gq_23 db00b_105 eb_15
theorem db00b_106 : Pf_ prog_10_method_11_code [(131, [0x1d]), (132, [0xac])] := pf_ok prog_10_method_11_code _ 131 (by decide +kernel)
theorem d_X8_readNumber_131 : decode prog_10_method_11_code 131 = .ok (.iload_n 3, 1) := gq_0 db00b_106 eb_29
theorem d_X8_readNumber_132 : decode prog_10_method_11_code 132 = .ok (.ireturn, 1) := gq_1 db00b_106 eb_15
theorem db00b_107 : Pf_ prog_10_method_12_code [(0, [0x2a]), (1, [0x12, 0x0f]), (3, [0xb6, 0x00, 0x4b]), (6, [0x2a]), (7, [0x03]), (8, [0xb6, 0x00, 0x4f]), (11, [0x99, 0x00, 0x10]), (14, [0x2a]), (15, [0xb6, 0x00, 0x3f]), (18, [0x02]), (19, [0x9f, 0x00, 0x08]), (22, [0x2a]), (23, [0xb6, 0x00, 0x43]), (26, [0x57]), (27, [0x2a]), (28, [0xb4, 0x00, 0x32]), (31, [0xac])] := pf_ok prog_10_method_12_code _ 0 (by decide +kernel)
theorem d_X8_readBeat_0 : decode prog_10_method_12_code 0 = .ok (.aload_n 0, 1) := gq_0 db00b_107 eb_0
theorem d_X8_readBeat_1 : decode prog_10_method_12_code 1 = .ok (.ldc 15, 2) := gq_1 db00b_107 eb_435
theorem d_X8_readBeat_3 : decode prog_10_method_12_code 3 = .ok (.invokevirtual 75, 3) := gq_2 db00b_107 eb_141
theorem d_X8_readBeat_6 : decode prog_10_method_12_code 6 = .ok (.aload_n 0, 1) := gq_3 db00b_107 eb_0
theorem d_X8_readBeat_7 : decode prog_10_method_12_code 7 = .ok (.iconst 0, 1) := gq_4 db00b_107 eb_21
theorem d_X8_readBeat_8 : decode prog_10_method_12_code 8 = .ok (.invokevirtual 79, 3) := gq_5 db00b_107 eb_303
theorem d_X8_readBeat_11 : decode prog_10_method_12_code 11 = .ok (.ifCond .eq 16, 3) := gq_6 db00b_107 eb_136
theorem d_X8_readBeat_14 : decode prog_10_method_12_code 14 = .ok (.aload_n 0, 1) := gq_7 db00b_107 eb_0
theorem d_X8_readBeat_15 : decode prog_10_method_12_code 15 = .ok (.invokevirtual 63, 3) := gq_8 db00b_107 eb_357
theorem d_X8_readBeat_18 : decode prog_10_method_12_code 18 = .ok (.iconst (-1), 1) := gq_9 db00b_107 eb_26
theorem d_X8_readBeat_19 : decode prog_10_method_12_code 19 = .ok (.if_icmp .eq 8, 3) := gq_10 db00b_107 eb_458
theorem d_X8_readBeat_22 : decode prog_10_method_12_code 22 = .ok (.aload_n 0, 1) := gq_11 db00b_107 eb_0
theorem d_X8_readBeat_23 : decode prog_10_method_12_code 23 = .ok (.invokevirtual 67, 3) := gq_12 db00b_107 eb_215
theorem d_X8_readBeat_26 : decode prog_10_method_12_code 26 = .ok (.pop, 1) := gq_13 db00b_107 eb_466
theorem d_X8_readBeat_27 : decode prog_10_method_12_code 27 = .ok (.aload_n 0, 1) := gq_14 db00b_107 eb_0
theorem d_X8_readBeat_28 : decode prog_10_method_12_code 28 = .ok (.getfield 50, 3) := gq_15 db00b_107 eb_418
theorem d_X8_readBeat_31 : decode prog_10_method_12_code 31 = .ok (.ireturn, 1) := gq_16 db00b_107 eb_15
theorem db00b_108 : Pf_ prog_10_method_13_code [(0, [0x2a]), (1, [0x1b]), (2, [0xb6, 0x00, 0x52]), (5, [0x3d]), (6, [0x03]), (7, [0x3e]), (8, [0x1d]), (9, [0x11, 0x00, 0xa0]), (12, [0xa2, 0x00, 0x26]), (15, [0x1c]), (16, [0x99, 0x00, 0x22]), (19, [0x2a]), (20, [0xb6, 0x00, 0x3f]), (23, [0x10, 0x3b]), (25, [0xa0, 0x00, 0x19]), (28, [0x2a]), (29, [0x59]), (30, [0xb4, 0x00, 0x2f]), (33, [0x04]), (34, [0x60]), (35, [0xb5, 0x00, 0x2f]), (38, [0x2a]), (39, [0x1b]), (40, [0xb6, 0x00, 0x52])] := pf_ok prog_10_method_13_code _ 0 (by decide +kernel)
theorem d_X8_readSteps_0 : decode prog_10_method_13_code 0 = .ok (.aload_n 0, 1) := gq_0 db00b_108 eb_0
theorem d_X8_readSteps_1 : decode prog_10_method_13_code 1 = .ok (.iload_n 1, 1) := gq_1 db00b_108 eb_9
theorem d_X8_readSteps_2 : decode prog_10_method_13_code 2 = .ok (.invokevirtual 82, 3) := gq_2 db00b_108 eb_338
theorem d_X8_readSteps_5 : decode prog_10_method_13_code 5 = .ok (.istore_n 2, 1) := gq_3 db00b_108 eb_27
theorem d_X8_readSteps_6 : decode prog_10_method_13_code 6 = .ok (.iconst 0, 1) := gq_4 db00b_108 eb_21
theorem d_X8_readSteps_7 : decode prog_10_method_13_code 7 = .ok (.istore_n 3, 1) := gq_5 db00b_108 eb_28
theorem d_X8_readSteps_8 : decode prog_10_method_13_code 8 = .ok (.iload_n 3, 1) := gq_6 db00b_108 eb_29
theorem d_X8_readSteps_9 : decode prog_10_method_13_code 9 = .ok (.sipush 160, 3) := gq_7 db00b_108 eb_434
theorem d_X8_readSteps_12 : decode prog_10_method_13_code 12 = .ok (.if_icmp .ge 38, 3) := gq_8 db00b_108 eb_331
theorem d_X8_readSteps_15 : decode prog_10_method_13_code 15 = .ok (.iload_n 2, 1) := gq_9 db00b_108 eb_13
theorem d_X8_readSteps_16 : decode prog_10_method_13_code 16 = .ok (.ifCond .eq 34, 3) := gq_10 db00b_108 eb_467
theorem d_X8_readSteps_19 : decode prog_10_method_13_code 19 = .ok (.aload_n 0, 1) := gq_11 db00b_108 eb_0
theorem d_X8_readSteps_20 : decode prog_10_method_13_code 20 = .ok (.invokevirtual 63, 3) := gq_12 db00b_108 eb_357
theorem d_X8_readSteps_23 : decode prog_10_method_13_code 23 = .ok (.bipush 59, 2) := gq_13 db00b_108 eb_468
theorem d_X8_readSteps_25 : decode prog_10_method_13_code 25 = .ok (.if_icmp .ne 25, 3) := gq_14 db00b_108 eb_71
theorem d_X8_readSteps_28 : decode prog_10_method_13_code 28 = .ok (.aload_n 0, 1) := gq_15 db00b_108 eb_0
theorem d_X8_readSteps_29 : decode prog_10_method_13_code 29 = .ok (.dup, 1) := gq_16 db00b_108 eb_46
theorem d_X8_readSteps_30 : decode prog_10_method_13_code 30 = .ok (.getfield 47, 3) := gq_17 db00b_108 eb_455
theorem d_X8_readSteps_33 : decode prog_10_method_13_code 33 = .ok (.iconst 1, 1) := gq_18 db00b_108 eb_19
theorem d_X8_readSteps_34 : decode prog_10_method_13_code 34 = .ok (.iadd, 1) := gq_19 db00b_108 eb_35
theorem d_X8_readSteps_35 : decode prog_10_method_13_code 35 = .ok (.putfield 47, 3) := gq_20 db00b_108 eb_452
theorem d_X8_readSteps_38 : decode prog_10_method_13_code 38 = .ok (.aload_n 0, 1) := gq_21 db00b_108 eb_0
theorem d_X8_readSteps_39 : decode prog_10_method_13_code 39 = .ok (.iload_n 1, 1) := gq_22 db00b_108 eb_9
theorem d_X8_readSteps_40 : decode prog_10_method_13_code 40 = .ok (.invokevirtual 82, 3) := gq_23 db00b_108 eb_338
theorem db00b_109 : Pf_ prog_10_method_13_code [(43, [0x3d]), (44, [0x84, 0x03, 0x01]), (47, [0xa7, 0xff, 0xd9]), (50, [0x1c]), (51, [0xac])] := pf_ok prog_10_method_13_code _ 43 (by decide +kernel)
theorem d_X8_readSteps_43 : decode prog_10_method_13_code 43 = .ok (.istore_n 2, 1) := gq_0 db00b_109 eb_27
theorem d_X8_readSteps_44 : decode prog_10_method_13_code 44 = .ok (.iinc 3 1, 3) := gq_1 db00b_109 eb_42
theorem d_X8_readSteps_47 : decode prog_10_method_13_code 47 = .ok (.goto (-39), 3) := gq_2 db00b_109 eb_332
theorem d_X8_readSteps_50 : decode prog_10_method_13_code 50 = .ok (.iload_n 2, 1) := gq_3 db00b_109 eb_13
theorem d_X8_readSteps_51 : decode prog_10_method_13_code 51 = .ok (.ireturn, 1) := gq_4 db00b_109 eb_15
theorem d_X8_readStep_4 : decode prog_10_method_14_code 4 = .ok (.lookupswitch 140 #[(40, 134), (103, 52), (108, 116), (112, 101), (119, 76)], 52) := by decide +kernel
theorem db00b_110 : Pf_ prog_10_method_14_code [(0, [0x2a]), (1, [0xb6, 0x00, 0x3f]), (56, [0x2a]), (57, [0x59]), (58, [0xb4, 0x00, 0x2f]), (61, [0x04]), (62, [0x60]), (63, [0xb5, 0x00, 0x2f]), (66, [0x2a]), (67, [0x03]), (68, [0x2a]), (69, [0x03]), (70, [0x10, 0x0f]), (72, [0xb6, 0x00, 0x55]), (75, [0x03]), (76, [0xb6, 0x00, 0x59]), (79, [0xac]), (80, [0x2a]), (81, [0x59]), (82, [0xb4, 0x00, 0x2f]), (85, [0x04]), (86, [0x60]), (87, [0xb5, 0x00, 0x2f]), (90, [0x2a])] := pf_ok prog_10_method_14_code _ 0 (by decide +kernel)
theorem d_X8_readStep_0 : decode prog_10_method_14_code 0 = .ok (.aload_n 0, 1) := gq_0 db00b_110 eb_0
theorem d_X8_readStep_1 : decode prog_10_method_14_code 1 = .ok (.invokevirtual 63, 3) := gq_1 db00b_110 eb_357
theorem d_X8_readStep_56 : decode prog_10_method_14_code 56 = .ok (.aload_n 0, 1) := gq_2 db00b_110 eb_0
theorem d_X8_readStep_57 : decode prog_10_method_14_code 57 = .ok (.dup, 1) := gq_3 db00b_110 eb_46
theorem d_X8_readStep_58 : decode prog_10_method_14_code 58 = .ok (.getfield 47, 3) := gq_4 db00b_110 eb_455
theorem d_X8_readStep_61 : decode prog_10_method_14_code 61 = .ok (.iconst 1, 1) := gq_5 db00b_110 eb_19
theorem d_X8_readStep_62 : decode prog_10_method_14_code 62 = .ok (.iadd, 1) := gq_6 db00b_110 eb_35
theorem d_X8_readStep_63 : decode prog_10_method_14_code 63 = .ok (.putfield 47, 3) := gq_7 db00b_110 eb_452
theorem d_X8_readStep_66 : decode prog_10_method_14_code 66 = .ok (.aload_n 0, 1) := gq_8 db00b_110 eb_0
theorem d_X8_readStep_67 : decode prog_10_method_14_code 67 = .ok (.iconst 0, 1) := gq_9 db00b_110 eb_21
theorem d_X8_readStep_68 : decode prog_10_method_14_code 68 = .ok (.aload_n 0, 1) := gq_10 db00b_110 eb_0
theorem d_X8_readStep_69 : decode prog_10_method_14_code 69 = .ok (.iconst 0, 1) := gq_11 db00b_110 eb_21
theorem d_X8_readStep_70 : decode prog_10_method_14_code 70 = .ok (.bipush 15, 2) := gq_12 db00b_110 eb_57
theorem d_X8_readStep_72 : decode prog_10_method_14_code 72 = .ok (.invokevirtual 85, 3) := gq_13 db00b_110 eb_469
theorem d_X8_readStep_75 : decode prog_10_method_14_code 75 = .ok (.iconst 0, 1) := gq_14 db00b_110 eb_21
theorem d_X8_readStep_76 : decode prog_10_method_14_code 76 = .ok (.invokevirtual 89, 3) := gq_15 db00b_110 eb_470
theorem d_X8_readStep_79 : decode prog_10_method_14_code 79 = .ok (.ireturn, 1) := gq_16 db00b_110 eb_15
theorem d_X8_readStep_80 : decode prog_10_method_14_code 80 = .ok (.aload_n 0, 1) := gq_17 db00b_110 eb_0
theorem d_X8_readStep_81 : decode prog_10_method_14_code 81 = .ok (.dup, 1) := gq_18 db00b_110 eb_46
theorem d_X8_readStep_82 : decode prog_10_method_14_code 82 = .ok (.getfield 47, 3) := gq_19 db00b_110 eb_455
theorem d_X8_readStep_85 : decode prog_10_method_14_code 85 = .ok (.iconst 1, 1) := gq_20 db00b_110 eb_19
theorem d_X8_readStep_86 : decode prog_10_method_14_code 86 = .ok (.iadd, 1) := gq_21 db00b_110 eb_35
theorem d_X8_readStep_87 : decode prog_10_method_14_code 87 = .ok (.putfield 47, 3) := gq_22 db00b_110 eb_452
theorem d_X8_readStep_90 : decode prog_10_method_14_code 90 = .ok (.aload_n 0, 1) := gq_23 db00b_110 eb_0
theorem db00b_111 : Pf_ prog_10_method_14_code [(91, [0x04]), (92, [0x03]), (93, [0x2a]), (94, [0x04]), (95, [0x11, 0x00, 0xf0]), (98, [0xb6, 0x00, 0x55]), (101, [0xb6, 0x00, 0x59]), (104, [0xac]), (105, [0x2a]), (106, [0x59]), (107, [0xb4, 0x00, 0x2f]), (110, [0x04]), (111, [0x60]), (112, [0xb5, 0x00, 0x2f]), (115, [0x2a]), (116, [0xb6, 0x00, 0x5c]), (119, [0xac]), (120, [0x2a]), (121, [0x59]), (122, [0xb4, 0x00, 0x2f]), (125, [0x04])] := pf_ok prog_10_method_14_code _ 91 (by decide +kernel)
theorem d_X8_readStep_91 : decode prog_10_method_14_code 91 = .ok (.iconst 1, 1) := gq_0 db00b_111 eb_19
theorem d_X8_readStep_92 : decode prog_10_method_14_code 92 = .ok (.iconst 0, 1) := gq_1 db00b_111 eb_21
theorem d_X8_readStep_93 : decode prog_10_method_14_code 93 = .ok (.aload_n 0, 1) := gq_2 db00b_111 eb_0
theorem d_X8_readStep_94 : decode prog_10_method_14_code 94 = .ok (.iconst 1, 1) := gq_3 db00b_111 eb_19
theorem d_X8_readStep_95 : decode prog_10_method_14_code 95 = .ok (.sipush 240, 3) := gq_4 db00b_111 eb_471
theorem d_X8_readStep_98 : decode prog_10_method_14_code 98 = .ok (.invokevirtual 85, 3) := gq_5 db00b_111 eb_469
theorem d_X8_readStep_101 : decode prog_10_method_14_code 101 = .ok (.invokevirtual 89, 3) := gq_6 db00b_111 eb_470
theorem d_X8_readStep_104 : decode prog_10_method_14_code 104 = .ok (.ireturn, 1) := gq_7 db00b_111 eb_15
theorem d_X8_readStep_105 : decode prog_10_method_14_code 105 = .ok (.aload_n 0, 1) := gq_8 db00b_111 eb_0
theorem d_X8_readStep_106 : decode prog_10_method_14_code 106 = .ok (.dup, 1) := gq_9 db00b_111 eb_46
theorem d_X8_readStep_107 : decode prog_10_method_14_code 107 = .ok (.getfield 47, 3) := gq_10 db00b_111 eb_455
theorem d_X8_readStep_110 : decode prog_10_method_14_code 110 = .ok (.iconst 1, 1) := gq_11 db00b_111 eb_19
theorem d_X8_readStep_111 : decode prog_10_method_14_code 111 = .ok (.iadd, 1) := gq_12 db00b_111 eb_35
theorem d_X8_readStep_112 : decode prog_10_method_14_code 112 = .ok (.putfield 47, 3) := gq_13 db00b_111 eb_452
theorem d_X8_readStep_115 : decode prog_10_method_14_code 115 = .ok (.aload_n 0, 1) := gq_14 db00b_111 eb_0
theorem d_X8_readStep_116 : decode prog_10_method_14_code 116 = .ok (.invokevirtual 92, 3) := gq_15 db00b_111 eb_472
theorem d_X8_readStep_119 : decode prog_10_method_14_code 119 = .ok (.ireturn, 1) := gq_16 db00b_111 eb_15
theorem d_X8_readStep_120 : decode prog_10_method_14_code 120 = .ok (.aload_n 0, 1) := gq_17 db00b_111 eb_0
theorem d_X8_readStep_121 : decode prog_10_method_14_code 121 = .ok (.dup, 1) := gq_18 db00b_111 eb_46
theorem d_X8_readStep_122 : decode prog_10_method_14_code 122 = .ok (.getfield 47, 3) := gq_19 db00b_111 eb_455
theorem d_X8_readStep_125 : decode prog_10_method_14_code 125 = .ok (.iconst 1, 1) := gq_20 db00b_111 eb_19
