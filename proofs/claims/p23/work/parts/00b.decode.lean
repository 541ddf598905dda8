theorem db00b_0 : Ad_ prog_6_method_9_code [(46, .iastore, 1), (47, .iinc 3 1, 3), (50, .goto (-48), 3), (53, .return_, 1)] := bch_ok prog_6_method_9_code _ 46 (by decide +kernel)
theorem d_X4_tellNoted_46 : decode prog_6_method_9_code 46 = .ok (.iastore, 1) := gd_0 db00b_0
theorem d_X4_tellNoted_47 : decode prog_6_method_9_code 47 = .ok (.iinc 3 1, 3) := gd_1 db00b_0
theorem d_X4_tellNoted_50 : decode prog_6_method_9_code 50 = .ok (.goto (-48), 3) := gd_2 db00b_0
theorem d_X4_tellNoted_53 : decode prog_6_method_9_code 53 = .ok (.return_, 1) := gd_3 db00b_0
theorem db00b_1 : Ad_ prog_6_method_10_code [(0, .aload_n 0, 1), (1, .iload_n 1, 1), (2, .invokevirtual 66, 3), (5, .ifCond .eq 12, 3), (8, .aload_n 0, 1), (9, .getfield 40, 3), (12, .iload_n 1, 1), (13, .iaload, 1), (14, .goto 4, 3), (17, .iconst (-1), 1), (18, .ireturn, 1)] := bch_ok prog_6_method_10_code _ 0 (by decide +kernel)
theorem d_X4_minuteOf_0 : decode prog_6_method_10_code 0 = .ok (.aload_n 0, 1) := gd_0 db00b_1
theorem d_X4_minuteOf_1 : decode prog_6_method_10_code 1 = .ok (.iload_n 1, 1) := gd_1 db00b_1
theorem d_X4_minuteOf_2 : decode prog_6_method_10_code 2 = .ok (.invokevirtual 66, 3) := gd_2 db00b_1
theorem d_X4_minuteOf_5 : decode prog_6_method_10_code 5 = .ok (.ifCond .eq 12, 3) := gd_3 db00b_1
theorem d_X4_minuteOf_8 : decode prog_6_method_10_code 8 = .ok (.aload_n 0, 1) := gd_4 db00b_1
theorem d_X4_minuteOf_9 : decode prog_6_method_10_code 9 = .ok (.getfield 40, 3) := gd_5 db00b_1
theorem d_X4_minuteOf_12 : decode prog_6_method_10_code 12 = .ok (.iload_n 1, 1) := gd_6 db00b_1
theorem d_X4_minuteOf_13 : decode prog_6_method_10_code 13 = .ok (.iaload, 1) := gd_7 db00b_1
theorem d_X4_minuteOf_14 : decode prog_6_method_10_code 14 = .ok (.goto 4, 3) := gd_8 db00b_1
theorem d_X4_minuteOf_17 : decode prog_6_method_10_code 17 = .ok (.iconst (-1), 1) := gd_9 db00b_1
theorem d_X4_minuteOf_18 : decode prog_6_method_10_code 18 = .ok (.ireturn, 1) := gd_10 db00b_1
theorem d_X4_tell_11 : decode prog_6_method_11_code 11 = .ok (.tableswitch 79 0 5 #[37, 44, 51, 58, 65, 72], 37) := by decide +kernel
theorem db00b_2 : Ad_ prog_6_method_11_code [(0, .aload_n 0, 1), (1, .iload_n 1, 1), (2, .invokevirtual 66, 3), (5, .ifCond .ne 5, 3), (8, .iconst (-1), 1), (9, .ireturn, 1), (10, .iload_n 2, 1), (48, .aload_n 0, 1), (49, .getfield 34, 3), (52, .iload_n 1, 1), (53, .iaload, 1), (54, .ireturn, 1), (55, .aload_n 0, 1), (56, .getfield 37, 3), (59, .iload_n 1, 1), (60, .iaload, 1), (61, .ireturn, 1), (62, .aload_n 0, 1), (63, .getfield 40, 3), (66, .iload_n 1, 1), (67, .iaload, 1), (68, .ireturn, 1), (69, .aload_n 0, 1), (70, .getfield 43, 3)] := bch_ok prog_6_method_11_code _ 0 (by decide +kernel)
theorem d_X4_tell_0 : decode prog_6_method_11_code 0 = .ok (.aload_n 0, 1) := gd_0 db00b_2
theorem d_X4_tell_1 : decode prog_6_method_11_code 1 = .ok (.iload_n 1, 1) := gd_1 db00b_2
theorem d_X4_tell_2 : decode prog_6_method_11_code 2 = .ok (.invokevirtual 66, 3) := gd_2 db00b_2
theorem d_X4_tell_5 : decode prog_6_method_11_code 5 = .ok (.ifCond .ne 5, 3) := gd_3 db00b_2
theorem d_X4_tell_8 : decode prog_6_method_11_code 8 = .ok (.iconst (-1), 1) := gd_4 db00b_2
theorem d_X4_tell_9 : decode prog_6_method_11_code 9 = .ok (.ireturn, 1) := gd_5 db00b_2
theorem d_X4_tell_10 : decode prog_6_method_11_code 10 = .ok (.iload_n 2, 1) := gd_6 db00b_2
theorem d_X4_tell_48 : decode prog_6_method_11_code 48 = .ok (.aload_n 0, 1) := gd_7 db00b_2
theorem d_X4_tell_49 : decode prog_6_method_11_code 49 = .ok (.getfield 34, 3) := gd_8 db00b_2
theorem d_X4_tell_52 : decode prog_6_method_11_code 52 = .ok (.iload_n 1, 1) := gd_9 db00b_2
theorem d_X4_tell_53 : decode prog_6_method_11_code 53 = .ok (.iaload, 1) := gd_10 db00b_2
theorem d_X4_tell_54 : decode prog_6_method_11_code 54 = .ok (.ireturn, 1) := gd_11 db00b_2
theorem d_X4_tell_55 : decode prog_6_method_11_code 55 = .ok (.aload_n 0, 1) := gd_12 db00b_2
theorem d_X4_tell_56 : decode prog_6_method_11_code 56 = .ok (.getfield 37, 3) := gd_13 db00b_2
theorem d_X4_tell_59 : decode prog_6_method_11_code 59 = .ok (.iload_n 1, 1) := gd_14 db00b_2
theorem d_X4_tell_60 : decode prog_6_method_11_code 60 = .ok (.iaload, 1) := gd_15 db00b_2
theorem d_X4_tell_61 : decode prog_6_method_11_code 61 = .ok (.ireturn, 1) := gd_16 db00b_2
theorem d_X4_tell_62 : decode prog_6_method_11_code 62 = .ok (.aload_n 0, 1) := gd_17 db00b_2
theorem d_X4_tell_63 : decode prog_6_method_11_code 63 = .ok (.getfield 40, 3) := gd_18 db00b_2
theorem d_X4_tell_66 : decode prog_6_method_11_code 66 = .ok (.iload_n 1, 1) := gd_19 db00b_2
theorem d_X4_tell_67 : decode prog_6_method_11_code 67 = .ok (.iaload, 1) := gd_20 db00b_2
theorem d_X4_tell_68 : decode prog_6_method_11_code 68 = .ok (.ireturn, 1) := gd_21 db00b_2
theorem d_X4_tell_69 : decode prog_6_method_11_code 69 = .ok (.aload_n 0, 1) := gd_22 db00b_2
theorem d_X4_tell_70 : decode prog_6_method_11_code 70 = .ok (.getfield 43, 3) := gd_23 db00b_2
theorem db00b_3 : Ad_ prog_6_method_11_code [(73, .iload_n 1, 1), (74, .iaload, 1), (75, .ireturn, 1), (76, .aload_n 0, 1), (77, .getfield 46, 3), (80, .iload_n 1, 1), (81, .iaload, 1), (82, .ireturn, 1), (83, .aload_n 0, 1), (84, .getfield 49, 3), (87, .iload_n 1, 1), (88, .iaload, 1), (89, .ireturn, 1), (90, .iconst (-1), 1), (91, .ireturn, 1)] := bch_ok prog_6_method_11_code _ 73 (by decide +kernel)
theorem d_X4_tell_73 : decode prog_6_method_11_code 73 = .ok (.iload_n 1, 1) := gd_0 db00b_3
theorem d_X4_tell_74 : decode prog_6_method_11_code 74 = .ok (.iaload, 1) := gd_1 db00b_3
theorem d_X4_tell_75 : decode prog_6_method_11_code 75 = .ok (.ireturn, 1) := gd_2 db00b_3
theorem d_X4_tell_76 : decode prog_6_method_11_code 76 = .ok (.aload_n 0, 1) := gd_3 db00b_3
theorem d_X4_tell_77 : decode prog_6_method_11_code 77 = .ok (.getfield 46, 3) := gd_4 db00b_3
theorem d_X4_tell_80 : decode prog_6_method_11_code 80 = .ok (.iload_n 1, 1) := gd_5 db00b_3
theorem d_X4_tell_81 : decode prog_6_method_11_code 81 = .ok (.iaload, 1) := gd_6 db00b_3
theorem d_X4_tell_82 : decode prog_6_method_11_code 82 = .ok (.ireturn, 1) := gd_7 db00b_3
theorem d_X4_tell_83 : decode prog_6_method_11_code 83 = .ok (.aload_n 0, 1) := gd_8 db00b_3
theorem d_X4_tell_84 : decode prog_6_method_11_code 84 = .ok (.getfield 49, 3) := gd_9 db00b_3
theorem d_X4_tell_87 : decode prog_6_method_11_code 87 = .ok (.iload_n 1, 1) := gd_10 db00b_3
theorem d_X4_tell_88 : decode prog_6_method_11_code 88 = .ok (.iaload, 1) := gd_11 db00b_3
theorem d_X4_tell_89 : decode prog_6_method_11_code 89 = .ok (.ireturn, 1) := gd_12 db00b_3
theorem d_X4_tell_90 : decode prog_6_method_11_code 90 = .ok (.iconst (-1), 1) := gd_13 db00b_3
theorem d_X4_tell_91 : decode prog_6_method_11_code 91 = .ok (.ireturn, 1) := gd_14 db00b_3
theorem db00b_4 : Ad_ prog_6_method_12_code [(0, .aload_n 0, 1), (1, .iload_n 1, 1), (2, .invokevirtual 66, 3), (5, .ifCond .ne 5, 3), (8, .iconst (-1), 1), (9, .ireturn, 1), (10, .aload_n 2, 1), (11, .aload_n 2, 1), (12, .aload_n 0, 1), (13, .getfield 40, 3), (16, .iload_n 1, 1), (17, .iaload, 1), (18, .sipush 1440, 3), (21, .idiv, 1), (22, .iload_n 3, 1), (23, .invokevirtual 73, 3), (26, .aload_n 0, 1), (27, .getfield 52, 3), (30, .iload_n 1, 1), (31, .bipush 9, 2), (33, .imul, 1), (34, .invokevirtual 79, 3), (37, .ireturn, 1)] := bch_ok prog_6_method_12_code _ 0 (by decide +kernel)
theorem d_X4_due_0 : decode prog_6_method_12_code 0 = .ok (.aload_n 0, 1) := gd_0 db00b_4
theorem d_X4_due_1 : decode prog_6_method_12_code 1 = .ok (.iload_n 1, 1) := gd_1 db00b_4
theorem d_X4_due_2 : decode prog_6_method_12_code 2 = .ok (.invokevirtual 66, 3) := gd_2 db00b_4
theorem d_X4_due_5 : decode prog_6_method_12_code 5 = .ok (.ifCond .ne 5, 3) := gd_3 db00b_4
theorem d_X4_due_8 : decode prog_6_method_12_code 8 = .ok (.iconst (-1), 1) := gd_4 db00b_4
theorem d_X4_due_9 : decode prog_6_method_12_code 9 = .ok (.ireturn, 1) := gd_5 db00b_4
theorem d_X4_due_10 : decode prog_6_method_12_code 10 = .ok (.aload_n 2, 1) := gd_6 db00b_4
theorem d_X4_due_11 : decode prog_6_method_12_code 11 = .ok (.aload_n 2, 1) := gd_7 db00b_4
theorem d_X4_due_12 : decode prog_6_method_12_code 12 = .ok (.aload_n 0, 1) := gd_8 db00b_4
theorem d_X4_due_13 : decode prog_6_method_12_code 13 = .ok (.getfield 40, 3) := gd_9 db00b_4
theorem d_X4_due_16 : decode prog_6_method_12_code 16 = .ok (.iload_n 1, 1) := gd_10 db00b_4
theorem d_X4_due_17 : decode prog_6_method_12_code 17 = .ok (.iaload, 1) := gd_11 db00b_4
theorem d_X4_due_18 : decode prog_6_method_12_code 18 = .ok (.sipush 1440, 3) := gd_12 db00b_4
theorem d_X4_due_21 : decode prog_6_method_12_code 21 = .ok (.idiv, 1) := gd_13 db00b_4
theorem d_X4_due_22 : decode prog_6_method_12_code 22 = .ok (.iload_n 3, 1) := gd_14 db00b_4
theorem d_X4_due_23 : decode prog_6_method_12_code 23 = .ok (.invokevirtual 73, 3) := gd_15 db00b_4
theorem d_X4_due_26 : decode prog_6_method_12_code 26 = .ok (.aload_n 0, 1) := gd_16 db00b_4
theorem d_X4_due_27 : decode prog_6_method_12_code 27 = .ok (.getfield 52, 3) := gd_17 db00b_4
theorem d_X4_due_30 : decode prog_6_method_12_code 30 = .ok (.iload_n 1, 1) := gd_18 db00b_4
theorem d_X4_due_31 : decode prog_6_method_12_code 31 = .ok (.bipush 9, 2) := gd_19 db00b_4
theorem d_X4_due_33 : decode prog_6_method_12_code 33 = .ok (.imul, 1) := gd_20 db00b_4
theorem d_X4_due_34 : decode prog_6_method_12_code 34 = .ok (.invokevirtual 79, 3) := gd_21 db00b_4
theorem d_X4_due_37 : decode prog_6_method_12_code 37 = .ok (.ireturn, 1) := gd_22 db00b_4
theorem db00b_5 : Ad_ prog_6_method_13_code [(0, .iconst 0, 1), (1, .istore_n 2, 1), (2, .iconst 0, 1), (3, .istore_n 3, 1), (4, .iload_n 3, 1), (5, .aload_n 0, 1), (6, .getfield 63, 3), (9, .if_icmp .ge 32, 3), (12, .aload_n 0, 1), (13, .getfield 49, 3), (16, .iload_n 3, 1), (17, .iaload, 1), (18, .iconst (-1), 1), (19, .if_icmp .eq 16, 3), (22, .aload_n 0, 1), (23, .getfield 49, 3), (26, .iload_n 3, 1), (27, .iaload, 1), (28, .iload_n 1, 1), (29, .if_icmp .gt 6, 3), (32, .iinc 2 1, 3), (35, .iinc 3 1, 3), (38, .goto (-34), 3), (41, .iload_n 2, 1)] := bch_ok prog_6_method_13_code _ 0 (by decide +kernel)
theorem d_X4_countKnown_0 : decode prog_6_method_13_code 0 = .ok (.iconst 0, 1) := gd_0 db00b_5
theorem d_X4_countKnown_1 : decode prog_6_method_13_code 1 = .ok (.istore_n 2, 1) := gd_1 db00b_5
theorem d_X4_countKnown_2 : decode prog_6_method_13_code 2 = .ok (.iconst 0, 1) := gd_2 db00b_5
theorem d_X4_countKnown_3 : decode prog_6_method_13_code 3 = .ok (.istore_n 3, 1) := gd_3 db00b_5
theorem d_X4_countKnown_4 : decode prog_6_method_13_code 4 = .ok (.iload_n 3, 1) := gd_4 db00b_5
theorem d_X4_countKnown_5 : decode prog_6_method_13_code 5 = .ok (.aload_n 0, 1) := gd_5 db00b_5
theorem d_X4_countKnown_6 : decode prog_6_method_13_code 6 = .ok (.getfield 63, 3) := gd_6 db00b_5
theorem d_X4_countKnown_9 : decode prog_6_method_13_code 9 = .ok (.if_icmp .ge 32, 3) := gd_7 db00b_5
theorem d_X4_countKnown_12 : decode prog_6_method_13_code 12 = .ok (.aload_n 0, 1) := gd_8 db00b_5
theorem d_X4_countKnown_13 : decode prog_6_method_13_code 13 = .ok (.getfield 49, 3) := gd_9 db00b_5
theorem d_X4_countKnown_16 : decode prog_6_method_13_code 16 = .ok (.iload_n 3, 1) := gd_10 db00b_5
theorem d_X4_countKnown_17 : decode prog_6_method_13_code 17 = .ok (.iaload, 1) := gd_11 db00b_5
theorem d_X4_countKnown_18 : decode prog_6_method_13_code 18 = .ok (.iconst (-1), 1) := gd_12 db00b_5
theorem d_X4_countKnown_19 : decode prog_6_method_13_code 19 = .ok (.if_icmp .eq 16, 3) := gd_13 db00b_5
theorem d_X4_countKnown_22 : decode prog_6_method_13_code 22 = .ok (.aload_n 0, 1) := gd_14 db00b_5
theorem d_X4_countKnown_23 : decode prog_6_method_13_code 23 = .ok (.getfield 49, 3) := gd_15 db00b_5
theorem d_X4_countKnown_26 : decode prog_6_method_13_code 26 = .ok (.iload_n 3, 1) := gd_16 db00b_5
theorem d_X4_countKnown_27 : decode prog_6_method_13_code 27 = .ok (.iaload, 1) := gd_17 db00b_5
theorem d_X4_countKnown_28 : decode prog_6_method_13_code 28 = .ok (.iload_n 1, 1) := gd_18 db00b_5
theorem d_X4_countKnown_29 : decode prog_6_method_13_code 29 = .ok (.if_icmp .gt 6, 3) := gd_19 db00b_5
theorem d_X4_countKnown_32 : decode prog_6_method_13_code 32 = .ok (.iinc 2 1, 3) := gd_20 db00b_5
theorem d_X4_countKnown_35 : decode prog_6_method_13_code 35 = .ok (.iinc 3 1, 3) := gd_21 db00b_5
theorem d_X4_countKnown_38 : decode prog_6_method_13_code 38 = .ok (.goto (-34), 3) := gd_22 db00b_5
theorem d_X4_countKnown_41 : decode prog_6_method_13_code 41 = .ok (.iload_n 2, 1) := gd_23 db00b_5
theorem d_X4_countKnown_42 : decode prog_6_method_13_code 42 = .ok (.ireturn, 1) := by decide +kernel
theorem db00b_6 : Ad_ prog_6_method_14_code [(0, .iconst 0, 1), (1, .istore 6, 2), (3, .iconst 0, 1), (4, .istore 7, 2), (6, .iload 7, 2), (8, .aload_n 0, 1), (9, .getfield 63, 3), (12, .if_icmp .ge 72, 3), (15, .aload_n 0, 1), (16, .getfield 34, 3), (19, .iload 7, 2), (21, .iaload, 1), (22, .iload_n 1, 1), (23, .if_icmp .ne 55, 3), (26, .aload_n 0, 1), (27, .getfield 43, 3), (30, .iload 7, 2), (32, .iaload, 1), (33, .iconst 3, 1), (34, .if_icmp .ne 44, 3), (37, .aload_n 0, 1), (38, .getfield 40, 3), (41, .iload 7, 2), (43, .iaload, 1)] := bch_ok prog_6_method_14_code _ 0 (by decide +kernel)
theorem d_X4_countTaken_0 : decode prog_6_method_14_code 0 = .ok (.iconst 0, 1) := gd_0 db00b_6
theorem d_X4_countTaken_1 : decode prog_6_method_14_code 1 = .ok (.istore 6, 2) := gd_1 db00b_6
theorem d_X4_countTaken_3 : decode prog_6_method_14_code 3 = .ok (.iconst 0, 1) := gd_2 db00b_6
theorem d_X4_countTaken_4 : decode prog_6_method_14_code 4 = .ok (.istore 7, 2) := gd_3 db00b_6
theorem d_X4_countTaken_6 : decode prog_6_method_14_code 6 = .ok (.iload 7, 2) := gd_4 db00b_6
theorem d_X4_countTaken_8 : decode prog_6_method_14_code 8 = .ok (.aload_n 0, 1) := gd_5 db00b_6
theorem d_X4_countTaken_9 : decode prog_6_method_14_code 9 = .ok (.getfield 63, 3) := gd_6 db00b_6
theorem d_X4_countTaken_12 : decode prog_6_method_14_code 12 = .ok (.if_icmp .ge 72, 3) := gd_7 db00b_6
theorem d_X4_countTaken_15 : decode prog_6_method_14_code 15 = .ok (.aload_n 0, 1) := gd_8 db00b_6
theorem d_X4_countTaken_16 : decode prog_6_method_14_code 16 = .ok (.getfield 34, 3) := gd_9 db00b_6
theorem d_X4_countTaken_19 : decode prog_6_method_14_code 19 = .ok (.iload 7, 2) := gd_10 db00b_6
theorem d_X4_countTaken_21 : decode prog_6_method_14_code 21 = .ok (.iaload, 1) := gd_11 db00b_6
theorem d_X4_countTaken_22 : decode prog_6_method_14_code 22 = .ok (.iload_n 1, 1) := gd_12 db00b_6
theorem d_X4_countTaken_23 : decode prog_6_method_14_code 23 = .ok (.if_icmp .ne 55, 3) := gd_13 db00b_6
theorem d_X4_countTaken_26 : decode prog_6_method_14_code 26 = .ok (.aload_n 0, 1) := gd_14 db00b_6
theorem d_X4_countTaken_27 : decode prog_6_method_14_code 27 = .ok (.getfield 43, 3) := gd_15 db00b_6
theorem d_X4_countTaken_30 : decode prog_6_method_14_code 30 = .ok (.iload 7, 2) := gd_16 db00b_6
theorem d_X4_countTaken_32 : decode prog_6_method_14_code 32 = .ok (.iaload, 1) := gd_17 db00b_6
theorem d_X4_countTaken_33 : decode prog_6_method_14_code 33 = .ok (.iconst 3, 1) := gd_18 db00b_6
theorem d_X4_countTaken_34 : decode prog_6_method_14_code 34 = .ok (.if_icmp .ne 44, 3) := gd_19 db00b_6
theorem d_X4_countTaken_37 : decode prog_6_method_14_code 37 = .ok (.aload_n 0, 1) := gd_20 db00b_6
theorem d_X4_countTaken_38 : decode prog_6_method_14_code 38 = .ok (.getfield 40, 3) := gd_21 db00b_6
theorem d_X4_countTaken_41 : decode prog_6_method_14_code 41 = .ok (.iload 7, 2) := gd_22 db00b_6
theorem d_X4_countTaken_43 : decode prog_6_method_14_code 43 = .ok (.iaload, 1) := gd_23 db00b_6
theorem db00b_7 : Ad_ prog_6_method_14_code [(44, .sipush 1440, 3), (47, .idiv, 1), (48, .iload_n 2, 1), (49, .if_icmp .ne 29, 3), (52, .aload_n 0, 1), (53, .iload 7, 2), (55, .aload_n 3, 1), (56, .iload 4, 2), (58, .invokevirtual 83, 3), (61, .iconst 3, 1), (62, .if_icmp .ne 7, 3), (65, .iconst 1, 1), (66, .goto 4, 3), (69, .iconst 0, 1), (70, .iload 5, 2), (72, .if_icmp .ne 6, 3), (75, .iinc 6 1, 3), (78, .iinc 7 1, 3), (81, .goto (-75), 3), (84, .iload 6, 2), (86, .ireturn, 1)] := bch_ok prog_6_method_14_code _ 44 (by decide +kernel)
theorem d_X4_countTaken_44 : decode prog_6_method_14_code 44 = .ok (.sipush 1440, 3) := gd_0 db00b_7
theorem d_X4_countTaken_47 : decode prog_6_method_14_code 47 = .ok (.idiv, 1) := gd_1 db00b_7
theorem d_X4_countTaken_48 : decode prog_6_method_14_code 48 = .ok (.iload_n 2, 1) := gd_2 db00b_7
theorem d_X4_countTaken_49 : decode prog_6_method_14_code 49 = .ok (.if_icmp .ne 29, 3) := gd_3 db00b_7
theorem d_X4_countTaken_52 : decode prog_6_method_14_code 52 = .ok (.aload_n 0, 1) := gd_4 db00b_7
theorem d_X4_countTaken_53 : decode prog_6_method_14_code 53 = .ok (.iload 7, 2) := gd_5 db00b_7
theorem d_X4_countTaken_55 : decode prog_6_method_14_code 55 = .ok (.aload_n 3, 1) := gd_6 db00b_7
theorem d_X4_countTaken_56 : decode prog_6_method_14_code 56 = .ok (.iload 4, 2) := gd_7 db00b_7
theorem d_X4_countTaken_58 : decode prog_6_method_14_code 58 = .ok (.invokevirtual 83, 3) := gd_8 db00b_7
theorem d_X4_countTaken_61 : decode prog_6_method_14_code 61 = .ok (.iconst 3, 1) := gd_9 db00b_7
theorem d_X4_countTaken_62 : decode prog_6_method_14_code 62 = .ok (.if_icmp .ne 7, 3) := gd_10 db00b_7
theorem d_X4_countTaken_65 : decode prog_6_method_14_code 65 = .ok (.iconst 1, 1) := gd_11 db00b_7
theorem d_X4_countTaken_66 : decode prog_6_method_14_code 66 = .ok (.goto 4, 3) := gd_12 db00b_7
theorem d_X4_countTaken_69 : decode prog_6_method_14_code 69 = .ok (.iconst 0, 1) := gd_13 db00b_7
theorem d_X4_countTaken_70 : decode prog_6_method_14_code 70 = .ok (.iload 5, 2) := gd_14 db00b_7
theorem d_X4_countTaken_72 : decode prog_6_method_14_code 72 = .ok (.if_icmp .ne 6, 3) := gd_15 db00b_7
theorem d_X4_countTaken_75 : decode prog_6_method_14_code 75 = .ok (.iinc 6 1, 3) := gd_16 db00b_7
theorem d_X4_countTaken_78 : decode prog_6_method_14_code 78 = .ok (.iinc 7 1, 3) := gd_17 db00b_7
theorem d_X4_countTaken_81 : decode prog_6_method_14_code 81 = .ok (.goto (-75), 3) := gd_18 db00b_7
theorem d_X4_countTaken_84 : decode prog_6_method_14_code 84 = .ok (.iload 6, 2) := gd_19 db00b_7
theorem d_X4_countTaken_86 : decode prog_6_method_14_code 86 = .ok (.ireturn, 1) := gd_20 db00b_7
theorem d_X5_init_7 : decode prog_7_method_1_code 7 = .ok (.newarray .int, 2) := by decide +kernel
theorem d_X5_init_15 : decode prog_7_method_1_code 15 = .ok (.newarray .int, 2) := by decide +kernel
theorem d_X5_init_23 : decode prog_7_method_1_code 23 = .ok (.newarray .int, 2) := by decide +kernel
theorem d_X5_init_31 : decode prog_7_method_1_code 31 = .ok (.newarray .int, 2) := by decide +kernel
theorem d_X5_init_39 : decode prog_7_method_1_code 39 = .ok (.newarray .int, 2) := by decide +kernel
theorem d_X5_init_48 : decode prog_7_method_1_code 48 = .ok (.newarray .int, 2) := by decide +kernel
theorem d_X5_init_57 : decode prog_7_method_1_code 57 = .ok (.newarray .int, 2) := by decide +kernel
theorem db00b_8 : Ad_ prog_7_method_1_code [(0, .aload_n 0, 1), (1, .invokespecial 3, 3), (4, .aload_n 0, 1), (5, .bipush 40, 2), (9, .putfield 11, 3), (12, .aload_n 0, 1), (13, .bipush 40, 2), (17, .putfield 15, 3), (20, .aload_n 0, 1), (21, .bipush 40, 2), (25, .putfield 18, 3), (28, .aload_n 0, 1), (29, .bipush 40, 2), (33, .putfield 21, 3), (36, .aload_n 0, 1), (37, .bipush 6, 2), (41, .putfield 24, 3), (44, .aload_n 0, 1), (45, .sipush 168, 3), (50, .putfield 27, 3), (53, .aload_n 0, 1), (54, .sipush 168, 3), (59, .putfield 30, 3), (62, .aload_n 0, 1)] := bch_ok prog_7_method_1_code _ 0 (by decide +kernel)
theorem d_X5_init_0 : decode prog_7_method_1_code 0 = .ok (.aload_n 0, 1) := gd_0 db00b_8
theorem d_X5_init_1 : decode prog_7_method_1_code 1 = .ok (.invokespecial 3, 3) := gd_1 db00b_8
theorem d_X5_init_4 : decode prog_7_method_1_code 4 = .ok (.aload_n 0, 1) := gd_2 db00b_8
theorem d_X5_init_5 : decode prog_7_method_1_code 5 = .ok (.bipush 40, 2) := gd_3 db00b_8
theorem d_X5_init_9 : decode prog_7_method_1_code 9 = .ok (.putfield 11, 3) := gd_4 db00b_8
theorem d_X5_init_12 : decode prog_7_method_1_code 12 = .ok (.aload_n 0, 1) := gd_5 db00b_8
theorem d_X5_init_13 : decode prog_7_method_1_code 13 = .ok (.bipush 40, 2) := gd_6 db00b_8
theorem d_X5_init_17 : decode prog_7_method_1_code 17 = .ok (.putfield 15, 3) := gd_7 db00b_8
theorem d_X5_init_20 : decode prog_7_method_1_code 20 = .ok (.aload_n 0, 1) := gd_8 db00b_8
theorem d_X5_init_21 : decode prog_7_method_1_code 21 = .ok (.bipush 40, 2) := gd_9 db00b_8
theorem d_X5_init_25 : decode prog_7_method_1_code 25 = .ok (.putfield 18, 3) := gd_10 db00b_8
theorem d_X5_init_28 : decode prog_7_method_1_code 28 = .ok (.aload_n 0, 1) := gd_11 db00b_8
theorem d_X5_init_29 : decode prog_7_method_1_code 29 = .ok (.bipush 40, 2) := gd_12 db00b_8
theorem d_X5_init_33 : decode prog_7_method_1_code 33 = .ok (.putfield 21, 3) := gd_13 db00b_8
theorem d_X5_init_36 : decode prog_7_method_1_code 36 = .ok (.aload_n 0, 1) := gd_14 db00b_8
theorem d_X5_init_37 : decode prog_7_method_1_code 37 = .ok (.bipush 6, 2) := gd_15 db00b_8
theorem d_X5_init_41 : decode prog_7_method_1_code 41 = .ok (.putfield 24, 3) := gd_16 db00b_8
theorem d_X5_init_44 : decode prog_7_method_1_code 44 = .ok (.aload_n 0, 1) := gd_17 db00b_8
theorem d_X5_init_45 : decode prog_7_method_1_code 45 = .ok (.sipush 168, 3) := gd_18 db00b_8
theorem d_X5_init_50 : decode prog_7_method_1_code 50 = .ok (.putfield 27, 3) := gd_19 db00b_8
theorem d_X5_init_53 : decode prog_7_method_1_code 53 = .ok (.aload_n 0, 1) := gd_20 db00b_8
theorem d_X5_init_54 : decode prog_7_method_1_code 54 = .ok (.sipush 168, 3) := gd_21 db00b_8
theorem d_X5_init_59 : decode prog_7_method_1_code 59 = .ok (.putfield 30, 3) := gd_22 db00b_8
theorem d_X5_init_62 : decode prog_7_method_1_code 62 = .ok (.aload_n 0, 1) := gd_23 db00b_8
theorem d_X5_init_66 : decode prog_7_method_1_code 66 = .ok (.newarray .int, 2) := by decide +kernel
theorem d_X5_init_75 : decode prog_7_method_1_code 75 = .ok (.newarray .int, 2) := by decide +kernel
theorem d_X5_init_84 : decode prog_7_method_1_code 84 = .ok (.newarray .int, 2) := by decide +kernel
theorem d_X5_init_93 : decode prog_7_method_1_code 93 = .ok (.newarray .int, 2) := by decide +kernel
theorem d_X5_init_101 : decode prog_7_method_1_code 101 = .ok (.newarray .int, 2) := by decide +kernel
theorem db00b_9 : Ad_ prog_7_method_1_code [(63, .sipush 600, 3), (68, .putfield 33, 3), (71, .aload_n 0, 1), (72, .sipush 600, 3), (77, .putfield 36, 3), (80, .aload_n 0, 1), (81, .sipush 600, 3), (86, .putfield 39, 3), (89, .aload_n 0, 1), (90, .sipush 600, 3), (95, .putfield 42, 3), (98, .aload_n 0, 1), (99, .bipush 48, 2), (103, .putfield 45, 3), (106, .aload_n 0, 1), (107, .iconst 3, 1), (108, .putfield 48, 3), (111, .aload_n 0, 1), (112, .getfield 45, 3), (115, .iconst (-1), 1), (116, .invokestatic 52, 3), (119, .return_, 1)] := bch_ok prog_7_method_1_code _ 63 (by decide +kernel)
theorem d_X5_init_63 : decode prog_7_method_1_code 63 = .ok (.sipush 600, 3) := gd_0 db00b_9
theorem d_X5_init_68 : decode prog_7_method_1_code 68 = .ok (.putfield 33, 3) := gd_1 db00b_9
theorem d_X5_init_71 : decode prog_7_method_1_code 71 = .ok (.aload_n 0, 1) := gd_2 db00b_9
theorem d_X5_init_72 : decode prog_7_method_1_code 72 = .ok (.sipush 600, 3) := gd_3 db00b_9
theorem d_X5_init_77 : decode prog_7_method_1_code 77 = .ok (.putfield 36, 3) := gd_4 db00b_9
theorem d_X5_init_80 : decode prog_7_method_1_code 80 = .ok (.aload_n 0, 1) := gd_5 db00b_9
theorem d_X5_init_81 : decode prog_7_method_1_code 81 = .ok (.sipush 600, 3) := gd_6 db00b_9
theorem d_X5_init_86 : decode prog_7_method_1_code 86 = .ok (.putfield 39, 3) := gd_7 db00b_9
theorem d_X5_init_89 : decode prog_7_method_1_code 89 = .ok (.aload_n 0, 1) := gd_8 db00b_9
theorem d_X5_init_90 : decode prog_7_method_1_code 90 = .ok (.sipush 600, 3) := gd_9 db00b_9
theorem d_X5_init_95 : decode prog_7_method_1_code 95 = .ok (.putfield 42, 3) := gd_10 db00b_9
theorem d_X5_init_98 : decode prog_7_method_1_code 98 = .ok (.aload_n 0, 1) := gd_11 db00b_9
theorem d_X5_init_99 : decode prog_7_method_1_code 99 = .ok (.bipush 48, 2) := gd_12 db00b_9
theorem d_X5_init_103 : decode prog_7_method_1_code 103 = .ok (.putfield 45, 3) := gd_13 db00b_9
theorem d_X5_init_106 : decode prog_7_method_1_code 106 = .ok (.aload_n 0, 1) := gd_14 db00b_9
theorem d_X5_init_107 : decode prog_7_method_1_code 107 = .ok (.iconst 3, 1) := gd_15 db00b_9
theorem d_X5_init_108 : decode prog_7_method_1_code 108 = .ok (.putfield 48, 3) := gd_16 db00b_9
theorem d_X5_init_111 : decode prog_7_method_1_code 111 = .ok (.aload_n 0, 1) := gd_17 db00b_9
theorem d_X5_init_112 : decode prog_7_method_1_code 112 = .ok (.getfield 45, 3) := gd_18 db00b_9
theorem d_X5_init_115 : decode prog_7_method_1_code 115 = .ok (.iconst (-1), 1) := gd_19 db00b_9
theorem d_X5_init_116 : decode prog_7_method_1_code 116 = .ok (.invokestatic 52, 3) := gd_20 db00b_9
theorem d_X5_init_119 : decode prog_7_method_1_code 119 = .ok (.return_, 1) := gd_21 db00b_9
theorem db00b_10 : Ad_ prog_7_method_2_code [(0, .aload_n 0, 1), (1, .getfield 58, 3), (4, .bipush 40, 2), (6, .if_icmp .lt 5, 3), (9, .iconst 0, 1), (10, .ireturn, 1), (11, .aload_n 0, 1), (12, .getfield 11, 3), (15, .aload_n 0, 1), (16, .getfield 58, 3), (19, .iload_n 1, 1), (20, .iastore, 1), (21, .aload_n 0, 1), (22, .getfield 15, 3), (25, .aload_n 0, 1), (26, .getfield 58, 3), (29, .iload_n 2, 1), (30, .iastore, 1), (31, .aload_n 0, 1), (32, .getfield 18, 3), (35, .aload_n 0, 1), (36, .getfield 58, 3), (39, .iload_n 3, 1), (40, .iastore, 1)] := bch_ok prog_7_method_2_code _ 0 (by decide +kernel)
theorem d_X5_addRank_0 : decode prog_7_method_2_code 0 = .ok (.aload_n 0, 1) := gd_0 db00b_10
theorem d_X5_addRank_1 : decode prog_7_method_2_code 1 = .ok (.getfield 58, 3) := gd_1 db00b_10
theorem d_X5_addRank_4 : decode prog_7_method_2_code 4 = .ok (.bipush 40, 2) := gd_2 db00b_10
theorem d_X5_addRank_6 : decode prog_7_method_2_code 6 = .ok (.if_icmp .lt 5, 3) := gd_3 db00b_10
theorem d_X5_addRank_9 : decode prog_7_method_2_code 9 = .ok (.iconst 0, 1) := gd_4 db00b_10
theorem d_X5_addRank_10 : decode prog_7_method_2_code 10 = .ok (.ireturn, 1) := gd_5 db00b_10
theorem d_X5_addRank_11 : decode prog_7_method_2_code 11 = .ok (.aload_n 0, 1) := gd_6 db00b_10
theorem d_X5_addRank_12 : decode prog_7_method_2_code 12 = .ok (.getfield 11, 3) := gd_7 db00b_10
theorem d_X5_addRank_15 : decode prog_7_method_2_code 15 = .ok (.aload_n 0, 1) := gd_8 db00b_10
theorem d_X5_addRank_16 : decode prog_7_method_2_code 16 = .ok (.getfield 58, 3) := gd_9 db00b_10
theorem d_X5_addRank_19 : decode prog_7_method_2_code 19 = .ok (.iload_n 1, 1) := gd_10 db00b_10
theorem d_X5_addRank_20 : decode prog_7_method_2_code 20 = .ok (.iastore, 1) := gd_11 db00b_10
theorem d_X5_addRank_21 : decode prog_7_method_2_code 21 = .ok (.aload_n 0, 1) := gd_12 db00b_10
theorem d_X5_addRank_22 : decode prog_7_method_2_code 22 = .ok (.getfield 15, 3) := gd_13 db00b_10
theorem d_X5_addRank_25 : decode prog_7_method_2_code 25 = .ok (.aload_n 0, 1) := gd_14 db00b_10
theorem d_X5_addRank_26 : decode prog_7_method_2_code 26 = .ok (.getfield 58, 3) := gd_15 db00b_10
theorem d_X5_addRank_29 : decode prog_7_method_2_code 29 = .ok (.iload_n 2, 1) := gd_16 db00b_10
theorem d_X5_addRank_30 : decode prog_7_method_2_code 30 = .ok (.iastore, 1) := gd_17 db00b_10
theorem d_X5_addRank_31 : decode prog_7_method_2_code 31 = .ok (.aload_n 0, 1) := gd_18 db00b_10
theorem d_X5_addRank_32 : decode prog_7_method_2_code 32 = .ok (.getfield 18, 3) := gd_19 db00b_10
theorem d_X5_addRank_35 : decode prog_7_method_2_code 35 = .ok (.aload_n 0, 1) := gd_20 db00b_10
theorem d_X5_addRank_36 : decode prog_7_method_2_code 36 = .ok (.getfield 58, 3) := gd_21 db00b_10
theorem d_X5_addRank_39 : decode prog_7_method_2_code 39 = .ok (.iload_n 3, 1) := gd_22 db00b_10
theorem d_X5_addRank_40 : decode prog_7_method_2_code 40 = .ok (.iastore, 1) := gd_23 db00b_10
theorem db00b_11 : Ad_ prog_7_method_2_code [(41, .aload_n 0, 1), (42, .getfield 21, 3), (45, .aload_n 0, 1), (46, .getfield 58, 3), (49, .iload 4, 2), (51, .iastore, 1), (52, .aload_n 0, 1), (53, .dup, 1), (54, .getfield 58, 3), (57, .iconst 1, 1), (58, .iadd, 1), (59, .putfield 58, 3), (62, .iconst 1, 1), (63, .ireturn, 1)] := bch_ok prog_7_method_2_code _ 41 (by decide +kernel)
theorem d_X5_addRank_41 : decode prog_7_method_2_code 41 = .ok (.aload_n 0, 1) := gd_0 db00b_11
theorem d_X5_addRank_42 : decode prog_7_method_2_code 42 = .ok (.getfield 21, 3) := gd_1 db00b_11
theorem d_X5_addRank_45 : decode prog_7_method_2_code 45 = .ok (.aload_n 0, 1) := gd_2 db00b_11
theorem d_X5_addRank_46 : decode prog_7_method_2_code 46 = .ok (.getfield 58, 3) := gd_3 db00b_11
theorem d_X5_addRank_49 : decode prog_7_method_2_code 49 = .ok (.iload 4, 2) := gd_4 db00b_11
theorem d_X5_addRank_51 : decode prog_7_method_2_code 51 = .ok (.iastore, 1) := gd_5 db00b_11
theorem d_X5_addRank_52 : decode prog_7_method_2_code 52 = .ok (.aload_n 0, 1) := gd_6 db00b_11
theorem d_X5_addRank_53 : decode prog_7_method_2_code 53 = .ok (.dup, 1) := gd_7 db00b_11
theorem d_X5_addRank_54 : decode prog_7_method_2_code 54 = .ok (.getfield 58, 3) := gd_8 db00b_11
theorem d_X5_addRank_57 : decode prog_7_method_2_code 57 = .ok (.iconst 1, 1) := gd_9 db00b_11
theorem d_X5_addRank_58 : decode prog_7_method_2_code 58 = .ok (.iadd, 1) := gd_10 db00b_11
theorem d_X5_addRank_59 : decode prog_7_method_2_code 59 = .ok (.putfield 58, 3) := gd_11 db00b_11
theorem d_X5_addRank_62 : decode prog_7_method_2_code 62 = .ok (.iconst 1, 1) := gd_12 db00b_11
theorem d_X5_addRank_63 : decode prog_7_method_2_code 63 = .ok (.ireturn, 1) := gd_13 db00b_11
theorem db00b_12 : Ad_ prog_7_method_3_code [(0, .aload_n 1, 1), (1, .getfield 61, 3), (4, .istore 4, 2), (6, .iconst (-1), 1), (7, .istore 5, 2), (9, .iconst 0, 1), (10, .istore 6, 2), (12, .iload 6, 2), (14, .aload_n 0, 1), (15, .getfield 58, 3), (18, .if_icmp .ge 68, 3), (21, .aload_n 0, 1), (22, .getfield 11, 3), (25, .iload 6, 2), (27, .iaload, 1), (28, .aload_n 1, 1), (29, .getfield 66, 3), (32, .if_icmp .ne 48, 3), (35, .aload_n 0, 1), (36, .getfield 21, 3), (39, .iload 6, 2), (41, .iaload, 1), (42, .iload_n 3, 1), (43, .if_icmp .gt 37, 3)] := bch_ok prog_7_method_3_code _ 0 (by decide +kernel)
theorem d_X5_classOf_0 : decode prog_7_method_3_code 0 = .ok (.aload_n 1, 1) := gd_0 db00b_12
theorem d_X5_classOf_1 : decode prog_7_method_3_code 1 = .ok (.getfield 61, 3) := gd_1 db00b_12
theorem d_X5_classOf_4 : decode prog_7_method_3_code 4 = .ok (.istore 4, 2) := gd_2 db00b_12
theorem d_X5_classOf_6 : decode prog_7_method_3_code 6 = .ok (.iconst (-1), 1) := gd_3 db00b_12
theorem d_X5_classOf_7 : decode prog_7_method_3_code 7 = .ok (.istore 5, 2) := gd_4 db00b_12
theorem d_X5_classOf_9 : decode prog_7_method_3_code 9 = .ok (.iconst 0, 1) := gd_5 db00b_12
theorem d_X5_classOf_10 : decode prog_7_method_3_code 10 = .ok (.istore 6, 2) := gd_6 db00b_12
theorem d_X5_classOf_12 : decode prog_7_method_3_code 12 = .ok (.iload 6, 2) := gd_7 db00b_12
theorem d_X5_classOf_14 : decode prog_7_method_3_code 14 = .ok (.aload_n 0, 1) := gd_8 db00b_12
theorem d_X5_classOf_15 : decode prog_7_method_3_code 15 = .ok (.getfield 58, 3) := gd_9 db00b_12
theorem d_X5_classOf_18 : decode prog_7_method_3_code 18 = .ok (.if_icmp .ge 68, 3) := gd_10 db00b_12
theorem d_X5_classOf_21 : decode prog_7_method_3_code 21 = .ok (.aload_n 0, 1) := gd_11 db00b_12
theorem d_X5_classOf_22 : decode prog_7_method_3_code 22 = .ok (.getfield 11, 3) := gd_12 db00b_12
theorem d_X5_classOf_25 : decode prog_7_method_3_code 25 = .ok (.iload 6, 2) := gd_13 db00b_12
theorem d_X5_classOf_27 : decode prog_7_method_3_code 27 = .ok (.iaload, 1) := gd_14 db00b_12
theorem d_X5_classOf_28 : decode prog_7_method_3_code 28 = .ok (.aload_n 1, 1) := gd_15 db00b_12
theorem d_X5_classOf_29 : decode prog_7_method_3_code 29 = .ok (.getfield 66, 3) := gd_16 db00b_12
theorem d_X5_classOf_32 : decode prog_7_method_3_code 32 = .ok (.if_icmp .ne 48, 3) := gd_17 db00b_12
theorem d_X5_classOf_35 : decode prog_7_method_3_code 35 = .ok (.aload_n 0, 1) := gd_18 db00b_12
theorem d_X5_classOf_36 : decode prog_7_method_3_code 36 = .ok (.getfield 21, 3) := gd_19 db00b_12
theorem d_X5_classOf_39 : decode prog_7_method_3_code 39 = .ok (.iload 6, 2) := gd_20 db00b_12
theorem d_X5_classOf_41 : decode prog_7_method_3_code 41 = .ok (.iaload, 1) := gd_21 db00b_12
theorem d_X5_classOf_42 : decode prog_7_method_3_code 42 = .ok (.iload_n 3, 1) := gd_22 db00b_12
theorem d_X5_classOf_43 : decode prog_7_method_3_code 43 = .ok (.if_icmp .gt 37, 3) := gd_23 db00b_12
theorem db00b_13 : Ad_ prog_7_method_3_code [(46, .aload_n 0, 1), (47, .getfield 18, 3), (50, .iload 6, 2), (52, .iaload, 1), (53, .iload 5, 2), (55, .iload_n 2, 1), (56, .invokestatic 69, 3), (59, .ifCond .eq 21, 3), (62, .aload_n 0, 1), (63, .getfield 15, 3), (66, .iload 6, 2), (68, .iaload, 1), (69, .istore 4, 2), (71, .aload_n 0, 1), (72, .getfield 18, 3), (75, .iload 6, 2), (77, .iaload, 1), (78, .istore 5, 2), (80, .iinc 6 1, 3), (83, .goto (-71), 3), (86, .iload 4, 2), (88, .ireturn, 1)] := bch_ok prog_7_method_3_code _ 46 (by decide +kernel)
theorem d_X5_classOf_46 : decode prog_7_method_3_code 46 = .ok (.aload_n 0, 1) := gd_0 db00b_13
theorem d_X5_classOf_47 : decode prog_7_method_3_code 47 = .ok (.getfield 18, 3) := gd_1 db00b_13
theorem d_X5_classOf_50 : decode prog_7_method_3_code 50 = .ok (.iload 6, 2) := gd_2 db00b_13
theorem d_X5_classOf_52 : decode prog_7_method_3_code 52 = .ok (.iaload, 1) := gd_3 db00b_13
theorem d_X5_classOf_53 : decode prog_7_method_3_code 53 = .ok (.iload 5, 2) := gd_4 db00b_13
theorem d_X5_classOf_55 : decode prog_7_method_3_code 55 = .ok (.iload_n 2, 1) := gd_5 db00b_13
theorem d_X5_classOf_56 : decode prog_7_method_3_code 56 = .ok (.invokestatic 69, 3) := gd_6 db00b_13
theorem d_X5_classOf_59 : decode prog_7_method_3_code 59 = .ok (.ifCond .eq 21, 3) := gd_7 db00b_13
theorem d_X5_classOf_62 : decode prog_7_method_3_code 62 = .ok (.aload_n 0, 1) := gd_8 db00b_13
theorem d_X5_classOf_63 : decode prog_7_method_3_code 63 = .ok (.getfield 15, 3) := gd_9 db00b_13
theorem d_X5_classOf_66 : decode prog_7_method_3_code 66 = .ok (.iload 6, 2) := gd_10 db00b_13
theorem d_X5_classOf_68 : decode prog_7_method_3_code 68 = .ok (.iaload, 1) := gd_11 db00b_13
theorem d_X5_classOf_69 : decode prog_7_method_3_code 69 = .ok (.istore 4, 2) := gd_12 db00b_13
theorem d_X5_classOf_71 : decode prog_7_method_3_code 71 = .ok (.aload_n 0, 1) := gd_13 db00b_13
theorem d_X5_classOf_72 : decode prog_7_method_3_code 72 = .ok (.getfield 18, 3) := gd_14 db00b_13
theorem d_X5_classOf_75 : decode prog_7_method_3_code 75 = .ok (.iload 6, 2) := gd_15 db00b_13
theorem d_X5_classOf_77 : decode prog_7_method_3_code 77 = .ok (.iaload, 1) := gd_16 db00b_13
theorem d_X5_classOf_78 : decode prog_7_method_3_code 78 = .ok (.istore 5, 2) := gd_17 db00b_13
theorem d_X5_classOf_80 : decode prog_7_method_3_code 80 = .ok (.iinc 6 1, 3) := gd_18 db00b_13
theorem d_X5_classOf_83 : decode prog_7_method_3_code 83 = .ok (.goto (-71), 3) := gd_19 db00b_13
theorem d_X5_classOf_86 : decode prog_7_method_3_code 86 = .ok (.iload 4, 2) := gd_20 db00b_13
theorem d_X5_classOf_88 : decode prog_7_method_3_code 88 = .ok (.ireturn, 1) := gd_21 db00b_13
theorem db00b_14 : Ad_ prog_7_method_4_code [(0, .iload_n 1, 1), (1, .iconst 0, 1), (2, .bipush 11, 2), (4, .invokestatic 69, 3), (7, .ifCond .eq 25, 3), (10, .iload_n 2, 1), (11, .iconst 0, 1), (12, .bipush 13, 2), (14, .invokestatic 69, 3), (17, .ifCond .eq 15, 3), (20, .aload_n 0, 1), (21, .getfield 27, 3), (24, .iload_n 2, 1), (25, .bipush 12, 2), (27, .imul, 1), (28, .iload_n 1, 1), (29, .iadd, 1), (30, .iload_n 3, 1), (31, .iastore, 1), (32, .return_, 1)] := bch_ok prog_7_method_4_code _ 0 (by decide +kernel)
theorem d_X5_setWage_0 : decode prog_7_method_4_code 0 = .ok (.iload_n 1, 1) := gd_0 db00b_14
theorem d_X5_setWage_1 : decode prog_7_method_4_code 1 = .ok (.iconst 0, 1) := gd_1 db00b_14
theorem d_X5_setWage_2 : decode prog_7_method_4_code 2 = .ok (.bipush 11, 2) := gd_2 db00b_14
theorem d_X5_setWage_4 : decode prog_7_method_4_code 4 = .ok (.invokestatic 69, 3) := gd_3 db00b_14
theorem d_X5_setWage_7 : decode prog_7_method_4_code 7 = .ok (.ifCond .eq 25, 3) := gd_4 db00b_14
theorem d_X5_setWage_10 : decode prog_7_method_4_code 10 = .ok (.iload_n 2, 1) := gd_5 db00b_14
theorem d_X5_setWage_11 : decode prog_7_method_4_code 11 = .ok (.iconst 0, 1) := gd_6 db00b_14
theorem d_X5_setWage_12 : decode prog_7_method_4_code 12 = .ok (.bipush 13, 2) := gd_7 db00b_14
theorem d_X5_setWage_14 : decode prog_7_method_4_code 14 = .ok (.invokestatic 69, 3) := gd_8 db00b_14
theorem d_X5_setWage_17 : decode prog_7_method_4_code 17 = .ok (.ifCond .eq 15, 3) := gd_9 db00b_14
theorem d_X5_setWage_20 : decode prog_7_method_4_code 20 = .ok (.aload_n 0, 1) := gd_10 db00b_14
theorem d_X5_setWage_21 : decode prog_7_method_4_code 21 = .ok (.getfield 27, 3) := gd_11 db00b_14
theorem d_X5_setWage_24 : decode prog_7_method_4_code 24 = .ok (.iload_n 2, 1) := gd_12 db00b_14
theorem d_X5_setWage_25 : decode prog_7_method_4_code 25 = .ok (.bipush 12, 2) := gd_13 db00b_14
theorem d_X5_setWage_27 : decode prog_7_method_4_code 27 = .ok (.imul, 1) := gd_14 db00b_14
theorem d_X5_setWage_28 : decode prog_7_method_4_code 28 = .ok (.iload_n 1, 1) := gd_15 db00b_14
theorem d_X5_setWage_29 : decode prog_7_method_4_code 29 = .ok (.iadd, 1) := gd_16 db00b_14
theorem d_X5_setWage_30 : decode prog_7_method_4_code 30 = .ok (.iload_n 3, 1) := gd_17 db00b_14
theorem d_X5_setWage_31 : decode prog_7_method_4_code 31 = .ok (.iastore, 1) := gd_18 db00b_14
theorem d_X5_setWage_32 : decode prog_7_method_4_code 32 = .ok (.return_, 1) := gd_19 db00b_14
theorem db00b_15 : Ad_ prog_7_method_5_code [(0, .iload_n 2, 1), (1, .bipush 14, 2), (3, .invokestatic 73, 3), (6, .bipush 12, 2), (8, .imul, 1), (9, .istore 4, 2), (11, .iconst 0, 1), (12, .istore 5, 2), (14, .iconst 0, 1), (15, .istore 6, 2), (17, .iload 6, 2), (19, .iload 4, 2), (21, .if_icmp .ge 38, 3), (24, .iload 6, 2), (26, .bipush 12, 2), (28, .irem, 1), (29, .iload_n 1, 1), (30, .if_icmp .ge 23, 3), (33, .aload_n 0, 1), (34, .getfield 27, 3), (37, .iload 6, 2), (39, .iaload, 1), (40, .aload_n 0, 1), (41, .getfield 30, 3)] := bch_ok prog_7_method_5_code _ 0 (by decide +kernel)
theorem d_X5_bookAll_0 : decode prog_7_method_5_code 0 = .ok (.iload_n 2, 1) := gd_0 db00b_15
theorem d_X5_bookAll_1 : decode prog_7_method_5_code 1 = .ok (.bipush 14, 2) := gd_1 db00b_15
theorem d_X5_bookAll_3 : decode prog_7_method_5_code 3 = .ok (.invokestatic 73, 3) := gd_2 db00b_15
theorem d_X5_bookAll_6 : decode prog_7_method_5_code 6 = .ok (.bipush 12, 2) := gd_3 db00b_15
theorem d_X5_bookAll_8 : decode prog_7_method_5_code 8 = .ok (.imul, 1) := gd_4 db00b_15
theorem d_X5_bookAll_9 : decode prog_7_method_5_code 9 = .ok (.istore 4, 2) := gd_5 db00b_15
theorem d_X5_bookAll_11 : decode prog_7_method_5_code 11 = .ok (.iconst 0, 1) := gd_6 db00b_15
theorem d_X5_bookAll_12 : decode prog_7_method_5_code 12 = .ok (.istore 5, 2) := gd_7 db00b_15
theorem d_X5_bookAll_14 : decode prog_7_method_5_code 14 = .ok (.iconst 0, 1) := gd_8 db00b_15
theorem d_X5_bookAll_15 : decode prog_7_method_5_code 15 = .ok (.istore 6, 2) := gd_9 db00b_15
theorem d_X5_bookAll_17 : decode prog_7_method_5_code 17 = .ok (.iload 6, 2) := gd_10 db00b_15
theorem d_X5_bookAll_19 : decode prog_7_method_5_code 19 = .ok (.iload 4, 2) := gd_11 db00b_15
theorem d_X5_bookAll_21 : decode prog_7_method_5_code 21 = .ok (.if_icmp .ge 38, 3) := gd_12 db00b_15
theorem d_X5_bookAll_24 : decode prog_7_method_5_code 24 = .ok (.iload 6, 2) := gd_13 db00b_15
theorem d_X5_bookAll_26 : decode prog_7_method_5_code 26 = .ok (.bipush 12, 2) := gd_14 db00b_15
theorem d_X5_bookAll_28 : decode prog_7_method_5_code 28 = .ok (.irem, 1) := gd_15 db00b_15
theorem d_X5_bookAll_29 : decode prog_7_method_5_code 29 = .ok (.iload_n 1, 1) := gd_16 db00b_15
theorem d_X5_bookAll_30 : decode prog_7_method_5_code 30 = .ok (.if_icmp .ge 23, 3) := gd_17 db00b_15
theorem d_X5_bookAll_33 : decode prog_7_method_5_code 33 = .ok (.aload_n 0, 1) := gd_18 db00b_15
theorem d_X5_bookAll_34 : decode prog_7_method_5_code 34 = .ok (.getfield 27, 3) := gd_19 db00b_15
theorem d_X5_bookAll_37 : decode prog_7_method_5_code 37 = .ok (.iload 6, 2) := gd_20 db00b_15
theorem d_X5_bookAll_39 : decode prog_7_method_5_code 39 = .ok (.iaload, 1) := gd_21 db00b_15
theorem d_X5_bookAll_40 : decode prog_7_method_5_code 40 = .ok (.aload_n 0, 1) := gd_22 db00b_15
theorem d_X5_bookAll_41 : decode prog_7_method_5_code 41 = .ok (.getfield 30, 3) := gd_23 db00b_15
theorem db00b_16 : Ad_ prog_7_method_5_code [(44, .iload 6, 2), (46, .iaload, 1), (47, .if_icmp .eq 6, 3), (50, .iinc 5 1, 3), (53, .iinc 6 1, 3), (56, .goto (-39), 3), (59, .aload_n 0, 1), (60, .getfield 79, 3), (63, .iload 5, 2), (65, .iadd, 1), (66, .sipush 600, 3), (69, .if_icmp .le 5, 3), (72, .iconst (-1), 1), (73, .ireturn, 1), (74, .iconst 0, 1), (75, .istore 6, 2), (77, .iload 6, 2), (79, .iload 4, 2), (81, .if_icmp .ge 42, 3), (84, .iload 6, 2), (86, .bipush 12, 2), (88, .irem, 1), (89, .iload_n 1, 1), (90, .if_icmp .ge 27, 3)] := bch_ok prog_7_method_5_code _ 44 (by decide +kernel)
theorem d_X5_bookAll_44 : decode prog_7_method_5_code 44 = .ok (.iload 6, 2) := gd_0 db00b_16
theorem d_X5_bookAll_46 : decode prog_7_method_5_code 46 = .ok (.iaload, 1) := gd_1 db00b_16
theorem d_X5_bookAll_47 : decode prog_7_method_5_code 47 = .ok (.if_icmp .eq 6, 3) := gd_2 db00b_16
theorem d_X5_bookAll_50 : decode prog_7_method_5_code 50 = .ok (.iinc 5 1, 3) := gd_3 db00b_16
theorem d_X5_bookAll_53 : decode prog_7_method_5_code 53 = .ok (.iinc 6 1, 3) := gd_4 db00b_16
theorem d_X5_bookAll_56 : decode prog_7_method_5_code 56 = .ok (.goto (-39), 3) := gd_5 db00b_16
theorem d_X5_bookAll_59 : decode prog_7_method_5_code 59 = .ok (.aload_n 0, 1) := gd_6 db00b_16
theorem d_X5_bookAll_60 : decode prog_7_method_5_code 60 = .ok (.getfield 79, 3) := gd_7 db00b_16
theorem d_X5_bookAll_63 : decode prog_7_method_5_code 63 = .ok (.iload 5, 2) := gd_8 db00b_16
theorem d_X5_bookAll_65 : decode prog_7_method_5_code 65 = .ok (.iadd, 1) := gd_9 db00b_16
theorem d_X5_bookAll_66 : decode prog_7_method_5_code 66 = .ok (.sipush 600, 3) := gd_10 db00b_16
theorem d_X5_bookAll_69 : decode prog_7_method_5_code 69 = .ok (.if_icmp .le 5, 3) := gd_11 db00b_16
theorem d_X5_bookAll_72 : decode prog_7_method_5_code 72 = .ok (.iconst (-1), 1) := gd_12 db00b_16
theorem d_X5_bookAll_73 : decode prog_7_method_5_code 73 = .ok (.ireturn, 1) := gd_13 db00b_16
theorem d_X5_bookAll_74 : decode prog_7_method_5_code 74 = .ok (.iconst 0, 1) := gd_14 db00b_16
theorem d_X5_bookAll_75 : decode prog_7_method_5_code 75 = .ok (.istore 6, 2) := gd_15 db00b_16
theorem d_X5_bookAll_77 : decode prog_7_method_5_code 77 = .ok (.iload 6, 2) := gd_16 db00b_16
theorem d_X5_bookAll_79 : decode prog_7_method_5_code 79 = .ok (.iload 4, 2) := gd_17 db00b_16
theorem d_X5_bookAll_81 : decode prog_7_method_5_code 81 = .ok (.if_icmp .ge 42, 3) := gd_18 db00b_16
theorem d_X5_bookAll_84 : decode prog_7_method_5_code 84 = .ok (.iload 6, 2) := gd_19 db00b_16
theorem d_X5_bookAll_86 : decode prog_7_method_5_code 86 = .ok (.bipush 12, 2) := gd_20 db00b_16
theorem d_X5_bookAll_88 : decode prog_7_method_5_code 88 = .ok (.irem, 1) := gd_21 db00b_16
theorem d_X5_bookAll_89 : decode prog_7_method_5_code 89 = .ok (.iload_n 1, 1) := gd_22 db00b_16
theorem d_X5_bookAll_90 : decode prog_7_method_5_code 90 = .ok (.if_icmp .ge 27, 3) := gd_23 db00b_16
theorem db00b_17 : Ad_ prog_7_method_5_code [(93, .aload_n 0, 1), (94, .getfield 27, 3), (97, .iload 6, 2), (99, .iaload, 1), (100, .aload_n 0, 1), (101, .getfield 30, 3), (104, .iload 6, 2), (106, .iaload, 1), (107, .if_icmp .eq 10, 3), (110, .aload_n 0, 1), (111, .iload 6, 2), (113, .iload_n 3, 1), (114, .invokevirtual 82, 3), (117, .iinc 6 1, 3), (120, .goto (-43), 3), (123, .iload 5, 2), (125, .ireturn, 1)] := bch_ok prog_7_method_5_code _ 93 (by decide +kernel)
theorem d_X5_bookAll_93 : decode prog_7_method_5_code 93 = .ok (.aload_n 0, 1) := gd_0 db00b_17
theorem d_X5_bookAll_94 : decode prog_7_method_5_code 94 = .ok (.getfield 27, 3) := gd_1 db00b_17
theorem d_X5_bookAll_97 : decode prog_7_method_5_code 97 = .ok (.iload 6, 2) := gd_2 db00b_17
theorem d_X5_bookAll_99 : decode prog_7_method_5_code 99 = .ok (.iaload, 1) := gd_3 db00b_17
theorem d_X5_bookAll_100 : decode prog_7_method_5_code 100 = .ok (.aload_n 0, 1) := gd_4 db00b_17
theorem d_X5_bookAll_101 : decode prog_7_method_5_code 101 = .ok (.getfield 30, 3) := gd_5 db00b_17
theorem d_X5_bookAll_104 : decode prog_7_method_5_code 104 = .ok (.iload 6, 2) := gd_6 db00b_17
theorem d_X5_bookAll_106 : decode prog_7_method_5_code 106 = .ok (.iaload, 1) := gd_7 db00b_17
theorem d_X5_bookAll_107 : decode prog_7_method_5_code 107 = .ok (.if_icmp .eq 10, 3) := gd_8 db00b_17
theorem d_X5_bookAll_110 : decode prog_7_method_5_code 110 = .ok (.aload_n 0, 1) := gd_9 db00b_17
theorem d_X5_bookAll_111 : decode prog_7_method_5_code 111 = .ok (.iload 6, 2) := gd_10 db00b_17
theorem d_X5_bookAll_113 : decode prog_7_method_5_code 113 = .ok (.iload_n 3, 1) := gd_11 db00b_17
theorem d_X5_bookAll_114 : decode prog_7_method_5_code 114 = .ok (.invokevirtual 82, 3) := gd_12 db00b_17
theorem d_X5_bookAll_117 : decode prog_7_method_5_code 117 = .ok (.iinc 6 1, 3) := gd_13 db00b_17
theorem d_X5_bookAll_120 : decode prog_7_method_5_code 120 = .ok (.goto (-43), 3) := gd_14 db00b_17
theorem d_X5_bookAll_123 : decode prog_7_method_5_code 123 = .ok (.iload 5, 2) := gd_15 db00b_17
theorem d_X5_bookAll_125 : decode prog_7_method_5_code 125 = .ok (.ireturn, 1) := gd_16 db00b_17
theorem db00b_18 : Ad_ prog_7_method_6_code [(0, .aload_n 0, 1), (1, .getfield 79, 3), (4, .sipush 600, 3), (7, .if_icmp .ge 101, 3), (10, .aload_n 0, 1), (11, .getfield 33, 3), (14, .aload_n 0, 1), (15, .getfield 79, 3), (18, .iload_n 1, 1), (19, .bipush 12, 2), (21, .irem, 1), (22, .iastore, 1), (23, .aload_n 0, 1), (24, .getfield 36, 3), (27, .aload_n 0, 1), (28, .getfield 79, 3), (31, .iload_n 1, 1), (32, .bipush 12, 2), (34, .idiv, 1), (35, .iastore, 1), (36, .aload_n 0, 1), (37, .getfield 39, 3), (40, .aload_n 0, 1), (41, .getfield 79, 3)] := bch_ok prog_7_method_6_code _ 0 (by decide +kernel)
theorem d_X5_writeLine_0 : decode prog_7_method_6_code 0 = .ok (.aload_n 0, 1) := gd_0 db00b_18
theorem d_X5_writeLine_1 : decode prog_7_method_6_code 1 = .ok (.getfield 79, 3) := gd_1 db00b_18
theorem d_X5_writeLine_4 : decode prog_7_method_6_code 4 = .ok (.sipush 600, 3) := gd_2 db00b_18
theorem d_X5_writeLine_7 : decode prog_7_method_6_code 7 = .ok (.if_icmp .ge 101, 3) := gd_3 db00b_18
theorem d_X5_writeLine_10 : decode prog_7_method_6_code 10 = .ok (.aload_n 0, 1) := gd_4 db00b_18
theorem d_X5_writeLine_11 : decode prog_7_method_6_code 11 = .ok (.getfield 33, 3) := gd_5 db00b_18
theorem d_X5_writeLine_14 : decode prog_7_method_6_code 14 = .ok (.aload_n 0, 1) := gd_6 db00b_18
theorem d_X5_writeLine_15 : decode prog_7_method_6_code 15 = .ok (.getfield 79, 3) := gd_7 db00b_18
theorem d_X5_writeLine_18 : decode prog_7_method_6_code 18 = .ok (.iload_n 1, 1) := gd_8 db00b_18
theorem d_X5_writeLine_19 : decode prog_7_method_6_code 19 = .ok (.bipush 12, 2) := gd_9 db00b_18
theorem d_X5_writeLine_21 : decode prog_7_method_6_code 21 = .ok (.irem, 1) := gd_10 db00b_18
theorem d_X5_writeLine_22 : decode prog_7_method_6_code 22 = .ok (.iastore, 1) := gd_11 db00b_18
theorem d_X5_writeLine_23 : decode prog_7_method_6_code 23 = .ok (.aload_n 0, 1) := gd_12 db00b_18
theorem d_X5_writeLine_24 : decode prog_7_method_6_code 24 = .ok (.getfield 36, 3) := gd_13 db00b_18
theorem d_X5_writeLine_27 : decode prog_7_method_6_code 27 = .ok (.aload_n 0, 1) := gd_14 db00b_18
theorem d_X5_writeLine_28 : decode prog_7_method_6_code 28 = .ok (.getfield 79, 3) := gd_15 db00b_18
theorem d_X5_writeLine_31 : decode prog_7_method_6_code 31 = .ok (.iload_n 1, 1) := gd_16 db00b_18
theorem d_X5_writeLine_32 : decode prog_7_method_6_code 32 = .ok (.bipush 12, 2) := gd_17 db00b_18
theorem d_X5_writeLine_34 : decode prog_7_method_6_code 34 = .ok (.idiv, 1) := gd_18 db00b_18
theorem d_X5_writeLine_35 : decode prog_7_method_6_code 35 = .ok (.iastore, 1) := gd_19 db00b_18
theorem d_X5_writeLine_36 : decode prog_7_method_6_code 36 = .ok (.aload_n 0, 1) := gd_20 db00b_18
theorem d_X5_writeLine_37 : decode prog_7_method_6_code 37 = .ok (.getfield 39, 3) := gd_21 db00b_18
theorem d_X5_writeLine_40 : decode prog_7_method_6_code 40 = .ok (.aload_n 0, 1) := gd_22 db00b_18
theorem d_X5_writeLine_41 : decode prog_7_method_6_code 41 = .ok (.getfield 79, 3) := gd_23 db00b_18
theorem db00b_19 : Ad_ prog_7_method_6_code [(44, .aload_n 0, 1), (45, .getfield 27, 3), (48, .iload_n 1, 1), (49, .iaload, 1), (50, .aload_n 0, 1), (51, .getfield 30, 3), (54, .iload_n 1, 1), (55, .iaload, 1), (56, .isub, 1), (57, .iastore, 1), (58, .aload_n 0, 1), (59, .getfield 42, 3), (62, .aload_n 0, 1), (63, .getfield 79, 3), (66, .iload_n 2, 1), (67, .iastore, 1), (68, .aload_n 0, 1), (69, .dup, 1), (70, .getfield 86, 3), (73, .aload_n 0, 1), (74, .getfield 39, 3), (77, .aload_n 0, 1), (78, .getfield 79, 3), (81, .iaload, 1)] := bch_ok prog_7_method_6_code _ 44 (by decide +kernel)
theorem d_X5_writeLine_44 : decode prog_7_method_6_code 44 = .ok (.aload_n 0, 1) := gd_0 db00b_19
theorem d_X5_writeLine_45 : decode prog_7_method_6_code 45 = .ok (.getfield 27, 3) := gd_1 db00b_19
theorem d_X5_writeLine_48 : decode prog_7_method_6_code 48 = .ok (.iload_n 1, 1) := gd_2 db00b_19
theorem d_X5_writeLine_49 : decode prog_7_method_6_code 49 = .ok (.iaload, 1) := gd_3 db00b_19
theorem d_X5_writeLine_50 : decode prog_7_method_6_code 50 = .ok (.aload_n 0, 1) := gd_4 db00b_19
theorem d_X5_writeLine_51 : decode prog_7_method_6_code 51 = .ok (.getfield 30, 3) := gd_5 db00b_19
theorem d_X5_writeLine_54 : decode prog_7_method_6_code 54 = .ok (.iload_n 1, 1) := gd_6 db00b_19
theorem d_X5_writeLine_55 : decode prog_7_method_6_code 55 = .ok (.iaload, 1) := gd_7 db00b_19
theorem d_X5_writeLine_56 : decode prog_7_method_6_code 56 = .ok (.isub, 1) := gd_8 db00b_19
theorem d_X5_writeLine_57 : decode prog_7_method_6_code 57 = .ok (.iastore, 1) := gd_9 db00b_19
theorem d_X5_writeLine_58 : decode prog_7_method_6_code 58 = .ok (.aload_n 0, 1) := gd_10 db00b_19
theorem d_X5_writeLine_59 : decode prog_7_method_6_code 59 = .ok (.getfield 42, 3) := gd_11 db00b_19
theorem d_X5_writeLine_62 : decode prog_7_method_6_code 62 = .ok (.aload_n 0, 1) := gd_12 db00b_19
theorem d_X5_writeLine_63 : decode prog_7_method_6_code 63 = .ok (.getfield 79, 3) := gd_13 db00b_19
theorem d_X5_writeLine_66 : decode prog_7_method_6_code 66 = .ok (.iload_n 2, 1) := gd_14 db00b_19
theorem d_X5_writeLine_67 : decode prog_7_method_6_code 67 = .ok (.iastore, 1) := gd_15 db00b_19
theorem d_X5_writeLine_68 : decode prog_7_method_6_code 68 = .ok (.aload_n 0, 1) := gd_16 db00b_19
theorem d_X5_writeLine_69 : decode prog_7_method_6_code 69 = .ok (.dup, 1) := gd_17 db00b_19
theorem d_X5_writeLine_70 : decode prog_7_method_6_code 70 = .ok (.getfield 86, 3) := gd_18 db00b_19
theorem d_X5_writeLine_73 : decode prog_7_method_6_code 73 = .ok (.aload_n 0, 1) := gd_19 db00b_19
theorem d_X5_writeLine_74 : decode prog_7_method_6_code 74 = .ok (.getfield 39, 3) := gd_20 db00b_19
theorem d_X5_writeLine_77 : decode prog_7_method_6_code 77 = .ok (.aload_n 0, 1) := gd_21 db00b_19
theorem d_X5_writeLine_78 : decode prog_7_method_6_code 78 = .ok (.getfield 79, 3) := gd_22 db00b_19
theorem d_X5_writeLine_81 : decode prog_7_method_6_code 81 = .ok (.iaload, 1) := gd_23 db00b_19
theorem db00b_20 : Ad_ prog_7_method_6_code [(82, .iadd, 1), (83, .putfield 86, 3), (86, .aload_n 0, 1), (87, .getfield 30, 3), (90, .iload_n 1, 1), (91, .aload_n 0, 1), (92, .getfield 27, 3), (95, .iload_n 1, 1), (96, .iaload, 1), (97, .iastore, 1), (98, .aload_n 0, 1), (99, .dup, 1), (100, .getfield 79, 3), (103, .iconst 1, 1), (104, .iadd, 1), (105, .putfield 79, 3), (108, .return_, 1)] := bch_ok prog_7_method_6_code _ 82 (by decide +kernel)
theorem d_X5_writeLine_82 : decode prog_7_method_6_code 82 = .ok (.iadd, 1) := gd_0 db00b_20
theorem d_X5_writeLine_83 : decode prog_7_method_6_code 83 = .ok (.putfield 86, 3) := gd_1 db00b_20
theorem d_X5_writeLine_86 : decode prog_7_method_6_code 86 = .ok (.aload_n 0, 1) := gd_2 db00b_20
theorem d_X5_writeLine_87 : decode prog_7_method_6_code 87 = .ok (.getfield 30, 3) := gd_3 db00b_20
theorem d_X5_writeLine_90 : decode prog_7_method_6_code 90 = .ok (.iload_n 1, 1) := gd_4 db00b_20
theorem d_X5_writeLine_91 : decode prog_7_method_6_code 91 = .ok (.aload_n 0, 1) := gd_5 db00b_20
theorem d_X5_writeLine_92 : decode prog_7_method_6_code 92 = .ok (.getfield 27, 3) := gd_6 db00b_20
theorem d_X5_writeLine_95 : decode prog_7_method_6_code 95 = .ok (.iload_n 1, 1) := gd_7 db00b_20
theorem d_X5_writeLine_96 : decode prog_7_method_6_code 96 = .ok (.iaload, 1) := gd_8 db00b_20
theorem d_X5_writeLine_97 : decode prog_7_method_6_code 97 = .ok (.iastore, 1) := gd_9 db00b_20
theorem d_X5_writeLine_98 : decode prog_7_method_6_code 98 = .ok (.aload_n 0, 1) := gd_10 db00b_20
theorem d_X5_writeLine_99 : decode prog_7_method_6_code 99 = .ok (.dup, 1) := gd_11 db00b_20
theorem d_X5_writeLine_100 : decode prog_7_method_6_code 100 = .ok (.getfield 79, 3) := gd_12 db00b_20
theorem d_X5_writeLine_103 : decode prog_7_method_6_code 103 = .ok (.iconst 1, 1) := gd_13 db00b_20
theorem d_X5_writeLine_104 : decode prog_7_method_6_code 104 = .ok (.iadd, 1) := gd_14 db00b_20
theorem d_X5_writeLine_105 : decode prog_7_method_6_code 105 = .ok (.putfield 79, 3) := gd_15 db00b_20
theorem d_X5_writeLine_108 : decode prog_7_method_6_code 108 = .ok (.return_, 1) := gd_16 db00b_20
theorem d_X5_tellLine_18 : decode prog_7_method_7_code 18 = .ok (.tableswitch 58 0 3 #[30, 37, 44, 51], 30) := by decide +kernel
theorem db00b_21 : Ad_ prog_7_method_7_code [(0, .iload_n 1, 1), (1, .iconst 0, 1), (2, .aload_n 0, 1), (3, .getfield 79, 3), (6, .iconst 1, 1), (7, .isub, 1), (8, .invokestatic 69, 3), (11, .ifCond .ne 6, 3), (14, .ldc 89, 2), (16, .ireturn, 1), (17, .iload_n 2, 1), (48, .aload_n 0, 1), (49, .getfield 33, 3), (52, .iload_n 1, 1), (53, .iaload, 1), (54, .ireturn, 1), (55, .aload_n 0, 1), (56, .getfield 36, 3), (59, .iload_n 1, 1), (60, .iaload, 1), (61, .ireturn, 1), (62, .aload_n 0, 1), (63, .getfield 39, 3), (66, .iload_n 1, 1)] := bch_ok prog_7_method_7_code _ 0 (by decide +kernel)
theorem d_X5_tellLine_0 : decode prog_7_method_7_code 0 = .ok (.iload_n 1, 1) := gd_0 db00b_21
theorem d_X5_tellLine_1 : decode prog_7_method_7_code 1 = .ok (.iconst 0, 1) := gd_1 db00b_21
theorem d_X5_tellLine_2 : decode prog_7_method_7_code 2 = .ok (.aload_n 0, 1) := gd_2 db00b_21
theorem d_X5_tellLine_3 : decode prog_7_method_7_code 3 = .ok (.getfield 79, 3) := gd_3 db00b_21
theorem d_X5_tellLine_6 : decode prog_7_method_7_code 6 = .ok (.iconst 1, 1) := gd_4 db00b_21
theorem d_X5_tellLine_7 : decode prog_7_method_7_code 7 = .ok (.isub, 1) := gd_5 db00b_21
theorem d_X5_tellLine_8 : decode prog_7_method_7_code 8 = .ok (.invokestatic 69, 3) := gd_6 db00b_21
theorem d_X5_tellLine_11 : decode prog_7_method_7_code 11 = .ok (.ifCond .ne 6, 3) := gd_7 db00b_21
theorem d_X5_tellLine_14 : decode prog_7_method_7_code 14 = .ok (.ldc 89, 2) := gd_8 db00b_21
theorem d_X5_tellLine_16 : decode prog_7_method_7_code 16 = .ok (.ireturn, 1) := gd_9 db00b_21
theorem d_X5_tellLine_17 : decode prog_7_method_7_code 17 = .ok (.iload_n 2, 1) := gd_10 db00b_21
theorem d_X5_tellLine_48 : decode prog_7_method_7_code 48 = .ok (.aload_n 0, 1) := gd_11 db00b_21
theorem d_X5_tellLine_49 : decode prog_7_method_7_code 49 = .ok (.getfield 33, 3) := gd_12 db00b_21
theorem d_X5_tellLine_52 : decode prog_7_method_7_code 52 = .ok (.iload_n 1, 1) := gd_13 db00b_21
theorem d_X5_tellLine_53 : decode prog_7_method_7_code 53 = .ok (.iaload, 1) := gd_14 db00b_21
theorem d_X5_tellLine_54 : decode prog_7_method_7_code 54 = .ok (.ireturn, 1) := gd_15 db00b_21
theorem d_X5_tellLine_55 : decode prog_7_method_7_code 55 = .ok (.aload_n 0, 1) := gd_16 db00b_21
theorem d_X5_tellLine_56 : decode prog_7_method_7_code 56 = .ok (.getfield 36, 3) := gd_17 db00b_21
theorem d_X5_tellLine_59 : decode prog_7_method_7_code 59 = .ok (.iload_n 1, 1) := gd_18 db00b_21
theorem d_X5_tellLine_60 : decode prog_7_method_7_code 60 = .ok (.iaload, 1) := gd_19 db00b_21
theorem d_X5_tellLine_61 : decode prog_7_method_7_code 61 = .ok (.ireturn, 1) := gd_20 db00b_21
theorem d_X5_tellLine_62 : decode prog_7_method_7_code 62 = .ok (.aload_n 0, 1) := gd_21 db00b_21
theorem d_X5_tellLine_63 : decode prog_7_method_7_code 63 = .ok (.getfield 39, 3) := gd_22 db00b_21
theorem d_X5_tellLine_66 : decode prog_7_method_7_code 66 = .ok (.iload_n 1, 1) := gd_23 db00b_21
theorem db00b_22 : Ad_ prog_7_method_7_code [(67, .iaload, 1), (68, .ireturn, 1), (69, .aload_n 0, 1), (70, .getfield 42, 3), (73, .iload_n 1, 1), (74, .iaload, 1), (75, .ireturn, 1), (76, .ldc 89, 2), (78, .ireturn, 1)] := bch_ok prog_7_method_7_code _ 67 (by decide +kernel)
theorem d_X5_tellLine_67 : decode prog_7_method_7_code 67 = .ok (.iaload, 1) := gd_0 db00b_22
theorem d_X5_tellLine_68 : decode prog_7_method_7_code 68 = .ok (.ireturn, 1) := gd_1 db00b_22
theorem d_X5_tellLine_69 : decode prog_7_method_7_code 69 = .ok (.aload_n 0, 1) := gd_2 db00b_22
theorem d_X5_tellLine_70 : decode prog_7_method_7_code 70 = .ok (.getfield 42, 3) := gd_3 db00b_22
theorem d_X5_tellLine_73 : decode prog_7_method_7_code 73 = .ok (.iload_n 1, 1) := gd_4 db00b_22
theorem d_X5_tellLine_74 : decode prog_7_method_7_code 74 = .ok (.iaload, 1) := gd_5 db00b_22
theorem d_X5_tellLine_75 : decode prog_7_method_7_code 75 = .ok (.ireturn, 1) := gd_6 db00b_22
theorem d_X5_tellLine_76 : decode prog_7_method_7_code 76 = .ok (.ldc 89, 2) := gd_7 db00b_22
theorem d_X5_tellLine_78 : decode prog_7_method_7_code 78 = .ok (.ireturn, 1) := gd_8 db00b_22
theorem db00b_23 : Ad_ prog_7_method_8_code [(0, .iload_n 1, 1), (1, .iconst 0, 1), (2, .iconst 3, 1), (3, .invokestatic 69, 3), (6, .ifCond .eq 25, 3), (9, .iload_n 2, 1), (10, .iconst 0, 1), (11, .bipush 11, 2), (13, .invokestatic 69, 3), (16, .ifCond .eq 15, 3), (19, .aload_n 0, 1), (20, .getfield 45, 3), (23, .iload_n 1, 1), (24, .bipush 12, 2), (26, .imul, 1), (27, .iload_n 2, 1), (28, .iadd, 1), (29, .iload_n 3, 1), (30, .iastore, 1), (31, .return_, 1)] := bch_ok prog_7_method_8_code _ 0 (by decide +kernel)
theorem d_X5_setMark_0 : decode prog_7_method_8_code 0 = .ok (.iload_n 1, 1) := gd_0 db00b_23
theorem d_X5_setMark_1 : decode prog_7_method_8_code 1 = .ok (.iconst 0, 1) := gd_1 db00b_23
theorem d_X5_setMark_2 : decode prog_7_method_8_code 2 = .ok (.iconst 3, 1) := gd_2 db00b_23
theorem d_X5_setMark_3 : decode prog_7_method_8_code 3 = .ok (.invokestatic 69, 3) := gd_3 db00b_23
theorem d_X5_setMark_6 : decode prog_7_method_8_code 6 = .ok (.ifCond .eq 25, 3) := gd_4 db00b_23
theorem d_X5_setMark_9 : decode prog_7_method_8_code 9 = .ok (.iload_n 2, 1) := gd_5 db00b_23
theorem d_X5_setMark_10 : decode prog_7_method_8_code 10 = .ok (.iconst 0, 1) := gd_6 db00b_23
theorem d_X5_setMark_11 : decode prog_7_method_8_code 11 = .ok (.bipush 11, 2) := gd_7 db00b_23
theorem d_X5_setMark_13 : decode prog_7_method_8_code 13 = .ok (.invokestatic 69, 3) := gd_8 db00b_23
theorem d_X5_setMark_16 : decode prog_7_method_8_code 16 = .ok (.ifCond .eq 15, 3) := gd_9 db00b_23
theorem d_X5_setMark_19 : decode prog_7_method_8_code 19 = .ok (.aload_n 0, 1) := gd_10 db00b_23
theorem d_X5_setMark_20 : decode prog_7_method_8_code 20 = .ok (.getfield 45, 3) := gd_11 db00b_23
theorem d_X5_setMark_23 : decode prog_7_method_8_code 23 = .ok (.iload_n 1, 1) := gd_12 db00b_23
theorem d_X5_setMark_24 : decode prog_7_method_8_code 24 = .ok (.bipush 12, 2) := gd_13 db00b_23
theorem d_X5_setMark_26 : decode prog_7_method_8_code 26 = .ok (.imul, 1) := gd_14 db00b_23
theorem d_X5_setMark_27 : decode prog_7_method_8_code 27 = .ok (.iload_n 2, 1) := gd_15 db00b_23
theorem d_X5_setMark_28 : decode prog_7_method_8_code 28 = .ok (.iadd, 1) := gd_16 db00b_23
theorem d_X5_setMark_29 : decode prog_7_method_8_code 29 = .ok (.iload_n 3, 1) := gd_17 db00b_23
theorem d_X5_setMark_30 : decode prog_7_method_8_code 30 = .ok (.iastore, 1) := gd_18 db00b_23
theorem d_X5_setMark_31 : decode prog_7_method_8_code 31 = .ok (.return_, 1) := gd_19 db00b_23
theorem db00b_24 : Ad_ prog_7_method_9_code [(0, .iconst 0, 1), (1, .istore 4, 2), (3, .iconst 0, 1), (4, .istore 5, 2), (6, .iconst 0, 1), (7, .istore 6, 2), (9, .iload 6, 2), (11, .iload_n 3, 1), (12, .bipush 12, 2), (14, .invokestatic 73, 3), (17, .if_icmp .ge 62, 3), (20, .aload_n 0, 1), (21, .getfield 45, 3), (24, .iload_n 1, 1), (25, .bipush 12, 2), (27, .imul, 1), (28, .iload 6, 2), (30, .iadd, 1), (31, .iaload, 1), (32, .istore 7, 2), (34, .aload_n 0, 1), (35, .getfield 45, 3), (38, .iload_n 2, 1), (39, .bipush 12, 2)] := bch_ok prog_7_method_9_code _ 0 (by decide +kernel)
theorem d_X5_compare_0 : decode prog_7_method_9_code 0 = .ok (.iconst 0, 1) := gd_0 db00b_24
theorem d_X5_compare_1 : decode prog_7_method_9_code 1 = .ok (.istore 4, 2) := gd_1 db00b_24
theorem d_X5_compare_3 : decode prog_7_method_9_code 3 = .ok (.iconst 0, 1) := gd_2 db00b_24
theorem d_X5_compare_4 : decode prog_7_method_9_code 4 = .ok (.istore 5, 2) := gd_3 db00b_24
theorem d_X5_compare_6 : decode prog_7_method_9_code 6 = .ok (.iconst 0, 1) := gd_4 db00b_24
theorem d_X5_compare_7 : decode prog_7_method_9_code 7 = .ok (.istore 6, 2) := gd_5 db00b_24
theorem d_X5_compare_9 : decode prog_7_method_9_code 9 = .ok (.iload 6, 2) := gd_6 db00b_24
theorem d_X5_compare_11 : decode prog_7_method_9_code 11 = .ok (.iload_n 3, 1) := gd_7 db00b_24
theorem d_X5_compare_12 : decode prog_7_method_9_code 12 = .ok (.bipush 12, 2) := gd_8 db00b_24
theorem d_X5_compare_14 : decode prog_7_method_9_code 14 = .ok (.invokestatic 73, 3) := gd_9 db00b_24
theorem d_X5_compare_17 : decode prog_7_method_9_code 17 = .ok (.if_icmp .ge 62, 3) := gd_10 db00b_24
theorem d_X5_compare_20 : decode prog_7_method_9_code 20 = .ok (.aload_n 0, 1) := gd_11 db00b_24
theorem d_X5_compare_21 : decode prog_7_method_9_code 21 = .ok (.getfield 45, 3) := gd_12 db00b_24
theorem d_X5_compare_24 : decode prog_7_method_9_code 24 = .ok (.iload_n 1, 1) := gd_13 db00b_24
theorem d_X5_compare_25 : decode prog_7_method_9_code 25 = .ok (.bipush 12, 2) := gd_14 db00b_24
theorem d_X5_compare_27 : decode prog_7_method_9_code 27 = .ok (.imul, 1) := gd_15 db00b_24
theorem d_X5_compare_28 : decode prog_7_method_9_code 28 = .ok (.iload 6, 2) := gd_16 db00b_24
theorem d_X5_compare_30 : decode prog_7_method_9_code 30 = .ok (.iadd, 1) := gd_17 db00b_24
theorem d_X5_compare_31 : decode prog_7_method_9_code 31 = .ok (.iaload, 1) := gd_18 db00b_24
theorem d_X5_compare_32 : decode prog_7_method_9_code 32 = .ok (.istore 7, 2) := gd_19 db00b_24
theorem d_X5_compare_34 : decode prog_7_method_9_code 34 = .ok (.aload_n 0, 1) := gd_20 db00b_24
theorem d_X5_compare_35 : decode prog_7_method_9_code 35 = .ok (.getfield 45, 3) := gd_21 db00b_24
theorem d_X5_compare_38 : decode prog_7_method_9_code 38 = .ok (.iload_n 2, 1) := gd_22 db00b_24
theorem d_X5_compare_39 : decode prog_7_method_9_code 39 = .ok (.bipush 12, 2) := gd_23 db00b_24
theorem db00b_25 : Ad_ prog_7_method_9_code [(41, .imul, 1), (42, .iload 6, 2), (44, .iadd, 1), (45, .iaload, 1), (46, .istore 8, 2), (48, .iload 7, 2), (50, .iconst (-1), 1), (51, .if_icmp .eq 22, 3), (54, .iload 8, 2), (56, .iconst (-1), 1), (57, .if_icmp .eq 16, 3), (60, .iinc 4 1, 3), (63, .iload 5, 2), (65, .iload 7, 2), (67, .iload 8, 2), (69, .isub, 1), (70, .iadd, 1), (71, .istore 5, 2), (73, .iinc 6 1, 3), (76, .goto (-67), 3), (79, .iload 4, 2), (81, .aload_n 0, 1), (82, .getfield 48, 3), (85, .if_icmp .lt 8, 3)] := bch_ok prog_7_method_9_code _ 41 (by decide +kernel)
theorem d_X5_compare_41 : decode prog_7_method_9_code 41 = .ok (.imul, 1) := gd_0 db00b_25
theorem d_X5_compare_42 : decode prog_7_method_9_code 42 = .ok (.iload 6, 2) := gd_1 db00b_25
theorem d_X5_compare_44 : decode prog_7_method_9_code 44 = .ok (.iadd, 1) := gd_2 db00b_25
theorem d_X5_compare_45 : decode prog_7_method_9_code 45 = .ok (.iaload, 1) := gd_3 db00b_25
theorem d_X5_compare_46 : decode prog_7_method_9_code 46 = .ok (.istore 8, 2) := gd_4 db00b_25
theorem d_X5_compare_48 : decode prog_7_method_9_code 48 = .ok (.iload 7, 2) := gd_5 db00b_25
theorem d_X5_compare_50 : decode prog_7_method_9_code 50 = .ok (.iconst (-1), 1) := gd_6 db00b_25
theorem d_X5_compare_51 : decode prog_7_method_9_code 51 = .ok (.if_icmp .eq 22, 3) := gd_7 db00b_25
theorem d_X5_compare_54 : decode prog_7_method_9_code 54 = .ok (.iload 8, 2) := gd_8 db00b_25
theorem d_X5_compare_56 : decode prog_7_method_9_code 56 = .ok (.iconst (-1), 1) := gd_9 db00b_25
theorem d_X5_compare_57 : decode prog_7_method_9_code 57 = .ok (.if_icmp .eq 16, 3) := gd_10 db00b_25
theorem d_X5_compare_60 : decode prog_7_method_9_code 60 = .ok (.iinc 4 1, 3) := gd_11 db00b_25
theorem d_X5_compare_63 : decode prog_7_method_9_code 63 = .ok (.iload 5, 2) := gd_12 db00b_25
theorem d_X5_compare_65 : decode prog_7_method_9_code 65 = .ok (.iload 7, 2) := gd_13 db00b_25
theorem d_X5_compare_67 : decode prog_7_method_9_code 67 = .ok (.iload 8, 2) := gd_14 db00b_25
theorem d_X5_compare_69 : decode prog_7_method_9_code 69 = .ok (.isub, 1) := gd_15 db00b_25
theorem d_X5_compare_70 : decode prog_7_method_9_code 70 = .ok (.iadd, 1) := gd_16 db00b_25
theorem d_X5_compare_71 : decode prog_7_method_9_code 71 = .ok (.istore 5, 2) := gd_17 db00b_25
theorem d_X5_compare_73 : decode prog_7_method_9_code 73 = .ok (.iinc 6 1, 3) := gd_18 db00b_25
theorem d_X5_compare_76 : decode prog_7_method_9_code 76 = .ok (.goto (-67), 3) := gd_19 db00b_25
theorem d_X5_compare_79 : decode prog_7_method_9_code 79 = .ok (.iload 4, 2) := gd_20 db00b_25
theorem d_X5_compare_81 : decode prog_7_method_9_code 81 = .ok (.aload_n 0, 1) := gd_21 db00b_25
theorem d_X5_compare_82 : decode prog_7_method_9_code 82 = .ok (.getfield 48, 3) := gd_22 db00b_25
theorem d_X5_compare_85 : decode prog_7_method_9_code 85 = .ok (.if_icmp .lt 8, 3) := gd_23 db00b_25
theorem db00b_26 : Ad_ prog_7_method_9_code [(88, .iload 5, 2), (90, .goto 5, 3), (93, .ldc 89, 2), (95, .ireturn, 1)] := bch_ok prog_7_method_9_code _ 88 (by decide +kernel)
theorem d_X5_compare_88 : decode prog_7_method_9_code 88 = .ok (.iload 5, 2) := gd_0 db00b_26
theorem d_X5_compare_90 : decode prog_7_method_9_code 90 = .ok (.goto 5, 3) := gd_1 db00b_26
theorem d_X5_compare_93 : decode prog_7_method_9_code 93 = .ok (.ldc 89, 2) := gd_2 db00b_26
theorem d_X5_compare_95 : decode prog_7_method_9_code 95 = .ok (.ireturn, 1) := gd_3 db00b_26
theorem d_X6_init_7 : decode prog_8_method_1_code 7 = .ok (.newarray .int, 2) := by decide +kernel
theorem d_X6_init_15 : decode prog_8_method_1_code 15 = .ok (.newarray .int, 2) := by decide +kernel
theorem d_X6_init_23 : decode prog_8_method_1_code 23 = .ok (.newarray .int, 2) := by decide +kernel
theorem d_X6_init_30 : decode prog_8_method_1_code 30 = .ok (.newarray .long, 2) := by decide +kernel
theorem d_X6_init_37 : decode prog_8_method_1_code 37 = .ok (.newarray .int, 2) := by decide +kernel
theorem d_X6_init_44 : decode prog_8_method_1_code 44 = .ok (.newarray .int, 2) := by decide +kernel
theorem d_X6_init_51 : decode prog_8_method_1_code 51 = .ok (.newarray .int, 2) := by decide +kernel
theorem db00b_27 : Ad_ prog_8_method_1_code [(0, .aload_n 0, 1), (1, .invokespecial 3, 3), (4, .aload_n 0, 1), (5, .bipush 8, 2), (9, .putfield 11, 3), (12, .aload_n 0, 1), (13, .bipush 8, 2), (17, .putfield 15, 3), (20, .aload_n 0, 1), (21, .bipush 8, 2), (25, .putfield 18, 3), (28, .aload_n 0, 1), (29, .iconst 5, 1), (32, .putfield 21, 3), (35, .aload_n 0, 1), (36, .iconst 5, 1), (39, .putfield 25, 3), (42, .aload_n 0, 1), (43, .iconst 5, 1), (46, .putfield 28, 3), (49, .aload_n 0, 1), (50, .iconst 4, 1), (53, .putfield 31, 3), (56, .aload_n 0, 1)] := bch_ok prog_8_method_1_code _ 0 (by decide +kernel)
theorem d_X6_init_0 : decode prog_8_method_1_code 0 = .ok (.aload_n 0, 1) := gd_0 db00b_27
theorem d_X6_init_1 : decode prog_8_method_1_code 1 = .ok (.invokespecial 3, 3) := gd_1 db00b_27
theorem d_X6_init_4 : decode prog_8_method_1_code 4 = .ok (.aload_n 0, 1) := gd_2 db00b_27
theorem d_X6_init_5 : decode prog_8_method_1_code 5 = .ok (.bipush 8, 2) := gd_3 db00b_27
theorem d_X6_init_9 : decode prog_8_method_1_code 9 = .ok (.putfield 11, 3) := gd_4 db00b_27
theorem d_X6_init_12 : decode prog_8_method_1_code 12 = .ok (.aload_n 0, 1) := gd_5 db00b_27
theorem d_X6_init_13 : decode prog_8_method_1_code 13 = .ok (.bipush 8, 2) := gd_6 db00b_27
theorem d_X6_init_17 : decode prog_8_method_1_code 17 = .ok (.putfield 15, 3) := gd_7 db00b_27
theorem d_X6_init_20 : decode prog_8_method_1_code 20 = .ok (.aload_n 0, 1) := gd_8 db00b_27
theorem d_X6_init_21 : decode prog_8_method_1_code 21 = .ok (.bipush 8, 2) := gd_9 db00b_27
theorem d_X6_init_25 : decode prog_8_method_1_code 25 = .ok (.putfield 18, 3) := gd_10 db00b_27
theorem d_X6_init_28 : decode prog_8_method_1_code 28 = .ok (.aload_n 0, 1) := gd_11 db00b_27
theorem d_X6_init_29 : decode prog_8_method_1_code 29 = .ok (.iconst 5, 1) := gd_12 db00b_27
theorem d_X6_init_32 : decode prog_8_method_1_code 32 = .ok (.putfield 21, 3) := gd_13 db00b_27
theorem d_X6_init_35 : decode prog_8_method_1_code 35 = .ok (.aload_n 0, 1) := gd_14 db00b_27
theorem d_X6_init_36 : decode prog_8_method_1_code 36 = .ok (.iconst 5, 1) := gd_15 db00b_27
theorem d_X6_init_39 : decode prog_8_method_1_code 39 = .ok (.putfield 25, 3) := gd_16 db00b_27
theorem d_X6_init_42 : decode prog_8_method_1_code 42 = .ok (.aload_n 0, 1) := gd_17 db00b_27
theorem d_X6_init_43 : decode prog_8_method_1_code 43 = .ok (.iconst 5, 1) := gd_18 db00b_27
theorem d_X6_init_46 : decode prog_8_method_1_code 46 = .ok (.putfield 28, 3) := gd_19 db00b_27
theorem d_X6_init_49 : decode prog_8_method_1_code 49 = .ok (.aload_n 0, 1) := gd_20 db00b_27
theorem d_X6_init_50 : decode prog_8_method_1_code 50 = .ok (.iconst 4, 1) := gd_21 db00b_27
theorem d_X6_init_53 : decode prog_8_method_1_code 53 = .ok (.putfield 31, 3) := gd_22 db00b_27
theorem d_X6_init_56 : decode prog_8_method_1_code 56 = .ok (.aload_n 0, 1) := gd_23 db00b_27
theorem d_X6_init_58 : decode prog_8_method_1_code 58 = .ok (.newarray .int, 2) := by decide +kernel
theorem d_X6_init_65 : decode prog_8_method_1_code 65 = .ok (.newarray .int, 2) := by decide +kernel
theorem d_X6_init_73 : decode prog_8_method_1_code 73 = .ok (.newarray .int, 2) := by decide +kernel
theorem d_X6_init_82 : decode prog_8_method_1_code 82 = .ok (.newarray .int, 2) := by decide +kernel
theorem d_X6_init_90 : decode prog_8_method_1_code 90 = .ok (.newarray .int, 2) := by decide +kernel
theorem db00b_28 : Ad_ prog_8_method_1_code [(57, .iconst 4, 1), (60, .putfield 34, 3), (63, .aload_n 0, 1), (64, .iconst 4, 1), (67, .putfield 37, 3), (70, .aload_n 0, 1), (71, .bipush 48, 2), (75, .putfield 40, 3), (78, .aload_n 0, 1), (79, .sipush 3328, 3), (84, .putfield 43, 3), (87, .aload_n 0, 1), (88, .bipush 12, 2), (92, .putfield 46, 3), (95, .return_, 1)] := bch_ok prog_8_method_1_code _ 57 (by decide +kernel)
theorem d_X6_init_57 : decode prog_8_method_1_code 57 = .ok (.iconst 4, 1) := gd_0 db00b_28
theorem d_X6_init_60 : decode prog_8_method_1_code 60 = .ok (.putfield 34, 3) := gd_1 db00b_28
theorem d_X6_init_63 : decode prog_8_method_1_code 63 = .ok (.aload_n 0, 1) := gd_2 db00b_28
theorem d_X6_init_64 : decode prog_8_method_1_code 64 = .ok (.iconst 4, 1) := gd_3 db00b_28
theorem d_X6_init_67 : decode prog_8_method_1_code 67 = .ok (.putfield 37, 3) := gd_4 db00b_28
theorem d_X6_init_70 : decode prog_8_method_1_code 70 = .ok (.aload_n 0, 1) := gd_5 db00b_28
theorem d_X6_init_71 : decode prog_8_method_1_code 71 = .ok (.bipush 48, 2) := gd_6 db00b_28
theorem d_X6_init_75 : decode prog_8_method_1_code 75 = .ok (.putfield 40, 3) := gd_7 db00b_28
theorem d_X6_init_78 : decode prog_8_method_1_code 78 = .ok (.aload_n 0, 1) := gd_8 db00b_28
theorem d_X6_init_79 : decode prog_8_method_1_code 79 = .ok (.sipush 3328, 3) := gd_9 db00b_28
theorem d_X6_init_84 : decode prog_8_method_1_code 84 = .ok (.putfield 43, 3) := gd_10 db00b_28
theorem d_X6_init_87 : decode prog_8_method_1_code 87 = .ok (.aload_n 0, 1) := gd_11 db00b_28
theorem d_X6_init_88 : decode prog_8_method_1_code 88 = .ok (.bipush 12, 2) := gd_12 db00b_28
theorem d_X6_init_92 : decode prog_8_method_1_code 92 = .ok (.putfield 46, 3) := gd_13 db00b_28
theorem d_X6_init_95 : decode prog_8_method_1_code 95 = .ok (.return_, 1) := gd_14 db00b_28
theorem db00b_29 : Ad_ prog_8_method_2_code [(0, .aload_n 0, 1), (1, .getfield 49, 3), (4, .bipush 8, 2), (6, .if_icmp .lt 5, 3), (9, .iconst (-1), 1), (10, .ireturn, 1), (11, .aload_n 0, 1), (12, .getfield 11, 3), (15, .aload_n 0, 1), (16, .getfield 49, 3), (19, .iload_n 1, 1), (20, .iastore, 1), (21, .aload_n 0, 1), (22, .getfield 15, 3), (25, .aload_n 0, 1), (26, .getfield 49, 3), (29, .iload_n 2, 1), (30, .iastore, 1), (31, .aload_n 0, 1), (32, .getfield 18, 3), (35, .aload_n 0, 1), (36, .getfield 49, 3), (39, .iload_n 3, 1), (40, .iastore, 1)] := bch_ok prog_8_method_2_code _ 0 (by decide +kernel)
theorem d_X6_addWatch_0 : decode prog_8_method_2_code 0 = .ok (.aload_n 0, 1) := gd_0 db00b_29
theorem d_X6_addWatch_1 : decode prog_8_method_2_code 1 = .ok (.getfield 49, 3) := gd_1 db00b_29
theorem d_X6_addWatch_4 : decode prog_8_method_2_code 4 = .ok (.bipush 8, 2) := gd_2 db00b_29
theorem d_X6_addWatch_6 : decode prog_8_method_2_code 6 = .ok (.if_icmp .lt 5, 3) := gd_3 db00b_29
theorem d_X6_addWatch_9 : decode prog_8_method_2_code 9 = .ok (.iconst (-1), 1) := gd_4 db00b_29
theorem d_X6_addWatch_10 : decode prog_8_method_2_code 10 = .ok (.ireturn, 1) := gd_5 db00b_29
theorem d_X6_addWatch_11 : decode prog_8_method_2_code 11 = .ok (.aload_n 0, 1) := gd_6 db00b_29
theorem d_X6_addWatch_12 : decode prog_8_method_2_code 12 = .ok (.getfield 11, 3) := gd_7 db00b_29
theorem d_X6_addWatch_15 : decode prog_8_method_2_code 15 = .ok (.aload_n 0, 1) := gd_8 db00b_29
theorem d_X6_addWatch_16 : decode prog_8_method_2_code 16 = .ok (.getfield 49, 3) := gd_9 db00b_29
theorem d_X6_addWatch_19 : decode prog_8_method_2_code 19 = .ok (.iload_n 1, 1) := gd_10 db00b_29
theorem d_X6_addWatch_20 : decode prog_8_method_2_code 20 = .ok (.iastore, 1) := gd_11 db00b_29
theorem d_X6_addWatch_21 : decode prog_8_method_2_code 21 = .ok (.aload_n 0, 1) := gd_12 db00b_29
theorem d_X6_addWatch_22 : decode prog_8_method_2_code 22 = .ok (.getfield 15, 3) := gd_13 db00b_29
theorem d_X6_addWatch_25 : decode prog_8_method_2_code 25 = .ok (.aload_n 0, 1) := gd_14 db00b_29
theorem d_X6_addWatch_26 : decode prog_8_method_2_code 26 = .ok (.getfield 49, 3) := gd_15 db00b_29
theorem d_X6_addWatch_29 : decode prog_8_method_2_code 29 = .ok (.iload_n 2, 1) := gd_16 db00b_29
theorem d_X6_addWatch_30 : decode prog_8_method_2_code 30 = .ok (.iastore, 1) := gd_17 db00b_29
theorem d_X6_addWatch_31 : decode prog_8_method_2_code 31 = .ok (.aload_n 0, 1) := gd_18 db00b_29
theorem d_X6_addWatch_32 : decode prog_8_method_2_code 32 = .ok (.getfield 18, 3) := gd_19 db00b_29
theorem d_X6_addWatch_35 : decode prog_8_method_2_code 35 = .ok (.aload_n 0, 1) := gd_20 db00b_29
theorem d_X6_addWatch_36 : decode prog_8_method_2_code 36 = .ok (.getfield 49, 3) := gd_21 db00b_29
theorem d_X6_addWatch_39 : decode prog_8_method_2_code 39 = .ok (.iload_n 3, 1) := gd_22 db00b_29
theorem d_X6_addWatch_40 : decode prog_8_method_2_code 40 = .ok (.iastore, 1) := gd_23 db00b_29
theorem db00b_30 : Ad_ prog_8_method_2_code [(41, .aload_n 0, 1), (42, .dup, 1), (43, .getfield 49, 3), (46, .iconst 1, 1), (47, .iadd, 1), (48, .putfield 49, 3), (51, .aload_n 0, 1), (52, .getfield 49, 3), (55, .iconst 1, 1), (56, .isub, 1), (57, .ireturn, 1)] := bch_ok prog_8_method_2_code _ 41 (by decide +kernel)
theorem d_X6_addWatch_41 : decode prog_8_method_2_code 41 = .ok (.aload_n 0, 1) := gd_0 db00b_30
theorem d_X6_addWatch_42 : decode prog_8_method_2_code 42 = .ok (.dup, 1) := gd_1 db00b_30
theorem d_X6_addWatch_43 : decode prog_8_method_2_code 43 = .ok (.getfield 49, 3) := gd_2 db00b_30
theorem d_X6_addWatch_46 : decode prog_8_method_2_code 46 = .ok (.iconst 1, 1) := gd_3 db00b_30
theorem d_X6_addWatch_47 : decode prog_8_method_2_code 47 = .ok (.iadd, 1) := gd_4 db00b_30
theorem d_X6_addWatch_48 : decode prog_8_method_2_code 48 = .ok (.putfield 49, 3) := gd_5 db00b_30
theorem d_X6_addWatch_51 : decode prog_8_method_2_code 51 = .ok (.aload_n 0, 1) := gd_6 db00b_30
theorem d_X6_addWatch_52 : decode prog_8_method_2_code 52 = .ok (.getfield 49, 3) := gd_7 db00b_30
theorem d_X6_addWatch_55 : decode prog_8_method_2_code 55 = .ok (.iconst 1, 1) := gd_8 db00b_30
theorem d_X6_addWatch_56 : decode prog_8_method_2_code 56 = .ok (.isub, 1) := gd_9 db00b_30
theorem d_X6_addWatch_57 : decode prog_8_method_2_code 57 = .ok (.ireturn, 1) := gd_10 db00b_30
theorem db00b_31 : Ad_ prog_8_method_3_code [(0, .iload_n 1, 1), (1, .ifCond .lt 15, 3), (4, .iload_n 1, 1), (5, .aload_n 0, 1), (6, .getfield 49, 3), (9, .if_icmp .ge 7, 3), (12, .iconst 1, 1), (13, .goto 4, 3), (16, .iconst 0, 1), (17, .ireturn, 1)] := bch_ok prog_8_method_3_code _ 0 (by decide +kernel)
theorem d_X6_hasWatch_0 : decode prog_8_method_3_code 0 = .ok (.iload_n 1, 1) := gd_0 db00b_31
theorem d_X6_hasWatch_1 : decode prog_8_method_3_code 1 = .ok (.ifCond .lt 15, 3) := gd_1 db00b_31
theorem d_X6_hasWatch_4 : decode prog_8_method_3_code 4 = .ok (.iload_n 1, 1) := gd_2 db00b_31
theorem d_X6_hasWatch_5 : decode prog_8_method_3_code 5 = .ok (.aload_n 0, 1) := gd_3 db00b_31
theorem d_X6_hasWatch_6 : decode prog_8_method_3_code 6 = .ok (.getfield 49, 3) := gd_4 db00b_31
theorem d_X6_hasWatch_9 : decode prog_8_method_3_code 9 = .ok (.if_icmp .ge 7, 3) := gd_5 db00b_31
theorem d_X6_hasWatch_12 : decode prog_8_method_3_code 12 = .ok (.iconst 1, 1) := gd_6 db00b_31
theorem d_X6_hasWatch_13 : decode prog_8_method_3_code 13 = .ok (.goto 4, 3) := gd_7 db00b_31
theorem d_X6_hasWatch_16 : decode prog_8_method_3_code 16 = .ok (.iconst 0, 1) := gd_8 db00b_31
theorem d_X6_hasWatch_17 : decode prog_8_method_3_code 17 = .ok (.ireturn, 1) := gd_9 db00b_31
theorem db00b_32 : Ad_ prog_8_method_4_code [(0, .aload_n 0, 1), (1, .iload_n 1, 1), (2, .invokevirtual 53, 3), (5, .ifCond .eq 35, 3), (8, .aload_n 3, 1), (9, .iload_n 2, 1), (10, .aload_n 0, 1), (11, .getfield 11, 3), (14, .iload_n 1, 1), (15, .iaload, 1), (16, .aload_n 0, 1), (17, .getfield 15, 3), (20, .iload_n 1, 1), (21, .iaload, 1), (22, .aload_n 0, 1), (23, .getfield 18, 3), (26, .iload_n 1, 1), (27, .iaload, 1), (28, .aload 4, 2), (30, .invokevirtual 57, 3), (33, .ifCond .eq 7, 3), (36, .iconst 1, 1), (37, .goto 4, 3), (40, .iconst 0, 1)] := bch_ok prog_8_method_4_code _ 0 (by decide +kernel)
theorem d_X6_isSeen_0 : decode prog_8_method_4_code 0 = .ok (.aload_n 0, 1) := gd_0 db00b_32
theorem d_X6_isSeen_1 : decode prog_8_method_4_code 1 = .ok (.iload_n 1, 1) := gd_1 db00b_32
theorem d_X6_isSeen_2 : decode prog_8_method_4_code 2 = .ok (.invokevirtual 53, 3) := gd_2 db00b_32
theorem d_X6_isSeen_5 : decode prog_8_method_4_code 5 = .ok (.ifCond .eq 35, 3) := gd_3 db00b_32
theorem d_X6_isSeen_8 : decode prog_8_method_4_code 8 = .ok (.aload_n 3, 1) := gd_4 db00b_32
theorem d_X6_isSeen_9 : decode prog_8_method_4_code 9 = .ok (.iload_n 2, 1) := gd_5 db00b_32
theorem d_X6_isSeen_10 : decode prog_8_method_4_code 10 = .ok (.aload_n 0, 1) := gd_6 db00b_32
theorem d_X6_isSeen_11 : decode prog_8_method_4_code 11 = .ok (.getfield 11, 3) := gd_7 db00b_32
theorem d_X6_isSeen_14 : decode prog_8_method_4_code 14 = .ok (.iload_n 1, 1) := gd_8 db00b_32
theorem d_X6_isSeen_15 : decode prog_8_method_4_code 15 = .ok (.iaload, 1) := gd_9 db00b_32
theorem d_X6_isSeen_16 : decode prog_8_method_4_code 16 = .ok (.aload_n 0, 1) := gd_10 db00b_32
theorem d_X6_isSeen_17 : decode prog_8_method_4_code 17 = .ok (.getfield 15, 3) := gd_11 db00b_32
theorem d_X6_isSeen_20 : decode prog_8_method_4_code 20 = .ok (.iload_n 1, 1) := gd_12 db00b_32
theorem d_X6_isSeen_21 : decode prog_8_method_4_code 21 = .ok (.iaload, 1) := gd_13 db00b_32
theorem d_X6_isSeen_22 : decode prog_8_method_4_code 22 = .ok (.aload_n 0, 1) := gd_14 db00b_32
theorem d_X6_isSeen_23 : decode prog_8_method_4_code 23 = .ok (.getfield 18, 3) := gd_15 db00b_32
theorem d_X6_isSeen_26 : decode prog_8_method_4_code 26 = .ok (.iload_n 1, 1) := gd_16 db00b_32
theorem d_X6_isSeen_27 : decode prog_8_method_4_code 27 = .ok (.iaload, 1) := gd_17 db00b_32
theorem d_X6_isSeen_28 : decode prog_8_method_4_code 28 = .ok (.aload 4, 2) := gd_18 db00b_32
theorem d_X6_isSeen_30 : decode prog_8_method_4_code 30 = .ok (.invokevirtual 57, 3) := gd_19 db00b_32
theorem d_X6_isSeen_33 : decode prog_8_method_4_code 33 = .ok (.ifCond .eq 7, 3) := gd_20 db00b_32
theorem d_X6_isSeen_36 : decode prog_8_method_4_code 36 = .ok (.iconst 1, 1) := gd_21 db00b_32
theorem d_X6_isSeen_37 : decode prog_8_method_4_code 37 = .ok (.goto 4, 3) := gd_22 db00b_32
theorem d_X6_isSeen_40 : decode prog_8_method_4_code 40 = .ok (.iconst 0, 1) := gd_23 db00b_32
theorem d_X6_isSeen_41 : decode prog_8_method_4_code 41 = .ok (.ireturn, 1) := by decide +kernel
theorem db00b_33 : Ad_ prog_8_method_5_code [(0, .aload_n 0, 1), (1, .iload_n 1, 1), (2, .aload_n 2, 1), (3, .aload_n 3, 1), (4, .invokevirtual 63, 3), (7, .aload_n 0, 1), (8, .getfield 67, 3), (11, .ireturn, 1)] := bch_ok prog_8_method_5_code _ 0 (by decide +kernel)
theorem d_X6_safety_0 : decode prog_8_method_5_code 0 = .ok (.aload_n 0, 1) := gd_0 db00b_33
theorem d_X6_safety_1 : decode prog_8_method_5_code 1 = .ok (.iload_n 1, 1) := gd_1 db00b_33
theorem d_X6_safety_2 : decode prog_8_method_5_code 2 = .ok (.aload_n 2, 1) := gd_2 db00b_33
theorem d_X6_safety_3 : decode prog_8_method_5_code 3 = .ok (.aload_n 3, 1) := gd_3 db00b_33
theorem d_X6_safety_4 : decode prog_8_method_5_code 4 = .ok (.invokevirtual 63, 3) := gd_4 db00b_33
theorem d_X6_safety_7 : decode prog_8_method_5_code 7 = .ok (.aload_n 0, 1) := gd_5 db00b_33
theorem d_X6_safety_8 : decode prog_8_method_5_code 8 = .ok (.getfield 67, 3) := gd_6 db00b_33
theorem d_X6_safety_11 : decode prog_8_method_5_code 11 = .ok (.ireturn, 1) := gd_7 db00b_33
theorem db00b_34 : Ad_ prog_8_method_6_code [(0, .aload_n 0, 1), (1, .iload_n 1, 1), (2, .aload_n 3, 1), (3, .aload 4, 2), (5, .invokevirtual 63, 3), (8, .iload_n 1, 1), (9, .iconst 1, 1), (10, .iload_n 2, 1), (11, .ishl, 1), (12, .iconst 1, 1), (13, .isub, 1), (14, .iand, 1), (15, .invokestatic 70, 3), (18, .istore 5, 2), (20, .iload 5, 2), (22, .iconst 0, 1), (23, .aload_n 0, 1), (24, .getfield 76, 3), (27, .iconst 1, 1), (28, .isub, 1), (29, .invokestatic 79, 3), (32, .ifCond .eq 13, 3), (35, .aload_n 0, 1), (36, .getfield 28, 3)] := bch_ok prog_8_method_6_code _ 0 (by decide +kernel)
theorem d_X6_sharesOf_0 : decode prog_8_method_6_code 0 = .ok (.aload_n 0, 1) := gd_0 db00b_34
theorem d_X6_sharesOf_1 : decode prog_8_method_6_code 1 = .ok (.iload_n 1, 1) := gd_1 db00b_34
theorem d_X6_sharesOf_2 : decode prog_8_method_6_code 2 = .ok (.aload_n 3, 1) := gd_2 db00b_34
theorem d_X6_sharesOf_3 : decode prog_8_method_6_code 3 = .ok (.aload 4, 2) := gd_3 db00b_34
theorem d_X6_sharesOf_5 : decode prog_8_method_6_code 5 = .ok (.invokevirtual 63, 3) := gd_4 db00b_34
theorem d_X6_sharesOf_8 : decode prog_8_method_6_code 8 = .ok (.iload_n 1, 1) := gd_5 db00b_34
theorem d_X6_sharesOf_9 : decode prog_8_method_6_code 9 = .ok (.iconst 1, 1) := gd_6 db00b_34
theorem d_X6_sharesOf_10 : decode prog_8_method_6_code 10 = .ok (.iload_n 2, 1) := gd_7 db00b_34
theorem d_X6_sharesOf_11 : decode prog_8_method_6_code 11 = .ok (.ishl, 1) := gd_8 db00b_34
theorem d_X6_sharesOf_12 : decode prog_8_method_6_code 12 = .ok (.iconst 1, 1) := gd_9 db00b_34
theorem d_X6_sharesOf_13 : decode prog_8_method_6_code 13 = .ok (.isub, 1) := gd_10 db00b_34
theorem d_X6_sharesOf_14 : decode prog_8_method_6_code 14 = .ok (.iand, 1) := gd_11 db00b_34
theorem d_X6_sharesOf_15 : decode prog_8_method_6_code 15 = .ok (.invokestatic 70, 3) := gd_12 db00b_34
theorem d_X6_sharesOf_18 : decode prog_8_method_6_code 18 = .ok (.istore 5, 2) := gd_13 db00b_34
theorem d_X6_sharesOf_20 : decode prog_8_method_6_code 20 = .ok (.iload 5, 2) := gd_14 db00b_34
theorem d_X6_sharesOf_22 : decode prog_8_method_6_code 22 = .ok (.iconst 0, 1) := gd_15 db00b_34
theorem d_X6_sharesOf_23 : decode prog_8_method_6_code 23 = .ok (.aload_n 0, 1) := gd_16 db00b_34
theorem d_X6_sharesOf_24 : decode prog_8_method_6_code 24 = .ok (.getfield 76, 3) := gd_17 db00b_34
theorem d_X6_sharesOf_27 : decode prog_8_method_6_code 27 = .ok (.iconst 1, 1) := gd_18 db00b_34
theorem d_X6_sharesOf_28 : decode prog_8_method_6_code 28 = .ok (.isub, 1) := gd_19 db00b_34
theorem d_X6_sharesOf_29 : decode prog_8_method_6_code 29 = .ok (.invokestatic 79, 3) := gd_20 db00b_34
theorem d_X6_sharesOf_32 : decode prog_8_method_6_code 32 = .ok (.ifCond .eq 13, 3) := gd_21 db00b_34
theorem d_X6_sharesOf_35 : decode prog_8_method_6_code 35 = .ok (.aload_n 0, 1) := gd_22 db00b_34
theorem d_X6_sharesOf_36 : decode prog_8_method_6_code 36 = .ok (.getfield 28, 3) := gd_23 db00b_34
theorem db00b_35 : Ad_ prog_8_method_6_code [(39, .iload 5, 2), (41, .iaload, 1), (42, .goto 4, 3), (45, .iconst (-1), 1), (46, .ireturn, 1)] := bch_ok prog_8_method_6_code _ 39 (by decide +kernel)
theorem d_X6_sharesOf_39 : decode prog_8_method_6_code 39 = .ok (.iload 5, 2) := gd_0 db00b_35
theorem d_X6_sharesOf_41 : decode prog_8_method_6_code 41 = .ok (.iaload, 1) := gd_1 db00b_35
theorem d_X6_sharesOf_42 : decode prog_8_method_6_code 42 = .ok (.goto 4, 3) := gd_2 db00b_35
theorem d_X6_sharesOf_45 : decode prog_8_method_6_code 45 = .ok (.iconst (-1), 1) := gd_3 db00b_35
theorem d_X6_sharesOf_46 : decode prog_8_method_6_code 46 = .ok (.ireturn, 1) := gd_4 db00b_35
theorem db00b_36 : Ad_ prog_8_method_7_code [(0, .iload_n 1, 1), (1, .aload_n 0, 1), (2, .getfield 83, 3), (5, .if_icmp .ne 26, 3), (8, .aload_n 3, 1), (9, .getfield 86, 3), (12, .aload_n 0, 1), (13, .getfield 91, 3), (16, .if_icmp .ne 15, 3), (19, .aload_n 0, 1), (20, .getfield 49, 3), (23, .aload_n 0, 1), (24, .getfield 94, 3), (27, .if_icmp .ne 4, 3), (30, .return_, 1), (31, .aload_n 0, 1), (32, .iload_n 1, 1), (33, .putfield 83, 3), (36, .aload_n 0, 1), (37, .aload_n 3, 1), (38, .getfield 86, 3), (41, .putfield 91, 3), (44, .aload_n 0, 1), (45, .aload_n 0, 1)] := bch_ok prog_8_method_7_code _ 0 (by decide +kernel)
theorem d_X6_findShares_0 : decode prog_8_method_7_code 0 = .ok (.iload_n 1, 1) := gd_0 db00b_36
theorem d_X6_findShares_1 : decode prog_8_method_7_code 1 = .ok (.aload_n 0, 1) := gd_1 db00b_36
theorem d_X6_findShares_2 : decode prog_8_method_7_code 2 = .ok (.getfield 83, 3) := gd_2 db00b_36
theorem d_X6_findShares_5 : decode prog_8_method_7_code 5 = .ok (.if_icmp .ne 26, 3) := gd_3 db00b_36
theorem d_X6_findShares_8 : decode prog_8_method_7_code 8 = .ok (.aload_n 3, 1) := gd_4 db00b_36
theorem d_X6_findShares_9 : decode prog_8_method_7_code 9 = .ok (.getfield 86, 3) := gd_5 db00b_36
theorem d_X6_findShares_12 : decode prog_8_method_7_code 12 = .ok (.aload_n 0, 1) := gd_6 db00b_36
theorem d_X6_findShares_13 : decode prog_8_method_7_code 13 = .ok (.getfield 91, 3) := gd_7 db00b_36
theorem d_X6_findShares_16 : decode prog_8_method_7_code 16 = .ok (.if_icmp .ne 15, 3) := gd_8 db00b_36
theorem d_X6_findShares_19 : decode prog_8_method_7_code 19 = .ok (.aload_n 0, 1) := gd_9 db00b_36
theorem d_X6_findShares_20 : decode prog_8_method_7_code 20 = .ok (.getfield 49, 3) := gd_10 db00b_36
theorem d_X6_findShares_23 : decode prog_8_method_7_code 23 = .ok (.aload_n 0, 1) := gd_11 db00b_36
theorem d_X6_findShares_24 : decode prog_8_method_7_code 24 = .ok (.getfield 94, 3) := gd_12 db00b_36
theorem d_X6_findShares_27 : decode prog_8_method_7_code 27 = .ok (.if_icmp .ne 4, 3) := gd_13 db00b_36
theorem d_X6_findShares_30 : decode prog_8_method_7_code 30 = .ok (.return_, 1) := gd_14 db00b_36
theorem d_X6_findShares_31 : decode prog_8_method_7_code 31 = .ok (.aload_n 0, 1) := gd_15 db00b_36
theorem d_X6_findShares_32 : decode prog_8_method_7_code 32 = .ok (.iload_n 1, 1) := gd_16 db00b_36
theorem d_X6_findShares_33 : decode prog_8_method_7_code 33 = .ok (.putfield 83, 3) := gd_17 db00b_36
theorem d_X6_findShares_36 : decode prog_8_method_7_code 36 = .ok (.aload_n 0, 1) := gd_18 db00b_36
theorem d_X6_findShares_37 : decode prog_8_method_7_code 37 = .ok (.aload_n 3, 1) := gd_19 db00b_36
theorem d_X6_findShares_38 : decode prog_8_method_7_code 38 = .ok (.getfield 86, 3) := gd_20 db00b_36
theorem d_X6_findShares_41 : decode prog_8_method_7_code 41 = .ok (.putfield 91, 3) := gd_21 db00b_36
theorem d_X6_findShares_44 : decode prog_8_method_7_code 44 = .ok (.aload_n 0, 1) := gd_22 db00b_36
theorem d_X6_findShares_45 : decode prog_8_method_7_code 45 = .ok (.aload_n 0, 1) := gd_23 db00b_36
theorem db00b_37 : Ad_ prog_8_method_7_code [(46, .getfield 49, 3), (49, .putfield 94, 3), (52, .aload_n 0, 1), (53, .iconst 0, 1), (54, .putfield 76, 3), (57, .iconst 0, 1), (58, .istore 4, 2), (60, .iload 4, 2), (62, .aload_n 2, 1), (63, .getfield 97, 3), (66, .if_icmp .ge 54, 3), (69, .iload_n 1, 1), (70, .iload 4, 2), (72, .ishr, 1), (73, .iconst 1, 1), (74, .iand, 1), (75, .iconst 1, 1), (76, .if_icmp .ne 38, 3), (79, .aload_n 0, 1), (80, .getfield 76, 3), (83, .iconst 5, 1), (84, .if_icmp .ge 30, 3), (87, .aload_n 0, 1), (88, .getfield 21, 3)] := bch_ok prog_8_method_7_code _ 46 (by decide +kernel)
theorem d_X6_findShares_46 : decode prog_8_method_7_code 46 = .ok (.getfield 49, 3) := gd_0 db00b_37
theorem d_X6_findShares_49 : decode prog_8_method_7_code 49 = .ok (.putfield 94, 3) := gd_1 db00b_37
theorem d_X6_findShares_52 : decode prog_8_method_7_code 52 = .ok (.aload_n 0, 1) := gd_2 db00b_37
theorem d_X6_findShares_53 : decode prog_8_method_7_code 53 = .ok (.iconst 0, 1) := gd_3 db00b_37
theorem d_X6_findShares_54 : decode prog_8_method_7_code 54 = .ok (.putfield 76, 3) := gd_4 db00b_37
theorem d_X6_findShares_57 : decode prog_8_method_7_code 57 = .ok (.iconst 0, 1) := gd_5 db00b_37
theorem d_X6_findShares_58 : decode prog_8_method_7_code 58 = .ok (.istore 4, 2) := gd_6 db00b_37
theorem d_X6_findShares_60 : decode prog_8_method_7_code 60 = .ok (.iload 4, 2) := gd_7 db00b_37
theorem d_X6_findShares_62 : decode prog_8_method_7_code 62 = .ok (.aload_n 2, 1) := gd_8 db00b_37
theorem d_X6_findShares_63 : decode prog_8_method_7_code 63 = .ok (.getfield 97, 3) := gd_9 db00b_37
theorem d_X6_findShares_66 : decode prog_8_method_7_code 66 = .ok (.if_icmp .ge 54, 3) := gd_10 db00b_37
theorem d_X6_findShares_69 : decode prog_8_method_7_code 69 = .ok (.iload_n 1, 1) := gd_11 db00b_37
theorem d_X6_findShares_70 : decode prog_8_method_7_code 70 = .ok (.iload 4, 2) := gd_12 db00b_37
theorem d_X6_findShares_72 : decode prog_8_method_7_code 72 = .ok (.ishr, 1) := gd_13 db00b_37
theorem d_X6_findShares_73 : decode prog_8_method_7_code 73 = .ok (.iconst 1, 1) := gd_14 db00b_37
theorem d_X6_findShares_74 : decode prog_8_method_7_code 74 = .ok (.iand, 1) := gd_15 db00b_37
theorem d_X6_findShares_75 : decode prog_8_method_7_code 75 = .ok (.iconst 1, 1) := gd_16 db00b_37
theorem d_X6_findShares_76 : decode prog_8_method_7_code 76 = .ok (.if_icmp .ne 38, 3) := gd_17 db00b_37
theorem d_X6_findShares_79 : decode prog_8_method_7_code 79 = .ok (.aload_n 0, 1) := gd_18 db00b_37
theorem d_X6_findShares_80 : decode prog_8_method_7_code 80 = .ok (.getfield 76, 3) := gd_19 db00b_37
theorem d_X6_findShares_83 : decode prog_8_method_7_code 83 = .ok (.iconst 5, 1) := gd_20 db00b_37
theorem d_X6_findShares_84 : decode prog_8_method_7_code 84 = .ok (.if_icmp .ge 30, 3) := gd_21 db00b_37
theorem d_X6_findShares_87 : decode prog_8_method_7_code 87 = .ok (.aload_n 0, 1) := gd_22 db00b_37
theorem d_X6_findShares_88 : decode prog_8_method_7_code 88 = .ok (.getfield 21, 3) := gd_23 db00b_37
theorem d_X6_findShares_103 : decode prog_8_method_7_code 103 = .ok (.lastore, 1) := by decide +kernel
theorem d_X6_findShares_134 : decode prog_8_method_7_code 134 = .ok (.lconst 0, 1) := by decide +kernel
theorem db00b_38 : Ad_ prog_8_method_7_code [(91, .aload_n 0, 1), (92, .getfield 76, 3), (95, .aload_n 0, 1), (96, .iload 4, 2), (98, .aload_n 2, 1), (99, .aload_n 3, 1), (100, .invokevirtual 100, 3), (104, .aload_n 0, 1), (105, .dup, 1), (106, .getfield 76, 3), (109, .iconst 1, 1), (110, .iadd, 1), (111, .putfield 76, 3), (114, .iinc 4 1, 3), (117, .goto (-57), 3), (120, .aload_n 0, 1), (121, .iconst (-1), 1), (122, .putfield 67, 3), (125, .aload_n 0, 1), (126, .iconst (-1), 1), (127, .putfield 104, 3), (130, .aload_n 0, 1), (131, .iconst 0, 1), (132, .bipush 12, 2)] := bch_ok prog_8_method_7_code _ 91 (by decide +kernel)
theorem d_X6_findShares_91 : decode prog_8_method_7_code 91 = .ok (.aload_n 0, 1) := gd_0 db00b_38
theorem d_X6_findShares_92 : decode prog_8_method_7_code 92 = .ok (.getfield 76, 3) := gd_1 db00b_38
theorem d_X6_findShares_95 : decode prog_8_method_7_code 95 = .ok (.aload_n 0, 1) := gd_2 db00b_38
theorem d_X6_findShares_96 : decode prog_8_method_7_code 96 = .ok (.iload 4, 2) := gd_3 db00b_38
theorem d_X6_findShares_98 : decode prog_8_method_7_code 98 = .ok (.aload_n 2, 1) := gd_4 db00b_38
theorem d_X6_findShares_99 : decode prog_8_method_7_code 99 = .ok (.aload_n 3, 1) := gd_5 db00b_38
theorem d_X6_findShares_100 : decode prog_8_method_7_code 100 = .ok (.invokevirtual 100, 3) := gd_6 db00b_38
theorem d_X6_findShares_104 : decode prog_8_method_7_code 104 = .ok (.aload_n 0, 1) := gd_7 db00b_38
theorem d_X6_findShares_105 : decode prog_8_method_7_code 105 = .ok (.dup, 1) := gd_8 db00b_38
theorem d_X6_findShares_106 : decode prog_8_method_7_code 106 = .ok (.getfield 76, 3) := gd_9 db00b_38
theorem d_X6_findShares_109 : decode prog_8_method_7_code 109 = .ok (.iconst 1, 1) := gd_10 db00b_38
theorem d_X6_findShares_110 : decode prog_8_method_7_code 110 = .ok (.iadd, 1) := gd_11 db00b_38
theorem d_X6_findShares_111 : decode prog_8_method_7_code 111 = .ok (.putfield 76, 3) := gd_12 db00b_38
theorem d_X6_findShares_114 : decode prog_8_method_7_code 114 = .ok (.iinc 4 1, 3) := gd_13 db00b_38
theorem d_X6_findShares_117 : decode prog_8_method_7_code 117 = .ok (.goto (-57), 3) := gd_14 db00b_38
theorem d_X6_findShares_120 : decode prog_8_method_7_code 120 = .ok (.aload_n 0, 1) := gd_15 db00b_38
theorem d_X6_findShares_121 : decode prog_8_method_7_code 121 = .ok (.iconst (-1), 1) := gd_16 db00b_38
theorem d_X6_findShares_122 : decode prog_8_method_7_code 122 = .ok (.putfield 67, 3) := gd_17 db00b_38
theorem d_X6_findShares_125 : decode prog_8_method_7_code 125 = .ok (.aload_n 0, 1) := gd_18 db00b_38
theorem d_X6_findShares_126 : decode prog_8_method_7_code 126 = .ok (.iconst (-1), 1) := gd_19 db00b_38
theorem d_X6_findShares_127 : decode prog_8_method_7_code 127 = .ok (.putfield 104, 3) := gd_20 db00b_38
theorem d_X6_findShares_130 : decode prog_8_method_7_code 130 = .ok (.aload_n 0, 1) := gd_21 db00b_38
theorem d_X6_findShares_131 : decode prog_8_method_7_code 131 = .ok (.iconst 0, 1) := gd_22 db00b_38
theorem d_X6_findShares_132 : decode prog_8_method_7_code 132 = .ok (.bipush 12, 2) := gd_23 db00b_38
theorem d_X6_sightOf_0 : decode prog_8_method_8_code 0 = .ok (.lconst 0, 1) := by decide +kernel
theorem d_X6_sightOf_1 : decode prog_8_method_8_code 1 = .ok (.lstore 4, 2) := by decide +kernel
theorem d_X6_findShares_135 : decode prog_8_method_7_code 135 = .ok (.invokevirtual 107, 3) := by decide +kernel
theorem d_X6_findShares_138 : decode prog_8_method_7_code 138 = .ok (.return_, 1) := by decide +kernel
theorem d_X6_sightOf_27 : decode prog_8_method_8_code 27 = .ok (.lload 4, 2) := by decide +kernel
theorem d_X6_sightOf_29 : decode prog_8_method_8_code 29 = .ok (.lconst 1, 1) := by decide +kernel
theorem d_X6_sightOf_34 : decode prog_8_method_8_code 34 = .ok (.lshl, 1) := by decide +kernel
theorem d_X6_sightOf_35 : decode prog_8_method_8_code 35 = .ok (.lor, 1) := by decide +kernel
theorem d_X6_sightOf_36 : decode prog_8_method_8_code 36 = .ok (.lstore 4, 2) := by decide +kernel
theorem d_X6_sightOf_44 : decode prog_8_method_8_code 44 = .ok (.lload 4, 2) := by decide +kernel
theorem d_X6_sightOf_46 : decode prog_8_method_8_code 46 = .ok (.lreturn, 1) := by decide +kernel
theorem db00b_39 : Ad_ prog_8_method_8_code [(3, .iconst 0, 1), (4, .istore 6, 2), (6, .iload 6, 2), (8, .aload_n 0, 1), (9, .getfield 49, 3), (12, .if_icmp .ge 32, 3), (15, .aload_n 0, 1), (16, .iload 6, 2), (18, .iload_n 1, 1), (19, .aload_n 2, 1), (20, .aload_n 3, 1), (21, .invokevirtual 111, 3), (24, .ifCond .eq 14, 3), (30, .iconst 4, 1), (31, .iload 6, 2), (33, .imul, 1), (38, .iinc 6 1, 3), (41, .goto (-35), 3)] := bch_ok prog_8_method_8_code _ 3 (by decide +kernel)
theorem d_X6_sightOf_3 : decode prog_8_method_8_code 3 = .ok (.iconst 0, 1) := gd_0 db00b_39
theorem d_X6_sightOf_4 : decode prog_8_method_8_code 4 = .ok (.istore 6, 2) := gd_1 db00b_39
theorem d_X6_sightOf_6 : decode prog_8_method_8_code 6 = .ok (.iload 6, 2) := gd_2 db00b_39
theorem d_X6_sightOf_8 : decode prog_8_method_8_code 8 = .ok (.aload_n 0, 1) := gd_3 db00b_39
theorem d_X6_sightOf_9 : decode prog_8_method_8_code 9 = .ok (.getfield 49, 3) := gd_4 db00b_39
theorem d_X6_sightOf_12 : decode prog_8_method_8_code 12 = .ok (.if_icmp .ge 32, 3) := gd_5 db00b_39
theorem d_X6_sightOf_15 : decode prog_8_method_8_code 15 = .ok (.aload_n 0, 1) := gd_6 db00b_39
theorem d_X6_sightOf_16 : decode prog_8_method_8_code 16 = .ok (.iload 6, 2) := gd_7 db00b_39
theorem d_X6_sightOf_18 : decode prog_8_method_8_code 18 = .ok (.iload_n 1, 1) := gd_8 db00b_39
theorem d_X6_sightOf_19 : decode prog_8_method_8_code 19 = .ok (.aload_n 2, 1) := gd_9 db00b_39
theorem d_X6_sightOf_20 : decode prog_8_method_8_code 20 = .ok (.aload_n 3, 1) := gd_10 db00b_39
theorem d_X6_sightOf_21 : decode prog_8_method_8_code 21 = .ok (.invokevirtual 111, 3) := gd_11 db00b_39
theorem d_X6_sightOf_24 : decode prog_8_method_8_code 24 = .ok (.ifCond .eq 14, 3) := gd_12 db00b_39
theorem d_X6_sightOf_30 : decode prog_8_method_8_code 30 = .ok (.iconst 4, 1) := gd_13 db00b_39
theorem d_X6_sightOf_31 : decode prog_8_method_8_code 31 = .ok (.iload 6, 2) := gd_14 db00b_39
theorem d_X6_sightOf_33 : decode prog_8_method_8_code 33 = .ok (.imul, 1) := gd_15 db00b_39
theorem d_X6_sightOf_38 : decode prog_8_method_8_code 38 = .ok (.iinc 6 1, 3) := gd_16 db00b_39
theorem d_X6_sightOf_41 : decode prog_8_method_8_code 41 = .ok (.goto (-35), 3) := gd_17 db00b_39
theorem db00b_40 : Ad_ prog_8_method_9_code [(0, .iload_n 1, 1), (1, .aload_n 0, 1), (2, .getfield 76, 3), (5, .if_icmp .ge 8, 3), (8, .iload_n 1, 1), (9, .iconst 5, 1), (10, .if_icmp .lt 4, 3), (13, .return_, 1), (14, .iload_n 1, 1), (15, .aload_n 0, 1), (16, .getfield 76, 3), (19, .iconst 1, 1), (20, .isub, 1), (21, .if_icmp .ne 26, 3), (24, .aload_n 0, 1), (25, .getfield 25, 3), (28, .iload_n 1, 1), (29, .iload_n 2, 1), (30, .iastore, 1), (31, .aload_n 0, 1), (32, .lload_n 3, 1), (33, .iload_n 2, 1), (34, .i2l, 1), (35, .aload_n 0, 1)] := bch_ok prog_8_method_9_code _ 0 (by decide +kernel)
theorem d_X6_deal_0 : decode prog_8_method_9_code 0 = .ok (.iload_n 1, 1) := gd_0 db00b_40
theorem d_X6_deal_1 : decode prog_8_method_9_code 1 = .ok (.aload_n 0, 1) := gd_1 db00b_40
theorem d_X6_deal_2 : decode prog_8_method_9_code 2 = .ok (.getfield 76, 3) := gd_2 db00b_40
theorem d_X6_deal_5 : decode prog_8_method_9_code 5 = .ok (.if_icmp .ge 8, 3) := gd_3 db00b_40
theorem d_X6_deal_8 : decode prog_8_method_9_code 8 = .ok (.iload_n 1, 1) := gd_4 db00b_40
theorem d_X6_deal_9 : decode prog_8_method_9_code 9 = .ok (.iconst 5, 1) := gd_5 db00b_40
theorem d_X6_deal_10 : decode prog_8_method_9_code 10 = .ok (.if_icmp .lt 4, 3) := gd_6 db00b_40
theorem d_X6_deal_13 : decode prog_8_method_9_code 13 = .ok (.return_, 1) := gd_7 db00b_40
theorem d_X6_deal_14 : decode prog_8_method_9_code 14 = .ok (.iload_n 1, 1) := gd_8 db00b_40
theorem d_X6_deal_15 : decode prog_8_method_9_code 15 = .ok (.aload_n 0, 1) := gd_9 db00b_40
theorem d_X6_deal_16 : decode prog_8_method_9_code 16 = .ok (.getfield 76, 3) := gd_10 db00b_40
theorem d_X6_deal_19 : decode prog_8_method_9_code 19 = .ok (.iconst 1, 1) := gd_11 db00b_40
theorem d_X6_deal_20 : decode prog_8_method_9_code 20 = .ok (.isub, 1) := gd_12 db00b_40
theorem d_X6_deal_21 : decode prog_8_method_9_code 21 = .ok (.if_icmp .ne 26, 3) := gd_13 db00b_40
theorem d_X6_deal_24 : decode prog_8_method_9_code 24 = .ok (.aload_n 0, 1) := gd_14 db00b_40
theorem d_X6_deal_25 : decode prog_8_method_9_code 25 = .ok (.getfield 25, 3) := gd_15 db00b_40
theorem d_X6_deal_28 : decode prog_8_method_9_code 28 = .ok (.iload_n 1, 1) := gd_16 db00b_40
theorem d_X6_deal_29 : decode prog_8_method_9_code 29 = .ok (.iload_n 2, 1) := gd_17 db00b_40
theorem d_X6_deal_30 : decode prog_8_method_9_code 30 = .ok (.iastore, 1) := gd_18 db00b_40
theorem d_X6_deal_31 : decode prog_8_method_9_code 31 = .ok (.aload_n 0, 1) := gd_19 db00b_40
theorem d_X6_deal_32 : decode prog_8_method_9_code 32 = .ok (.lload_n 3, 1) := gd_20 db00b_40
theorem d_X6_deal_33 : decode prog_8_method_9_code 33 = .ok (.iload_n 2, 1) := gd_21 db00b_40
theorem d_X6_deal_34 : decode prog_8_method_9_code 34 = .ok (.i2l, 1) := gd_22 db00b_40
theorem d_X6_deal_35 : decode prog_8_method_9_code 35 = .ok (.aload_n 0, 1) := gd_23 db00b_40
theorem d_X6_deal_40 : decode prog_8_method_9_code 40 = .ok (.laload, 1) := by decide +kernel
theorem d_X6_deal_41 : decode prog_8_method_9_code 41 = .ok (.lmul, 1) := by decide +kernel
theorem d_X6_deal_42 : decode prog_8_method_9_code 42 = .ok (.ladd, 1) := by decide +kernel
theorem db00b_41 : Ad_ prog_8_method_9_code [(36, .getfield 21, 3), (39, .iload_n 1, 1), (43, .invokevirtual 115, 3), (46, .return_, 1), (47, .iload_n 2, 1), (48, .istore 5, 2), (50, .iload 5, 2), (52, .ifCond .lt 40, 3), (55, .aload_n 0, 1), (56, .getfield 25, 3), (59, .iload_n 1, 1), (60, .iload 5, 2), (62, .iastore, 1), (63, .aload_n 0, 1), (64, .iload_n 1, 1), (65, .iconst 1, 1), (66, .iadd, 1), (67, .iload_n 2, 1), (68, .iload 5, 2), (70, .isub, 1), (71, .lload_n 3, 1), (72, .iload 5, 2), (74, .i2l, 1), (75, .aload_n 0, 1)] := bch_ok prog_8_method_9_code _ 36 (by decide +kernel)
theorem d_X6_deal_36 : decode prog_8_method_9_code 36 = .ok (.getfield 21, 3) := gd_0 db00b_41
theorem d_X6_deal_39 : decode prog_8_method_9_code 39 = .ok (.iload_n 1, 1) := gd_1 db00b_41
theorem d_X6_deal_43 : decode prog_8_method_9_code 43 = .ok (.invokevirtual 115, 3) := gd_2 db00b_41
theorem d_X6_deal_46 : decode prog_8_method_9_code 46 = .ok (.return_, 1) := gd_3 db00b_41
theorem d_X6_deal_47 : decode prog_8_method_9_code 47 = .ok (.iload_n 2, 1) := gd_4 db00b_41
theorem d_X6_deal_48 : decode prog_8_method_9_code 48 = .ok (.istore 5, 2) := gd_5 db00b_41
theorem d_X6_deal_50 : decode prog_8_method_9_code 50 = .ok (.iload 5, 2) := gd_6 db00b_41
theorem d_X6_deal_52 : decode prog_8_method_9_code 52 = .ok (.ifCond .lt 40, 3) := gd_7 db00b_41
theorem d_X6_deal_55 : decode prog_8_method_9_code 55 = .ok (.aload_n 0, 1) := gd_8 db00b_41
theorem d_X6_deal_56 : decode prog_8_method_9_code 56 = .ok (.getfield 25, 3) := gd_9 db00b_41
theorem d_X6_deal_59 : decode prog_8_method_9_code 59 = .ok (.iload_n 1, 1) := gd_10 db00b_41
theorem d_X6_deal_60 : decode prog_8_method_9_code 60 = .ok (.iload 5, 2) := gd_11 db00b_41
theorem d_X6_deal_62 : decode prog_8_method_9_code 62 = .ok (.iastore, 1) := gd_12 db00b_41
theorem d_X6_deal_63 : decode prog_8_method_9_code 63 = .ok (.aload_n 0, 1) := gd_13 db00b_41
theorem d_X6_deal_64 : decode prog_8_method_9_code 64 = .ok (.iload_n 1, 1) := gd_14 db00b_41
theorem d_X6_deal_65 : decode prog_8_method_9_code 65 = .ok (.iconst 1, 1) := gd_15 db00b_41
theorem d_X6_deal_66 : decode prog_8_method_9_code 66 = .ok (.iadd, 1) := gd_16 db00b_41
theorem d_X6_deal_67 : decode prog_8_method_9_code 67 = .ok (.iload_n 2, 1) := gd_17 db00b_41
theorem d_X6_deal_68 : decode prog_8_method_9_code 68 = .ok (.iload 5, 2) := gd_18 db00b_41
theorem d_X6_deal_70 : decode prog_8_method_9_code 70 = .ok (.isub, 1) := gd_19 db00b_41
theorem d_X6_deal_71 : decode prog_8_method_9_code 71 = .ok (.lload_n 3, 1) := gd_20 db00b_41
theorem d_X6_deal_72 : decode prog_8_method_9_code 72 = .ok (.iload 5, 2) := gd_21 db00b_41
theorem d_X6_deal_74 : decode prog_8_method_9_code 74 = .ok (.i2l, 1) := gd_22 db00b_41
theorem d_X6_deal_75 : decode prog_8_method_9_code 75 = .ok (.aload_n 0, 1) := gd_23 db00b_41
theorem d_X6_deal_80 : decode prog_8_method_9_code 80 = .ok (.laload, 1) := by decide +kernel
theorem d_X6_deal_81 : decode prog_8_method_9_code 81 = .ok (.lmul, 1) := by decide +kernel
theorem d_X6_deal_82 : decode prog_8_method_9_code 82 = .ok (.ladd, 1) := by decide +kernel
theorem db00b_42 : Ad_ prog_8_method_9_code [(76, .getfield 21, 3), (79, .iload_n 1, 1), (83, .invokevirtual 107, 3), (86, .iinc 5 (-1), 3), (89, .goto (-39), 3), (92, .return_, 1)] := bch_ok prog_8_method_9_code _ 76 (by decide +kernel)
theorem d_X6_deal_76 : decode prog_8_method_9_code 76 = .ok (.getfield 21, 3) := gd_0 db00b_42
theorem d_X6_deal_79 : decode prog_8_method_9_code 79 = .ok (.iload_n 1, 1) := gd_1 db00b_42
theorem d_X6_deal_83 : decode prog_8_method_9_code 83 = .ok (.invokevirtual 107, 3) := gd_2 db00b_42
theorem d_X6_deal_86 : decode prog_8_method_9_code 86 = .ok (.iinc 5 (-1), 3) := gd_3 db00b_42
theorem d_X6_deal_89 : decode prog_8_method_9_code 89 = .ok (.goto (-39), 3) := gd_4 db00b_42
theorem d_X6_deal_92 : decode prog_8_method_9_code 92 = .ok (.return_, 1) := gd_5 db00b_42
theorem d_X6_judge_23 : decode prog_8_method_10_code 23 = .ok (.lshr, 1) := by decide +kernel
theorem d_X6_judge_24 : decode prog_8_method_10_code 24 = .ok (.l2i, 1) := by decide +kernel
theorem db00b_43 : Ad_ prog_8_method_10_code [(0, .bipush 12, 2), (2, .istore_n 3, 1), (3, .iconst 0, 1), (4, .istore 4, 2), (6, .iconst 0, 1), (7, .istore 5, 2), (9, .iload 5, 2), (11, .aload_n 0, 1), (12, .getfield 49, 3), (15, .if_icmp .ge 35, 3), (18, .lload_n 1, 1), (19, .iconst 4, 1), (20, .iload 5, 2), (22, .imul, 1), (25, .bipush 15, 2), (27, .iand, 1), (28, .istore 6, 2), (30, .iload_n 3, 1), (31, .iload 6, 2), (33, .invokestatic 119, 3), (36, .istore_n 3, 1), (37, .iload 4, 2), (39, .iload 6, 2), (41, .iadd, 1)] := bch_ok prog_8_method_10_code _ 0 (by decide +kernel)
theorem d_X6_judge_0 : decode prog_8_method_10_code 0 = .ok (.bipush 12, 2) := gd_0 db00b_43
theorem d_X6_judge_2 : decode prog_8_method_10_code 2 = .ok (.istore_n 3, 1) := gd_1 db00b_43
theorem d_X6_judge_3 : decode prog_8_method_10_code 3 = .ok (.iconst 0, 1) := gd_2 db00b_43
theorem d_X6_judge_4 : decode prog_8_method_10_code 4 = .ok (.istore 4, 2) := gd_3 db00b_43
theorem d_X6_judge_6 : decode prog_8_method_10_code 6 = .ok (.iconst 0, 1) := gd_4 db00b_43
theorem d_X6_judge_7 : decode prog_8_method_10_code 7 = .ok (.istore 5, 2) := gd_5 db00b_43
theorem d_X6_judge_9 : decode prog_8_method_10_code 9 = .ok (.iload 5, 2) := gd_6 db00b_43
theorem d_X6_judge_11 : decode prog_8_method_10_code 11 = .ok (.aload_n 0, 1) := gd_7 db00b_43
theorem d_X6_judge_12 : decode prog_8_method_10_code 12 = .ok (.getfield 49, 3) := gd_8 db00b_43
theorem d_X6_judge_15 : decode prog_8_method_10_code 15 = .ok (.if_icmp .ge 35, 3) := gd_9 db00b_43
theorem d_X6_judge_18 : decode prog_8_method_10_code 18 = .ok (.lload_n 1, 1) := gd_10 db00b_43
theorem d_X6_judge_19 : decode prog_8_method_10_code 19 = .ok (.iconst 4, 1) := gd_11 db00b_43
theorem d_X6_judge_20 : decode prog_8_method_10_code 20 = .ok (.iload 5, 2) := gd_12 db00b_43
theorem d_X6_judge_22 : decode prog_8_method_10_code 22 = .ok (.imul, 1) := gd_13 db00b_43
theorem d_X6_judge_25 : decode prog_8_method_10_code 25 = .ok (.bipush 15, 2) := gd_14 db00b_43
theorem d_X6_judge_27 : decode prog_8_method_10_code 27 = .ok (.iand, 1) := gd_15 db00b_43
theorem d_X6_judge_28 : decode prog_8_method_10_code 28 = .ok (.istore 6, 2) := gd_16 db00b_43
theorem d_X6_judge_30 : decode prog_8_method_10_code 30 = .ok (.iload_n 3, 1) := gd_17 db00b_43
theorem d_X6_judge_31 : decode prog_8_method_10_code 31 = .ok (.iload 6, 2) := gd_18 db00b_43
theorem d_X6_judge_33 : decode prog_8_method_10_code 33 = .ok (.invokestatic 119, 3) := gd_19 db00b_43
theorem d_X6_judge_36 : decode prog_8_method_10_code 36 = .ok (.istore_n 3, 1) := gd_20 db00b_43
theorem d_X6_judge_37 : decode prog_8_method_10_code 37 = .ok (.iload 4, 2) := gd_21 db00b_43
theorem d_X6_judge_39 : decode prog_8_method_10_code 39 = .ok (.iload 6, 2) := gd_22 db00b_43
theorem d_X6_judge_41 : decode prog_8_method_10_code 41 = .ok (.iadd, 1) := gd_23 db00b_43
theorem db00b_44 : Ad_ prog_8_method_10_code [(42, .istore 4, 2), (44, .iinc 5 1, 3), (47, .goto (-38), 3), (50, .iload_n 3, 1), (51, .aload_n 0, 1), (52, .getfield 67, 3), (55, .if_icmp .gt 20, 3), (58, .iload_n 3, 1), (59, .aload_n 0, 1), (60, .getfield 67, 3), (63, .if_icmp .ne 37, 3), (66, .iload 4, 2), (68, .aload_n 0, 1), (69, .getfield 104, 3), (72, .if_icmp .le 28, 3), (75, .aload_n 0, 1), (76, .iload_n 3, 1), (77, .putfield 67, 3), (80, .aload_n 0, 1), (81, .iload 4, 2), (83, .putfield 104, 3), (86, .aload_n 0, 1), (87, .getfield 25, 3), (90, .iconst 0, 1)] := bch_ok prog_8_method_10_code _ 42 (by decide +kernel)
theorem d_X6_judge_42 : decode prog_8_method_10_code 42 = .ok (.istore 4, 2) := gd_0 db00b_44
theorem d_X6_judge_44 : decode prog_8_method_10_code 44 = .ok (.iinc 5 1, 3) := gd_1 db00b_44
theorem d_X6_judge_47 : decode prog_8_method_10_code 47 = .ok (.goto (-38), 3) := gd_2 db00b_44
theorem d_X6_judge_50 : decode prog_8_method_10_code 50 = .ok (.iload_n 3, 1) := gd_3 db00b_44
theorem d_X6_judge_51 : decode prog_8_method_10_code 51 = .ok (.aload_n 0, 1) := gd_4 db00b_44
theorem d_X6_judge_52 : decode prog_8_method_10_code 52 = .ok (.getfield 67, 3) := gd_5 db00b_44
theorem d_X6_judge_55 : decode prog_8_method_10_code 55 = .ok (.if_icmp .gt 20, 3) := gd_6 db00b_44
theorem d_X6_judge_58 : decode prog_8_method_10_code 58 = .ok (.iload_n 3, 1) := gd_7 db00b_44
theorem d_X6_judge_59 : decode prog_8_method_10_code 59 = .ok (.aload_n 0, 1) := gd_8 db00b_44
theorem d_X6_judge_60 : decode prog_8_method_10_code 60 = .ok (.getfield 67, 3) := gd_9 db00b_44
theorem d_X6_judge_63 : decode prog_8_method_10_code 63 = .ok (.if_icmp .ne 37, 3) := gd_10 db00b_44
theorem d_X6_judge_66 : decode prog_8_method_10_code 66 = .ok (.iload 4, 2) := gd_11 db00b_44
theorem d_X6_judge_68 : decode prog_8_method_10_code 68 = .ok (.aload_n 0, 1) := gd_12 db00b_44
theorem d_X6_judge_69 : decode prog_8_method_10_code 69 = .ok (.getfield 104, 3) := gd_13 db00b_44
theorem d_X6_judge_72 : decode prog_8_method_10_code 72 = .ok (.if_icmp .le 28, 3) := gd_14 db00b_44
theorem d_X6_judge_75 : decode prog_8_method_10_code 75 = .ok (.aload_n 0, 1) := gd_15 db00b_44
theorem d_X6_judge_76 : decode prog_8_method_10_code 76 = .ok (.iload_n 3, 1) := gd_16 db00b_44
theorem d_X6_judge_77 : decode prog_8_method_10_code 77 = .ok (.putfield 67, 3) := gd_17 db00b_44
theorem d_X6_judge_80 : decode prog_8_method_10_code 80 = .ok (.aload_n 0, 1) := gd_18 db00b_44
theorem d_X6_judge_81 : decode prog_8_method_10_code 81 = .ok (.iload 4, 2) := gd_19 db00b_44
theorem d_X6_judge_83 : decode prog_8_method_10_code 83 = .ok (.putfield 104, 3) := gd_20 db00b_44
theorem d_X6_judge_86 : decode prog_8_method_10_code 86 = .ok (.aload_n 0, 1) := gd_21 db00b_44
theorem d_X6_judge_87 : decode prog_8_method_10_code 87 = .ok (.getfield 25, 3) := gd_22 db00b_44
theorem d_X6_judge_90 : decode prog_8_method_10_code 90 = .ok (.iconst 0, 1) := gd_23 db00b_44
theorem db00b_45 : Ad_ prog_8_method_10_code [(91, .aload_n 0, 1), (92, .getfield 28, 3), (95, .iconst 0, 1), (96, .iconst 5, 1), (97, .invokestatic 125, 3), (100, .return_, 1)] := bch_ok prog_8_method_10_code _ 91 (by decide +kernel)
theorem d_X6_judge_91 : decode prog_8_method_10_code 91 = .ok (.aload_n 0, 1) := gd_0 db00b_45
theorem d_X6_judge_92 : decode prog_8_method_10_code 92 = .ok (.getfield 28, 3) := gd_1 db00b_45
theorem d_X6_judge_95 : decode prog_8_method_10_code 95 = .ok (.iconst 0, 1) := gd_2 db00b_45
theorem d_X6_judge_96 : decode prog_8_method_10_code 96 = .ok (.iconst 5, 1) := gd_3 db00b_45
theorem d_X6_judge_97 : decode prog_8_method_10_code 97 = .ok (.invokestatic 125, 3) := gd_4 db00b_45
theorem d_X6_judge_100 : decode prog_8_method_10_code 100 = .ok (.return_, 1) := gd_5 db00b_45
theorem db00b_46 : Ad_ prog_8_method_11_code [(0, .aload_n 0, 1), (1, .getfield 131, 3), (4, .iconst 4, 1), (5, .if_icmp .lt 5, 3), (8, .iconst (-1), 1), (9, .ireturn, 1), (10, .aload_n 0, 1), (11, .getfield 31, 3), (14, .aload_n 0, 1), (15, .getfield 131, 3), (18, .iload_n 1, 1), (19, .iastore, 1), (20, .aload_n 0, 1), (21, .getfield 34, 3), (24, .aload_n 0, 1), (25, .getfield 131, 3), (28, .iload_n 2, 1), (29, .iastore, 1), (30, .aload_n 0, 1), (31, .getfield 37, 3), (34, .aload_n 0, 1), (35, .getfield 131, 3), (38, .iload_n 3, 1), (39, .iastore, 1)] := bch_ok prog_8_method_11_code _ 0 (by decide +kernel)
theorem d_X6_addFair_0 : decode prog_8_method_11_code 0 = .ok (.aload_n 0, 1) := gd_0 db00b_46
theorem d_X6_addFair_1 : decode prog_8_method_11_code 1 = .ok (.getfield 131, 3) := gd_1 db00b_46
theorem d_X6_addFair_4 : decode prog_8_method_11_code 4 = .ok (.iconst 4, 1) := gd_2 db00b_46
theorem d_X6_addFair_5 : decode prog_8_method_11_code 5 = .ok (.if_icmp .lt 5, 3) := gd_3 db00b_46
theorem d_X6_addFair_8 : decode prog_8_method_11_code 8 = .ok (.iconst (-1), 1) := gd_4 db00b_46
theorem d_X6_addFair_9 : decode prog_8_method_11_code 9 = .ok (.ireturn, 1) := gd_5 db00b_46
theorem d_X6_addFair_10 : decode prog_8_method_11_code 10 = .ok (.aload_n 0, 1) := gd_6 db00b_46
theorem d_X6_addFair_11 : decode prog_8_method_11_code 11 = .ok (.getfield 31, 3) := gd_7 db00b_46
theorem d_X6_addFair_14 : decode prog_8_method_11_code 14 = .ok (.aload_n 0, 1) := gd_8 db00b_46
theorem d_X6_addFair_15 : decode prog_8_method_11_code 15 = .ok (.getfield 131, 3) := gd_9 db00b_46
theorem d_X6_addFair_18 : decode prog_8_method_11_code 18 = .ok (.iload_n 1, 1) := gd_10 db00b_46
theorem d_X6_addFair_19 : decode prog_8_method_11_code 19 = .ok (.iastore, 1) := gd_11 db00b_46
theorem d_X6_addFair_20 : decode prog_8_method_11_code 20 = .ok (.aload_n 0, 1) := gd_12 db00b_46
theorem d_X6_addFair_21 : decode prog_8_method_11_code 21 = .ok (.getfield 34, 3) := gd_13 db00b_46
theorem d_X6_addFair_24 : decode prog_8_method_11_code 24 = .ok (.aload_n 0, 1) := gd_14 db00b_46
theorem d_X6_addFair_25 : decode prog_8_method_11_code 25 = .ok (.getfield 131, 3) := gd_15 db00b_46
theorem d_X6_addFair_28 : decode prog_8_method_11_code 28 = .ok (.iload_n 2, 1) := gd_16 db00b_46
theorem d_X6_addFair_29 : decode prog_8_method_11_code 29 = .ok (.iastore, 1) := gd_17 db00b_46
theorem d_X6_addFair_30 : decode prog_8_method_11_code 30 = .ok (.aload_n 0, 1) := gd_18 db00b_46
theorem d_X6_addFair_31 : decode prog_8_method_11_code 31 = .ok (.getfield 37, 3) := gd_19 db00b_46
theorem d_X6_addFair_34 : decode prog_8_method_11_code 34 = .ok (.aload_n 0, 1) := gd_20 db00b_46
theorem d_X6_addFair_35 : decode prog_8_method_11_code 35 = .ok (.getfield 131, 3) := gd_21 db00b_46
theorem d_X6_addFair_38 : decode prog_8_method_11_code 38 = .ok (.iload_n 3, 1) := gd_22 db00b_46
theorem d_X6_addFair_39 : decode prog_8_method_11_code 39 = .ok (.iastore, 1) := gd_23 db00b_46
theorem db00b_47 : Ad_ prog_8_method_11_code [(40, .aload_n 0, 1), (41, .dup, 1), (42, .getfield 131, 3), (45, .iconst 1, 1), (46, .iadd, 1), (47, .putfield 131, 3), (50, .aload_n 0, 1), (51, .getfield 131, 3), (54, .iconst 1, 1), (55, .isub, 1), (56, .ireturn, 1)] := bch_ok prog_8_method_11_code _ 40 (by decide +kernel)
theorem d_X6_addFair_40 : decode prog_8_method_11_code 40 = .ok (.aload_n 0, 1) := gd_0 db00b_47
theorem d_X6_addFair_41 : decode prog_8_method_11_code 41 = .ok (.dup, 1) := gd_1 db00b_47
theorem d_X6_addFair_42 : decode prog_8_method_11_code 42 = .ok (.getfield 131, 3) := gd_2 db00b_47
theorem d_X6_addFair_45 : decode prog_8_method_11_code 45 = .ok (.iconst 1, 1) := gd_3 db00b_47
theorem d_X6_addFair_46 : decode prog_8_method_11_code 46 = .ok (.iadd, 1) := gd_4 db00b_47
theorem d_X6_addFair_47 : decode prog_8_method_11_code 47 = .ok (.putfield 131, 3) := gd_5 db00b_47
theorem d_X6_addFair_50 : decode prog_8_method_11_code 50 = .ok (.aload_n 0, 1) := gd_6 db00b_47
theorem d_X6_addFair_51 : decode prog_8_method_11_code 51 = .ok (.getfield 131, 3) := gd_7 db00b_47
theorem d_X6_addFair_54 : decode prog_8_method_11_code 54 = .ok (.iconst 1, 1) := gd_8 db00b_47
theorem d_X6_addFair_55 : decode prog_8_method_11_code 55 = .ok (.isub, 1) := gd_9 db00b_47
theorem d_X6_addFair_56 : decode prog_8_method_11_code 56 = .ok (.ireturn, 1) := gd_10 db00b_47
theorem db00b_48 : Ad_ prog_8_method_12_code [(0, .aload_n 0, 1), (1, .iconst 0, 1), (2, .putfield 131, 3), (5, .return_, 1)] := bch_ok prog_8_method_12_code _ 0 (by decide +kernel)
theorem d_X6_clearFairs_0 : decode prog_8_method_12_code 0 = .ok (.aload_n 0, 1) := gd_0 db00b_48
theorem d_X6_clearFairs_1 : decode prog_8_method_12_code 1 = .ok (.iconst 0, 1) := gd_1 db00b_48
theorem d_X6_clearFairs_2 : decode prog_8_method_12_code 2 = .ok (.putfield 131, 3) := gd_2 db00b_48
theorem d_X6_clearFairs_5 : decode prog_8_method_12_code 5 = .ok (.return_, 1) := gd_3 db00b_48
theorem db00b_49 : Ad_ prog_8_method_13_code [(0, .iload_n 1, 1), (1, .iconst 0, 1), (2, .aload_n 0, 1), (3, .getfield 131, 3), (6, .iconst 1, 1), (7, .isub, 1), (8, .invokestatic 79, 3), (11, .ifCond .eq 12, 3), (14, .aload_n 0, 1), (15, .getfield 31, 3), (18, .iload_n 1, 1), (19, .iaload, 1), (20, .goto 4, 3), (23, .iconst (-1), 1), (24, .ireturn, 1)] := bch_ok prog_8_method_13_code _ 0 (by decide +kernel)
theorem d_X6_placeOfFair_0 : decode prog_8_method_13_code 0 = .ok (.iload_n 1, 1) := gd_0 db00b_49
theorem d_X6_placeOfFair_1 : decode prog_8_method_13_code 1 = .ok (.iconst 0, 1) := gd_1 db00b_49
theorem d_X6_placeOfFair_2 : decode prog_8_method_13_code 2 = .ok (.aload_n 0, 1) := gd_2 db00b_49
theorem d_X6_placeOfFair_3 : decode prog_8_method_13_code 3 = .ok (.getfield 131, 3) := gd_3 db00b_49
theorem d_X6_placeOfFair_6 : decode prog_8_method_13_code 6 = .ok (.iconst 1, 1) := gd_4 db00b_49
theorem d_X6_placeOfFair_7 : decode prog_8_method_13_code 7 = .ok (.isub, 1) := gd_5 db00b_49
theorem d_X6_placeOfFair_8 : decode prog_8_method_13_code 8 = .ok (.invokestatic 79, 3) := gd_6 db00b_49
theorem d_X6_placeOfFair_11 : decode prog_8_method_13_code 11 = .ok (.ifCond .eq 12, 3) := gd_7 db00b_49
theorem d_X6_placeOfFair_14 : decode prog_8_method_13_code 14 = .ok (.aload_n 0, 1) := gd_8 db00b_49
theorem d_X6_placeOfFair_15 : decode prog_8_method_13_code 15 = .ok (.getfield 31, 3) := gd_9 db00b_49
theorem d_X6_placeOfFair_18 : decode prog_8_method_13_code 18 = .ok (.iload_n 1, 1) := gd_10 db00b_49
theorem d_X6_placeOfFair_19 : decode prog_8_method_13_code 19 = .ok (.iaload, 1) := gd_11 db00b_49
theorem d_X6_placeOfFair_20 : decode prog_8_method_13_code 20 = .ok (.goto 4, 3) := gd_12 db00b_49
theorem d_X6_placeOfFair_23 : decode prog_8_method_13_code 23 = .ok (.iconst (-1), 1) := gd_13 db00b_49
theorem d_X6_placeOfFair_24 : decode prog_8_method_13_code 24 = .ok (.ireturn, 1) := gd_14 db00b_49
theorem db00b_50 : Ad_ prog_8_method_14_code [(0, .iload_n 1, 1), (1, .iconst 0, 1), (2, .aload_n 0, 1), (3, .getfield 131, 3), (6, .iconst 1, 1), (7, .isub, 1), (8, .invokestatic 79, 3), (11, .ifCond .eq 12, 3), (14, .aload_n 0, 1), (15, .getfield 34, 3), (18, .iload_n 1, 1), (19, .iaload, 1), (20, .goto 4, 3), (23, .iconst (-1), 1), (24, .ireturn, 1)] := bch_ok prog_8_method_14_code _ 0 (by decide +kernel)
theorem d_X6_minuteOfFair_0 : decode prog_8_method_14_code 0 = .ok (.iload_n 1, 1) := gd_0 db00b_50
theorem d_X6_minuteOfFair_1 : decode prog_8_method_14_code 1 = .ok (.iconst 0, 1) := gd_1 db00b_50
theorem d_X6_minuteOfFair_2 : decode prog_8_method_14_code 2 = .ok (.aload_n 0, 1) := gd_2 db00b_50
theorem d_X6_minuteOfFair_3 : decode prog_8_method_14_code 3 = .ok (.getfield 131, 3) := gd_3 db00b_50
theorem d_X6_minuteOfFair_6 : decode prog_8_method_14_code 6 = .ok (.iconst 1, 1) := gd_4 db00b_50
theorem d_X6_minuteOfFair_7 : decode prog_8_method_14_code 7 = .ok (.isub, 1) := gd_5 db00b_50
theorem d_X6_minuteOfFair_8 : decode prog_8_method_14_code 8 = .ok (.invokestatic 79, 3) := gd_6 db00b_50
theorem d_X6_minuteOfFair_11 : decode prog_8_method_14_code 11 = .ok (.ifCond .eq 12, 3) := gd_7 db00b_50
theorem d_X6_minuteOfFair_14 : decode prog_8_method_14_code 14 = .ok (.aload_n 0, 1) := gd_8 db00b_50
theorem d_X6_minuteOfFair_15 : decode prog_8_method_14_code 15 = .ok (.getfield 34, 3) := gd_9 db00b_50
theorem d_X6_minuteOfFair_18 : decode prog_8_method_14_code 18 = .ok (.iload_n 1, 1) := gd_10 db00b_50
theorem d_X6_minuteOfFair_19 : decode prog_8_method_14_code 19 = .ok (.iaload, 1) := gd_11 db00b_50
theorem d_X6_minuteOfFair_20 : decode prog_8_method_14_code 20 = .ok (.goto 4, 3) := gd_12 db00b_50
theorem d_X6_minuteOfFair_23 : decode prog_8_method_14_code 23 = .ok (.iconst (-1), 1) := gd_13 db00b_50
theorem d_X6_minuteOfFair_24 : decode prog_8_method_14_code 24 = .ok (.ireturn, 1) := gd_14 db00b_50
theorem db00b_51 : Ad_ prog_8_method_15_code [(0, .iload_n 0, 1), (1, .ldc 134, 2), (3, .imul, 1), (4, .iload_n 1, 1), (5, .iadd, 1), (6, .ireturn, 1)] := bch_ok prog_8_method_15_code _ 0 (by decide +kernel)
theorem d_X6_price_0 : decode prog_8_method_15_code 0 = .ok (.iload_n 0, 1) := gd_0 db00b_51
theorem d_X6_price_1 : decode prog_8_method_15_code 1 = .ok (.ldc 134, 2) := gd_1 db00b_51
theorem d_X6_price_3 : decode prog_8_method_15_code 3 = .ok (.imul, 1) := gd_2 db00b_51
theorem d_X6_price_4 : decode prog_8_method_15_code 4 = .ok (.iload_n 1, 1) := gd_3 db00b_51
theorem d_X6_price_5 : decode prog_8_method_15_code 5 = .ok (.iadd, 1) := gd_4 db00b_51
theorem d_X6_price_6 : decode prog_8_method_15_code 6 = .ok (.ireturn, 1) := gd_5 db00b_51
theorem db00b_52 : Ad_ prog_8_method_16_code [(0, .iload_n 1, 1), (1, .iconst 0, 1), (2, .bipush 11, 2), (4, .invokestatic 79, 3), (7, .ifCond .eq 23, 3), (10, .iload_n 2, 1), (11, .iconst 0, 1), (12, .iconst 3, 1), (13, .invokestatic 79, 3), (16, .ifCond .eq 14, 3), (19, .aload_n 0, 1), (20, .getfield 40, 3), (23, .iload_n 1, 1), (24, .iconst 4, 1), (25, .imul, 1), (26, .iload_n 2, 1), (27, .iadd, 1), (28, .iload_n 3, 1), (29, .iastore, 1), (30, .return_, 1)] := bch_ok prog_8_method_16_code _ 0 (by decide +kernel)
theorem d_X6_setPrice_0 : decode prog_8_method_16_code 0 = .ok (.iload_n 1, 1) := gd_0 db00b_52
theorem d_X6_setPrice_1 : decode prog_8_method_16_code 1 = .ok (.iconst 0, 1) := gd_1 db00b_52
theorem d_X6_setPrice_2 : decode prog_8_method_16_code 2 = .ok (.bipush 11, 2) := gd_2 db00b_52
theorem d_X6_setPrice_4 : decode prog_8_method_16_code 4 = .ok (.invokestatic 79, 3) := gd_3 db00b_52
theorem d_X6_setPrice_7 : decode prog_8_method_16_code 7 = .ok (.ifCond .eq 23, 3) := gd_4 db00b_52
theorem d_X6_setPrice_10 : decode prog_8_method_16_code 10 = .ok (.iload_n 2, 1) := gd_5 db00b_52
theorem d_X6_setPrice_11 : decode prog_8_method_16_code 11 = .ok (.iconst 0, 1) := gd_6 db00b_52
theorem d_X6_setPrice_12 : decode prog_8_method_16_code 12 = .ok (.iconst 3, 1) := gd_7 db00b_52
theorem d_X6_setPrice_13 : decode prog_8_method_16_code 13 = .ok (.invokestatic 79, 3) := gd_8 db00b_52
theorem d_X6_setPrice_16 : decode prog_8_method_16_code 16 = .ok (.ifCond .eq 14, 3) := gd_9 db00b_52
theorem d_X6_setPrice_19 : decode prog_8_method_16_code 19 = .ok (.aload_n 0, 1) := gd_10 db00b_52
theorem d_X6_setPrice_20 : decode prog_8_method_16_code 20 = .ok (.getfield 40, 3) := gd_11 db00b_52
theorem d_X6_setPrice_23 : decode prog_8_method_16_code 23 = .ok (.iload_n 1, 1) := gd_12 db00b_52
theorem d_X6_setPrice_24 : decode prog_8_method_16_code 24 = .ok (.iconst 4, 1) := gd_13 db00b_52
theorem d_X6_setPrice_25 : decode prog_8_method_16_code 25 = .ok (.imul, 1) := gd_14 db00b_52
theorem d_X6_setPrice_26 : decode prog_8_method_16_code 26 = .ok (.iload_n 2, 1) := gd_15 db00b_52
theorem d_X6_setPrice_27 : decode prog_8_method_16_code 27 = .ok (.iadd, 1) := gd_16 db00b_52
theorem d_X6_setPrice_28 : decode prog_8_method_16_code 28 = .ok (.iload_n 3, 1) := gd_17 db00b_52
theorem d_X6_setPrice_29 : decode prog_8_method_16_code 29 = .ok (.iastore, 1) := gd_18 db00b_52
theorem d_X6_setPrice_30 : decode prog_8_method_16_code 30 = .ok (.return_, 1) := gd_19 db00b_52
theorem db00b_53 : Ad_ prog_8_method_17_code [(0, .iconst 0, 1), (1, .istore_n 1, 1), (2, .iconst 0, 1), (3, .istore_n 2, 1), (4, .iload_n 2, 1), (5, .aload_n 0, 1), (6, .getfield 131, 3), (9, .if_icmp .ge 22, 3), (12, .iload_n 1, 1), (13, .aload_n 0, 1), (14, .getfield 37, 3), (17, .iload_n 2, 1), (18, .iaload, 1), (19, .iconst 2, 1), (20, .iload_n 2, 1), (21, .imul, 1), (22, .ishl, 1), (23, .ior, 1), (24, .istore_n 1, 1), (25, .iinc 2 1, 3), (28, .goto (-24), 3), (31, .iload_n 1, 1), (32, .ireturn, 1)] := bch_ok prog_8_method_17_code _ 0 (by decide +kernel)
theorem d_X6_allWanted_0 : decode prog_8_method_17_code 0 = .ok (.iconst 0, 1) := gd_0 db00b_53
theorem d_X6_allWanted_1 : decode prog_8_method_17_code 1 = .ok (.istore_n 1, 1) := gd_1 db00b_53
theorem d_X6_allWanted_2 : decode prog_8_method_17_code 2 = .ok (.iconst 0, 1) := gd_2 db00b_53
theorem d_X6_allWanted_3 : decode prog_8_method_17_code 3 = .ok (.istore_n 2, 1) := gd_3 db00b_53
theorem d_X6_allWanted_4 : decode prog_8_method_17_code 4 = .ok (.iload_n 2, 1) := gd_4 db00b_53
theorem d_X6_allWanted_5 : decode prog_8_method_17_code 5 = .ok (.aload_n 0, 1) := gd_5 db00b_53
theorem d_X6_allWanted_6 : decode prog_8_method_17_code 6 = .ok (.getfield 131, 3) := gd_6 db00b_53
theorem d_X6_allWanted_9 : decode prog_8_method_17_code 9 = .ok (.if_icmp .ge 22, 3) := gd_7 db00b_53
theorem d_X6_allWanted_12 : decode prog_8_method_17_code 12 = .ok (.iload_n 1, 1) := gd_8 db00b_53
theorem d_X6_allWanted_13 : decode prog_8_method_17_code 13 = .ok (.aload_n 0, 1) := gd_9 db00b_53
theorem d_X6_allWanted_14 : decode prog_8_method_17_code 14 = .ok (.getfield 37, 3) := gd_10 db00b_53
theorem d_X6_allWanted_17 : decode prog_8_method_17_code 17 = .ok (.iload_n 2, 1) := gd_11 db00b_53
theorem d_X6_allWanted_18 : decode prog_8_method_17_code 18 = .ok (.iaload, 1) := gd_12 db00b_53
theorem d_X6_allWanted_19 : decode prog_8_method_17_code 19 = .ok (.iconst 2, 1) := gd_13 db00b_53
theorem d_X6_allWanted_20 : decode prog_8_method_17_code 20 = .ok (.iload_n 2, 1) := gd_14 db00b_53
theorem d_X6_allWanted_21 : decode prog_8_method_17_code 21 = .ok (.imul, 1) := gd_15 db00b_53
theorem d_X6_allWanted_22 : decode prog_8_method_17_code 22 = .ok (.ishl, 1) := gd_16 db00b_53
theorem d_X6_allWanted_23 : decode prog_8_method_17_code 23 = .ok (.ior, 1) := gd_17 db00b_53
theorem d_X6_allWanted_24 : decode prog_8_method_17_code 24 = .ok (.istore_n 1, 1) := gd_18 db00b_53
theorem d_X6_allWanted_25 : decode prog_8_method_17_code 25 = .ok (.iinc 2 1, 3) := gd_19 db00b_53
theorem d_X6_allWanted_28 : decode prog_8_method_17_code 28 = .ok (.goto (-24), 3) := gd_20 db00b_53
theorem d_X6_allWanted_31 : decode prog_8_method_17_code 31 = .ok (.iload_n 1, 1) := gd_21 db00b_53
theorem d_X6_allWanted_32 : decode prog_8_method_17_code 32 = .ok (.ireturn, 1) := gd_22 db00b_53
theorem db00b_54 : Ad_ prog_8_method_18_code [(0, .iload_n 1, 1), (1, .bipush 12, 2), (3, .invokestatic 119, 3), (6, .istore_n 2, 1), (7, .aload_n 0, 1), (8, .invokevirtual 135, 3), (11, .istore_n 3, 1), (12, .iconst 0, 1), (13, .istore 4, 2), (15, .iload 4, 2), (17, .iload_n 3, 1), (18, .if_icmp .gt 33, 3), (21, .aload_n 0, 1), (22, .getfield 43, 3), (25, .iload_n 2, 1), (26, .sipush 256, 3), (29, .imul, 1), (30, .iload 4, 2), (32, .iadd, 1), (33, .iload 4, 2), (35, .ifCond .ne 7, 3), (38, .iconst 0, 1), (39, .goto 5, 3), (42, .ldc 139, 2)] := bch_ok prog_8_method_18_code _ 0 (by decide +kernel)
theorem d_X6_lend_0 : decode prog_8_method_18_code 0 = .ok (.iload_n 1, 1) := gd_0 db00b_54
theorem d_X6_lend_1 : decode prog_8_method_18_code 1 = .ok (.bipush 12, 2) := gd_1 db00b_54
theorem d_X6_lend_3 : decode prog_8_method_18_code 3 = .ok (.invokestatic 119, 3) := gd_2 db00b_54
theorem d_X6_lend_6 : decode prog_8_method_18_code 6 = .ok (.istore_n 2, 1) := gd_3 db00b_54
theorem d_X6_lend_7 : decode prog_8_method_18_code 7 = .ok (.aload_n 0, 1) := gd_4 db00b_54
theorem d_X6_lend_8 : decode prog_8_method_18_code 8 = .ok (.invokevirtual 135, 3) := gd_5 db00b_54
theorem d_X6_lend_11 : decode prog_8_method_18_code 11 = .ok (.istore_n 3, 1) := gd_6 db00b_54
theorem d_X6_lend_12 : decode prog_8_method_18_code 12 = .ok (.iconst 0, 1) := gd_7 db00b_54
theorem d_X6_lend_13 : decode prog_8_method_18_code 13 = .ok (.istore 4, 2) := gd_8 db00b_54
theorem d_X6_lend_15 : decode prog_8_method_18_code 15 = .ok (.iload 4, 2) := gd_9 db00b_54
theorem d_X6_lend_17 : decode prog_8_method_18_code 17 = .ok (.iload_n 3, 1) := gd_10 db00b_54
theorem d_X6_lend_18 : decode prog_8_method_18_code 18 = .ok (.if_icmp .gt 33, 3) := gd_11 db00b_54
theorem d_X6_lend_21 : decode prog_8_method_18_code 21 = .ok (.aload_n 0, 1) := gd_12 db00b_54
theorem d_X6_lend_22 : decode prog_8_method_18_code 22 = .ok (.getfield 43, 3) := gd_13 db00b_54
theorem d_X6_lend_25 : decode prog_8_method_18_code 25 = .ok (.iload_n 2, 1) := gd_14 db00b_54
theorem d_X6_lend_26 : decode prog_8_method_18_code 26 = .ok (.sipush 256, 3) := gd_15 db00b_54
theorem d_X6_lend_29 : decode prog_8_method_18_code 29 = .ok (.imul, 1) := gd_16 db00b_54
theorem d_X6_lend_30 : decode prog_8_method_18_code 30 = .ok (.iload 4, 2) := gd_17 db00b_54
theorem d_X6_lend_32 : decode prog_8_method_18_code 32 = .ok (.iadd, 1) := gd_18 db00b_54
theorem d_X6_lend_33 : decode prog_8_method_18_code 33 = .ok (.iload 4, 2) := gd_19 db00b_54
theorem d_X6_lend_35 : decode prog_8_method_18_code 35 = .ok (.ifCond .ne 7, 3) := gd_20 db00b_54
theorem d_X6_lend_38 : decode prog_8_method_18_code 38 = .ok (.iconst 0, 1) := gd_21 db00b_54
theorem d_X6_lend_39 : decode prog_8_method_18_code 39 = .ok (.goto 5, 3) := gd_22 db00b_54
theorem d_X6_lend_42 : decode prog_8_method_18_code 42 = .ok (.ldc 139, 2) := gd_23 db00b_54
theorem db00b_55 : Ad_ prog_8_method_18_code [(44, .iastore, 1), (45, .iinc 4 1, 3), (48, .goto (-33), 3), (51, .iload_n 2, 1), (52, .iconst 1, 1), (53, .isub, 1), (54, .istore 4, 2), (56, .iload 4, 2), (58, .ifCond .lt 46, 3), (61, .iconst 0, 1), (62, .istore 5, 2), (64, .iload 5, 2), (66, .iload_n 3, 1), (67, .if_icmp .gt 31, 3), (70, .aload_n 0, 1), (71, .getfield 43, 3), (74, .iload 4, 2), (76, .sipush 256, 3), (79, .imul, 1), (80, .iload 5, 2), (82, .iadd, 1), (83, .aload_n 0, 1), (84, .iload 4, 2), (86, .iload 5, 2)] := bch_ok prog_8_method_18_code _ 44 (by decide +kernel)
theorem d_X6_lend_44 : decode prog_8_method_18_code 44 = .ok (.iastore, 1) := gd_0 db00b_55
theorem d_X6_lend_45 : decode prog_8_method_18_code 45 = .ok (.iinc 4 1, 3) := gd_1 db00b_55
theorem d_X6_lend_48 : decode prog_8_method_18_code 48 = .ok (.goto (-33), 3) := gd_2 db00b_55
theorem d_X6_lend_51 : decode prog_8_method_18_code 51 = .ok (.iload_n 2, 1) := gd_3 db00b_55
theorem d_X6_lend_52 : decode prog_8_method_18_code 52 = .ok (.iconst 1, 1) := gd_4 db00b_55
theorem d_X6_lend_53 : decode prog_8_method_18_code 53 = .ok (.isub, 1) := gd_5 db00b_55
theorem d_X6_lend_54 : decode prog_8_method_18_code 54 = .ok (.istore 4, 2) := gd_6 db00b_55
theorem d_X6_lend_56 : decode prog_8_method_18_code 56 = .ok (.iload 4, 2) := gd_7 db00b_55
theorem d_X6_lend_58 : decode prog_8_method_18_code 58 = .ok (.ifCond .lt 46, 3) := gd_8 db00b_55
theorem d_X6_lend_61 : decode prog_8_method_18_code 61 = .ok (.iconst 0, 1) := gd_9 db00b_55
theorem d_X6_lend_62 : decode prog_8_method_18_code 62 = .ok (.istore 5, 2) := gd_10 db00b_55
theorem d_X6_lend_64 : decode prog_8_method_18_code 64 = .ok (.iload 5, 2) := gd_11 db00b_55
theorem d_X6_lend_66 : decode prog_8_method_18_code 66 = .ok (.iload_n 3, 1) := gd_12 db00b_55
theorem d_X6_lend_67 : decode prog_8_method_18_code 67 = .ok (.if_icmp .gt 31, 3) := gd_13 db00b_55
theorem d_X6_lend_70 : decode prog_8_method_18_code 70 = .ok (.aload_n 0, 1) := gd_14 db00b_55
theorem d_X6_lend_71 : decode prog_8_method_18_code 71 = .ok (.getfield 43, 3) := gd_15 db00b_55
theorem d_X6_lend_74 : decode prog_8_method_18_code 74 = .ok (.iload 4, 2) := gd_16 db00b_55
theorem d_X6_lend_76 : decode prog_8_method_18_code 76 = .ok (.sipush 256, 3) := gd_17 db00b_55
theorem d_X6_lend_79 : decode prog_8_method_18_code 79 = .ok (.imul, 1) := gd_18 db00b_55
theorem d_X6_lend_80 : decode prog_8_method_18_code 80 = .ok (.iload 5, 2) := gd_19 db00b_55
theorem d_X6_lend_82 : decode prog_8_method_18_code 82 = .ok (.iadd, 1) := gd_20 db00b_55
theorem d_X6_lend_83 : decode prog_8_method_18_code 83 = .ok (.aload_n 0, 1) := gd_21 db00b_55
theorem d_X6_lend_84 : decode prog_8_method_18_code 84 = .ok (.iload 4, 2) := gd_22 db00b_55
theorem d_X6_lend_86 : decode prog_8_method_18_code 86 = .ok (.iload 5, 2) := gd_23 db00b_55
theorem db00b_56 : Ad_ prog_8_method_18_code [(88, .invokevirtual 140, 3), (91, .iastore, 1), (92, .iinc 5 1, 3), (95, .goto (-31), 3), (98, .iinc 4 (-1), 3), (101, .goto (-45), 3), (104, .aload_n 0, 1), (105, .getfield 43, 3), (108, .iload_n 3, 1), (109, .iaload, 1), (110, .ldc 139, 2), (112, .if_icmp .lt 5, 3), (115, .iconst 0, 1), (116, .ireturn, 1), (117, .aload_n 0, 1), (118, .iload_n 2, 1), (119, .iload_n 3, 1), (120, .invokevirtual 143, 3), (123, .iconst 1, 1), (124, .ireturn, 1)] := bch_ok prog_8_method_18_code _ 88 (by decide +kernel)
theorem d_X6_lend_88 : decode prog_8_method_18_code 88 = .ok (.invokevirtual 140, 3) := gd_0 db00b_56
theorem d_X6_lend_91 : decode prog_8_method_18_code 91 = .ok (.iastore, 1) := gd_1 db00b_56
theorem d_X6_lend_92 : decode prog_8_method_18_code 92 = .ok (.iinc 5 1, 3) := gd_2 db00b_56
theorem d_X6_lend_95 : decode prog_8_method_18_code 95 = .ok (.goto (-31), 3) := gd_3 db00b_56
theorem d_X6_lend_98 : decode prog_8_method_18_code 98 = .ok (.iinc 4 (-1), 3) := gd_4 db00b_56
theorem d_X6_lend_101 : decode prog_8_method_18_code 101 = .ok (.goto (-45), 3) := gd_5 db00b_56
theorem d_X6_lend_104 : decode prog_8_method_18_code 104 = .ok (.aload_n 0, 1) := gd_6 db00b_56
theorem d_X6_lend_105 : decode prog_8_method_18_code 105 = .ok (.getfield 43, 3) := gd_7 db00b_56
theorem d_X6_lend_108 : decode prog_8_method_18_code 108 = .ok (.iload_n 3, 1) := gd_8 db00b_56
theorem d_X6_lend_109 : decode prog_8_method_18_code 109 = .ok (.iaload, 1) := gd_9 db00b_56
theorem d_X6_lend_110 : decode prog_8_method_18_code 110 = .ok (.ldc 139, 2) := gd_10 db00b_56
theorem d_X6_lend_112 : decode prog_8_method_18_code 112 = .ok (.if_icmp .lt 5, 3) := gd_11 db00b_56
theorem d_X6_lend_115 : decode prog_8_method_18_code 115 = .ok (.iconst 0, 1) := gd_12 db00b_56
theorem d_X6_lend_116 : decode prog_8_method_18_code 116 = .ok (.ireturn, 1) := gd_13 db00b_56
theorem d_X6_lend_117 : decode prog_8_method_18_code 117 = .ok (.aload_n 0, 1) := gd_14 db00b_56
theorem d_X6_lend_118 : decode prog_8_method_18_code 118 = .ok (.iload_n 2, 1) := gd_15 db00b_56
theorem d_X6_lend_119 : decode prog_8_method_18_code 119 = .ok (.iload_n 3, 1) := gd_16 db00b_56
theorem d_X6_lend_120 : decode prog_8_method_18_code 120 = .ok (.invokevirtual 143, 3) := gd_17 db00b_56
theorem d_X6_lend_123 : decode prog_8_method_18_code 123 = .ok (.iconst 1, 1) := gd_18 db00b_56
theorem d_X6_lend_124 : decode prog_8_method_18_code 124 = .ok (.ireturn, 1) := gd_19 db00b_56
theorem db00b_57 : Ad_ prog_8_method_19_code [(0, .aload_n 0, 1), (1, .getfield 40, 3), (4, .iload_n 1, 1), (5, .iconst 4, 1), (6, .imul, 1), (7, .iload_n 2, 1), (8, .iadd, 1), (9, .iaload, 1), (10, .istore 4, 2), (12, .iload_n 3, 1), (13, .iconst 2, 1), (14, .iload_n 2, 1), (15, .imul, 1), (16, .ishr, 1), (17, .iconst 3, 1), (18, .iand, 1), (19, .ifCond .eq 9, 3), (22, .iload 4, 2), (24, .iconst (-1), 1), (25, .if_icmp .ne 6, 3), (28, .ldc 139, 2), (30, .ireturn, 1), (31, .ldc 139, 2), (33, .iload 4, 2)] := bch_ok prog_8_method_19_code _ 0 (by decide +kernel)
theorem d_X6_costWith_0 : decode prog_8_method_19_code 0 = .ok (.aload_n 0, 1) := gd_0 db00b_57
theorem d_X6_costWith_1 : decode prog_8_method_19_code 1 = .ok (.getfield 40, 3) := gd_1 db00b_57
theorem d_X6_costWith_4 : decode prog_8_method_19_code 4 = .ok (.iload_n 1, 1) := gd_2 db00b_57
theorem d_X6_costWith_5 : decode prog_8_method_19_code 5 = .ok (.iconst 4, 1) := gd_3 db00b_57
theorem d_X6_costWith_6 : decode prog_8_method_19_code 6 = .ok (.imul, 1) := gd_4 db00b_57
theorem d_X6_costWith_7 : decode prog_8_method_19_code 7 = .ok (.iload_n 2, 1) := gd_5 db00b_57
theorem d_X6_costWith_8 : decode prog_8_method_19_code 8 = .ok (.iadd, 1) := gd_6 db00b_57
theorem d_X6_costWith_9 : decode prog_8_method_19_code 9 = .ok (.iaload, 1) := gd_7 db00b_57
theorem d_X6_costWith_10 : decode prog_8_method_19_code 10 = .ok (.istore 4, 2) := gd_8 db00b_57
theorem d_X6_costWith_12 : decode prog_8_method_19_code 12 = .ok (.iload_n 3, 1) := gd_9 db00b_57
theorem d_X6_costWith_13 : decode prog_8_method_19_code 13 = .ok (.iconst 2, 1) := gd_10 db00b_57
theorem d_X6_costWith_14 : decode prog_8_method_19_code 14 = .ok (.iload_n 2, 1) := gd_11 db00b_57
theorem d_X6_costWith_15 : decode prog_8_method_19_code 15 = .ok (.imul, 1) := gd_12 db00b_57
theorem d_X6_costWith_16 : decode prog_8_method_19_code 16 = .ok (.ishr, 1) := gd_13 db00b_57
theorem d_X6_costWith_17 : decode prog_8_method_19_code 17 = .ok (.iconst 3, 1) := gd_14 db00b_57
theorem d_X6_costWith_18 : decode prog_8_method_19_code 18 = .ok (.iand, 1) := gd_15 db00b_57
theorem d_X6_costWith_19 : decode prog_8_method_19_code 19 = .ok (.ifCond .eq 9, 3) := gd_16 db00b_57
theorem d_X6_costWith_22 : decode prog_8_method_19_code 22 = .ok (.iload 4, 2) := gd_17 db00b_57
theorem d_X6_costWith_24 : decode prog_8_method_19_code 24 = .ok (.iconst (-1), 1) := gd_18 db00b_57
theorem d_X6_costWith_25 : decode prog_8_method_19_code 25 = .ok (.if_icmp .ne 6, 3) := gd_19 db00b_57
theorem d_X6_costWith_28 : decode prog_8_method_19_code 28 = .ok (.ldc 139, 2) := gd_20 db00b_57
theorem d_X6_costWith_30 : decode prog_8_method_19_code 30 = .ok (.ireturn, 1) := gd_21 db00b_57
theorem d_X6_costWith_31 : decode prog_8_method_19_code 31 = .ok (.ldc 139, 2) := gd_22 db00b_57
theorem d_X6_costWith_33 : decode prog_8_method_19_code 33 = .ok (.iload 4, 2) := gd_23 db00b_57
theorem db00b_58 : Ad_ prog_8_method_19_code [(35, .aload_n 0, 1), (36, .getfield 43, 3), (39, .iload_n 1, 1), (40, .iconst 1, 1), (41, .iadd, 1), (42, .sipush 256, 3), (45, .imul, 1), (46, .iload_n 3, 1), (47, .iadd, 1), (48, .iconst 1, 1), (49, .iconst 2, 1), (50, .iload_n 2, 1), (51, .imul, 1), (52, .ishl, 1), (53, .isub, 1), (54, .iaload, 1), (55, .iadd, 1), (56, .invokestatic 119, 3), (59, .ireturn, 1)] := bch_ok prog_8_method_19_code _ 35 (by decide +kernel)
theorem d_X6_costWith_35 : decode prog_8_method_19_code 35 = .ok (.aload_n 0, 1) := gd_0 db00b_58
theorem d_X6_costWith_36 : decode prog_8_method_19_code 36 = .ok (.getfield 43, 3) := gd_1 db00b_58
theorem d_X6_costWith_39 : decode prog_8_method_19_code 39 = .ok (.iload_n 1, 1) := gd_2 db00b_58
theorem d_X6_costWith_40 : decode prog_8_method_19_code 40 = .ok (.iconst 1, 1) := gd_3 db00b_58
theorem d_X6_costWith_41 : decode prog_8_method_19_code 41 = .ok (.iadd, 1) := gd_4 db00b_58
theorem d_X6_costWith_42 : decode prog_8_method_19_code 42 = .ok (.sipush 256, 3) := gd_5 db00b_58
theorem d_X6_costWith_45 : decode prog_8_method_19_code 45 = .ok (.imul, 1) := gd_6 db00b_58
theorem d_X6_costWith_46 : decode prog_8_method_19_code 46 = .ok (.iload_n 3, 1) := gd_7 db00b_58
theorem d_X6_costWith_47 : decode prog_8_method_19_code 47 = .ok (.iadd, 1) := gd_8 db00b_58
theorem d_X6_costWith_48 : decode prog_8_method_19_code 48 = .ok (.iconst 1, 1) := gd_9 db00b_58
theorem d_X6_costWith_49 : decode prog_8_method_19_code 49 = .ok (.iconst 2, 1) := gd_10 db00b_58
theorem d_X6_costWith_50 : decode prog_8_method_19_code 50 = .ok (.iload_n 2, 1) := gd_11 db00b_58
theorem d_X6_costWith_51 : decode prog_8_method_19_code 51 = .ok (.imul, 1) := gd_12 db00b_58
theorem d_X6_costWith_52 : decode prog_8_method_19_code 52 = .ok (.ishl, 1) := gd_13 db00b_58
theorem d_X6_costWith_53 : decode prog_8_method_19_code 53 = .ok (.isub, 1) := gd_14 db00b_58
theorem d_X6_costWith_54 : decode prog_8_method_19_code 54 = .ok (.iaload, 1) := gd_15 db00b_58
theorem d_X6_costWith_55 : decode prog_8_method_19_code 55 = .ok (.iadd, 1) := gd_16 db00b_58
theorem d_X6_costWith_56 : decode prog_8_method_19_code 56 = .ok (.invokestatic 119, 3) := gd_17 db00b_58
theorem d_X6_costWith_59 : decode prog_8_method_19_code 59 = .ok (.ireturn, 1) := gd_18 db00b_58
theorem db00b_59 : Ad_ prog_8_method_20_code [(0, .aload_n 0, 1), (1, .getfield 43, 3), (4, .iload_n 1, 1), (5, .iconst 1, 1), (6, .iadd, 1), (7, .sipush 256, 3), (10, .imul, 1), (11, .iload_n 2, 1), (12, .iadd, 1), (13, .iaload, 1), (14, .istore_n 3, 1), (15, .iconst 0, 1), (16, .istore 4, 2), (18, .iload 4, 2), (20, .aload_n 0, 1), (21, .getfield 131, 3), (24, .if_icmp .ge 22, 3), (27, .iload_n 3, 1), (28, .aload_n 0, 1), (29, .iload_n 1, 1), (30, .iload 4, 2), (32, .iload_n 2, 1), (33, .invokevirtual 147, 3), (36, .invokestatic 119, 3)] := bch_ok prog_8_method_20_code _ 0 (by decide +kernel)
theorem d_X6_leastCost_0 : decode prog_8_method_20_code 0 = .ok (.aload_n 0, 1) := gd_0 db00b_59
theorem d_X6_leastCost_1 : decode prog_8_method_20_code 1 = .ok (.getfield 43, 3) := gd_1 db00b_59
theorem d_X6_leastCost_4 : decode prog_8_method_20_code 4 = .ok (.iload_n 1, 1) := gd_2 db00b_59
theorem d_X6_leastCost_5 : decode prog_8_method_20_code 5 = .ok (.iconst 1, 1) := gd_3 db00b_59
theorem d_X6_leastCost_6 : decode prog_8_method_20_code 6 = .ok (.iadd, 1) := gd_4 db00b_59
theorem d_X6_leastCost_7 : decode prog_8_method_20_code 7 = .ok (.sipush 256, 3) := gd_5 db00b_59
theorem d_X6_leastCost_10 : decode prog_8_method_20_code 10 = .ok (.imul, 1) := gd_6 db00b_59
theorem d_X6_leastCost_11 : decode prog_8_method_20_code 11 = .ok (.iload_n 2, 1) := gd_7 db00b_59
theorem d_X6_leastCost_12 : decode prog_8_method_20_code 12 = .ok (.iadd, 1) := gd_8 db00b_59
theorem d_X6_leastCost_13 : decode prog_8_method_20_code 13 = .ok (.iaload, 1) := gd_9 db00b_59
theorem d_X6_leastCost_14 : decode prog_8_method_20_code 14 = .ok (.istore_n 3, 1) := gd_10 db00b_59
theorem d_X6_leastCost_15 : decode prog_8_method_20_code 15 = .ok (.iconst 0, 1) := gd_11 db00b_59
theorem d_X6_leastCost_16 : decode prog_8_method_20_code 16 = .ok (.istore 4, 2) := gd_12 db00b_59
theorem d_X6_leastCost_18 : decode prog_8_method_20_code 18 = .ok (.iload 4, 2) := gd_13 db00b_59
theorem d_X6_leastCost_20 : decode prog_8_method_20_code 20 = .ok (.aload_n 0, 1) := gd_14 db00b_59
theorem d_X6_leastCost_21 : decode prog_8_method_20_code 21 = .ok (.getfield 131, 3) := gd_15 db00b_59
theorem d_X6_leastCost_24 : decode prog_8_method_20_code 24 = .ok (.if_icmp .ge 22, 3) := gd_16 db00b_59
theorem d_X6_leastCost_27 : decode prog_8_method_20_code 27 = .ok (.iload_n 3, 1) := gd_17 db00b_59
theorem d_X6_leastCost_28 : decode prog_8_method_20_code 28 = .ok (.aload_n 0, 1) := gd_18 db00b_59
theorem d_X6_leastCost_29 : decode prog_8_method_20_code 29 = .ok (.iload_n 1, 1) := gd_19 db00b_59
theorem d_X6_leastCost_30 : decode prog_8_method_20_code 30 = .ok (.iload 4, 2) := gd_20 db00b_59
theorem d_X6_leastCost_32 : decode prog_8_method_20_code 32 = .ok (.iload_n 2, 1) := gd_21 db00b_59
theorem d_X6_leastCost_33 : decode prog_8_method_20_code 33 = .ok (.invokevirtual 147, 3) := gd_22 db00b_59
theorem d_X6_leastCost_36 : decode prog_8_method_20_code 36 = .ok (.invokestatic 119, 3) := gd_23 db00b_59
theorem db00b_60 : Ad_ prog_8_method_20_code [(39, .istore_n 3, 1), (40, .iinc 4 1, 3), (43, .goto (-25), 3), (46, .iload_n 3, 1), (47, .ireturn, 1)] := bch_ok prog_8_method_20_code _ 39 (by decide +kernel)
theorem d_X6_leastCost_39 : decode prog_8_method_20_code 39 = .ok (.istore_n 3, 1) := gd_0 db00b_60
theorem d_X6_leastCost_40 : decode prog_8_method_20_code 40 = .ok (.iinc 4 1, 3) := gd_1 db00b_60
theorem d_X6_leastCost_43 : decode prog_8_method_20_code 43 = .ok (.goto (-25), 3) := gd_2 db00b_60
theorem d_X6_leastCost_46 : decode prog_8_method_20_code 46 = .ok (.iload_n 3, 1) := gd_3 db00b_60
theorem d_X6_leastCost_47 : decode prog_8_method_20_code 47 = .ok (.ireturn, 1) := gd_4 db00b_60
theorem db00b_61 : Ad_ prog_8_method_21_code [(0, .iload_n 2, 1), (1, .istore_n 3, 1), (2, .iconst 0, 1), (3, .istore 4, 2), (5, .iload 4, 2), (7, .iload_n 1, 1), (8, .if_icmp .ge 116, 3), (11, .aload_n 0, 1), (12, .getfield 46, 3), (15, .iload 4, 2), (17, .iconst (-1), 1), (18, .iastore, 1), (19, .iconst 0, 1), (20, .istore 5, 2), (22, .iload 5, 2), (24, .aload_n 0, 1), (25, .getfield 131, 3), (28, .if_icmp .ge 65, 3), (31, .aload_n 0, 1), (32, .getfield 46, 3), (35, .iload 4, 2), (37, .iaload, 1), (38, .iconst (-1), 1), (39, .if_icmp .ne 54, 3)] := bch_ok prog_8_method_21_code _ 0 (by decide +kernel)
theorem d_X6_traceLending_0 : decode prog_8_method_21_code 0 = .ok (.iload_n 2, 1) := gd_0 db00b_61
theorem d_X6_traceLending_1 : decode prog_8_method_21_code 1 = .ok (.istore_n 3, 1) := gd_1 db00b_61
theorem d_X6_traceLending_2 : decode prog_8_method_21_code 2 = .ok (.iconst 0, 1) := gd_2 db00b_61
theorem d_X6_traceLending_3 : decode prog_8_method_21_code 3 = .ok (.istore 4, 2) := gd_3 db00b_61
theorem d_X6_traceLending_5 : decode prog_8_method_21_code 5 = .ok (.iload 4, 2) := gd_4 db00b_61
theorem d_X6_traceLending_7 : decode prog_8_method_21_code 7 = .ok (.iload_n 1, 1) := gd_5 db00b_61
theorem d_X6_traceLending_8 : decode prog_8_method_21_code 8 = .ok (.if_icmp .ge 116, 3) := gd_6 db00b_61
theorem d_X6_traceLending_11 : decode prog_8_method_21_code 11 = .ok (.aload_n 0, 1) := gd_7 db00b_61
theorem d_X6_traceLending_12 : decode prog_8_method_21_code 12 = .ok (.getfield 46, 3) := gd_8 db00b_61
theorem d_X6_traceLending_15 : decode prog_8_method_21_code 15 = .ok (.iload 4, 2) := gd_9 db00b_61
theorem d_X6_traceLending_17 : decode prog_8_method_21_code 17 = .ok (.iconst (-1), 1) := gd_10 db00b_61
theorem d_X6_traceLending_18 : decode prog_8_method_21_code 18 = .ok (.iastore, 1) := gd_11 db00b_61
theorem d_X6_traceLending_19 : decode prog_8_method_21_code 19 = .ok (.iconst 0, 1) := gd_12 db00b_61
theorem d_X6_traceLending_20 : decode prog_8_method_21_code 20 = .ok (.istore 5, 2) := gd_13 db00b_61
theorem d_X6_traceLending_22 : decode prog_8_method_21_code 22 = .ok (.iload 5, 2) := gd_14 db00b_61
theorem d_X6_traceLending_24 : decode prog_8_method_21_code 24 = .ok (.aload_n 0, 1) := gd_15 db00b_61
theorem d_X6_traceLending_25 : decode prog_8_method_21_code 25 = .ok (.getfield 131, 3) := gd_16 db00b_61
theorem d_X6_traceLending_28 : decode prog_8_method_21_code 28 = .ok (.if_icmp .ge 65, 3) := gd_17 db00b_61
theorem d_X6_traceLending_31 : decode prog_8_method_21_code 31 = .ok (.aload_n 0, 1) := gd_18 db00b_61
theorem d_X6_traceLending_32 : decode prog_8_method_21_code 32 = .ok (.getfield 46, 3) := gd_19 db00b_61
theorem d_X6_traceLending_35 : decode prog_8_method_21_code 35 = .ok (.iload 4, 2) := gd_20 db00b_61
theorem d_X6_traceLending_37 : decode prog_8_method_21_code 37 = .ok (.iaload, 1) := gd_21 db00b_61
theorem d_X6_traceLending_38 : decode prog_8_method_21_code 38 = .ok (.iconst (-1), 1) := gd_22 db00b_61
theorem d_X6_traceLending_39 : decode prog_8_method_21_code 39 = .ok (.if_icmp .ne 54, 3) := gd_23 db00b_61
theorem db00b_62 : Ad_ prog_8_method_21_code [(42, .aload_n 0, 1), (43, .iload 4, 2), (45, .iload 5, 2), (47, .iload_n 3, 1), (48, .invokevirtual 147, 3), (51, .istore 6, 2), (53, .iload 6, 2), (55, .ldc 139, 2), (57, .if_icmp .ge 30, 3), (60, .iload 6, 2), (62, .aload_n 0, 1), (63, .getfield 43, 3), (66, .iload 4, 2), (68, .sipush 256, 3), (71, .imul, 1), (72, .iload_n 3, 1), (73, .iadd, 1), (74, .iaload, 1), (75, .if_icmp .ne 12, 3), (78, .aload_n 0, 1), (79, .getfield 46, 3), (82, .iload 4, 2), (84, .iload 5, 2), (86, .iastore, 1)] := bch_ok prog_8_method_21_code _ 42 (by decide +kernel)
theorem d_X6_traceLending_42 : decode prog_8_method_21_code 42 = .ok (.aload_n 0, 1) := gd_0 db00b_62
theorem d_X6_traceLending_43 : decode prog_8_method_21_code 43 = .ok (.iload 4, 2) := gd_1 db00b_62
theorem d_X6_traceLending_45 : decode prog_8_method_21_code 45 = .ok (.iload 5, 2) := gd_2 db00b_62
theorem d_X6_traceLending_47 : decode prog_8_method_21_code 47 = .ok (.iload_n 3, 1) := gd_3 db00b_62
theorem d_X6_traceLending_48 : decode prog_8_method_21_code 48 = .ok (.invokevirtual 147, 3) := gd_4 db00b_62
theorem d_X6_traceLending_51 : decode prog_8_method_21_code 51 = .ok (.istore 6, 2) := gd_5 db00b_62
theorem d_X6_traceLending_53 : decode prog_8_method_21_code 53 = .ok (.iload 6, 2) := gd_6 db00b_62
theorem d_X6_traceLending_55 : decode prog_8_method_21_code 55 = .ok (.ldc 139, 2) := gd_7 db00b_62
theorem d_X6_traceLending_57 : decode prog_8_method_21_code 57 = .ok (.if_icmp .ge 30, 3) := gd_8 db00b_62
theorem d_X6_traceLending_60 : decode prog_8_method_21_code 60 = .ok (.iload 6, 2) := gd_9 db00b_62
theorem d_X6_traceLending_62 : decode prog_8_method_21_code 62 = .ok (.aload_n 0, 1) := gd_10 db00b_62
theorem d_X6_traceLending_63 : decode prog_8_method_21_code 63 = .ok (.getfield 43, 3) := gd_11 db00b_62
theorem d_X6_traceLending_66 : decode prog_8_method_21_code 66 = .ok (.iload 4, 2) := gd_12 db00b_62
theorem d_X6_traceLending_68 : decode prog_8_method_21_code 68 = .ok (.sipush 256, 3) := gd_13 db00b_62
theorem d_X6_traceLending_71 : decode prog_8_method_21_code 71 = .ok (.imul, 1) := gd_14 db00b_62
theorem d_X6_traceLending_72 : decode prog_8_method_21_code 72 = .ok (.iload_n 3, 1) := gd_15 db00b_62
theorem d_X6_traceLending_73 : decode prog_8_method_21_code 73 = .ok (.iadd, 1) := gd_16 db00b_62
theorem d_X6_traceLending_74 : decode prog_8_method_21_code 74 = .ok (.iaload, 1) := gd_17 db00b_62
theorem d_X6_traceLending_75 : decode prog_8_method_21_code 75 = .ok (.if_icmp .ne 12, 3) := gd_18 db00b_62
theorem d_X6_traceLending_78 : decode prog_8_method_21_code 78 = .ok (.aload_n 0, 1) := gd_19 db00b_62
theorem d_X6_traceLending_79 : decode prog_8_method_21_code 79 = .ok (.getfield 46, 3) := gd_20 db00b_62
theorem d_X6_traceLending_82 : decode prog_8_method_21_code 82 = .ok (.iload 4, 2) := gd_21 db00b_62
theorem d_X6_traceLending_84 : decode prog_8_method_21_code 84 = .ok (.iload 5, 2) := gd_22 db00b_62
theorem d_X6_traceLending_86 : decode prog_8_method_21_code 86 = .ok (.iastore, 1) := gd_23 db00b_62
theorem db00b_63 : Ad_ prog_8_method_21_code [(87, .iinc 5 1, 3), (90, .goto (-68), 3), (93, .aload_n 0, 1), (94, .getfield 46, 3), (97, .iload 4, 2), (99, .iaload, 1), (100, .iconst (-1), 1), (101, .if_icmp .eq 17, 3), (104, .iload_n 3, 1), (105, .iconst 1, 1), (106, .iconst 2, 1), (107, .aload_n 0, 1), (108, .getfield 46, 3), (111, .iload 4, 2), (113, .iaload, 1), (114, .imul, 1), (115, .ishl, 1), (116, .isub, 1), (117, .istore_n 3, 1), (118, .iinc 4 1, 3), (121, .goto (-116), 3), (124, .return_, 1)] := bch_ok prog_8_method_21_code _ 87 (by decide +kernel)
theorem d_X6_traceLending_87 : decode prog_8_method_21_code 87 = .ok (.iinc 5 1, 3) := gd_0 db00b_63
theorem d_X6_traceLending_90 : decode prog_8_method_21_code 90 = .ok (.goto (-68), 3) := gd_1 db00b_63
theorem d_X6_traceLending_93 : decode prog_8_method_21_code 93 = .ok (.aload_n 0, 1) := gd_2 db00b_63
theorem d_X6_traceLending_94 : decode prog_8_method_21_code 94 = .ok (.getfield 46, 3) := gd_3 db00b_63
theorem d_X6_traceLending_97 : decode prog_8_method_21_code 97 = .ok (.iload 4, 2) := gd_4 db00b_63
theorem d_X6_traceLending_99 : decode prog_8_method_21_code 99 = .ok (.iaload, 1) := gd_5 db00b_63
theorem d_X6_traceLending_100 : decode prog_8_method_21_code 100 = .ok (.iconst (-1), 1) := gd_6 db00b_63
theorem d_X6_traceLending_101 : decode prog_8_method_21_code 101 = .ok (.if_icmp .eq 17, 3) := gd_7 db00b_63
theorem d_X6_traceLending_104 : decode prog_8_method_21_code 104 = .ok (.iload_n 3, 1) := gd_8 db00b_63
theorem d_X6_traceLending_105 : decode prog_8_method_21_code 105 = .ok (.iconst 1, 1) := gd_9 db00b_63
theorem d_X6_traceLending_106 : decode prog_8_method_21_code 106 = .ok (.iconst 2, 1) := gd_10 db00b_63
theorem d_X6_traceLending_107 : decode prog_8_method_21_code 107 = .ok (.aload_n 0, 1) := gd_11 db00b_63
theorem d_X6_traceLending_108 : decode prog_8_method_21_code 108 = .ok (.getfield 46, 3) := gd_12 db00b_63
theorem d_X6_traceLending_111 : decode prog_8_method_21_code 111 = .ok (.iload 4, 2) := gd_13 db00b_63
theorem d_X6_traceLending_113 : decode prog_8_method_21_code 113 = .ok (.iaload, 1) := gd_14 db00b_63
theorem d_X6_traceLending_114 : decode prog_8_method_21_code 114 = .ok (.imul, 1) := gd_15 db00b_63
theorem d_X6_traceLending_115 : decode prog_8_method_21_code 115 = .ok (.ishl, 1) := gd_16 db00b_63
theorem d_X6_traceLending_116 : decode prog_8_method_21_code 116 = .ok (.isub, 1) := gd_17 db00b_63
theorem d_X6_traceLending_117 : decode prog_8_method_21_code 117 = .ok (.istore_n 3, 1) := gd_18 db00b_63
theorem d_X6_traceLending_118 : decode prog_8_method_21_code 118 = .ok (.iinc 4 1, 3) := gd_19 db00b_63
theorem d_X6_traceLending_121 : decode prog_8_method_21_code 121 = .ok (.goto (-116), 3) := gd_20 db00b_63
theorem d_X6_traceLending_124 : decode prog_8_method_21_code 124 = .ok (.return_, 1) := gd_21 db00b_63
theorem db00b_64 : Ad_ prog_8_method_22_code [(0, .aload_n 0, 1), (1, .getfield 43, 3), (4, .aload_n 0, 1), (5, .invokevirtual 135, 3), (8, .iaload, 1), (9, .ldc 134, 2), (11, .idiv, 1), (12, .ireturn, 1)] := bch_ok prog_8_method_22_code _ 0 (by decide +kernel)
theorem d_X6_pointsLost_0 : decode prog_8_method_22_code 0 = .ok (.aload_n 0, 1) := gd_0 db00b_64
theorem d_X6_pointsLost_1 : decode prog_8_method_22_code 1 = .ok (.getfield 43, 3) := gd_1 db00b_64
theorem d_X6_pointsLost_4 : decode prog_8_method_22_code 4 = .ok (.aload_n 0, 1) := gd_2 db00b_64
theorem d_X6_pointsLost_5 : decode prog_8_method_22_code 5 = .ok (.invokevirtual 135, 3) := gd_3 db00b_64
theorem d_X6_pointsLost_8 : decode prog_8_method_22_code 8 = .ok (.iaload, 1) := gd_4 db00b_64
theorem d_X6_pointsLost_9 : decode prog_8_method_22_code 9 = .ok (.ldc 134, 2) := gd_5 db00b_64
theorem d_X6_pointsLost_11 : decode prog_8_method_22_code 11 = .ok (.idiv, 1) := gd_6 db00b_64
theorem d_X6_pointsLost_12 : decode prog_8_method_22_code 12 = .ok (.ireturn, 1) := gd_7 db00b_64
theorem db00b_65 : Ad_ prog_8_method_23_code [(0, .aload_n 0, 1), (1, .getfield 43, 3), (4, .aload_n 0, 1), (5, .invokevirtual 135, 3), (8, .iaload, 1), (9, .ldc 134, 2), (11, .irem, 1), (12, .ireturn, 1)] := bch_ok prog_8_method_23_code _ 0 (by decide +kernel)
theorem d_X6_minutesWalked_0 : decode prog_8_method_23_code 0 = .ok (.aload_n 0, 1) := gd_0 db00b_65
theorem d_X6_minutesWalked_1 : decode prog_8_method_23_code 1 = .ok (.getfield 43, 3) := gd_1 db00b_65
theorem d_X6_minutesWalked_4 : decode prog_8_method_23_code 4 = .ok (.aload_n 0, 1) := gd_2 db00b_65
theorem d_X6_minutesWalked_5 : decode prog_8_method_23_code 5 = .ok (.invokevirtual 135, 3) := gd_3 db00b_65
theorem d_X6_minutesWalked_8 : decode prog_8_method_23_code 8 = .ok (.iaload, 1) := gd_4 db00b_65
theorem d_X6_minutesWalked_9 : decode prog_8_method_23_code 9 = .ok (.ldc 134, 2) := gd_5 db00b_65
theorem d_X6_minutesWalked_11 : decode prog_8_method_23_code 11 = .ok (.irem, 1) := gd_6 db00b_65
theorem d_X6_minutesWalked_12 : decode prog_8_method_23_code 12 = .ok (.ireturn, 1) := gd_7 db00b_65
theorem db00b_66 : Ad_ prog_8_method_24_code [(0, .iload_n 1, 1), (1, .iconst 0, 1), (2, .bipush 11, 2), (4, .invokestatic 79, 3), (7, .ifCond .eq 12, 3), (10, .aload_n 0, 1), (11, .getfield 46, 3), (14, .iload_n 1, 1), (15, .iaload, 1), (16, .goto 4, 3), (19, .iconst (-1), 1), (20, .ireturn, 1)] := bch_ok prog_8_method_24_code _ 0 (by decide +kernel)
theorem d_X6_fairOf_0 : decode prog_8_method_24_code 0 = .ok (.iload_n 1, 1) := gd_0 db00b_66
theorem d_X6_fairOf_1 : decode prog_8_method_24_code 1 = .ok (.iconst 0, 1) := gd_1 db00b_66
theorem d_X6_fairOf_2 : decode prog_8_method_24_code 2 = .ok (.bipush 11, 2) := gd_2 db00b_66
theorem d_X6_fairOf_4 : decode prog_8_method_24_code 4 = .ok (.invokestatic 79, 3) := gd_3 db00b_66
theorem d_X6_fairOf_7 : decode prog_8_method_24_code 7 = .ok (.ifCond .eq 12, 3) := gd_4 db00b_66
theorem d_X6_fairOf_10 : decode prog_8_method_24_code 10 = .ok (.aload_n 0, 1) := gd_5 db00b_66
theorem d_X6_fairOf_11 : decode prog_8_method_24_code 11 = .ok (.getfield 46, 3) := gd_6 db00b_66
theorem d_X6_fairOf_14 : decode prog_8_method_24_code 14 = .ok (.iload_n 1, 1) := gd_7 db00b_66
theorem d_X6_fairOf_15 : decode prog_8_method_24_code 15 = .ok (.iaload, 1) := gd_8 db00b_66
theorem d_X6_fairOf_16 : decode prog_8_method_24_code 16 = .ok (.goto 4, 3) := gd_9 db00b_66
theorem d_X6_fairOf_19 : decode prog_8_method_24_code 19 = .ok (.iconst (-1), 1) := gd_10 db00b_66
theorem d_X6_fairOf_20 : decode prog_8_method_24_code 20 = .ok (.ireturn, 1) := gd_11 db00b_66
theorem d_X7_init_8 : decode prog_9_method_1_code 8 = .ok (.newarray .int, 2) := by decide +kernel
theorem d_X7_init_17 : decode prog_9_method_1_code 17 = .ok (.newarray .int, 2) := by decide +kernel
theorem d_X7_init_26 : decode prog_9_method_1_code 26 = .ok (.newarray .int, 2) := by decide +kernel
theorem d_X7_init_35 : decode prog_9_method_1_code 35 = .ok (.newarray .int, 2) := by decide +kernel
theorem d_X7_init_44 : decode prog_9_method_1_code 44 = .ok (.newarray .int, 2) := by decide +kernel
theorem d_X7_init_53 : decode prog_9_method_1_code 53 = .ok (.newarray .int, 2) := by decide +kernel
theorem d_X7_init_62 : decode prog_9_method_1_code 62 = .ok (.newarray .int, 2) := by decide +kernel
theorem db00b_67 : Ad_ prog_9_method_1_code [(0, .aload_n 0, 1), (1, .invokespecial 3, 3), (4, .aload_n 0, 1), (5, .sipush 400, 3), (10, .putfield 11, 3), (13, .aload_n 0, 1), (14, .sipush 400, 3), (19, .putfield 15, 3), (22, .aload_n 0, 1), (23, .sipush 400, 3), (28, .putfield 18, 3), (31, .aload_n 0, 1), (32, .sipush 400, 3), (37, .putfield 21, 3), (40, .aload_n 0, 1), (41, .sipush 400, 3), (46, .putfield 24, 3), (49, .aload_n 0, 1), (50, .sipush 400, 3), (55, .putfield 27, 3), (58, .aload_n 0, 1), (59, .sipush 400, 3), (64, .putfield 30, 3), (67, .aload_n 0, 1)] := bch_ok prog_9_method_1_code _ 0 (by decide +kernel)
theorem d_X7_init_0 : decode prog_9_method_1_code 0 = .ok (.aload_n 0, 1) := gd_0 db00b_67
theorem d_X7_init_1 : decode prog_9_method_1_code 1 = .ok (.invokespecial 3, 3) := gd_1 db00b_67
theorem d_X7_init_4 : decode prog_9_method_1_code 4 = .ok (.aload_n 0, 1) := gd_2 db00b_67
theorem d_X7_init_5 : decode prog_9_method_1_code 5 = .ok (.sipush 400, 3) := gd_3 db00b_67
theorem d_X7_init_10 : decode prog_9_method_1_code 10 = .ok (.putfield 11, 3) := gd_4 db00b_67
theorem d_X7_init_13 : decode prog_9_method_1_code 13 = .ok (.aload_n 0, 1) := gd_5 db00b_67
theorem d_X7_init_14 : decode prog_9_method_1_code 14 = .ok (.sipush 400, 3) := gd_6 db00b_67
theorem d_X7_init_19 : decode prog_9_method_1_code 19 = .ok (.putfield 15, 3) := gd_7 db00b_67
theorem d_X7_init_22 : decode prog_9_method_1_code 22 = .ok (.aload_n 0, 1) := gd_8 db00b_67
theorem d_X7_init_23 : decode prog_9_method_1_code 23 = .ok (.sipush 400, 3) := gd_9 db00b_67
theorem d_X7_init_28 : decode prog_9_method_1_code 28 = .ok (.putfield 18, 3) := gd_10 db00b_67
theorem d_X7_init_31 : decode prog_9_method_1_code 31 = .ok (.aload_n 0, 1) := gd_11 db00b_67
theorem d_X7_init_32 : decode prog_9_method_1_code 32 = .ok (.sipush 400, 3) := gd_12 db00b_67
theorem d_X7_init_37 : decode prog_9_method_1_code 37 = .ok (.putfield 21, 3) := gd_13 db00b_67
theorem d_X7_init_40 : decode prog_9_method_1_code 40 = .ok (.aload_n 0, 1) := gd_14 db00b_67
theorem d_X7_init_41 : decode prog_9_method_1_code 41 = .ok (.sipush 400, 3) := gd_15 db00b_67
theorem d_X7_init_46 : decode prog_9_method_1_code 46 = .ok (.putfield 24, 3) := gd_16 db00b_67
theorem d_X7_init_49 : decode prog_9_method_1_code 49 = .ok (.aload_n 0, 1) := gd_17 db00b_67
theorem d_X7_init_50 : decode prog_9_method_1_code 50 = .ok (.sipush 400, 3) := gd_18 db00b_67
theorem d_X7_init_55 : decode prog_9_method_1_code 55 = .ok (.putfield 27, 3) := gd_19 db00b_67
theorem d_X7_init_58 : decode prog_9_method_1_code 58 = .ok (.aload_n 0, 1) := gd_20 db00b_67
theorem d_X7_init_59 : decode prog_9_method_1_code 59 = .ok (.sipush 400, 3) := gd_21 db00b_67
theorem d_X7_init_64 : decode prog_9_method_1_code 64 = .ok (.putfield 30, 3) := gd_22 db00b_67
theorem d_X7_init_67 : decode prog_9_method_1_code 67 = .ok (.aload_n 0, 1) := gd_23 db00b_67
theorem d_X7_init_71 : decode prog_9_method_1_code 71 = .ok (.newarray .int, 2) := by decide +kernel
theorem d_X7_init_80 : decode prog_9_method_1_code 80 = .ok (.newarray .int, 2) := by decide +kernel
theorem d_X7_init_89 : decode prog_9_method_1_code 89 = .ok (.newarray .int, 2) := by decide +kernel
theorem db00b_68 : Ad_ prog_9_method_1_code [(68, .sipush 200, 3), (73, .putfield 33, 3), (76, .aload_n 0, 1), (77, .sipush 200, 3), (82, .putfield 36, 3), (85, .aload_n 0, 1), (86, .sipush 200, 3), (91, .putfield 39, 3), (94, .return_, 1)] := bch_ok prog_9_method_1_code _ 68 (by decide +kernel)
theorem d_X7_init_68 : decode prog_9_method_1_code 68 = .ok (.sipush 200, 3) := gd_0 db00b_68
theorem d_X7_init_73 : decode prog_9_method_1_code 73 = .ok (.putfield 33, 3) := gd_1 db00b_68
theorem d_X7_init_76 : decode prog_9_method_1_code 76 = .ok (.aload_n 0, 1) := gd_2 db00b_68
theorem d_X7_init_77 : decode prog_9_method_1_code 77 = .ok (.sipush 200, 3) := gd_3 db00b_68
theorem d_X7_init_82 : decode prog_9_method_1_code 82 = .ok (.putfield 36, 3) := gd_4 db00b_68
theorem d_X7_init_85 : decode prog_9_method_1_code 85 = .ok (.aload_n 0, 1) := gd_5 db00b_68
theorem d_X7_init_86 : decode prog_9_method_1_code 86 = .ok (.sipush 200, 3) := gd_6 db00b_68
theorem d_X7_init_91 : decode prog_9_method_1_code 91 = .ok (.putfield 39, 3) := gd_7 db00b_68
theorem d_X7_init_94 : decode prog_9_method_1_code 94 = .ok (.return_, 1) := gd_8 db00b_68
theorem db00b_69 : Ad_ prog_9_method_2_code [(0, .iload_n 1, 1), (1, .ifCond .lt 15, 3), (4, .iload_n 1, 1), (5, .aload_n 0, 1), (6, .getfield 42, 3), (9, .if_icmp .ge 7, 3), (12, .iconst 1, 1), (13, .goto 4, 3), (16, .iconst 0, 1), (17, .ireturn, 1)] := bch_ok prog_9_method_2_code _ 0 (by decide +kernel)
theorem d_X7_has_0 : decode prog_9_method_2_code 0 = .ok (.iload_n 1, 1) := gd_0 db00b_69
theorem d_X7_has_1 : decode prog_9_method_2_code 1 = .ok (.ifCond .lt 15, 3) := gd_1 db00b_69
theorem d_X7_has_4 : decode prog_9_method_2_code 4 = .ok (.iload_n 1, 1) := gd_2 db00b_69
theorem d_X7_has_5 : decode prog_9_method_2_code 5 = .ok (.aload_n 0, 1) := gd_3 db00b_69
theorem d_X7_has_6 : decode prog_9_method_2_code 6 = .ok (.getfield 42, 3) := gd_4 db00b_69
theorem d_X7_has_9 : decode prog_9_method_2_code 9 = .ok (.if_icmp .ge 7, 3) := gd_5 db00b_69
theorem d_X7_has_12 : decode prog_9_method_2_code 12 = .ok (.iconst 1, 1) := gd_6 db00b_69
theorem d_X7_has_13 : decode prog_9_method_2_code 13 = .ok (.goto 4, 3) := gd_7 db00b_69
theorem d_X7_has_16 : decode prog_9_method_2_code 16 = .ok (.iconst 0, 1) := gd_8 db00b_69
theorem d_X7_has_17 : decode prog_9_method_2_code 17 = .ok (.ireturn, 1) := gd_9 db00b_69
theorem db00b_70 : Ad_ prog_9_method_3_code [(0, .aload_n 0, 1), (1, .getfield 42, 3), (4, .iload_n 1, 1), (5, .iadd, 1), (6, .sipush 400, 3), (9, .if_icmp .gt 7, 3), (12, .iconst 1, 1), (13, .goto 4, 3), (16, .iconst 0, 1), (17, .ireturn, 1)] := bch_ok prog_9_method_3_code _ 0 (by decide +kernel)
theorem d_X7_hasRoom_0 : decode prog_9_method_3_code 0 = .ok (.aload_n 0, 1) := gd_0 db00b_70
theorem d_X7_hasRoom_1 : decode prog_9_method_3_code 1 = .ok (.getfield 42, 3) := gd_1 db00b_70
theorem d_X7_hasRoom_4 : decode prog_9_method_3_code 4 = .ok (.iload_n 1, 1) := gd_2 db00b_70
theorem d_X7_hasRoom_5 : decode prog_9_method_3_code 5 = .ok (.iadd, 1) := gd_3 db00b_70
theorem d_X7_hasRoom_6 : decode prog_9_method_3_code 6 = .ok (.sipush 400, 3) := gd_4 db00b_70
theorem d_X7_hasRoom_9 : decode prog_9_method_3_code 9 = .ok (.if_icmp .gt 7, 3) := gd_5 db00b_70
theorem d_X7_hasRoom_12 : decode prog_9_method_3_code 12 = .ok (.iconst 1, 1) := gd_6 db00b_70
theorem d_X7_hasRoom_13 : decode prog_9_method_3_code 13 = .ok (.goto 4, 3) := gd_7 db00b_70
theorem d_X7_hasRoom_16 : decode prog_9_method_3_code 16 = .ok (.iconst 0, 1) := gd_8 db00b_70
theorem d_X7_hasRoom_17 : decode prog_9_method_3_code 17 = .ok (.ireturn, 1) := gd_9 db00b_70
theorem db00b_71 : Ad_ prog_9_method_4_code [(0, .aload_n 0, 1), (1, .getfield 42, 3), (4, .sipush 400, 3), (7, .if_icmp .ge 54, 3), (10, .aload_n 0, 1), (11, .getfield 11, 3), (14, .aload_n 0, 1), (15, .getfield 42, 3), (18, .iload_n 1, 1), (19, .iastore, 1), (20, .aload_n 0, 1), (21, .getfield 15, 3), (24, .aload_n 0, 1), (25, .getfield 42, 3), (28, .iload_n 2, 1), (29, .iastore, 1), (30, .aload_n 0, 1), (31, .getfield 18, 3), (34, .aload_n 0, 1), (35, .getfield 42, 3), (38, .iload_n 3, 1), (39, .iastore, 1), (40, .aload_n 0, 1), (41, .getfield 21, 3)] := bch_ok prog_9_method_4_code _ 0 (by decide +kernel)
theorem d_X7_write_0 : decode prog_9_method_4_code 0 = .ok (.aload_n 0, 1) := gd_0 db00b_71
theorem d_X7_write_1 : decode prog_9_method_4_code 1 = .ok (.getfield 42, 3) := gd_1 db00b_71
theorem d_X7_write_4 : decode prog_9_method_4_code 4 = .ok (.sipush 400, 3) := gd_2 db00b_71
theorem d_X7_write_7 : decode prog_9_method_4_code 7 = .ok (.if_icmp .ge 54, 3) := gd_3 db00b_71
theorem d_X7_write_10 : decode prog_9_method_4_code 10 = .ok (.aload_n 0, 1) := gd_4 db00b_71
theorem d_X7_write_11 : decode prog_9_method_4_code 11 = .ok (.getfield 11, 3) := gd_5 db00b_71
theorem d_X7_write_14 : decode prog_9_method_4_code 14 = .ok (.aload_n 0, 1) := gd_6 db00b_71
theorem d_X7_write_15 : decode prog_9_method_4_code 15 = .ok (.getfield 42, 3) := gd_7 db00b_71
theorem d_X7_write_18 : decode prog_9_method_4_code 18 = .ok (.iload_n 1, 1) := gd_8 db00b_71
theorem d_X7_write_19 : decode prog_9_method_4_code 19 = .ok (.iastore, 1) := gd_9 db00b_71
theorem d_X7_write_20 : decode prog_9_method_4_code 20 = .ok (.aload_n 0, 1) := gd_10 db00b_71
theorem d_X7_write_21 : decode prog_9_method_4_code 21 = .ok (.getfield 15, 3) := gd_11 db00b_71
theorem d_X7_write_24 : decode prog_9_method_4_code 24 = .ok (.aload_n 0, 1) := gd_12 db00b_71
theorem d_X7_write_25 : decode prog_9_method_4_code 25 = .ok (.getfield 42, 3) := gd_13 db00b_71
theorem d_X7_write_28 : decode prog_9_method_4_code 28 = .ok (.iload_n 2, 1) := gd_14 db00b_71
theorem d_X7_write_29 : decode prog_9_method_4_code 29 = .ok (.iastore, 1) := gd_15 db00b_71
theorem d_X7_write_30 : decode prog_9_method_4_code 30 = .ok (.aload_n 0, 1) := gd_16 db00b_71
theorem d_X7_write_31 : decode prog_9_method_4_code 31 = .ok (.getfield 18, 3) := gd_17 db00b_71
theorem d_X7_write_34 : decode prog_9_method_4_code 34 = .ok (.aload_n 0, 1) := gd_18 db00b_71
theorem d_X7_write_35 : decode prog_9_method_4_code 35 = .ok (.getfield 42, 3) := gd_19 db00b_71
theorem d_X7_write_38 : decode prog_9_method_4_code 38 = .ok (.iload_n 3, 1) := gd_20 db00b_71
theorem d_X7_write_39 : decode prog_9_method_4_code 39 = .ok (.iastore, 1) := gd_21 db00b_71
theorem d_X7_write_40 : decode prog_9_method_4_code 40 = .ok (.aload_n 0, 1) := gd_22 db00b_71
theorem d_X7_write_41 : decode prog_9_method_4_code 41 = .ok (.getfield 21, 3) := gd_23 db00b_71
theorem db00b_72 : Ad_ prog_9_method_4_code [(44, .aload_n 0, 1), (45, .getfield 42, 3), (48, .iload 4, 2), (50, .iastore, 1), (51, .aload_n 0, 1), (52, .dup, 1), (53, .getfield 42, 3), (56, .iconst 1, 1), (57, .iadd, 1), (58, .putfield 42, 3), (61, .return_, 1)] := bch_ok prog_9_method_4_code _ 44 (by decide +kernel)
theorem d_X7_write_44 : decode prog_9_method_4_code 44 = .ok (.aload_n 0, 1) := gd_0 db00b_72
theorem d_X7_write_45 : decode prog_9_method_4_code 45 = .ok (.getfield 42, 3) := gd_1 db00b_72
theorem d_X7_write_48 : decode prog_9_method_4_code 48 = .ok (.iload 4, 2) := gd_2 db00b_72
theorem d_X7_write_50 : decode prog_9_method_4_code 50 = .ok (.iastore, 1) := gd_3 db00b_72
theorem d_X7_write_51 : decode prog_9_method_4_code 51 = .ok (.aload_n 0, 1) := gd_4 db00b_72
theorem d_X7_write_52 : decode prog_9_method_4_code 52 = .ok (.dup, 1) := gd_5 db00b_72
theorem d_X7_write_53 : decode prog_9_method_4_code 53 = .ok (.getfield 42, 3) := gd_6 db00b_72
theorem d_X7_write_56 : decode prog_9_method_4_code 56 = .ok (.iconst 1, 1) := gd_7 db00b_72
theorem d_X7_write_57 : decode prog_9_method_4_code 57 = .ok (.iadd, 1) := gd_8 db00b_72
theorem d_X7_write_58 : decode prog_9_method_4_code 58 = .ok (.putfield 42, 3) := gd_9 db00b_72
theorem d_X7_write_61 : decode prog_9_method_4_code 61 = .ok (.return_, 1) := gd_10 db00b_72
theorem db00b_73 : Ad_ prog_9_method_5_code [(0, .iload_n 1, 1), (1, .ifCond .lt 33, 3), (4, .iload_n 1, 1), (5, .aload_n 0, 1), (6, .getfield 42, 3), (9, .if_icmp .ge 25, 3), (12, .aload_n 0, 1), (13, .getfield 24, 3), (16, .iload_n 1, 1), (17, .iload_n 2, 1), (18, .iastore, 1), (19, .aload_n 0, 1), (20, .getfield 30, 3), (23, .iload_n 1, 1), (24, .iload_n 3, 1), (25, .iastore, 1), (26, .aload_n 0, 1), (27, .getfield 27, 3), (30, .iload_n 1, 1), (31, .iload 4, 2), (33, .iastore, 1), (34, .return_, 1)] := bch_ok prog_9_method_5_code _ 0 (by decide +kernel)
theorem d_X7_settle_0 : decode prog_9_method_5_code 0 = .ok (.iload_n 1, 1) := gd_0 db00b_73
theorem d_X7_settle_1 : decode prog_9_method_5_code 1 = .ok (.ifCond .lt 33, 3) := gd_1 db00b_73
theorem d_X7_settle_4 : decode prog_9_method_5_code 4 = .ok (.iload_n 1, 1) := gd_2 db00b_73
theorem d_X7_settle_5 : decode prog_9_method_5_code 5 = .ok (.aload_n 0, 1) := gd_3 db00b_73
theorem d_X7_settle_6 : decode prog_9_method_5_code 6 = .ok (.getfield 42, 3) := gd_4 db00b_73
theorem d_X7_settle_9 : decode prog_9_method_5_code 9 = .ok (.if_icmp .ge 25, 3) := gd_5 db00b_73
theorem d_X7_settle_12 : decode prog_9_method_5_code 12 = .ok (.aload_n 0, 1) := gd_6 db00b_73
theorem d_X7_settle_13 : decode prog_9_method_5_code 13 = .ok (.getfield 24, 3) := gd_7 db00b_73
theorem d_X7_settle_16 : decode prog_9_method_5_code 16 = .ok (.iload_n 1, 1) := gd_8 db00b_73
theorem d_X7_settle_17 : decode prog_9_method_5_code 17 = .ok (.iload_n 2, 1) := gd_9 db00b_73
theorem d_X7_settle_18 : decode prog_9_method_5_code 18 = .ok (.iastore, 1) := gd_10 db00b_73
theorem d_X7_settle_19 : decode prog_9_method_5_code 19 = .ok (.aload_n 0, 1) := gd_11 db00b_73
theorem d_X7_settle_20 : decode prog_9_method_5_code 20 = .ok (.getfield 30, 3) := gd_12 db00b_73
theorem d_X7_settle_23 : decode prog_9_method_5_code 23 = .ok (.iload_n 1, 1) := gd_13 db00b_73
theorem d_X7_settle_24 : decode prog_9_method_5_code 24 = .ok (.iload_n 3, 1) := gd_14 db00b_73
theorem d_X7_settle_25 : decode prog_9_method_5_code 25 = .ok (.iastore, 1) := gd_15 db00b_73
theorem d_X7_settle_26 : decode prog_9_method_5_code 26 = .ok (.aload_n 0, 1) := gd_16 db00b_73
theorem d_X7_settle_27 : decode prog_9_method_5_code 27 = .ok (.getfield 27, 3) := gd_17 db00b_73
theorem d_X7_settle_30 : decode prog_9_method_5_code 30 = .ok (.iload_n 1, 1) := gd_18 db00b_73
theorem d_X7_settle_31 : decode prog_9_method_5_code 31 = .ok (.iload 4, 2) := gd_19 db00b_73
theorem d_X7_settle_33 : decode prog_9_method_5_code 33 = .ok (.iastore, 1) := gd_20 db00b_73
theorem d_X7_settle_34 : decode prog_9_method_5_code 34 = .ok (.return_, 1) := gd_21 db00b_73
theorem db00b_74 : Ad_ prog_9_method_6_code [(0, .aload_n 0, 1), (1, .getfield 24, 3), (4, .iload_n 1, 1), (5, .iaload, 1), (6, .ifCond .eq 22, 3), (9, .aload_n 0, 1), (10, .getfield 27, 3), (13, .iload_n 1, 1), (14, .iaload, 1), (15, .iload_n 2, 1), (16, .if_icmp .gt 12, 3), (19, .aload_n 0, 1), (20, .getfield 24, 3), (23, .iload_n 1, 1), (24, .iaload, 1), (25, .goto 4, 3), (28, .iconst 0, 1), (29, .ireturn, 1)] := bch_ok prog_9_method_6_code _ 0 (by decide +kernel)
theorem d_X7_outcomeAt_0 : decode prog_9_method_6_code 0 = .ok (.aload_n 0, 1) := gd_0 db00b_74
theorem d_X7_outcomeAt_1 : decode prog_9_method_6_code 1 = .ok (.getfield 24, 3) := gd_1 db00b_74
theorem d_X7_outcomeAt_4 : decode prog_9_method_6_code 4 = .ok (.iload_n 1, 1) := gd_2 db00b_74
theorem d_X7_outcomeAt_5 : decode prog_9_method_6_code 5 = .ok (.iaload, 1) := gd_3 db00b_74
theorem d_X7_outcomeAt_6 : decode prog_9_method_6_code 6 = .ok (.ifCond .eq 22, 3) := gd_4 db00b_74
theorem d_X7_outcomeAt_9 : decode prog_9_method_6_code 9 = .ok (.aload_n 0, 1) := gd_5 db00b_74
theorem d_X7_outcomeAt_10 : decode prog_9_method_6_code 10 = .ok (.getfield 27, 3) := gd_6 db00b_74
theorem d_X7_outcomeAt_13 : decode prog_9_method_6_code 13 = .ok (.iload_n 1, 1) := gd_7 db00b_74
theorem d_X7_outcomeAt_14 : decode prog_9_method_6_code 14 = .ok (.iaload, 1) := gd_8 db00b_74
theorem d_X7_outcomeAt_15 : decode prog_9_method_6_code 15 = .ok (.iload_n 2, 1) := gd_9 db00b_74
theorem d_X7_outcomeAt_16 : decode prog_9_method_6_code 16 = .ok (.if_icmp .gt 12, 3) := gd_10 db00b_74
theorem d_X7_outcomeAt_19 : decode prog_9_method_6_code 19 = .ok (.aload_n 0, 1) := gd_11 db00b_74
theorem d_X7_outcomeAt_20 : decode prog_9_method_6_code 20 = .ok (.getfield 24, 3) := gd_12 db00b_74
theorem d_X7_outcomeAt_23 : decode prog_9_method_6_code 23 = .ok (.iload_n 1, 1) := gd_13 db00b_74
theorem d_X7_outcomeAt_24 : decode prog_9_method_6_code 24 = .ok (.iaload, 1) := gd_14 db00b_74
theorem d_X7_outcomeAt_25 : decode prog_9_method_6_code 25 = .ok (.goto 4, 3) := gd_15 db00b_74
theorem d_X7_outcomeAt_28 : decode prog_9_method_6_code 28 = .ok (.iconst 0, 1) := gd_16 db00b_74
theorem d_X7_outcomeAt_29 : decode prog_9_method_6_code 29 = .ok (.ireturn, 1) := gd_17 db00b_74
theorem db00b_75 : Ad_ prog_9_method_7_code [(0, .aload_n 0, 1), (1, .iload_n 1, 1), (2, .iload_n 2, 1), (3, .invokevirtual 46, 3), (6, .iconst 2, 1), (7, .if_icmp .eq 5, 3), (10, .iconst (-1), 1), (11, .ireturn, 1), (12, .aload_n 0, 1), (13, .getfield 30, 3), (16, .iload_n 1, 1), (17, .iaload, 1), (18, .istore_n 3, 1), (19, .iconst 0, 1), (20, .istore 4, 2), (22, .iload 4, 2), (24, .aload_n 0, 1), (25, .getfield 50, 3), (28, .if_icmp .ge 39, 3), (31, .aload_n 0, 1), (32, .getfield 33, 3), (35, .iload 4, 2), (37, .iaload, 1), (38, .iload_n 1, 1)] := bch_ok prog_9_method_7_code _ 0 (by decide +kernel)
theorem d_X7_causeAt_0 : decode prog_9_method_7_code 0 = .ok (.aload_n 0, 1) := gd_0 db00b_75
theorem d_X7_causeAt_1 : decode prog_9_method_7_code 1 = .ok (.iload_n 1, 1) := gd_1 db00b_75
theorem d_X7_causeAt_2 : decode prog_9_method_7_code 2 = .ok (.iload_n 2, 1) := gd_2 db00b_75
theorem d_X7_causeAt_3 : decode prog_9_method_7_code 3 = .ok (.invokevirtual 46, 3) := gd_3 db00b_75
theorem d_X7_causeAt_6 : decode prog_9_method_7_code 6 = .ok (.iconst 2, 1) := gd_4 db00b_75
theorem d_X7_causeAt_7 : decode prog_9_method_7_code 7 = .ok (.if_icmp .eq 5, 3) := gd_5 db00b_75
theorem d_X7_causeAt_10 : decode prog_9_method_7_code 10 = .ok (.iconst (-1), 1) := gd_6 db00b_75
theorem d_X7_causeAt_11 : decode prog_9_method_7_code 11 = .ok (.ireturn, 1) := gd_7 db00b_75
theorem d_X7_causeAt_12 : decode prog_9_method_7_code 12 = .ok (.aload_n 0, 1) := gd_8 db00b_75
theorem d_X7_causeAt_13 : decode prog_9_method_7_code 13 = .ok (.getfield 30, 3) := gd_9 db00b_75
theorem d_X7_causeAt_16 : decode prog_9_method_7_code 16 = .ok (.iload_n 1, 1) := gd_10 db00b_75
theorem d_X7_causeAt_17 : decode prog_9_method_7_code 17 = .ok (.iaload, 1) := gd_11 db00b_75
theorem d_X7_causeAt_18 : decode prog_9_method_7_code 18 = .ok (.istore_n 3, 1) := gd_12 db00b_75
theorem d_X7_causeAt_19 : decode prog_9_method_7_code 19 = .ok (.iconst 0, 1) := gd_13 db00b_75
theorem d_X7_causeAt_20 : decode prog_9_method_7_code 20 = .ok (.istore 4, 2) := gd_14 db00b_75
theorem d_X7_causeAt_22 : decode prog_9_method_7_code 22 = .ok (.iload 4, 2) := gd_15 db00b_75
theorem d_X7_causeAt_24 : decode prog_9_method_7_code 24 = .ok (.aload_n 0, 1) := gd_16 db00b_75
theorem d_X7_causeAt_25 : decode prog_9_method_7_code 25 = .ok (.getfield 50, 3) := gd_17 db00b_75
theorem d_X7_causeAt_28 : decode prog_9_method_7_code 28 = .ok (.if_icmp .ge 39, 3) := gd_18 db00b_75
theorem d_X7_causeAt_31 : decode prog_9_method_7_code 31 = .ok (.aload_n 0, 1) := gd_19 db00b_75
theorem d_X7_causeAt_32 : decode prog_9_method_7_code 32 = .ok (.getfield 33, 3) := gd_20 db00b_75
theorem d_X7_causeAt_35 : decode prog_9_method_7_code 35 = .ok (.iload 4, 2) := gd_21 db00b_75
theorem d_X7_causeAt_37 : decode prog_9_method_7_code 37 = .ok (.iaload, 1) := gd_22 db00b_75
theorem d_X7_causeAt_38 : decode prog_9_method_7_code 38 = .ok (.iload_n 1, 1) := gd_23 db00b_75
theorem db00b_76 : Ad_ prog_9_method_7_code [(39, .if_icmp .ne 22, 3), (42, .aload_n 0, 1), (43, .getfield 39, 3), (46, .iload 4, 2), (48, .iaload, 1), (49, .iload_n 2, 1), (50, .if_icmp .gt 11, 3), (53, .aload_n 0, 1), (54, .getfield 36, 3), (57, .iload 4, 2), (59, .iaload, 1), (60, .istore_n 3, 1), (61, .iinc 4 1, 3), (64, .goto (-42), 3), (67, .iload_n 3, 1), (68, .ireturn, 1)] := bch_ok prog_9_method_7_code _ 39 (by decide +kernel)
theorem d_X7_causeAt_39 : decode prog_9_method_7_code 39 = .ok (.if_icmp .ne 22, 3) := gd_0 db00b_76
theorem d_X7_causeAt_42 : decode prog_9_method_7_code 42 = .ok (.aload_n 0, 1) := gd_1 db00b_76
theorem d_X7_causeAt_43 : decode prog_9_method_7_code 43 = .ok (.getfield 39, 3) := gd_2 db00b_76
theorem d_X7_causeAt_46 : decode prog_9_method_7_code 46 = .ok (.iload 4, 2) := gd_3 db00b_76
theorem d_X7_causeAt_48 : decode prog_9_method_7_code 48 = .ok (.iaload, 1) := gd_4 db00b_76
theorem d_X7_causeAt_49 : decode prog_9_method_7_code 49 = .ok (.iload_n 2, 1) := gd_5 db00b_76
theorem d_X7_causeAt_50 : decode prog_9_method_7_code 50 = .ok (.if_icmp .gt 11, 3) := gd_6 db00b_76
theorem d_X7_causeAt_53 : decode prog_9_method_7_code 53 = .ok (.aload_n 0, 1) := gd_7 db00b_76
theorem d_X7_causeAt_54 : decode prog_9_method_7_code 54 = .ok (.getfield 36, 3) := gd_8 db00b_76
theorem d_X7_causeAt_57 : decode prog_9_method_7_code 57 = .ok (.iload 4, 2) := gd_9 db00b_76
theorem d_X7_causeAt_59 : decode prog_9_method_7_code 59 = .ok (.iaload, 1) := gd_10 db00b_76
theorem d_X7_causeAt_60 : decode prog_9_method_7_code 60 = .ok (.istore_n 3, 1) := gd_11 db00b_76
theorem d_X7_causeAt_61 : decode prog_9_method_7_code 61 = .ok (.iinc 4 1, 3) := gd_12 db00b_76
theorem d_X7_causeAt_64 : decode prog_9_method_7_code 64 = .ok (.goto (-42), 3) := gd_13 db00b_76
theorem d_X7_causeAt_67 : decode prog_9_method_7_code 67 = .ok (.iload_n 3, 1) := gd_14 db00b_76
theorem d_X7_causeAt_68 : decode prog_9_method_7_code 68 = .ok (.ireturn, 1) := gd_15 db00b_76
theorem d_X7_tell_21 : decode prog_9_method_8_code 21 = .ok (.tableswitch 70 0 4 #[35, 42, 49, 56, 63], 35) := by decide +kernel
theorem db00b_77 : Ad_ prog_9_method_8_code [(0, .aload_n 0, 1), (1, .iload_n 1, 1), (2, .invokevirtual 53, 3), (5, .ifCond .eq 13, 3), (8, .aload_n 0, 1), (9, .getfield 21, 3), (12, .iload_n 1, 1), (13, .iaload, 1), (14, .iload_n 2, 1), (15, .if_icmp .le 5, 3), (18, .iconst (-1), 1), (19, .ireturn, 1), (20, .iload_n 3, 1), (56, .aload_n 0, 1), (57, .getfield 11, 3), (60, .iload_n 1, 1), (61, .iaload, 1), (62, .ireturn, 1), (63, .aload_n 0, 1), (64, .getfield 15, 3), (67, .iload_n 1, 1), (68, .iaload, 1), (69, .ireturn, 1), (70, .aload_n 0, 1)] := bch_ok prog_9_method_8_code _ 0 (by decide +kernel)
theorem d_X7_tell_0 : decode prog_9_method_8_code 0 = .ok (.aload_n 0, 1) := gd_0 db00b_77
theorem d_X7_tell_1 : decode prog_9_method_8_code 1 = .ok (.iload_n 1, 1) := gd_1 db00b_77
theorem d_X7_tell_2 : decode prog_9_method_8_code 2 = .ok (.invokevirtual 53, 3) := gd_2 db00b_77
theorem d_X7_tell_5 : decode prog_9_method_8_code 5 = .ok (.ifCond .eq 13, 3) := gd_3 db00b_77
theorem d_X7_tell_8 : decode prog_9_method_8_code 8 = .ok (.aload_n 0, 1) := gd_4 db00b_77
theorem d_X7_tell_9 : decode prog_9_method_8_code 9 = .ok (.getfield 21, 3) := gd_5 db00b_77
theorem d_X7_tell_12 : decode prog_9_method_8_code 12 = .ok (.iload_n 1, 1) := gd_6 db00b_77
theorem d_X7_tell_13 : decode prog_9_method_8_code 13 = .ok (.iaload, 1) := gd_7 db00b_77
theorem d_X7_tell_14 : decode prog_9_method_8_code 14 = .ok (.iload_n 2, 1) := gd_8 db00b_77
theorem d_X7_tell_15 : decode prog_9_method_8_code 15 = .ok (.if_icmp .le 5, 3) := gd_9 db00b_77
theorem d_X7_tell_18 : decode prog_9_method_8_code 18 = .ok (.iconst (-1), 1) := gd_10 db00b_77
theorem d_X7_tell_19 : decode prog_9_method_8_code 19 = .ok (.ireturn, 1) := gd_11 db00b_77
theorem d_X7_tell_20 : decode prog_9_method_8_code 20 = .ok (.iload_n 3, 1) := gd_12 db00b_77
theorem d_X7_tell_56 : decode prog_9_method_8_code 56 = .ok (.aload_n 0, 1) := gd_13 db00b_77
theorem d_X7_tell_57 : decode prog_9_method_8_code 57 = .ok (.getfield 11, 3) := gd_14 db00b_77
theorem d_X7_tell_60 : decode prog_9_method_8_code 60 = .ok (.iload_n 1, 1) := gd_15 db00b_77
theorem d_X7_tell_61 : decode prog_9_method_8_code 61 = .ok (.iaload, 1) := gd_16 db00b_77
theorem d_X7_tell_62 : decode prog_9_method_8_code 62 = .ok (.ireturn, 1) := gd_17 db00b_77
theorem d_X7_tell_63 : decode prog_9_method_8_code 63 = .ok (.aload_n 0, 1) := gd_18 db00b_77
theorem d_X7_tell_64 : decode prog_9_method_8_code 64 = .ok (.getfield 15, 3) := gd_19 db00b_77
theorem d_X7_tell_67 : decode prog_9_method_8_code 67 = .ok (.iload_n 1, 1) := gd_20 db00b_77
theorem d_X7_tell_68 : decode prog_9_method_8_code 68 = .ok (.iaload, 1) := gd_21 db00b_77
theorem d_X7_tell_69 : decode prog_9_method_8_code 69 = .ok (.ireturn, 1) := gd_22 db00b_77
theorem d_X7_tell_70 : decode prog_9_method_8_code 70 = .ok (.aload_n 0, 1) := gd_23 db00b_77
theorem db00b_78 : Ad_ prog_9_method_8_code [(71, .getfield 18, 3), (74, .iload_n 1, 1), (75, .iaload, 1), (76, .ireturn, 1), (77, .aload_n 0, 1), (78, .iload_n 1, 1), (79, .iload_n 2, 1), (80, .invokevirtual 46, 3), (83, .ireturn, 1), (84, .aload_n 0, 1), (85, .iload_n 1, 1), (86, .iload_n 2, 1), (87, .invokevirtual 57, 3), (90, .ireturn, 1), (91, .iconst (-1), 1), (92, .ireturn, 1)] := bch_ok prog_9_method_8_code _ 71 (by decide +kernel)
theorem d_X7_tell_71 : decode prog_9_method_8_code 71 = .ok (.getfield 18, 3) := gd_0 db00b_78
theorem d_X7_tell_74 : decode prog_9_method_8_code 74 = .ok (.iload_n 1, 1) := gd_1 db00b_78
theorem d_X7_tell_75 : decode prog_9_method_8_code 75 = .ok (.iaload, 1) := gd_2 db00b_78
theorem d_X7_tell_76 : decode prog_9_method_8_code 76 = .ok (.ireturn, 1) := gd_3 db00b_78
theorem d_X7_tell_77 : decode prog_9_method_8_code 77 = .ok (.aload_n 0, 1) := gd_4 db00b_78
theorem d_X7_tell_78 : decode prog_9_method_8_code 78 = .ok (.iload_n 1, 1) := gd_5 db00b_78
theorem d_X7_tell_79 : decode prog_9_method_8_code 79 = .ok (.iload_n 2, 1) := gd_6 db00b_78
theorem d_X7_tell_80 : decode prog_9_method_8_code 80 = .ok (.invokevirtual 46, 3) := gd_7 db00b_78
theorem d_X7_tell_83 : decode prog_9_method_8_code 83 = .ok (.ireturn, 1) := gd_8 db00b_78
theorem d_X7_tell_84 : decode prog_9_method_8_code 84 = .ok (.aload_n 0, 1) := gd_9 db00b_78
theorem d_X7_tell_85 : decode prog_9_method_8_code 85 = .ok (.iload_n 1, 1) := gd_10 db00b_78
theorem d_X7_tell_86 : decode prog_9_method_8_code 86 = .ok (.iload_n 2, 1) := gd_11 db00b_78
theorem d_X7_tell_87 : decode prog_9_method_8_code 87 = .ok (.invokevirtual 57, 3) := gd_12 db00b_78
theorem d_X7_tell_90 : decode prog_9_method_8_code 90 = .ok (.ireturn, 1) := gd_13 db00b_78
theorem d_X7_tell_91 : decode prog_9_method_8_code 91 = .ok (.iconst (-1), 1) := gd_14 db00b_78
theorem d_X7_tell_92 : decode prog_9_method_8_code 92 = .ok (.ireturn, 1) := gd_15 db00b_78
theorem db00b_79 : Ad_ prog_9_method_9_code [(0, .aload_n 0, 1), (1, .iload_n 1, 1), (2, .invokevirtual 53, 3), (5, .ifCond .eq 23, 3), (8, .aload_n 0, 1), (9, .getfield 24, 3), (12, .iload_n 1, 1), (13, .iaload, 1), (14, .iconst 2, 1), (15, .if_icmp .ne 13, 3), (18, .aload_n 0, 1), (19, .getfield 50, 3), (22, .sipush 200, 3), (25, .if_icmp .lt 5, 3), (28, .iconst 0, 1), (29, .ireturn, 1), (30, .aload_n 0, 1), (31, .getfield 33, 3), (34, .aload_n 0, 1), (35, .getfield 50, 3), (38, .iload_n 1, 1), (39, .iastore, 1), (40, .aload_n 0, 1), (41, .getfield 36, 3)] := bch_ok prog_9_method_9_code _ 0 (by decide +kernel)
theorem d_X7_tellAnew_0 : decode prog_9_method_9_code 0 = .ok (.aload_n 0, 1) := gd_0 db00b_79
theorem d_X7_tellAnew_1 : decode prog_9_method_9_code 1 = .ok (.iload_n 1, 1) := gd_1 db00b_79
theorem d_X7_tellAnew_2 : decode prog_9_method_9_code 2 = .ok (.invokevirtual 53, 3) := gd_2 db00b_79
theorem d_X7_tellAnew_5 : decode prog_9_method_9_code 5 = .ok (.ifCond .eq 23, 3) := gd_3 db00b_79
theorem d_X7_tellAnew_8 : decode prog_9_method_9_code 8 = .ok (.aload_n 0, 1) := gd_4 db00b_79
theorem d_X7_tellAnew_9 : decode prog_9_method_9_code 9 = .ok (.getfield 24, 3) := gd_5 db00b_79
theorem d_X7_tellAnew_12 : decode prog_9_method_9_code 12 = .ok (.iload_n 1, 1) := gd_6 db00b_79
theorem d_X7_tellAnew_13 : decode prog_9_method_9_code 13 = .ok (.iaload, 1) := gd_7 db00b_79
theorem d_X7_tellAnew_14 : decode prog_9_method_9_code 14 = .ok (.iconst 2, 1) := gd_8 db00b_79
theorem d_X7_tellAnew_15 : decode prog_9_method_9_code 15 = .ok (.if_icmp .ne 13, 3) := gd_9 db00b_79
theorem d_X7_tellAnew_18 : decode prog_9_method_9_code 18 = .ok (.aload_n 0, 1) := gd_10 db00b_79
theorem d_X7_tellAnew_19 : decode prog_9_method_9_code 19 = .ok (.getfield 50, 3) := gd_11 db00b_79
theorem d_X7_tellAnew_22 : decode prog_9_method_9_code 22 = .ok (.sipush 200, 3) := gd_12 db00b_79
theorem d_X7_tellAnew_25 : decode prog_9_method_9_code 25 = .ok (.if_icmp .lt 5, 3) := gd_13 db00b_79
theorem d_X7_tellAnew_28 : decode prog_9_method_9_code 28 = .ok (.iconst 0, 1) := gd_14 db00b_79
theorem d_X7_tellAnew_29 : decode prog_9_method_9_code 29 = .ok (.ireturn, 1) := gd_15 db00b_79
theorem d_X7_tellAnew_30 : decode prog_9_method_9_code 30 = .ok (.aload_n 0, 1) := gd_16 db00b_79
theorem d_X7_tellAnew_31 : decode prog_9_method_9_code 31 = .ok (.getfield 33, 3) := gd_17 db00b_79
theorem d_X7_tellAnew_34 : decode prog_9_method_9_code 34 = .ok (.aload_n 0, 1) := gd_18 db00b_79
theorem d_X7_tellAnew_35 : decode prog_9_method_9_code 35 = .ok (.getfield 50, 3) := gd_19 db00b_79
theorem d_X7_tellAnew_38 : decode prog_9_method_9_code 38 = .ok (.iload_n 1, 1) := gd_20 db00b_79
theorem d_X7_tellAnew_39 : decode prog_9_method_9_code 39 = .ok (.iastore, 1) := gd_21 db00b_79
theorem d_X7_tellAnew_40 : decode prog_9_method_9_code 40 = .ok (.aload_n 0, 1) := gd_22 db00b_79
theorem d_X7_tellAnew_41 : decode prog_9_method_9_code 41 = .ok (.getfield 36, 3) := gd_23 db00b_79
theorem db00b_80 : Ad_ prog_9_method_9_code [(44, .aload_n 0, 1), (45, .getfield 50, 3), (48, .iload_n 2, 1), (49, .iastore, 1), (50, .aload_n 0, 1), (51, .getfield 39, 3), (54, .aload_n 0, 1), (55, .getfield 50, 3), (58, .iload_n 3, 1), (59, .iastore, 1), (60, .aload_n 0, 1), (61, .dup, 1), (62, .getfield 50, 3), (65, .iconst 1, 1), (66, .iadd, 1), (67, .putfield 50, 3), (70, .iconst 1, 1), (71, .ireturn, 1)] := bch_ok prog_9_method_9_code _ 44 (by decide +kernel)
theorem d_X7_tellAnew_44 : decode prog_9_method_9_code 44 = .ok (.aload_n 0, 1) := gd_0 db00b_80
theorem d_X7_tellAnew_45 : decode prog_9_method_9_code 45 = .ok (.getfield 50, 3) := gd_1 db00b_80
theorem d_X7_tellAnew_48 : decode prog_9_method_9_code 48 = .ok (.iload_n 2, 1) := gd_2 db00b_80
theorem d_X7_tellAnew_49 : decode prog_9_method_9_code 49 = .ok (.iastore, 1) := gd_3 db00b_80
theorem d_X7_tellAnew_50 : decode prog_9_method_9_code 50 = .ok (.aload_n 0, 1) := gd_4 db00b_80
theorem d_X7_tellAnew_51 : decode prog_9_method_9_code 51 = .ok (.getfield 39, 3) := gd_5 db00b_80
theorem d_X7_tellAnew_54 : decode prog_9_method_9_code 54 = .ok (.aload_n 0, 1) := gd_6 db00b_80
theorem d_X7_tellAnew_55 : decode prog_9_method_9_code 55 = .ok (.getfield 50, 3) := gd_7 db00b_80
theorem d_X7_tellAnew_58 : decode prog_9_method_9_code 58 = .ok (.iload_n 3, 1) := gd_8 db00b_80
theorem d_X7_tellAnew_59 : decode prog_9_method_9_code 59 = .ok (.iastore, 1) := gd_9 db00b_80
theorem d_X7_tellAnew_60 : decode prog_9_method_9_code 60 = .ok (.aload_n 0, 1) := gd_10 db00b_80
theorem d_X7_tellAnew_61 : decode prog_9_method_9_code 61 = .ok (.dup, 1) := gd_11 db00b_80
theorem d_X7_tellAnew_62 : decode prog_9_method_9_code 62 = .ok (.getfield 50, 3) := gd_12 db00b_80
theorem d_X7_tellAnew_65 : decode prog_9_method_9_code 65 = .ok (.iconst 1, 1) := gd_13 db00b_80
theorem d_X7_tellAnew_66 : decode prog_9_method_9_code 66 = .ok (.iadd, 1) := gd_14 db00b_80
theorem d_X7_tellAnew_67 : decode prog_9_method_9_code 67 = .ok (.putfield 50, 3) := gd_15 db00b_80
theorem d_X7_tellAnew_70 : decode prog_9_method_9_code 70 = .ok (.iconst 1, 1) := gd_16 db00b_80
theorem d_X7_tellAnew_71 : decode prog_9_method_9_code 71 = .ok (.ireturn, 1) := gd_17 db00b_80
theorem db00b_81 : Ad_ prog_9_method_10_code [(0, .iconst 0, 1), (1, .istore_n 3, 1), (2, .iconst 0, 1), (3, .istore 4, 2), (5, .iload 4, 2), (7, .aload_n 0, 1), (8, .getfield 42, 3), (11, .if_icmp .ge 23, 3), (14, .aload_n 0, 1), (15, .iload 4, 2), (17, .iload_n 2, 1), (18, .invokevirtual 57, 3), (21, .iload_n 1, 1), (22, .if_icmp .ne 6, 3), (25, .iinc 3 1, 3), (28, .iinc 4 1, 3), (31, .goto (-26), 3), (34, .iload_n 3, 1), (35, .ireturn, 1)] := bch_ok prog_9_method_10_code _ 0 (by decide +kernel)
theorem d_X7_countCause_0 : decode prog_9_method_10_code 0 = .ok (.iconst 0, 1) := gd_0 db00b_81
theorem d_X7_countCause_1 : decode prog_9_method_10_code 1 = .ok (.istore_n 3, 1) := gd_1 db00b_81
theorem d_X7_countCause_2 : decode prog_9_method_10_code 2 = .ok (.iconst 0, 1) := gd_2 db00b_81
theorem d_X7_countCause_3 : decode prog_9_method_10_code 3 = .ok (.istore 4, 2) := gd_3 db00b_81
theorem d_X7_countCause_5 : decode prog_9_method_10_code 5 = .ok (.iload 4, 2) := gd_4 db00b_81
theorem d_X7_countCause_7 : decode prog_9_method_10_code 7 = .ok (.aload_n 0, 1) := gd_5 db00b_81
theorem d_X7_countCause_8 : decode prog_9_method_10_code 8 = .ok (.getfield 42, 3) := gd_6 db00b_81
theorem d_X7_countCause_11 : decode prog_9_method_10_code 11 = .ok (.if_icmp .ge 23, 3) := gd_7 db00b_81
theorem d_X7_countCause_14 : decode prog_9_method_10_code 14 = .ok (.aload_n 0, 1) := gd_8 db00b_81
theorem d_X7_countCause_15 : decode prog_9_method_10_code 15 = .ok (.iload 4, 2) := gd_9 db00b_81
theorem d_X7_countCause_17 : decode prog_9_method_10_code 17 = .ok (.iload_n 2, 1) := gd_10 db00b_81
theorem d_X7_countCause_18 : decode prog_9_method_10_code 18 = .ok (.invokevirtual 57, 3) := gd_11 db00b_81
theorem d_X7_countCause_21 : decode prog_9_method_10_code 21 = .ok (.iload_n 1, 1) := gd_12 db00b_81
theorem d_X7_countCause_22 : decode prog_9_method_10_code 22 = .ok (.if_icmp .ne 6, 3) := gd_13 db00b_81
theorem d_X7_countCause_25 : decode prog_9_method_10_code 25 = .ok (.iinc 3 1, 3) := gd_14 db00b_81
theorem d_X7_countCause_28 : decode prog_9_method_10_code 28 = .ok (.iinc 4 1, 3) := gd_15 db00b_81
theorem d_X7_countCause_31 : decode prog_9_method_10_code 31 = .ok (.goto (-26), 3) := gd_16 db00b_81
theorem d_X7_countCause_34 : decode prog_9_method_10_code 34 = .ok (.iload_n 3, 1) := gd_17 db00b_81
theorem d_X7_countCause_35 : decode prog_9_method_10_code 35 = .ok (.ireturn, 1) := gd_18 db00b_81
theorem db00b_82 : Ad_ prog_9_method_11_code [(0, .aload_n 0, 1), (1, .getfield 11, 3), (4, .iload_n 1, 1), (5, .iaload, 1), (6, .iload_n 2, 1), (7, .if_icmp .ne 21, 3), (10, .aload_n 0, 1), (11, .getfield 18, 3), (14, .iload_n 1, 1), (15, .iaload, 1), (16, .sipush 1440, 3), (19, .idiv, 1), (20, .iload_n 3, 1), (21, .if_icmp .ne 7, 3), (24, .iconst 1, 1), (25, .goto 4, 3), (28, .iconst 0, 1), (29, .ireturn, 1)] := bch_ok prog_9_method_11_code _ 0 (by decide +kernel)
theorem d_X7_wasDue_0 : decode prog_9_method_11_code 0 = .ok (.aload_n 0, 1) := gd_0 db00b_82
theorem d_X7_wasDue_1 : decode prog_9_method_11_code 1 = .ok (.getfield 11, 3) := gd_1 db00b_82
theorem d_X7_wasDue_4 : decode prog_9_method_11_code 4 = .ok (.iload_n 1, 1) := gd_2 db00b_82
theorem d_X7_wasDue_5 : decode prog_9_method_11_code 5 = .ok (.iaload, 1) := gd_3 db00b_82
theorem d_X7_wasDue_6 : decode prog_9_method_11_code 6 = .ok (.iload_n 2, 1) := gd_4 db00b_82
theorem d_X7_wasDue_7 : decode prog_9_method_11_code 7 = .ok (.if_icmp .ne 21, 3) := gd_5 db00b_82
theorem d_X7_wasDue_10 : decode prog_9_method_11_code 10 = .ok (.aload_n 0, 1) := gd_6 db00b_82
theorem d_X7_wasDue_11 : decode prog_9_method_11_code 11 = .ok (.getfield 18, 3) := gd_7 db00b_82
theorem d_X7_wasDue_14 : decode prog_9_method_11_code 14 = .ok (.iload_n 1, 1) := gd_8 db00b_82
theorem d_X7_wasDue_15 : decode prog_9_method_11_code 15 = .ok (.iaload, 1) := gd_9 db00b_82
theorem d_X7_wasDue_16 : decode prog_9_method_11_code 16 = .ok (.sipush 1440, 3) := gd_10 db00b_82
theorem d_X7_wasDue_19 : decode prog_9_method_11_code 19 = .ok (.idiv, 1) := gd_11 db00b_82
theorem d_X7_wasDue_20 : decode prog_9_method_11_code 20 = .ok (.iload_n 3, 1) := gd_12 db00b_82
theorem d_X7_wasDue_21 : decode prog_9_method_11_code 21 = .ok (.if_icmp .ne 7, 3) := gd_13 db00b_82
theorem d_X7_wasDue_24 : decode prog_9_method_11_code 24 = .ok (.iconst 1, 1) := gd_14 db00b_82
theorem d_X7_wasDue_25 : decode prog_9_method_11_code 25 = .ok (.goto 4, 3) := gd_15 db00b_82
theorem d_X7_wasDue_28 : decode prog_9_method_11_code 28 = .ok (.iconst 0, 1) := gd_16 db00b_82
theorem d_X7_wasDue_29 : decode prog_9_method_11_code 29 = .ok (.ireturn, 1) := gd_17 db00b_82
theorem db00b_83 : Ad_ prog_9_method_12_code [(0, .iconst 0, 1), (1, .istore 4, 2), (3, .iconst 0, 1), (4, .istore 5, 2), (6, .iload 5, 2), (8, .aload_n 0, 1), (9, .getfield 42, 3), (12, .if_icmp .ge 34, 3), (15, .aload_n 0, 1), (16, .iload 5, 2), (18, .iload_n 1, 1), (19, .iload_n 2, 1), (20, .invokevirtual 60, 3), (23, .ifCond .eq 17, 3), (26, .aload_n 0, 1), (27, .iload 5, 2), (29, .iload_n 3, 1), (30, .invokevirtual 46, 3), (33, .iconst 1, 1), (34, .if_icmp .ne 6, 3), (37, .iinc 4 1, 3), (40, .iinc 5 1, 3), (43, .goto (-37), 3), (46, .iload 4, 2)] := bch_ok prog_9_method_12_code _ 0 (by decide +kernel)
theorem d_X7_countMet_0 : decode prog_9_method_12_code 0 = .ok (.iconst 0, 1) := gd_0 db00b_83
theorem d_X7_countMet_1 : decode prog_9_method_12_code 1 = .ok (.istore 4, 2) := gd_1 db00b_83
theorem d_X7_countMet_3 : decode prog_9_method_12_code 3 = .ok (.iconst 0, 1) := gd_2 db00b_83
theorem d_X7_countMet_4 : decode prog_9_method_12_code 4 = .ok (.istore 5, 2) := gd_3 db00b_83
theorem d_X7_countMet_6 : decode prog_9_method_12_code 6 = .ok (.iload 5, 2) := gd_4 db00b_83
theorem d_X7_countMet_8 : decode prog_9_method_12_code 8 = .ok (.aload_n 0, 1) := gd_5 db00b_83
theorem d_X7_countMet_9 : decode prog_9_method_12_code 9 = .ok (.getfield 42, 3) := gd_6 db00b_83
theorem d_X7_countMet_12 : decode prog_9_method_12_code 12 = .ok (.if_icmp .ge 34, 3) := gd_7 db00b_83
theorem d_X7_countMet_15 : decode prog_9_method_12_code 15 = .ok (.aload_n 0, 1) := gd_8 db00b_83
theorem d_X7_countMet_16 : decode prog_9_method_12_code 16 = .ok (.iload 5, 2) := gd_9 db00b_83
theorem d_X7_countMet_18 : decode prog_9_method_12_code 18 = .ok (.iload_n 1, 1) := gd_10 db00b_83
theorem d_X7_countMet_19 : decode prog_9_method_12_code 19 = .ok (.iload_n 2, 1) := gd_11 db00b_83
theorem d_X7_countMet_20 : decode prog_9_method_12_code 20 = .ok (.invokevirtual 60, 3) := gd_12 db00b_83
theorem d_X7_countMet_23 : decode prog_9_method_12_code 23 = .ok (.ifCond .eq 17, 3) := gd_13 db00b_83
theorem d_X7_countMet_26 : decode prog_9_method_12_code 26 = .ok (.aload_n 0, 1) := gd_14 db00b_83
theorem d_X7_countMet_27 : decode prog_9_method_12_code 27 = .ok (.iload 5, 2) := gd_15 db00b_83
theorem d_X7_countMet_29 : decode prog_9_method_12_code 29 = .ok (.iload_n 3, 1) := gd_16 db00b_83
theorem d_X7_countMet_30 : decode prog_9_method_12_code 30 = .ok (.invokevirtual 46, 3) := gd_17 db00b_83
theorem d_X7_countMet_33 : decode prog_9_method_12_code 33 = .ok (.iconst 1, 1) := gd_18 db00b_83
theorem d_X7_countMet_34 : decode prog_9_method_12_code 34 = .ok (.if_icmp .ne 6, 3) := gd_19 db00b_83
theorem d_X7_countMet_37 : decode prog_9_method_12_code 37 = .ok (.iinc 4 1, 3) := gd_20 db00b_83
theorem d_X7_countMet_40 : decode prog_9_method_12_code 40 = .ok (.iinc 5 1, 3) := gd_21 db00b_83
theorem d_X7_countMet_43 : decode prog_9_method_12_code 43 = .ok (.goto (-37), 3) := gd_22 db00b_83
theorem d_X7_countMet_46 : decode prog_9_method_12_code 46 = .ok (.iload 4, 2) := gd_23 db00b_83
theorem d_X7_countMet_48 : decode prog_9_method_12_code 48 = .ok (.ireturn, 1) := by decide +kernel
theorem db00b_84 : Ad_ prog_9_method_13_code [(0, .iconst 0, 1), (1, .istore 4, 2), (3, .iconst 0, 1), (4, .istore 5, 2), (6, .iload 5, 2), (8, .aload_n 0, 1), (9, .getfield 42, 3), (12, .if_icmp .ge 44, 3), (15, .aload_n 0, 1), (16, .iload 5, 2), (18, .iload_n 1, 1), (19, .iload_n 2, 1), (20, .invokevirtual 60, 3), (23, .ifCond .eq 27, 3), (26, .aload_n 0, 1), (27, .iload 5, 2), (29, .iload_n 3, 1), (30, .invokevirtual 57, 3), (33, .istore 6, 2), (35, .iload 6, 2), (37, .iconst 1, 1), (38, .if_icmp .eq 9, 3), (41, .iload 6, 2), (43, .iconst 5, 1)] := bch_ok prog_9_method_13_code _ 0 (by decide +kernel)
theorem d_X7_countBlamed_0 : decode prog_9_method_13_code 0 = .ok (.iconst 0, 1) := gd_0 db00b_84
theorem d_X7_countBlamed_1 : decode prog_9_method_13_code 1 = .ok (.istore 4, 2) := gd_1 db00b_84
theorem d_X7_countBlamed_3 : decode prog_9_method_13_code 3 = .ok (.iconst 0, 1) := gd_2 db00b_84
theorem d_X7_countBlamed_4 : decode prog_9_method_13_code 4 = .ok (.istore 5, 2) := gd_3 db00b_84
theorem d_X7_countBlamed_6 : decode prog_9_method_13_code 6 = .ok (.iload 5, 2) := gd_4 db00b_84
theorem d_X7_countBlamed_8 : decode prog_9_method_13_code 8 = .ok (.aload_n 0, 1) := gd_5 db00b_84
theorem d_X7_countBlamed_9 : decode prog_9_method_13_code 9 = .ok (.getfield 42, 3) := gd_6 db00b_84
theorem d_X7_countBlamed_12 : decode prog_9_method_13_code 12 = .ok (.if_icmp .ge 44, 3) := gd_7 db00b_84
theorem d_X7_countBlamed_15 : decode prog_9_method_13_code 15 = .ok (.aload_n 0, 1) := gd_8 db00b_84
theorem d_X7_countBlamed_16 : decode prog_9_method_13_code 16 = .ok (.iload 5, 2) := gd_9 db00b_84
theorem d_X7_countBlamed_18 : decode prog_9_method_13_code 18 = .ok (.iload_n 1, 1) := gd_10 db00b_84
theorem d_X7_countBlamed_19 : decode prog_9_method_13_code 19 = .ok (.iload_n 2, 1) := gd_11 db00b_84
theorem d_X7_countBlamed_20 : decode prog_9_method_13_code 20 = .ok (.invokevirtual 60, 3) := gd_12 db00b_84
theorem d_X7_countBlamed_23 : decode prog_9_method_13_code 23 = .ok (.ifCond .eq 27, 3) := gd_13 db00b_84
theorem d_X7_countBlamed_26 : decode prog_9_method_13_code 26 = .ok (.aload_n 0, 1) := gd_14 db00b_84
theorem d_X7_countBlamed_27 : decode prog_9_method_13_code 27 = .ok (.iload 5, 2) := gd_15 db00b_84
theorem d_X7_countBlamed_29 : decode prog_9_method_13_code 29 = .ok (.iload_n 3, 1) := gd_16 db00b_84
theorem d_X7_countBlamed_30 : decode prog_9_method_13_code 30 = .ok (.invokevirtual 57, 3) := gd_17 db00b_84
theorem d_X7_countBlamed_33 : decode prog_9_method_13_code 33 = .ok (.istore 6, 2) := gd_18 db00b_84
theorem d_X7_countBlamed_35 : decode prog_9_method_13_code 35 = .ok (.iload 6, 2) := gd_19 db00b_84
theorem d_X7_countBlamed_37 : decode prog_9_method_13_code 37 = .ok (.iconst 1, 1) := gd_20 db00b_84
theorem d_X7_countBlamed_38 : decode prog_9_method_13_code 38 = .ok (.if_icmp .eq 9, 3) := gd_21 db00b_84
theorem d_X7_countBlamed_41 : decode prog_9_method_13_code 41 = .ok (.iload 6, 2) := gd_22 db00b_84
theorem d_X7_countBlamed_43 : decode prog_9_method_13_code 43 = .ok (.iconst 5, 1) := gd_23 db00b_84
theorem db00b_85 : Ad_ prog_9_method_13_code [(44, .if_icmp .lt 6, 3), (47, .iinc 4 1, 3), (50, .iinc 5 1, 3), (53, .goto (-47), 3), (56, .iload 4, 2), (58, .ireturn, 1)] := bch_ok prog_9_method_13_code _ 44 (by decide +kernel)
theorem d_X7_countBlamed_44 : decode prog_9_method_13_code 44 = .ok (.if_icmp .lt 6, 3) := gd_0 db00b_85
theorem d_X7_countBlamed_47 : decode prog_9_method_13_code 47 = .ok (.iinc 4 1, 3) := gd_1 db00b_85
theorem d_X7_countBlamed_50 : decode prog_9_method_13_code 50 = .ok (.iinc 5 1, 3) := gd_2 db00b_85
theorem d_X7_countBlamed_53 : decode prog_9_method_13_code 53 = .ok (.goto (-47), 3) := gd_3 db00b_85
theorem d_X7_countBlamed_56 : decode prog_9_method_13_code 56 = .ok (.iload 4, 2) := gd_4 db00b_85
theorem d_X7_countBlamed_58 : decode prog_9_method_13_code 58 = .ok (.ireturn, 1) := gd_5 db00b_85
theorem d_X8_init_8 : decode prog_10_method_1_code 8 = .ok (.newarray .int, 2) := by decide +kernel
theorem d_X8_init_23 : decode prog_10_method_1_code 23 = .ok (.newarray .int, 2) := by decide +kernel
theorem d_X8_init_32 : decode prog_10_method_1_code 32 = .ok (.newarray .int, 2) := by decide +kernel
theorem db00b_86 : Ad_ prog_10_method_1_code [(0, .aload_n 0, 1), (1, .invokespecial 3, 3), (4, .aload_n 0, 1), (5, .sipush 160, 3), (10, .putfield 11, 3), (13, .aload_n 0, 1), (14, .ldc 15, 2), (16, .putfield 17, 3), (19, .aload_n 0, 1), (20, .sipush 150, 3), (25, .putfield 23, 3), (28, .aload_n 0, 1), (29, .sipush 164, 3), (34, .putfield 28, 3), (37, .return_, 1)] := bch_ok prog_10_method_1_code _ 0 (by decide +kernel)
theorem d_X8_init_0 : decode prog_10_method_1_code 0 = .ok (.aload_n 0, 1) := gd_0 db00b_86
theorem d_X8_init_1 : decode prog_10_method_1_code 1 = .ok (.invokespecial 3, 3) := gd_1 db00b_86
theorem d_X8_init_4 : decode prog_10_method_1_code 4 = .ok (.aload_n 0, 1) := gd_2 db00b_86
theorem d_X8_init_5 : decode prog_10_method_1_code 5 = .ok (.sipush 160, 3) := gd_3 db00b_86
theorem d_X8_init_10 : decode prog_10_method_1_code 10 = .ok (.putfield 11, 3) := gd_4 db00b_86
theorem d_X8_init_13 : decode prog_10_method_1_code 13 = .ok (.aload_n 0, 1) := gd_5 db00b_86
theorem d_X8_init_14 : decode prog_10_method_1_code 14 = .ok (.ldc 15, 2) := gd_6 db00b_86
theorem d_X8_init_16 : decode prog_10_method_1_code 16 = .ok (.putfield 17, 3) := gd_7 db00b_86
theorem d_X8_init_19 : decode prog_10_method_1_code 19 = .ok (.aload_n 0, 1) := gd_8 db00b_86
theorem d_X8_init_20 : decode prog_10_method_1_code 20 = .ok (.sipush 150, 3) := gd_9 db00b_86
theorem d_X8_init_25 : decode prog_10_method_1_code 25 = .ok (.putfield 23, 3) := gd_10 db00b_86
theorem d_X8_init_28 : decode prog_10_method_1_code 28 = .ok (.aload_n 0, 1) := gd_11 db00b_86
theorem d_X8_init_29 : decode prog_10_method_1_code 29 = .ok (.sipush 164, 3) := gd_12 db00b_86
theorem d_X8_init_34 : decode prog_10_method_1_code 34 = .ok (.putfield 28, 3) := gd_13 db00b_86
theorem d_X8_init_37 : decode prog_10_method_1_code 37 = .ok (.return_, 1) := gd_14 db00b_86
theorem db00b_87 : Ad_ prog_10_method_2_code [(0, .iload_n 1, 1), (1, .invokestatic 31, 3), (4, .iload_n 2, 1), (5, .invokestatic 31, 3), (8, .iadd, 1), (9, .iload_n 3, 1), (10, .invokestatic 31, 3), (13, .iadd, 1), (14, .iload 4, 2), (16, .invokestatic 31, 3), (19, .iadd, 1), (20, .iload 5, 2), (22, .invokestatic 31, 3), (25, .iadd, 1), (26, .istore 6, 2), (28, .aload_n 0, 1), (29, .getfield 35, 3), (32, .iload 6, 2), (34, .iadd, 1), (35, .sipush 160, 3), (38, .if_icmp .le 5, 3), (41, .iconst (-1), 1), (42, .ireturn, 1), (43, .aload_n 0, 1)] := bch_ok prog_10_method_2_code _ 0 (by decide +kernel)
theorem d_X8_takeIn_0 : decode prog_10_method_2_code 0 = .ok (.iload_n 1, 1) := gd_0 db00b_87
theorem d_X8_takeIn_1 : decode prog_10_method_2_code 1 = .ok (.invokestatic 31, 3) := gd_1 db00b_87
theorem d_X8_takeIn_4 : decode prog_10_method_2_code 4 = .ok (.iload_n 2, 1) := gd_2 db00b_87
theorem d_X8_takeIn_5 : decode prog_10_method_2_code 5 = .ok (.invokestatic 31, 3) := gd_3 db00b_87
theorem d_X8_takeIn_8 : decode prog_10_method_2_code 8 = .ok (.iadd, 1) := gd_4 db00b_87
theorem d_X8_takeIn_9 : decode prog_10_method_2_code 9 = .ok (.iload_n 3, 1) := gd_5 db00b_87
theorem d_X8_takeIn_10 : decode prog_10_method_2_code 10 = .ok (.invokestatic 31, 3) := gd_6 db00b_87
theorem d_X8_takeIn_13 : decode prog_10_method_2_code 13 = .ok (.iadd, 1) := gd_7 db00b_87
theorem d_X8_takeIn_14 : decode prog_10_method_2_code 14 = .ok (.iload 4, 2) := gd_8 db00b_87
theorem d_X8_takeIn_16 : decode prog_10_method_2_code 16 = .ok (.invokestatic 31, 3) := gd_9 db00b_87
theorem d_X8_takeIn_19 : decode prog_10_method_2_code 19 = .ok (.iadd, 1) := gd_10 db00b_87
theorem d_X8_takeIn_20 : decode prog_10_method_2_code 20 = .ok (.iload 5, 2) := gd_11 db00b_87
theorem d_X8_takeIn_22 : decode prog_10_method_2_code 22 = .ok (.invokestatic 31, 3) := gd_12 db00b_87
theorem d_X8_takeIn_25 : decode prog_10_method_2_code 25 = .ok (.iadd, 1) := gd_13 db00b_87
theorem d_X8_takeIn_26 : decode prog_10_method_2_code 26 = .ok (.istore 6, 2) := gd_14 db00b_87
theorem d_X8_takeIn_28 : decode prog_10_method_2_code 28 = .ok (.aload_n 0, 1) := gd_15 db00b_87
theorem d_X8_takeIn_29 : decode prog_10_method_2_code 29 = .ok (.getfield 35, 3) := gd_16 db00b_87
theorem d_X8_takeIn_32 : decode prog_10_method_2_code 32 = .ok (.iload 6, 2) := gd_17 db00b_87
theorem d_X8_takeIn_34 : decode prog_10_method_2_code 34 = .ok (.iadd, 1) := gd_18 db00b_87
theorem d_X8_takeIn_35 : decode prog_10_method_2_code 35 = .ok (.sipush 160, 3) := gd_19 db00b_87
theorem d_X8_takeIn_38 : decode prog_10_method_2_code 38 = .ok (.if_icmp .le 5, 3) := gd_20 db00b_87
theorem d_X8_takeIn_41 : decode prog_10_method_2_code 41 = .ok (.iconst (-1), 1) := gd_21 db00b_87
theorem d_X8_takeIn_42 : decode prog_10_method_2_code 42 = .ok (.ireturn, 1) := gd_22 db00b_87
theorem d_X8_takeIn_43 : decode prog_10_method_2_code 43 = .ok (.aload_n 0, 1) := gd_23 db00b_87
theorem db00b_88 : Ad_ prog_10_method_2_code [(44, .iload_n 1, 1), (45, .invokevirtual 39, 3), (48, .aload_n 0, 1), (49, .iload_n 2, 1), (50, .invokevirtual 39, 3), (53, .aload_n 0, 1), (54, .iload_n 3, 1), (55, .invokevirtual 39, 3), (58, .aload_n 0, 1), (59, .iload 4, 2), (61, .invokevirtual 39, 3), (64, .aload_n 0, 1), (65, .iload 5, 2), (67, .invokevirtual 39, 3), (70, .aload_n 0, 1), (71, .getfield 35, 3), (74, .ireturn, 1)] := bch_ok prog_10_method_2_code _ 44 (by decide +kernel)
theorem d_X8_takeIn_44 : decode prog_10_method_2_code 44 = .ok (.iload_n 1, 1) := gd_0 db00b_88
theorem d_X8_takeIn_45 : decode prog_10_method_2_code 45 = .ok (.invokevirtual 39, 3) := gd_1 db00b_88
theorem d_X8_takeIn_48 : decode prog_10_method_2_code 48 = .ok (.aload_n 0, 1) := gd_2 db00b_88
theorem d_X8_takeIn_49 : decode prog_10_method_2_code 49 = .ok (.iload_n 2, 1) := gd_3 db00b_88
theorem d_X8_takeIn_50 : decode prog_10_method_2_code 50 = .ok (.invokevirtual 39, 3) := gd_4 db00b_88
theorem d_X8_takeIn_53 : decode prog_10_method_2_code 53 = .ok (.aload_n 0, 1) := gd_5 db00b_88
theorem d_X8_takeIn_54 : decode prog_10_method_2_code 54 = .ok (.iload_n 3, 1) := gd_6 db00b_88
theorem d_X8_takeIn_55 : decode prog_10_method_2_code 55 = .ok (.invokevirtual 39, 3) := gd_7 db00b_88
theorem d_X8_takeIn_58 : decode prog_10_method_2_code 58 = .ok (.aload_n 0, 1) := gd_8 db00b_88
theorem d_X8_takeIn_59 : decode prog_10_method_2_code 59 = .ok (.iload 4, 2) := gd_9 db00b_88
theorem d_X8_takeIn_61 : decode prog_10_method_2_code 61 = .ok (.invokevirtual 39, 3) := gd_10 db00b_88
theorem d_X8_takeIn_64 : decode prog_10_method_2_code 64 = .ok (.aload_n 0, 1) := gd_11 db00b_88
theorem d_X8_takeIn_65 : decode prog_10_method_2_code 65 = .ok (.iload 5, 2) := gd_12 db00b_88
theorem d_X8_takeIn_67 : decode prog_10_method_2_code 67 = .ok (.invokevirtual 39, 3) := gd_13 db00b_88
theorem d_X8_takeIn_70 : decode prog_10_method_2_code 70 = .ok (.aload_n 0, 1) := gd_14 db00b_88
theorem d_X8_takeIn_71 : decode prog_10_method_2_code 71 = .ok (.getfield 35, 3) := gd_15 db00b_88
theorem d_X8_takeIn_74 : decode prog_10_method_2_code 74 = .ok (.ireturn, 1) := gd_16 db00b_88
theorem db00b_89 : Ad_ prog_10_method_3_code [(0, .iconst 0, 1), (1, .istore_n 1, 1), (2, .bipush 24, 2), (4, .istore_n 2, 1), (5, .iload_n 2, 1), (6, .ifCond .lt 22, 3), (9, .iload_n 0, 1), (10, .iload_n 2, 1), (11, .ishr, 1), (12, .sipush 255, 3), (15, .iand, 1), (16, .ifCond .eq 6, 3), (19, .iinc 1 1, 3), (22, .iinc 2 (-8), 3), (25, .goto (-20), 3), (28, .iload_n 1, 1), (29, .ireturn, 1)] := bch_ok prog_10_method_3_code _ 0 (by decide +kernel)
theorem d_X8_signs_0 : decode prog_10_method_3_code 0 = .ok (.iconst 0, 1) := gd_0 db00b_89
theorem d_X8_signs_1 : decode prog_10_method_3_code 1 = .ok (.istore_n 1, 1) := gd_1 db00b_89
theorem d_X8_signs_2 : decode prog_10_method_3_code 2 = .ok (.bipush 24, 2) := gd_2 db00b_89
theorem d_X8_signs_4 : decode prog_10_method_3_code 4 = .ok (.istore_n 2, 1) := gd_3 db00b_89
theorem d_X8_signs_5 : decode prog_10_method_3_code 5 = .ok (.iload_n 2, 1) := gd_4 db00b_89
theorem d_X8_signs_6 : decode prog_10_method_3_code 6 = .ok (.ifCond .lt 22, 3) := gd_5 db00b_89
theorem d_X8_signs_9 : decode prog_10_method_3_code 9 = .ok (.iload_n 0, 1) := gd_6 db00b_89
theorem d_X8_signs_10 : decode prog_10_method_3_code 10 = .ok (.iload_n 2, 1) := gd_7 db00b_89
theorem d_X8_signs_11 : decode prog_10_method_3_code 11 = .ok (.ishr, 1) := gd_8 db00b_89
theorem d_X8_signs_12 : decode prog_10_method_3_code 12 = .ok (.sipush 255, 3) := gd_9 db00b_89
theorem d_X8_signs_15 : decode prog_10_method_3_code 15 = .ok (.iand, 1) := gd_10 db00b_89
theorem d_X8_signs_16 : decode prog_10_method_3_code 16 = .ok (.ifCond .eq 6, 3) := gd_11 db00b_89
theorem d_X8_signs_19 : decode prog_10_method_3_code 19 = .ok (.iinc 1 1, 3) := gd_12 db00b_89
theorem d_X8_signs_22 : decode prog_10_method_3_code 22 = .ok (.iinc 2 (-8), 3) := gd_13 db00b_89
theorem d_X8_signs_25 : decode prog_10_method_3_code 25 = .ok (.goto (-20), 3) := gd_14 db00b_89
theorem d_X8_signs_28 : decode prog_10_method_3_code 28 = .ok (.iload_n 1, 1) := gd_15 db00b_89
theorem d_X8_signs_29 : decode prog_10_method_3_code 29 = .ok (.ireturn, 1) := gd_16 db00b_89
theorem db00b_90 : Ad_ prog_10_method_4_code [(0, .bipush 24, 2), (2, .istore_n 2, 1), (3, .iload_n 2, 1), (4, .ifCond .lt 51, 3), (7, .iload_n 1, 1), (8, .iload_n 2, 1), (9, .ishr, 1), (10, .sipush 255, 3), (13, .iand, 1), (14, .istore_n 3, 1), (15, .iload_n 3, 1), (16, .ifCond .eq 33, 3), (19, .aload_n 0, 1), (20, .getfield 35, 3), (23, .sipush 160, 3), (26, .if_icmp .ge 23, 3), (29, .aload_n 0, 1), (30, .getfield 11, 3), (33, .aload_n 0, 1), (34, .getfield 35, 3), (37, .iload_n 3, 1), (38, .iastore, 1), (39, .aload_n 0, 1), (40, .dup, 1)] := bch_ok prog_10_method_4_code _ 0 (by decide +kernel)
theorem d_X8_append_0 : decode prog_10_method_4_code 0 = .ok (.bipush 24, 2) := gd_0 db00b_90
theorem d_X8_append_2 : decode prog_10_method_4_code 2 = .ok (.istore_n 2, 1) := gd_1 db00b_90
theorem d_X8_append_3 : decode prog_10_method_4_code 3 = .ok (.iload_n 2, 1) := gd_2 db00b_90
theorem d_X8_append_4 : decode prog_10_method_4_code 4 = .ok (.ifCond .lt 51, 3) := gd_3 db00b_90
theorem d_X8_append_7 : decode prog_10_method_4_code 7 = .ok (.iload_n 1, 1) := gd_4 db00b_90
theorem d_X8_append_8 : decode prog_10_method_4_code 8 = .ok (.iload_n 2, 1) := gd_5 db00b_90
theorem d_X8_append_9 : decode prog_10_method_4_code 9 = .ok (.ishr, 1) := gd_6 db00b_90
theorem d_X8_append_10 : decode prog_10_method_4_code 10 = .ok (.sipush 255, 3) := gd_7 db00b_90
theorem d_X8_append_13 : decode prog_10_method_4_code 13 = .ok (.iand, 1) := gd_8 db00b_90
theorem d_X8_append_14 : decode prog_10_method_4_code 14 = .ok (.istore_n 3, 1) := gd_9 db00b_90
theorem d_X8_append_15 : decode prog_10_method_4_code 15 = .ok (.iload_n 3, 1) := gd_10 db00b_90
theorem d_X8_append_16 : decode prog_10_method_4_code 16 = .ok (.ifCond .eq 33, 3) := gd_11 db00b_90
theorem d_X8_append_19 : decode prog_10_method_4_code 19 = .ok (.aload_n 0, 1) := gd_12 db00b_90
theorem d_X8_append_20 : decode prog_10_method_4_code 20 = .ok (.getfield 35, 3) := gd_13 db00b_90
theorem d_X8_append_23 : decode prog_10_method_4_code 23 = .ok (.sipush 160, 3) := gd_14 db00b_90
theorem d_X8_append_26 : decode prog_10_method_4_code 26 = .ok (.if_icmp .ge 23, 3) := gd_15 db00b_90
theorem d_X8_append_29 : decode prog_10_method_4_code 29 = .ok (.aload_n 0, 1) := gd_16 db00b_90
theorem d_X8_append_30 : decode prog_10_method_4_code 30 = .ok (.getfield 11, 3) := gd_17 db00b_90
theorem d_X8_append_33 : decode prog_10_method_4_code 33 = .ok (.aload_n 0, 1) := gd_18 db00b_90
theorem d_X8_append_34 : decode prog_10_method_4_code 34 = .ok (.getfield 35, 3) := gd_19 db00b_90
theorem d_X8_append_37 : decode prog_10_method_4_code 37 = .ok (.iload_n 3, 1) := gd_20 db00b_90
theorem d_X8_append_38 : decode prog_10_method_4_code 38 = .ok (.iastore, 1) := gd_21 db00b_90
theorem d_X8_append_39 : decode prog_10_method_4_code 39 = .ok (.aload_n 0, 1) := gd_22 db00b_90
theorem d_X8_append_40 : decode prog_10_method_4_code 40 = .ok (.dup, 1) := gd_23 db00b_90
theorem db00b_91 : Ad_ prog_10_method_4_code [(41, .getfield 35, 3), (44, .iconst 1, 1), (45, .iadd, 1), (46, .putfield 35, 3), (49, .iinc 2 (-8), 3), (52, .goto (-49), 3), (55, .return_, 1)] := bch_ok prog_10_method_4_code _ 41 (by decide +kernel)
theorem d_X8_append_41 : decode prog_10_method_4_code 41 = .ok (.getfield 35, 3) := gd_0 db00b_91
theorem d_X8_append_44 : decode prog_10_method_4_code 44 = .ok (.iconst 1, 1) := gd_1 db00b_91
theorem d_X8_append_45 : decode prog_10_method_4_code 45 = .ok (.iadd, 1) := gd_2 db00b_91
theorem d_X8_append_46 : decode prog_10_method_4_code 46 = .ok (.putfield 35, 3) := gd_3 db00b_91
theorem d_X8_append_49 : decode prog_10_method_4_code 49 = .ok (.iinc 2 (-8), 3) := gd_4 db00b_91
theorem d_X8_append_52 : decode prog_10_method_4_code 52 = .ok (.goto (-49), 3) := gd_5 db00b_91
theorem d_X8_append_55 : decode prog_10_method_4_code 55 = .ok (.return_, 1) := gd_6 db00b_91
theorem db00b_92 : Ad_ prog_10_method_5_code [(0, .iload_n 1, 1), (1, .iconst 0, 1), (2, .aload_n 0, 1), (3, .getfield 35, 3), (6, .invokestatic 43, 3), (9, .ifCond .ne 5, 3), (12, .iconst 0, 1), (13, .ireturn, 1), (14, .aload_n 0, 1), (15, .iload_n 1, 1), (16, .putfield 35, 3), (19, .iconst 1, 1), (20, .ireturn, 1)] := bch_ok prog_10_method_5_code _ 0 (by decide +kernel)
theorem d_X8_cut_0 : decode prog_10_method_5_code 0 = .ok (.iload_n 1, 1) := gd_0 db00b_92
theorem d_X8_cut_1 : decode prog_10_method_5_code 1 = .ok (.iconst 0, 1) := gd_1 db00b_92
theorem d_X8_cut_2 : decode prog_10_method_5_code 2 = .ok (.aload_n 0, 1) := gd_2 db00b_92
theorem d_X8_cut_3 : decode prog_10_method_5_code 3 = .ok (.getfield 35, 3) := gd_3 db00b_92
theorem d_X8_cut_6 : decode prog_10_method_5_code 6 = .ok (.invokestatic 43, 3) := gd_4 db00b_92
theorem d_X8_cut_9 : decode prog_10_method_5_code 9 = .ok (.ifCond .ne 5, 3) := gd_5 db00b_92
theorem d_X8_cut_12 : decode prog_10_method_5_code 12 = .ok (.iconst 0, 1) := gd_6 db00b_92
theorem d_X8_cut_13 : decode prog_10_method_5_code 13 = .ok (.ireturn, 1) := gd_7 db00b_92
theorem d_X8_cut_14 : decode prog_10_method_5_code 14 = .ok (.aload_n 0, 1) := gd_8 db00b_92
theorem d_X8_cut_15 : decode prog_10_method_5_code 15 = .ok (.iload_n 1, 1) := gd_9 db00b_92
theorem d_X8_cut_16 : decode prog_10_method_5_code 16 = .ok (.putfield 35, 3) := gd_10 db00b_92
theorem d_X8_cut_19 : decode prog_10_method_5_code 19 = .ok (.iconst 1, 1) := gd_11 db00b_92
theorem d_X8_cut_20 : decode prog_10_method_5_code 20 = .ok (.ireturn, 1) := gd_12 db00b_92
theorem db00b_93 : Ad_ prog_10_method_6_code [(0, .aload_n 0, 1), (1, .iconst 0, 1), (2, .putfield 47, 3), (5, .aload_n 0, 1), (6, .iconst (-1), 1), (7, .putfield 50, 3), (10, .aload_n 0, 1), (11, .aload_n 1, 1), (12, .putfield 17, 3), (15, .aload_n 0, 1), (16, .iconst 0, 1), (17, .putfield 53, 3), (20, .aload_n 0, 1), (21, .iconst 0, 1), (22, .putfield 56, 3), (25, .aload_n 0, 1), (26, .iconst 0, 1), (27, .putfield 60, 3), (30, .return_, 1)] := bch_ok prog_10_method_6_code _ 0 (by decide +kernel)
theorem d_X8_restart_0 : decode prog_10_method_6_code 0 = .ok (.aload_n 0, 1) := gd_0 db00b_93
theorem d_X8_restart_1 : decode prog_10_method_6_code 1 = .ok (.iconst 0, 1) := gd_1 db00b_93
theorem d_X8_restart_2 : decode prog_10_method_6_code 2 = .ok (.putfield 47, 3) := gd_2 db00b_93
theorem d_X8_restart_5 : decode prog_10_method_6_code 5 = .ok (.aload_n 0, 1) := gd_3 db00b_93
theorem d_X8_restart_6 : decode prog_10_method_6_code 6 = .ok (.iconst (-1), 1) := gd_4 db00b_93
theorem d_X8_restart_7 : decode prog_10_method_6_code 7 = .ok (.putfield 50, 3) := gd_5 db00b_93
theorem d_X8_restart_10 : decode prog_10_method_6_code 10 = .ok (.aload_n 0, 1) := gd_6 db00b_93
theorem d_X8_restart_11 : decode prog_10_method_6_code 11 = .ok (.aload_n 1, 1) := gd_7 db00b_93
theorem d_X8_restart_12 : decode prog_10_method_6_code 12 = .ok (.putfield 17, 3) := gd_8 db00b_93
theorem d_X8_restart_15 : decode prog_10_method_6_code 15 = .ok (.aload_n 0, 1) := gd_9 db00b_93
theorem d_X8_restart_16 : decode prog_10_method_6_code 16 = .ok (.iconst 0, 1) := gd_10 db00b_93
theorem d_X8_restart_17 : decode prog_10_method_6_code 17 = .ok (.putfield 53, 3) := gd_11 db00b_93
theorem d_X8_restart_20 : decode prog_10_method_6_code 20 = .ok (.aload_n 0, 1) := gd_12 db00b_93
theorem d_X8_restart_21 : decode prog_10_method_6_code 21 = .ok (.iconst 0, 1) := gd_13 db00b_93
theorem d_X8_restart_22 : decode prog_10_method_6_code 22 = .ok (.putfield 56, 3) := gd_14 db00b_93
theorem d_X8_restart_25 : decode prog_10_method_6_code 25 = .ok (.aload_n 0, 1) := gd_15 db00b_93
theorem d_X8_restart_26 : decode prog_10_method_6_code 26 = .ok (.iconst 0, 1) := gd_16 db00b_93
theorem d_X8_restart_27 : decode prog_10_method_6_code 27 = .ok (.putfield 60, 3) := gd_17 db00b_93
theorem d_X8_restart_30 : decode prog_10_method_6_code 30 = .ok (.return_, 1) := gd_18 db00b_93
theorem db00b_94 : Ad_ prog_10_method_7_code [(0, .aload_n 0, 1), (1, .getfield 47, 3), (4, .aload_n 0, 1), (5, .getfield 35, 3), (8, .if_icmp .ge 30, 3), (11, .aload_n 0, 1), (12, .getfield 11, 3), (15, .aload_n 0, 1), (16, .getfield 47, 3), (19, .iaload, 1), (20, .bipush 32, 2), (22, .if_icmp .ne 16, 3), (25, .aload_n 0, 1), (26, .dup, 1), (27, .getfield 47, 3), (30, .iconst 1, 1), (31, .iadd, 1), (32, .putfield 47, 3), (35, .goto (-35), 3), (38, .aload_n 0, 1), (39, .getfield 47, 3), (42, .aload_n 0, 1), (43, .getfield 35, 3), (46, .if_icmp .ge 15, 3)] := bch_ok prog_10_method_7_code _ 0 (by decide +kernel)
theorem d_X8_peek_0 : decode prog_10_method_7_code 0 = .ok (.aload_n 0, 1) := gd_0 db00b_94
theorem d_X8_peek_1 : decode prog_10_method_7_code 1 = .ok (.getfield 47, 3) := gd_1 db00b_94
theorem d_X8_peek_4 : decode prog_10_method_7_code 4 = .ok (.aload_n 0, 1) := gd_2 db00b_94
theorem d_X8_peek_5 : decode prog_10_method_7_code 5 = .ok (.getfield 35, 3) := gd_3 db00b_94
theorem d_X8_peek_8 : decode prog_10_method_7_code 8 = .ok (.if_icmp .ge 30, 3) := gd_4 db00b_94
theorem d_X8_peek_11 : decode prog_10_method_7_code 11 = .ok (.aload_n 0, 1) := gd_5 db00b_94
theorem d_X8_peek_12 : decode prog_10_method_7_code 12 = .ok (.getfield 11, 3) := gd_6 db00b_94
theorem d_X8_peek_15 : decode prog_10_method_7_code 15 = .ok (.aload_n 0, 1) := gd_7 db00b_94
theorem d_X8_peek_16 : decode prog_10_method_7_code 16 = .ok (.getfield 47, 3) := gd_8 db00b_94
theorem d_X8_peek_19 : decode prog_10_method_7_code 19 = .ok (.iaload, 1) := gd_9 db00b_94
theorem d_X8_peek_20 : decode prog_10_method_7_code 20 = .ok (.bipush 32, 2) := gd_10 db00b_94
theorem d_X8_peek_22 : decode prog_10_method_7_code 22 = .ok (.if_icmp .ne 16, 3) := gd_11 db00b_94
theorem d_X8_peek_25 : decode prog_10_method_7_code 25 = .ok (.aload_n 0, 1) := gd_12 db00b_94
theorem d_X8_peek_26 : decode prog_10_method_7_code 26 = .ok (.dup, 1) := gd_13 db00b_94
theorem d_X8_peek_27 : decode prog_10_method_7_code 27 = .ok (.getfield 47, 3) := gd_14 db00b_94
theorem d_X8_peek_30 : decode prog_10_method_7_code 30 = .ok (.iconst 1, 1) := gd_15 db00b_94
theorem d_X8_peek_31 : decode prog_10_method_7_code 31 = .ok (.iadd, 1) := gd_16 db00b_94
theorem d_X8_peek_32 : decode prog_10_method_7_code 32 = .ok (.putfield 47, 3) := gd_17 db00b_94
theorem d_X8_peek_35 : decode prog_10_method_7_code 35 = .ok (.goto (-35), 3) := gd_18 db00b_94
theorem d_X8_peek_38 : decode prog_10_method_7_code 38 = .ok (.aload_n 0, 1) := gd_19 db00b_94
theorem d_X8_peek_39 : decode prog_10_method_7_code 39 = .ok (.getfield 47, 3) := gd_20 db00b_94
theorem d_X8_peek_42 : decode prog_10_method_7_code 42 = .ok (.aload_n 0, 1) := gd_21 db00b_94
theorem d_X8_peek_43 : decode prog_10_method_7_code 43 = .ok (.getfield 35, 3) := gd_22 db00b_94
theorem d_X8_peek_46 : decode prog_10_method_7_code 46 = .ok (.if_icmp .ge 15, 3) := gd_23 db00b_94
theorem db00b_95 : Ad_ prog_10_method_7_code [(49, .aload_n 0, 1), (50, .getfield 11, 3), (53, .aload_n 0, 1), (54, .getfield 47, 3), (57, .iaload, 1), (58, .goto 4, 3), (61, .iconst (-1), 1), (62, .ireturn, 1)] := bch_ok prog_10_method_7_code _ 49 (by decide +kernel)
theorem d_X8_peek_49 : decode prog_10_method_7_code 49 = .ok (.aload_n 0, 1) := gd_0 db00b_95
theorem d_X8_peek_50 : decode prog_10_method_7_code 50 = .ok (.getfield 11, 3) := gd_1 db00b_95
theorem d_X8_peek_53 : decode prog_10_method_7_code 53 = .ok (.aload_n 0, 1) := gd_2 db00b_95
theorem d_X8_peek_54 : decode prog_10_method_7_code 54 = .ok (.getfield 47, 3) := gd_3 db00b_95
theorem d_X8_peek_57 : decode prog_10_method_7_code 57 = .ok (.iaload, 1) := gd_4 db00b_95
theorem d_X8_peek_58 : decode prog_10_method_7_code 58 = .ok (.goto 4, 3) := gd_5 db00b_95
theorem d_X8_peek_61 : decode prog_10_method_7_code 61 = .ok (.iconst (-1), 1) := gd_6 db00b_95
theorem d_X8_peek_62 : decode prog_10_method_7_code 62 = .ok (.ireturn, 1) := gd_7 db00b_95
theorem db00b_96 : Ad_ prog_10_method_8_code [(0, .aload_n 0, 1), (1, .aload_n 0, 1), (2, .getfield 47, 3), (5, .putfield 50, 3), (8, .iconst 0, 1), (9, .ireturn, 1)] := bch_ok prog_10_method_8_code _ 0 (by decide +kernel)
theorem d_X8_fail_0 : decode prog_10_method_8_code 0 = .ok (.aload_n 0, 1) := gd_0 db00b_96
theorem d_X8_fail_1 : decode prog_10_method_8_code 1 = .ok (.aload_n 0, 1) := gd_1 db00b_96
theorem d_X8_fail_2 : decode prog_10_method_8_code 2 = .ok (.getfield 47, 3) := gd_2 db00b_96
theorem d_X8_fail_5 : decode prog_10_method_8_code 5 = .ok (.putfield 50, 3) := gd_3 db00b_96
theorem d_X8_fail_8 : decode prog_10_method_8_code 8 = .ok (.iconst 0, 1) := gd_4 db00b_96
theorem d_X8_fail_9 : decode prog_10_method_8_code 9 = .ok (.ireturn, 1) := gd_5 db00b_96
theorem db00b_97 : Ad_ prog_10_method_9_code [(0, .aload_n 0, 1), (1, .invokevirtual 63, 3), (4, .iload_n 1, 1), (5, .if_icmp .eq 8, 3), (8, .aload_n 0, 1), (9, .invokevirtual 67, 3), (12, .ireturn, 1), (13, .aload_n 0, 1), (14, .dup, 1), (15, .getfield 47, 3), (18, .iconst 1, 1), (19, .iadd, 1), (20, .putfield 47, 3), (23, .iconst 1, 1), (24, .ireturn, 1)] := bch_ok prog_10_method_9_code _ 0 (by decide +kernel)
theorem d_X8_expect_0 : decode prog_10_method_9_code 0 = .ok (.aload_n 0, 1) := gd_0 db00b_97
theorem d_X8_expect_1 : decode prog_10_method_9_code 1 = .ok (.invokevirtual 63, 3) := gd_1 db00b_97
theorem d_X8_expect_4 : decode prog_10_method_9_code 4 = .ok (.iload_n 1, 1) := gd_2 db00b_97
theorem d_X8_expect_5 : decode prog_10_method_9_code 5 = .ok (.if_icmp .eq 8, 3) := gd_3 db00b_97
theorem d_X8_expect_8 : decode prog_10_method_9_code 8 = .ok (.aload_n 0, 1) := gd_4 db00b_97
theorem d_X8_expect_9 : decode prog_10_method_9_code 9 = .ok (.invokevirtual 67, 3) := gd_5 db00b_97
theorem d_X8_expect_12 : decode prog_10_method_9_code 12 = .ok (.ireturn, 1) := gd_6 db00b_97
theorem d_X8_expect_13 : decode prog_10_method_9_code 13 = .ok (.aload_n 0, 1) := gd_7 db00b_97
theorem d_X8_expect_14 : decode prog_10_method_9_code 14 = .ok (.dup, 1) := gd_8 db00b_97
theorem d_X8_expect_15 : decode prog_10_method_9_code 15 = .ok (.getfield 47, 3) := gd_9 db00b_97
theorem d_X8_expect_18 : decode prog_10_method_9_code 18 = .ok (.iconst 1, 1) := gd_10 db00b_97
theorem d_X8_expect_19 : decode prog_10_method_9_code 19 = .ok (.iadd, 1) := gd_11 db00b_97
theorem d_X8_expect_20 : decode prog_10_method_9_code 20 = .ok (.putfield 47, 3) := gd_12 db00b_97
theorem d_X8_expect_23 : decode prog_10_method_9_code 23 = .ok (.iconst 1, 1) := gd_13 db00b_97
theorem d_X8_expect_24 : decode prog_10_method_9_code 24 = .ok (.ireturn, 1) := gd_14 db00b_97
theorem db00b_98 : Ad_ prog_10_method_10_code [(0, .iload_n 0, 1), (1, .bipush 48, 2), (3, .if_icmp .lt 13, 3), (6, .iload_n 0, 1), (7, .bipush 57, 2), (9, .if_icmp .gt 7, 3), (12, .iconst 1, 1), (13, .goto 4, 3), (16, .iconst 0, 1), (17, .ireturn, 1)] := bch_ok prog_10_method_10_code _ 0 (by decide +kernel)
theorem d_X8_isDigit_0 : decode prog_10_method_10_code 0 = .ok (.iload_n 0, 1) := gd_0 db00b_98
theorem d_X8_isDigit_1 : decode prog_10_method_10_code 1 = .ok (.bipush 48, 2) := gd_1 db00b_98
theorem d_X8_isDigit_3 : decode prog_10_method_10_code 3 = .ok (.if_icmp .lt 13, 3) := gd_2 db00b_98
theorem d_X8_isDigit_6 : decode prog_10_method_10_code 6 = .ok (.iload_n 0, 1) := gd_3 db00b_98
theorem d_X8_isDigit_7 : decode prog_10_method_10_code 7 = .ok (.bipush 57, 2) := gd_4 db00b_98
theorem d_X8_isDigit_9 : decode prog_10_method_10_code 9 = .ok (.if_icmp .gt 7, 3) := gd_5 db00b_98
theorem d_X8_isDigit_12 : decode prog_10_method_10_code 12 = .ok (.iconst 1, 1) := gd_6 db00b_98
theorem d_X8_isDigit_13 : decode prog_10_method_10_code 13 = .ok (.goto 4, 3) := gd_7 db00b_98
theorem d_X8_isDigit_16 : decode prog_10_method_10_code 16 = .ok (.iconst 0, 1) := gd_8 db00b_98
theorem d_X8_isDigit_17 : decode prog_10_method_10_code 17 = .ok (.ireturn, 1) := gd_9 db00b_98
theorem db00b_99 : Ad_ prog_10_method_11_code [(0, .iconst 0, 1), (1, .istore_n 3, 1), (2, .iconst 0, 1), (3, .istore 4, 2), (5, .aload_n 0, 1), (6, .invokevirtual 63, 3), (9, .invokestatic 71, 3), (12, .istore 5, 2), (14, .iload 5, 2), (16, .ifCond .eq 79, 3), (19, .aload_n 0, 1), (20, .getfield 47, 3), (23, .aload_n 0, 1), (24, .getfield 35, 3), (27, .if_icmp .ge 68, 3), (30, .aload_n 0, 1), (31, .getfield 11, 3), (34, .aload_n 0, 1), (35, .getfield 47, 3), (38, .iaload, 1), (39, .invokestatic 71, 3), (42, .ifCond .eq 53, 3), (45, .iload 4, 2), (47, .iconst 4, 1)] := bch_ok prog_10_method_11_code _ 0 (by decide +kernel)
theorem d_X8_readNumber_0 : decode prog_10_method_11_code 0 = .ok (.iconst 0, 1) := gd_0 db00b_99
theorem d_X8_readNumber_1 : decode prog_10_method_11_code 1 = .ok (.istore_n 3, 1) := gd_1 db00b_99
theorem d_X8_readNumber_2 : decode prog_10_method_11_code 2 = .ok (.iconst 0, 1) := gd_2 db00b_99
theorem d_X8_readNumber_3 : decode prog_10_method_11_code 3 = .ok (.istore 4, 2) := gd_3 db00b_99
theorem d_X8_readNumber_5 : decode prog_10_method_11_code 5 = .ok (.aload_n 0, 1) := gd_4 db00b_99
theorem d_X8_readNumber_6 : decode prog_10_method_11_code 6 = .ok (.invokevirtual 63, 3) := gd_5 db00b_99
theorem d_X8_readNumber_9 : decode prog_10_method_11_code 9 = .ok (.invokestatic 71, 3) := gd_6 db00b_99
theorem d_X8_readNumber_12 : decode prog_10_method_11_code 12 = .ok (.istore 5, 2) := gd_7 db00b_99
theorem d_X8_readNumber_14 : decode prog_10_method_11_code 14 = .ok (.iload 5, 2) := gd_8 db00b_99
theorem d_X8_readNumber_16 : decode prog_10_method_11_code 16 = .ok (.ifCond .eq 79, 3) := gd_9 db00b_99
theorem d_X8_readNumber_19 : decode prog_10_method_11_code 19 = .ok (.aload_n 0, 1) := gd_10 db00b_99
theorem d_X8_readNumber_20 : decode prog_10_method_11_code 20 = .ok (.getfield 47, 3) := gd_11 db00b_99
theorem d_X8_readNumber_23 : decode prog_10_method_11_code 23 = .ok (.aload_n 0, 1) := gd_12 db00b_99
theorem d_X8_readNumber_24 : decode prog_10_method_11_code 24 = .ok (.getfield 35, 3) := gd_13 db00b_99
theorem d_X8_readNumber_27 : decode prog_10_method_11_code 27 = .ok (.if_icmp .ge 68, 3) := gd_14 db00b_99
theorem d_X8_readNumber_30 : decode prog_10_method_11_code 30 = .ok (.aload_n 0, 1) := gd_15 db00b_99
theorem d_X8_readNumber_31 : decode prog_10_method_11_code 31 = .ok (.getfield 11, 3) := gd_16 db00b_99
theorem d_X8_readNumber_34 : decode prog_10_method_11_code 34 = .ok (.aload_n 0, 1) := gd_17 db00b_99
theorem d_X8_readNumber_35 : decode prog_10_method_11_code 35 = .ok (.getfield 47, 3) := gd_18 db00b_99
theorem d_X8_readNumber_38 : decode prog_10_method_11_code 38 = .ok (.iaload, 1) := gd_19 db00b_99
theorem d_X8_readNumber_39 : decode prog_10_method_11_code 39 = .ok (.invokestatic 71, 3) := gd_20 db00b_99
theorem d_X8_readNumber_42 : decode prog_10_method_11_code 42 = .ok (.ifCond .eq 53, 3) := gd_21 db00b_99
theorem d_X8_readNumber_45 : decode prog_10_method_11_code 45 = .ok (.iload 4, 2) := gd_22 db00b_99
theorem d_X8_readNumber_47 : decode prog_10_method_11_code 47 = .ok (.iconst 4, 1) := gd_23 db00b_99
theorem db00b_100 : Ad_ prog_10_method_11_code [(48, .if_icmp .ne 13, 3), (51, .aload_n 0, 1), (52, .aload_n 0, 1), (53, .getfield 47, 3), (56, .putfield 50, 3), (59, .iconst (-1), 1), (60, .ireturn, 1), (61, .iload_n 3, 1), (62, .bipush 10, 2), (64, .imul, 1), (65, .aload_n 0, 1), (66, .getfield 11, 3), (69, .aload_n 0, 1), (70, .getfield 47, 3), (73, .iaload, 1), (74, .iadd, 1), (75, .bipush 48, 2), (77, .isub, 1), (78, .istore_n 3, 1), (79, .iinc 4 1, 3), (82, .aload_n 0, 1), (83, .dup, 1), (84, .getfield 47, 3), (87, .iconst 1, 1)] := bch_ok prog_10_method_11_code _ 48 (by decide +kernel)
theorem d_X8_readNumber_48 : decode prog_10_method_11_code 48 = .ok (.if_icmp .ne 13, 3) := gd_0 db00b_100
theorem d_X8_readNumber_51 : decode prog_10_method_11_code 51 = .ok (.aload_n 0, 1) := gd_1 db00b_100
theorem d_X8_readNumber_52 : decode prog_10_method_11_code 52 = .ok (.aload_n 0, 1) := gd_2 db00b_100
theorem d_X8_readNumber_53 : decode prog_10_method_11_code 53 = .ok (.getfield 47, 3) := gd_3 db00b_100
theorem d_X8_readNumber_56 : decode prog_10_method_11_code 56 = .ok (.putfield 50, 3) := gd_4 db00b_100
theorem d_X8_readNumber_59 : decode prog_10_method_11_code 59 = .ok (.iconst (-1), 1) := gd_5 db00b_100
theorem d_X8_readNumber_60 : decode prog_10_method_11_code 60 = .ok (.ireturn, 1) := gd_6 db00b_100
theorem d_X8_readNumber_61 : decode prog_10_method_11_code 61 = .ok (.iload_n 3, 1) := gd_7 db00b_100
theorem d_X8_readNumber_62 : decode prog_10_method_11_code 62 = .ok (.bipush 10, 2) := gd_8 db00b_100
theorem d_X8_readNumber_64 : decode prog_10_method_11_code 64 = .ok (.imul, 1) := gd_9 db00b_100
theorem d_X8_readNumber_65 : decode prog_10_method_11_code 65 = .ok (.aload_n 0, 1) := gd_10 db00b_100
theorem d_X8_readNumber_66 : decode prog_10_method_11_code 66 = .ok (.getfield 11, 3) := gd_11 db00b_100
theorem d_X8_readNumber_69 : decode prog_10_method_11_code 69 = .ok (.aload_n 0, 1) := gd_12 db00b_100
theorem d_X8_readNumber_70 : decode prog_10_method_11_code 70 = .ok (.getfield 47, 3) := gd_13 db00b_100
theorem d_X8_readNumber_73 : decode prog_10_method_11_code 73 = .ok (.iaload, 1) := gd_14 db00b_100
theorem d_X8_readNumber_74 : decode prog_10_method_11_code 74 = .ok (.iadd, 1) := gd_15 db00b_100
theorem d_X8_readNumber_75 : decode prog_10_method_11_code 75 = .ok (.bipush 48, 2) := gd_16 db00b_100
theorem d_X8_readNumber_77 : decode prog_10_method_11_code 77 = .ok (.isub, 1) := gd_17 db00b_100
theorem d_X8_readNumber_78 : decode prog_10_method_11_code 78 = .ok (.istore_n 3, 1) := gd_18 db00b_100
theorem d_X8_readNumber_79 : decode prog_10_method_11_code 79 = .ok (.iinc 4 1, 3) := gd_19 db00b_100
theorem d_X8_readNumber_82 : decode prog_10_method_11_code 82 = .ok (.aload_n 0, 1) := gd_20 db00b_100
theorem d_X8_readNumber_83 : decode prog_10_method_11_code 83 = .ok (.dup, 1) := gd_21 db00b_100
theorem d_X8_readNumber_84 : decode prog_10_method_11_code 84 = .ok (.getfield 47, 3) := gd_22 db00b_100
theorem d_X8_readNumber_87 : decode prog_10_method_11_code 87 = .ok (.iconst 1, 1) := gd_23 db00b_100
theorem db00b_101 : Ad_ prog_10_method_11_code [(88, .iadd, 1), (89, .putfield 47, 3), (92, .goto (-78), 3), (95, .iload 5, 2), (97, .ifCond .ne 13, 3), (100, .aload_n 0, 1), (101, .aload_n 0, 1), (102, .getfield 47, 3), (105, .putfield 50, 3), (108, .iconst (-1), 1), (109, .ireturn, 1), (110, .iload_n 3, 1), (111, .iload_n 1, 1), (112, .iload_n 2, 1), (113, .invokestatic 43, 3), (116, .ifCond .ne 15, 3), (119, .aload_n 0, 1), (120, .aload_n 0, 1), (121, .getfield 47, 3), (124, .iconst 1, 1), (125, .isub, 1), (126, .putfield 50, 3), (129, .iconst (-1), 1), (130, .ireturn, 1)] := bch_ok prog_10_method_11_code _ 88 (by decide +kernel)
theorem d_X8_readNumber_88 : decode prog_10_method_11_code 88 = .ok (.iadd, 1) := gd_0 db00b_101
theorem d_X8_readNumber_89 : decode prog_10_method_11_code 89 = .ok (.putfield 47, 3) := gd_1 db00b_101
theorem d_X8_readNumber_92 : decode prog_10_method_11_code 92 = .ok (.goto (-78), 3) := gd_2 db00b_101
theorem d_X8_readNumber_95 : decode prog_10_method_11_code 95 = .ok (.iload 5, 2) := gd_3 db00b_101
theorem d_X8_readNumber_97 : decode prog_10_method_11_code 97 = .ok (.ifCond .ne 13, 3) := gd_4 db00b_101
theorem d_X8_readNumber_100 : decode prog_10_method_11_code 100 = .ok (.aload_n 0, 1) := gd_5 db00b_101
theorem d_X8_readNumber_101 : decode prog_10_method_11_code 101 = .ok (.aload_n 0, 1) := gd_6 db00b_101
theorem d_X8_readNumber_102 : decode prog_10_method_11_code 102 = .ok (.getfield 47, 3) := gd_7 db00b_101
theorem d_X8_readNumber_105 : decode prog_10_method_11_code 105 = .ok (.putfield 50, 3) := gd_8 db00b_101
theorem d_X8_readNumber_108 : decode prog_10_method_11_code 108 = .ok (.iconst (-1), 1) := gd_9 db00b_101
theorem d_X8_readNumber_109 : decode prog_10_method_11_code 109 = .ok (.ireturn, 1) := gd_10 db00b_101
theorem d_X8_readNumber_110 : decode prog_10_method_11_code 110 = .ok (.iload_n 3, 1) := gd_11 db00b_101
theorem d_X8_readNumber_111 : decode prog_10_method_11_code 111 = .ok (.iload_n 1, 1) := gd_12 db00b_101
theorem d_X8_readNumber_112 : decode prog_10_method_11_code 112 = .ok (.iload_n 2, 1) := gd_13 db00b_101
theorem d_X8_readNumber_113 : decode prog_10_method_11_code 113 = .ok (.invokestatic 43, 3) := gd_14 db00b_101
theorem d_X8_readNumber_116 : decode prog_10_method_11_code 116 = .ok (.ifCond .ne 15, 3) := gd_15 db00b_101
theorem d_X8_readNumber_119 : decode prog_10_method_11_code 119 = .ok (.aload_n 0, 1) := gd_16 db00b_101
theorem d_X8_readNumber_120 : decode prog_10_method_11_code 120 = .ok (.aload_n 0, 1) := gd_17 db00b_101
theorem d_X8_readNumber_121 : decode prog_10_method_11_code 121 = .ok (.getfield 47, 3) := gd_18 db00b_101
theorem d_X8_readNumber_124 : decode prog_10_method_11_code 124 = .ok (.iconst 1, 1) := gd_19 db00b_101
theorem d_X8_readNumber_125 : decode prog_10_method_11_code 125 = .ok (.isub, 1) := gd_20 db00b_101
theorem d_X8_readNumber_126 : decode prog_10_method_11_code 126 = .ok (.putfield 50, 3) := gd_21 db00b_101
theorem d_X8_readNumber_129 : decode prog_10_method_11_code 129 = .ok (.iconst (-1), 1) := gd_22 db00b_101
theorem d_X8_readNumber_130 : decode prog_10_method_11_code 130 = .ok (.ireturn, 1) := gd_23 db00b_101
theorem d_X8_readNumber_131 : decode prog_10_method_11_code 131 = .ok (.iload_n 3, 1) := by decide +kernel
theorem d_X8_readNumber_132 : decode prog_10_method_11_code 132 = .ok (.ireturn, 1) := by decide +kernel
theorem db00b_102 : Ad_ prog_10_method_12_code [(0, .aload_n 0, 1), (1, .ldc 15, 2), (3, .invokevirtual 75, 3), (6, .aload_n 0, 1), (7, .iconst 0, 1), (8, .invokevirtual 79, 3), (11, .ifCond .eq 16, 3), (14, .aload_n 0, 1), (15, .invokevirtual 63, 3), (18, .iconst (-1), 1), (19, .if_icmp .eq 8, 3), (22, .aload_n 0, 1), (23, .invokevirtual 67, 3), (26, .pop, 1), (27, .aload_n 0, 1), (28, .getfield 50, 3), (31, .ireturn, 1)] := bch_ok prog_10_method_12_code _ 0 (by decide +kernel)
theorem d_X8_readBeat_0 : decode prog_10_method_12_code 0 = .ok (.aload_n 0, 1) := gd_0 db00b_102
theorem d_X8_readBeat_1 : decode prog_10_method_12_code 1 = .ok (.ldc 15, 2) := gd_1 db00b_102
theorem d_X8_readBeat_3 : decode prog_10_method_12_code 3 = .ok (.invokevirtual 75, 3) := gd_2 db00b_102
theorem d_X8_readBeat_6 : decode prog_10_method_12_code 6 = .ok (.aload_n 0, 1) := gd_3 db00b_102
theorem d_X8_readBeat_7 : decode prog_10_method_12_code 7 = .ok (.iconst 0, 1) := gd_4 db00b_102
theorem d_X8_readBeat_8 : decode prog_10_method_12_code 8 = .ok (.invokevirtual 79, 3) := gd_5 db00b_102
theorem d_X8_readBeat_11 : decode prog_10_method_12_code 11 = .ok (.ifCond .eq 16, 3) := gd_6 db00b_102
theorem d_X8_readBeat_14 : decode prog_10_method_12_code 14 = .ok (.aload_n 0, 1) := gd_7 db00b_102
theorem d_X8_readBeat_15 : decode prog_10_method_12_code 15 = .ok (.invokevirtual 63, 3) := gd_8 db00b_102
theorem d_X8_readBeat_18 : decode prog_10_method_12_code 18 = .ok (.iconst (-1), 1) := gd_9 db00b_102
theorem d_X8_readBeat_19 : decode prog_10_method_12_code 19 = .ok (.if_icmp .eq 8, 3) := gd_10 db00b_102
theorem d_X8_readBeat_22 : decode prog_10_method_12_code 22 = .ok (.aload_n 0, 1) := gd_11 db00b_102
theorem d_X8_readBeat_23 : decode prog_10_method_12_code 23 = .ok (.invokevirtual 67, 3) := gd_12 db00b_102
theorem d_X8_readBeat_26 : decode prog_10_method_12_code 26 = .ok (.pop, 1) := gd_13 db00b_102
theorem d_X8_readBeat_27 : decode prog_10_method_12_code 27 = .ok (.aload_n 0, 1) := gd_14 db00b_102
theorem d_X8_readBeat_28 : decode prog_10_method_12_code 28 = .ok (.getfield 50, 3) := gd_15 db00b_102
theorem d_X8_readBeat_31 : decode prog_10_method_12_code 31 = .ok (.ireturn, 1) := gd_16 db00b_102
theorem db00b_103 : Ad_ prog_10_method_13_code [(0, .aload_n 0, 1), (1, .iload_n 1, 1), (2, .invokevirtual 82, 3), (5, .istore_n 2, 1), (6, .iconst 0, 1), (7, .istore_n 3, 1), (8, .iload_n 3, 1), (9, .sipush 160, 3), (12, .if_icmp .ge 38, 3), (15, .iload_n 2, 1), (16, .ifCond .eq 34, 3), (19, .aload_n 0, 1), (20, .invokevirtual 63, 3), (23, .bipush 59, 2), (25, .if_icmp .ne 25, 3), (28, .aload_n 0, 1), (29, .dup, 1), (30, .getfield 47, 3), (33, .iconst 1, 1), (34, .iadd, 1), (35, .putfield 47, 3), (38, .aload_n 0, 1), (39, .iload_n 1, 1), (40, .invokevirtual 82, 3)] := bch_ok prog_10_method_13_code _ 0 (by decide +kernel)
theorem d_X8_readSteps_0 : decode prog_10_method_13_code 0 = .ok (.aload_n 0, 1) := gd_0 db00b_103
theorem d_X8_readSteps_1 : decode prog_10_method_13_code 1 = .ok (.iload_n 1, 1) := gd_1 db00b_103
theorem d_X8_readSteps_2 : decode prog_10_method_13_code 2 = .ok (.invokevirtual 82, 3) := gd_2 db00b_103
theorem d_X8_readSteps_5 : decode prog_10_method_13_code 5 = .ok (.istore_n 2, 1) := gd_3 db00b_103
theorem d_X8_readSteps_6 : decode prog_10_method_13_code 6 = .ok (.iconst 0, 1) := gd_4 db00b_103
theorem d_X8_readSteps_7 : decode prog_10_method_13_code 7 = .ok (.istore_n 3, 1) := gd_5 db00b_103
theorem d_X8_readSteps_8 : decode prog_10_method_13_code 8 = .ok (.iload_n 3, 1) := gd_6 db00b_103
theorem d_X8_readSteps_9 : decode prog_10_method_13_code 9 = .ok (.sipush 160, 3) := gd_7 db00b_103
theorem d_X8_readSteps_12 : decode prog_10_method_13_code 12 = .ok (.if_icmp .ge 38, 3) := gd_8 db00b_103
theorem d_X8_readSteps_15 : decode prog_10_method_13_code 15 = .ok (.iload_n 2, 1) := gd_9 db00b_103
theorem d_X8_readSteps_16 : decode prog_10_method_13_code 16 = .ok (.ifCond .eq 34, 3) := gd_10 db00b_103
theorem d_X8_readSteps_19 : decode prog_10_method_13_code 19 = .ok (.aload_n 0, 1) := gd_11 db00b_103
theorem d_X8_readSteps_20 : decode prog_10_method_13_code 20 = .ok (.invokevirtual 63, 3) := gd_12 db00b_103
theorem d_X8_readSteps_23 : decode prog_10_method_13_code 23 = .ok (.bipush 59, 2) := gd_13 db00b_103
theorem d_X8_readSteps_25 : decode prog_10_method_13_code 25 = .ok (.if_icmp .ne 25, 3) := gd_14 db00b_103
theorem d_X8_readSteps_28 : decode prog_10_method_13_code 28 = .ok (.aload_n 0, 1) := gd_15 db00b_103
theorem d_X8_readSteps_29 : decode prog_10_method_13_code 29 = .ok (.dup, 1) := gd_16 db00b_103
theorem d_X8_readSteps_30 : decode prog_10_method_13_code 30 = .ok (.getfield 47, 3) := gd_17 db00b_103
theorem d_X8_readSteps_33 : decode prog_10_method_13_code 33 = .ok (.iconst 1, 1) := gd_18 db00b_103
theorem d_X8_readSteps_34 : decode prog_10_method_13_code 34 = .ok (.iadd, 1) := gd_19 db00b_103
theorem d_X8_readSteps_35 : decode prog_10_method_13_code 35 = .ok (.putfield 47, 3) := gd_20 db00b_103
theorem d_X8_readSteps_38 : decode prog_10_method_13_code 38 = .ok (.aload_n 0, 1) := gd_21 db00b_103
theorem d_X8_readSteps_39 : decode prog_10_method_13_code 39 = .ok (.iload_n 1, 1) := gd_22 db00b_103
theorem d_X8_readSteps_40 : decode prog_10_method_13_code 40 = .ok (.invokevirtual 82, 3) := gd_23 db00b_103
theorem db00b_104 : Ad_ prog_10_method_13_code [(43, .istore_n 2, 1), (44, .iinc 3 1, 3), (47, .goto (-39), 3), (50, .iload_n 2, 1), (51, .ireturn, 1)] := bch_ok prog_10_method_13_code _ 43 (by decide +kernel)
theorem d_X8_readSteps_43 : decode prog_10_method_13_code 43 = .ok (.istore_n 2, 1) := gd_0 db00b_104
theorem d_X8_readSteps_44 : decode prog_10_method_13_code 44 = .ok (.iinc 3 1, 3) := gd_1 db00b_104
theorem d_X8_readSteps_47 : decode prog_10_method_13_code 47 = .ok (.goto (-39), 3) := gd_2 db00b_104
theorem d_X8_readSteps_50 : decode prog_10_method_13_code 50 = .ok (.iload_n 2, 1) := gd_3 db00b_104
theorem d_X8_readSteps_51 : decode prog_10_method_13_code 51 = .ok (.ireturn, 1) := gd_4 db00b_104
theorem d_X8_readStep_4 : decode prog_10_method_14_code 4 = .ok (.lookupswitch 140 #[(40, 134), (103, 52), (108, 116), (112, 101), (119, 76)], 52) := by decide +kernel
theorem db00b_105 : Ad_ prog_10_method_14_code [(0, .aload_n 0, 1), (1, .invokevirtual 63, 3), (56, .aload_n 0, 1), (57, .dup, 1), (58, .getfield 47, 3), (61, .iconst 1, 1), (62, .iadd, 1), (63, .putfield 47, 3), (66, .aload_n 0, 1), (67, .iconst 0, 1), (68, .aload_n 0, 1), (69, .iconst 0, 1), (70, .bipush 15, 2), (72, .invokevirtual 85, 3), (75, .iconst 0, 1), (76, .invokevirtual 89, 3), (79, .ireturn, 1), (80, .aload_n 0, 1), (81, .dup, 1), (82, .getfield 47, 3), (85, .iconst 1, 1), (86, .iadd, 1), (87, .putfield 47, 3), (90, .aload_n 0, 1)] := bch_ok prog_10_method_14_code _ 0 (by decide +kernel)
theorem d_X8_readStep_0 : decode prog_10_method_14_code 0 = .ok (.aload_n 0, 1) := gd_0 db00b_105
theorem d_X8_readStep_1 : decode prog_10_method_14_code 1 = .ok (.invokevirtual 63, 3) := gd_1 db00b_105
theorem d_X8_readStep_56 : decode prog_10_method_14_code 56 = .ok (.aload_n 0, 1) := gd_2 db00b_105
theorem d_X8_readStep_57 : decode prog_10_method_14_code 57 = .ok (.dup, 1) := gd_3 db00b_105
theorem d_X8_readStep_58 : decode prog_10_method_14_code 58 = .ok (.getfield 47, 3) := gd_4 db00b_105
theorem d_X8_readStep_61 : decode prog_10_method_14_code 61 = .ok (.iconst 1, 1) := gd_5 db00b_105
theorem d_X8_readStep_62 : decode prog_10_method_14_code 62 = .ok (.iadd, 1) := gd_6 db00b_105
theorem d_X8_readStep_63 : decode prog_10_method_14_code 63 = .ok (.putfield 47, 3) := gd_7 db00b_105
theorem d_X8_readStep_66 : decode prog_10_method_14_code 66 = .ok (.aload_n 0, 1) := gd_8 db00b_105
theorem d_X8_readStep_67 : decode prog_10_method_14_code 67 = .ok (.iconst 0, 1) := gd_9 db00b_105
theorem d_X8_readStep_68 : decode prog_10_method_14_code 68 = .ok (.aload_n 0, 1) := gd_10 db00b_105
theorem d_X8_readStep_69 : decode prog_10_method_14_code 69 = .ok (.iconst 0, 1) := gd_11 db00b_105
theorem d_X8_readStep_70 : decode prog_10_method_14_code 70 = .ok (.bipush 15, 2) := gd_12 db00b_105
theorem d_X8_readStep_72 : decode prog_10_method_14_code 72 = .ok (.invokevirtual 85, 3) := gd_13 db00b_105
theorem d_X8_readStep_75 : decode prog_10_method_14_code 75 = .ok (.iconst 0, 1) := gd_14 db00b_105
theorem d_X8_readStep_76 : decode prog_10_method_14_code 76 = .ok (.invokevirtual 89, 3) := gd_15 db00b_105
theorem d_X8_readStep_79 : decode prog_10_method_14_code 79 = .ok (.ireturn, 1) := gd_16 db00b_105
theorem d_X8_readStep_80 : decode prog_10_method_14_code 80 = .ok (.aload_n 0, 1) := gd_17 db00b_105
theorem d_X8_readStep_81 : decode prog_10_method_14_code 81 = .ok (.dup, 1) := gd_18 db00b_105
theorem d_X8_readStep_82 : decode prog_10_method_14_code 82 = .ok (.getfield 47, 3) := gd_19 db00b_105
theorem d_X8_readStep_85 : decode prog_10_method_14_code 85 = .ok (.iconst 1, 1) := gd_20 db00b_105
theorem d_X8_readStep_86 : decode prog_10_method_14_code 86 = .ok (.iadd, 1) := gd_21 db00b_105
theorem d_X8_readStep_87 : decode prog_10_method_14_code 87 = .ok (.putfield 47, 3) := gd_22 db00b_105
theorem d_X8_readStep_90 : decode prog_10_method_14_code 90 = .ok (.aload_n 0, 1) := gd_23 db00b_105
theorem db00b_106 : Ad_ prog_10_method_14_code [(91, .iconst 1, 1), (92, .iconst 0, 1), (93, .aload_n 0, 1), (94, .iconst 1, 1), (95, .sipush 240, 3), (98, .invokevirtual 85, 3), (101, .invokevirtual 89, 3), (104, .ireturn, 1), (105, .aload_n 0, 1), (106, .dup, 1), (107, .getfield 47, 3), (110, .iconst 1, 1), (111, .iadd, 1), (112, .putfield 47, 3), (115, .aload_n 0, 1), (116, .invokevirtual 92, 3), (119, .ireturn, 1), (120, .aload_n 0, 1), (121, .dup, 1), (122, .getfield 47, 3), (125, .iconst 1, 1)] := bch_ok prog_10_method_14_code _ 91 (by decide +kernel)
theorem d_X8_readStep_91 : decode prog_10_method_14_code 91 = .ok (.iconst 1, 1) := gd_0 db00b_106
theorem d_X8_readStep_92 : decode prog_10_method_14_code 92 = .ok (.iconst 0, 1) := gd_1 db00b_106
theorem d_X8_readStep_93 : decode prog_10_method_14_code 93 = .ok (.aload_n 0, 1) := gd_2 db00b_106
theorem d_X8_readStep_94 : decode prog_10_method_14_code 94 = .ok (.iconst 1, 1) := gd_3 db00b_106
theorem d_X8_readStep_95 : decode prog_10_method_14_code 95 = .ok (.sipush 240, 3) := gd_4 db00b_106
theorem d_X8_readStep_98 : decode prog_10_method_14_code 98 = .ok (.invokevirtual 85, 3) := gd_5 db00b_106
theorem d_X8_readStep_101 : decode prog_10_method_14_code 101 = .ok (.invokevirtual 89, 3) := gd_6 db00b_106
theorem d_X8_readStep_104 : decode prog_10_method_14_code 104 = .ok (.ireturn, 1) := gd_7 db00b_106
theorem d_X8_readStep_105 : decode prog_10_method_14_code 105 = .ok (.aload_n 0, 1) := gd_8 db00b_106
theorem d_X8_readStep_106 : decode prog_10_method_14_code 106 = .ok (.dup, 1) := gd_9 db00b_106
theorem d_X8_readStep_107 : decode prog_10_method_14_code 107 = .ok (.getfield 47, 3) := gd_10 db00b_106
theorem d_X8_readStep_110 : decode prog_10_method_14_code 110 = .ok (.iconst 1, 1) := gd_11 db00b_106
theorem d_X8_readStep_111 : decode prog_10_method_14_code 111 = .ok (.iadd, 1) := gd_12 db00b_106
theorem d_X8_readStep_112 : decode prog_10_method_14_code 112 = .ok (.putfield 47, 3) := gd_13 db00b_106
theorem d_X8_readStep_115 : decode prog_10_method_14_code 115 = .ok (.aload_n 0, 1) := gd_14 db00b_106
theorem d_X8_readStep_116 : decode prog_10_method_14_code 116 = .ok (.invokevirtual 92, 3) := gd_15 db00b_106
theorem d_X8_readStep_119 : decode prog_10_method_14_code 119 = .ok (.ireturn, 1) := gd_16 db00b_106
theorem d_X8_readStep_120 : decode prog_10_method_14_code 120 = .ok (.aload_n 0, 1) := gd_17 db00b_106
theorem d_X8_readStep_121 : decode prog_10_method_14_code 121 = .ok (.dup, 1) := gd_18 db00b_106
theorem d_X8_readStep_122 : decode prog_10_method_14_code 122 = .ok (.getfield 47, 3) := gd_19 db00b_106
theorem d_X8_readStep_125 : decode prog_10_method_14_code 125 = .ok (.iconst 1, 1) := gd_20 db00b_106
