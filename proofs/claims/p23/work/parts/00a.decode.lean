theorem d_X0_init_8 : decode prog_2_method_1_code 8 = .ok (.newarray .int, 2) := by decide +kernel
theorem d_X0_init_16 : decode prog_2_method_1_code 16 = .ok (.newarray .int, 2) := by decide +kernel
theorem d_X0_init_24 : decode prog_2_method_1_code 24 = .ok (.newarray .int, 2) := by decide +kernel
theorem db00a_0 : Ad_ prog_2_method_1_code [(0, .aload_n 0, 1), (1, .invokespecial 3, 3), (4, .aload_n 0, 1), (5, .sipush 1800, 3), (10, .putfield 11, 3), (13, .aload_n 0, 1), (14, .bipush 12, 2), (18, .putfield 15, 3), (21, .aload_n 0, 1), (22, .bipush 12, 2), (26, .putfield 18, 3), (29, .return_, 1)] := bch_ok prog_2_method_1_code _ 0 (by decide +kernel)
theorem d_X0_init_0 : decode prog_2_method_1_code 0 = .ok (.aload_n 0, 1) := gd_0 db00a_0
theorem d_X0_init_1 : decode prog_2_method_1_code 1 = .ok (.invokespecial 3, 3) := gd_1 db00a_0
theorem d_X0_init_4 : decode prog_2_method_1_code 4 = .ok (.aload_n 0, 1) := gd_2 db00a_0
theorem d_X0_init_5 : decode prog_2_method_1_code 5 = .ok (.sipush 1800, 3) := gd_3 db00a_0
theorem d_X0_init_10 : decode prog_2_method_1_code 10 = .ok (.putfield 11, 3) := gd_4 db00a_0
theorem d_X0_init_13 : decode prog_2_method_1_code 13 = .ok (.aload_n 0, 1) := gd_5 db00a_0
theorem d_X0_init_14 : decode prog_2_method_1_code 14 = .ok (.bipush 12, 2) := gd_6 db00a_0
theorem d_X0_init_18 : decode prog_2_method_1_code 18 = .ok (.putfield 15, 3) := gd_7 db00a_0
theorem d_X0_init_21 : decode prog_2_method_1_code 21 = .ok (.aload_n 0, 1) := gd_8 db00a_0
theorem d_X0_init_22 : decode prog_2_method_1_code 22 = .ok (.bipush 12, 2) := gd_9 db00a_0
theorem d_X0_init_26 : decode prog_2_method_1_code 26 = .ok (.putfield 18, 3) := gd_10 db00a_0
theorem d_X0_init_29 : decode prog_2_method_1_code 29 = .ok (.return_, 1) := gd_11 db00a_0
theorem db00a_1 : Ad_ prog_2_method_2_code [(0, .iload_n 0, 1), (1, .iload_n 1, 1), (2, .iconst 2, 1), (3, .ishl, 1), (4, .ior, 1), (5, .iload_n 2, 1), (6, .bipush 6, 2), (8, .ishl, 1), (9, .ior, 1), (10, .ireturn, 1)] := bch_ok prog_2_method_2_code _ 0 (by decide +kernel)
theorem d_X0_pack_0 : decode prog_2_method_2_code 0 = .ok (.iload_n 0, 1) := gd_0 db00a_1
theorem d_X0_pack_1 : decode prog_2_method_2_code 1 = .ok (.iload_n 1, 1) := gd_1 db00a_1
theorem d_X0_pack_2 : decode prog_2_method_2_code 2 = .ok (.iconst 2, 1) := gd_2 db00a_1
theorem d_X0_pack_3 : decode prog_2_method_2_code 3 = .ok (.ishl, 1) := gd_3 db00a_1
theorem d_X0_pack_4 : decode prog_2_method_2_code 4 = .ok (.ior, 1) := gd_4 db00a_1
theorem d_X0_pack_5 : decode prog_2_method_2_code 5 = .ok (.iload_n 2, 1) := gd_5 db00a_1
theorem d_X0_pack_6 : decode prog_2_method_2_code 6 = .ok (.bipush 6, 2) := gd_6 db00a_1
theorem d_X0_pack_8 : decode prog_2_method_2_code 8 = .ok (.ishl, 1) := gd_7 db00a_1
theorem d_X0_pack_9 : decode prog_2_method_2_code 9 = .ok (.ior, 1) := gd_8 db00a_1
theorem d_X0_pack_10 : decode prog_2_method_2_code 10 = .ok (.ireturn, 1) := gd_9 db00a_1
theorem db00a_2 : Ad_ prog_2_method_3_code [(0, .iload_n 1, 1), (1, .ifCond .lt 15, 3), (4, .iload_n 1, 1), (5, .aload_n 0, 1), (6, .getfield 21, 3), (9, .if_icmp .ge 7, 3), (12, .iconst 1, 1), (13, .goto 4, 3), (16, .iconst 0, 1), (17, .ireturn, 1)] := bch_ok prog_2_method_3_code _ 0 (by decide +kernel)
theorem d_X0_has_0 : decode prog_2_method_3_code 0 = .ok (.iload_n 1, 1) := gd_0 db00a_2
theorem d_X0_has_1 : decode prog_2_method_3_code 1 = .ok (.ifCond .lt 15, 3) := gd_1 db00a_2
theorem d_X0_has_4 : decode prog_2_method_3_code 4 = .ok (.iload_n 1, 1) := gd_2 db00a_2
theorem d_X0_has_5 : decode prog_2_method_3_code 5 = .ok (.aload_n 0, 1) := gd_3 db00a_2
theorem d_X0_has_6 : decode prog_2_method_3_code 6 = .ok (.getfield 21, 3) := gd_4 db00a_2
theorem d_X0_has_9 : decode prog_2_method_3_code 9 = .ok (.if_icmp .ge 7, 3) := gd_5 db00a_2
theorem d_X0_has_12 : decode prog_2_method_3_code 12 = .ok (.iconst 1, 1) := gd_6 db00a_2
theorem d_X0_has_13 : decode prog_2_method_3_code 13 = .ok (.goto 4, 3) := gd_7 db00a_2
theorem d_X0_has_16 : decode prog_2_method_3_code 16 = .ok (.iconst 0, 1) := gd_8 db00a_2
theorem d_X0_has_17 : decode prog_2_method_3_code 17 = .ok (.ireturn, 1) := gd_9 db00a_2
theorem db00a_3 : Ad_ prog_2_method_4_code [(0, .aload_n 0, 1), (1, .getfield 21, 3), (4, .bipush 12, 2), (6, .if_icmp .ge 10, 3), (9, .aload_n 1, 1), (10, .getfield 25, 3), (13, .ifCond .eq 5, 3), (16, .iconst (-1), 1), (17, .ireturn, 1), (18, .iconst 0, 1), (19, .istore_n 2, 1), (20, .iconst 0, 1), (21, .istore_n 3, 1), (22, .iload_n 3, 1), (23, .aload_n 1, 1), (24, .getfield 31, 3), (27, .if_icmp .ge 46, 3), (30, .aload_n 0, 1), (31, .getfield 11, 3), (34, .aload_n 0, 1), (35, .getfield 21, 3), (38, .sipush 150, 3), (41, .imul, 1), (42, .iload_n 3, 1)] := bch_ok prog_2_method_4_code _ 0 (by decide +kernel)
theorem d_X0_keep_0 : decode prog_2_method_4_code 0 = .ok (.aload_n 0, 1) := gd_0 db00a_3
theorem d_X0_keep_1 : decode prog_2_method_4_code 1 = .ok (.getfield 21, 3) := gd_1 db00a_3
theorem d_X0_keep_4 : decode prog_2_method_4_code 4 = .ok (.bipush 12, 2) := gd_2 db00a_3
theorem d_X0_keep_6 : decode prog_2_method_4_code 6 = .ok (.if_icmp .ge 10, 3) := gd_3 db00a_3
theorem d_X0_keep_9 : decode prog_2_method_4_code 9 = .ok (.aload_n 1, 1) := gd_4 db00a_3
theorem d_X0_keep_10 : decode prog_2_method_4_code 10 = .ok (.getfield 25, 3) := gd_5 db00a_3
theorem d_X0_keep_13 : decode prog_2_method_4_code 13 = .ok (.ifCond .eq 5, 3) := gd_6 db00a_3
theorem d_X0_keep_16 : decode prog_2_method_4_code 16 = .ok (.iconst (-1), 1) := gd_7 db00a_3
theorem d_X0_keep_17 : decode prog_2_method_4_code 17 = .ok (.ireturn, 1) := gd_8 db00a_3
theorem d_X0_keep_18 : decode prog_2_method_4_code 18 = .ok (.iconst 0, 1) := gd_9 db00a_3
theorem d_X0_keep_19 : decode prog_2_method_4_code 19 = .ok (.istore_n 2, 1) := gd_10 db00a_3
theorem d_X0_keep_20 : decode prog_2_method_4_code 20 = .ok (.iconst 0, 1) := gd_11 db00a_3
theorem d_X0_keep_21 : decode prog_2_method_4_code 21 = .ok (.istore_n 3, 1) := gd_12 db00a_3
theorem d_X0_keep_22 : decode prog_2_method_4_code 22 = .ok (.iload_n 3, 1) := gd_13 db00a_3
theorem d_X0_keep_23 : decode prog_2_method_4_code 23 = .ok (.aload_n 1, 1) := gd_14 db00a_3
theorem d_X0_keep_24 : decode prog_2_method_4_code 24 = .ok (.getfield 31, 3) := gd_15 db00a_3
theorem d_X0_keep_27 : decode prog_2_method_4_code 27 = .ok (.if_icmp .ge 46, 3) := gd_16 db00a_3
theorem d_X0_keep_30 : decode prog_2_method_4_code 30 = .ok (.aload_n 0, 1) := gd_17 db00a_3
theorem d_X0_keep_31 : decode prog_2_method_4_code 31 = .ok (.getfield 11, 3) := gd_18 db00a_3
theorem d_X0_keep_34 : decode prog_2_method_4_code 34 = .ok (.aload_n 0, 1) := gd_19 db00a_3
theorem d_X0_keep_35 : decode prog_2_method_4_code 35 = .ok (.getfield 21, 3) := gd_20 db00a_3
theorem d_X0_keep_38 : decode prog_2_method_4_code 38 = .ok (.sipush 150, 3) := gd_21 db00a_3
theorem d_X0_keep_41 : decode prog_2_method_4_code 41 = .ok (.imul, 1) := gd_22 db00a_3
theorem d_X0_keep_42 : decode prog_2_method_4_code 42 = .ok (.iload_n 3, 1) := gd_23 db00a_3
theorem db00a_4 : Ad_ prog_2_method_4_code [(43, .iadd, 1), (44, .aload_n 1, 1), (45, .getfield 34, 3), (48, .iload_n 3, 1), (49, .iaload, 1), (50, .iastore, 1), (51, .aload_n 1, 1), (52, .getfield 34, 3), (55, .iload_n 3, 1), (56, .iaload, 1), (57, .invokestatic 35, 3), (60, .iconst 2, 1), (61, .if_icmp .ne 6, 3), (64, .iinc 2 1, 3), (67, .iinc 3 1, 3), (70, .goto (-48), 3), (73, .aload_n 0, 1), (74, .getfield 15, 3), (77, .aload_n 0, 1), (78, .getfield 21, 3), (81, .aload_n 1, 1), (82, .getfield 31, 3), (85, .iastore, 1), (86, .aload_n 0, 1)] := bch_ok prog_2_method_4_code _ 43 (by decide +kernel)
theorem d_X0_keep_43 : decode prog_2_method_4_code 43 = .ok (.iadd, 1) := gd_0 db00a_4
theorem d_X0_keep_44 : decode prog_2_method_4_code 44 = .ok (.aload_n 1, 1) := gd_1 db00a_4
theorem d_X0_keep_45 : decode prog_2_method_4_code 45 = .ok (.getfield 34, 3) := gd_2 db00a_4
theorem d_X0_keep_48 : decode prog_2_method_4_code 48 = .ok (.iload_n 3, 1) := gd_3 db00a_4
theorem d_X0_keep_49 : decode prog_2_method_4_code 49 = .ok (.iaload, 1) := gd_4 db00a_4
theorem d_X0_keep_50 : decode prog_2_method_4_code 50 = .ok (.iastore, 1) := gd_5 db00a_4
theorem d_X0_keep_51 : decode prog_2_method_4_code 51 = .ok (.aload_n 1, 1) := gd_6 db00a_4
theorem d_X0_keep_52 : decode prog_2_method_4_code 52 = .ok (.getfield 34, 3) := gd_7 db00a_4
theorem d_X0_keep_55 : decode prog_2_method_4_code 55 = .ok (.iload_n 3, 1) := gd_8 db00a_4
theorem d_X0_keep_56 : decode prog_2_method_4_code 56 = .ok (.iaload, 1) := gd_9 db00a_4
theorem d_X0_keep_57 : decode prog_2_method_4_code 57 = .ok (.invokestatic 35, 3) := gd_10 db00a_4
theorem d_X0_keep_60 : decode prog_2_method_4_code 60 = .ok (.iconst 2, 1) := gd_11 db00a_4
theorem d_X0_keep_61 : decode prog_2_method_4_code 61 = .ok (.if_icmp .ne 6, 3) := gd_12 db00a_4
theorem d_X0_keep_64 : decode prog_2_method_4_code 64 = .ok (.iinc 2 1, 3) := gd_13 db00a_4
theorem d_X0_keep_67 : decode prog_2_method_4_code 67 = .ok (.iinc 3 1, 3) := gd_14 db00a_4
theorem d_X0_keep_70 : decode prog_2_method_4_code 70 = .ok (.goto (-48), 3) := gd_15 db00a_4
theorem d_X0_keep_73 : decode prog_2_method_4_code 73 = .ok (.aload_n 0, 1) := gd_16 db00a_4
theorem d_X0_keep_74 : decode prog_2_method_4_code 74 = .ok (.getfield 15, 3) := gd_17 db00a_4
theorem d_X0_keep_77 : decode prog_2_method_4_code 77 = .ok (.aload_n 0, 1) := gd_18 db00a_4
theorem d_X0_keep_78 : decode prog_2_method_4_code 78 = .ok (.getfield 21, 3) := gd_19 db00a_4
theorem d_X0_keep_81 : decode prog_2_method_4_code 81 = .ok (.aload_n 1, 1) := gd_20 db00a_4
theorem d_X0_keep_82 : decode prog_2_method_4_code 82 = .ok (.getfield 31, 3) := gd_21 db00a_4
theorem d_X0_keep_85 : decode prog_2_method_4_code 85 = .ok (.iastore, 1) := gd_22 db00a_4
theorem d_X0_keep_86 : decode prog_2_method_4_code 86 = .ok (.aload_n 0, 1) := gd_23 db00a_4
theorem db00a_5 : Ad_ prog_2_method_4_code [(87, .getfield 18, 3), (90, .aload_n 0, 1), (91, .getfield 21, 3), (94, .iload_n 2, 1), (95, .iastore, 1), (96, .aload_n 0, 1), (97, .dup, 1), (98, .getfield 21, 3), (101, .iconst 1, 1), (102, .iadd, 1), (103, .putfield 21, 3), (106, .aload_n 0, 1), (107, .getfield 21, 3), (110, .iconst 1, 1), (111, .isub, 1), (112, .ireturn, 1)] := bch_ok prog_2_method_4_code _ 87 (by decide +kernel)
theorem d_X0_keep_87 : decode prog_2_method_4_code 87 = .ok (.getfield 18, 3) := gd_0 db00a_5
theorem d_X0_keep_90 : decode prog_2_method_4_code 90 = .ok (.aload_n 0, 1) := gd_1 db00a_5
theorem d_X0_keep_91 : decode prog_2_method_4_code 91 = .ok (.getfield 21, 3) := gd_2 db00a_5
theorem d_X0_keep_94 : decode prog_2_method_4_code 94 = .ok (.iload_n 2, 1) := gd_3 db00a_5
theorem d_X0_keep_95 : decode prog_2_method_4_code 95 = .ok (.iastore, 1) := gd_4 db00a_5
theorem d_X0_keep_96 : decode prog_2_method_4_code 96 = .ok (.aload_n 0, 1) := gd_5 db00a_5
theorem d_X0_keep_97 : decode prog_2_method_4_code 97 = .ok (.dup, 1) := gd_6 db00a_5
theorem d_X0_keep_98 : decode prog_2_method_4_code 98 = .ok (.getfield 21, 3) := gd_7 db00a_5
theorem d_X0_keep_101 : decode prog_2_method_4_code 101 = .ok (.iconst 1, 1) := gd_8 db00a_5
theorem d_X0_keep_102 : decode prog_2_method_4_code 102 = .ok (.iadd, 1) := gd_9 db00a_5
theorem d_X0_keep_103 : decode prog_2_method_4_code 103 = .ok (.putfield 21, 3) := gd_10 db00a_5
theorem d_X0_keep_106 : decode prog_2_method_4_code 106 = .ok (.aload_n 0, 1) := gd_11 db00a_5
theorem d_X0_keep_107 : decode prog_2_method_4_code 107 = .ok (.getfield 21, 3) := gd_12 db00a_5
theorem d_X0_keep_110 : decode prog_2_method_4_code 110 = .ok (.iconst 1, 1) := gd_13 db00a_5
theorem d_X0_keep_111 : decode prog_2_method_4_code 111 = .ok (.isub, 1) := gd_14 db00a_5
theorem d_X0_keep_112 : decode prog_2_method_4_code 112 = .ok (.ireturn, 1) := gd_15 db00a_5
theorem db00a_6 : Ad_ prog_2_method_5_code [(0, .aload_n 0, 1), (1, .iload_n 1, 1), (2, .invokevirtual 39, 3), (5, .ifCond .eq 12, 3), (8, .aload_n 0, 1), (9, .getfield 15, 3), (12, .iload_n 1, 1), (13, .iaload, 1), (14, .goto 4, 3), (17, .iconst 0, 1), (18, .ireturn, 1)] := bch_ok prog_2_method_5_code _ 0 (by decide +kernel)
theorem d_X0_stepsOf_0 : decode prog_2_method_5_code 0 = .ok (.aload_n 0, 1) := gd_0 db00a_6
theorem d_X0_stepsOf_1 : decode prog_2_method_5_code 1 = .ok (.iload_n 1, 1) := gd_1 db00a_6
theorem d_X0_stepsOf_2 : decode prog_2_method_5_code 2 = .ok (.invokevirtual 39, 3) := gd_2 db00a_6
theorem d_X0_stepsOf_5 : decode prog_2_method_5_code 5 = .ok (.ifCond .eq 12, 3) := gd_3 db00a_6
theorem d_X0_stepsOf_8 : decode prog_2_method_5_code 8 = .ok (.aload_n 0, 1) := gd_4 db00a_6
theorem d_X0_stepsOf_9 : decode prog_2_method_5_code 9 = .ok (.getfield 15, 3) := gd_5 db00a_6
theorem d_X0_stepsOf_12 : decode prog_2_method_5_code 12 = .ok (.iload_n 1, 1) := gd_6 db00a_6
theorem d_X0_stepsOf_13 : decode prog_2_method_5_code 13 = .ok (.iaload, 1) := gd_7 db00a_6
theorem d_X0_stepsOf_14 : decode prog_2_method_5_code 14 = .ok (.goto 4, 3) := gd_8 db00a_6
theorem d_X0_stepsOf_17 : decode prog_2_method_5_code 17 = .ok (.iconst 0, 1) := gd_9 db00a_6
theorem d_X0_stepsOf_18 : decode prog_2_method_5_code 18 = .ok (.ireturn, 1) := gd_10 db00a_6
theorem db00a_7 : Ad_ prog_2_method_6_code [(0, .aload_n 0, 1), (1, .iload_n 1, 1), (2, .invokevirtual 39, 3), (5, .ifCond .eq 12, 3), (8, .aload_n 0, 1), (9, .getfield 18, 3), (12, .iload_n 1, 1), (13, .iaload, 1), (14, .goto 4, 3), (17, .iconst 0, 1), (18, .ireturn, 1)] := bch_ok prog_2_method_6_code _ 0 (by decide +kernel)
theorem d_X0_pointsOf_0 : decode prog_2_method_6_code 0 = .ok (.aload_n 0, 1) := gd_0 db00a_7
theorem d_X0_pointsOf_1 : decode prog_2_method_6_code 1 = .ok (.iload_n 1, 1) := gd_1 db00a_7
theorem d_X0_pointsOf_2 : decode prog_2_method_6_code 2 = .ok (.invokevirtual 39, 3) := gd_2 db00a_7
theorem d_X0_pointsOf_5 : decode prog_2_method_6_code 5 = .ok (.ifCond .eq 12, 3) := gd_3 db00a_7
theorem d_X0_pointsOf_8 : decode prog_2_method_6_code 8 = .ok (.aload_n 0, 1) := gd_4 db00a_7
theorem d_X0_pointsOf_9 : decode prog_2_method_6_code 9 = .ok (.getfield 18, 3) := gd_5 db00a_7
theorem d_X0_pointsOf_12 : decode prog_2_method_6_code 12 = .ok (.iload_n 1, 1) := gd_6 db00a_7
theorem d_X0_pointsOf_13 : decode prog_2_method_6_code 13 = .ok (.iaload, 1) := gd_7 db00a_7
theorem d_X0_pointsOf_14 : decode prog_2_method_6_code 14 = .ok (.goto 4, 3) := gd_8 db00a_7
theorem d_X0_pointsOf_17 : decode prog_2_method_6_code 17 = .ok (.iconst 0, 1) := gd_9 db00a_7
theorem d_X0_pointsOf_18 : decode prog_2_method_6_code 18 = .ok (.ireturn, 1) := gd_10 db00a_7
theorem db00a_8 : Ad_ prog_2_method_7_code [(0, .iload_n 1, 1), (1, .sipush 150, 3), (4, .imul, 1), (5, .iload_n 2, 1), (6, .iadd, 1), (7, .istore_n 3, 1), (8, .iload_n 3, 1), (9, .ifCond .lt 21, 3), (12, .iload_n 3, 1), (13, .aload_n 0, 1), (14, .getfield 11, 3), (17, .arraylength, 1), (18, .if_icmp .ge 12, 3), (21, .aload_n 0, 1), (22, .getfield 11, 3), (25, .iload_n 3, 1), (26, .iaload, 1), (27, .goto 4, 3), (30, .iconst 0, 1), (31, .ireturn, 1)] := bch_ok prog_2_method_7_code _ 0 (by decide +kernel)
theorem d_X0_stepAt_0 : decode prog_2_method_7_code 0 = .ok (.iload_n 1, 1) := gd_0 db00a_8
theorem d_X0_stepAt_1 : decode prog_2_method_7_code 1 = .ok (.sipush 150, 3) := gd_1 db00a_8
theorem d_X0_stepAt_4 : decode prog_2_method_7_code 4 = .ok (.imul, 1) := gd_2 db00a_8
theorem d_X0_stepAt_5 : decode prog_2_method_7_code 5 = .ok (.iload_n 2, 1) := gd_3 db00a_8
theorem d_X0_stepAt_6 : decode prog_2_method_7_code 6 = .ok (.iadd, 1) := gd_4 db00a_8
theorem d_X0_stepAt_7 : decode prog_2_method_7_code 7 = .ok (.istore_n 3, 1) := gd_5 db00a_8
theorem d_X0_stepAt_8 : decode prog_2_method_7_code 8 = .ok (.iload_n 3, 1) := gd_6 db00a_8
theorem d_X0_stepAt_9 : decode prog_2_method_7_code 9 = .ok (.ifCond .lt 21, 3) := gd_7 db00a_8
theorem d_X0_stepAt_12 : decode prog_2_method_7_code 12 = .ok (.iload_n 3, 1) := gd_8 db00a_8
theorem d_X0_stepAt_13 : decode prog_2_method_7_code 13 = .ok (.aload_n 0, 1) := gd_9 db00a_8
theorem d_X0_stepAt_14 : decode prog_2_method_7_code 14 = .ok (.getfield 11, 3) := gd_10 db00a_8
theorem d_X0_stepAt_17 : decode prog_2_method_7_code 17 = .ok (.arraylength, 1) := gd_11 db00a_8
theorem d_X0_stepAt_18 : decode prog_2_method_7_code 18 = .ok (.if_icmp .ge 12, 3) := gd_12 db00a_8
theorem d_X0_stepAt_21 : decode prog_2_method_7_code 21 = .ok (.aload_n 0, 1) := gd_13 db00a_8
theorem d_X0_stepAt_22 : decode prog_2_method_7_code 22 = .ok (.getfield 11, 3) := gd_14 db00a_8
theorem d_X0_stepAt_25 : decode prog_2_method_7_code 25 = .ok (.iload_n 3, 1) := gd_15 db00a_8
theorem d_X0_stepAt_26 : decode prog_2_method_7_code 26 = .ok (.iaload, 1) := gd_16 db00a_8
theorem d_X0_stepAt_27 : decode prog_2_method_7_code 27 = .ok (.goto 4, 3) := gd_17 db00a_8
theorem d_X0_stepAt_30 : decode prog_2_method_7_code 30 = .ok (.iconst 0, 1) := gd_18 db00a_8
theorem d_X0_stepAt_31 : decode prog_2_method_7_code 31 = .ok (.ireturn, 1) := gd_19 db00a_8
theorem db00a_9 : Ad_ prog_2_method_8_code [(0, .iload_n 0, 1), (1, .iconst 3, 1), (2, .iand, 1), (3, .ireturn, 1)] := bch_ok prog_2_method_8_code _ 0 (by decide +kernel)
theorem d_X0_kindOf_0 : decode prog_2_method_8_code 0 = .ok (.iload_n 0, 1) := gd_0 db00a_9
theorem d_X0_kindOf_1 : decode prog_2_method_8_code 1 = .ok (.iconst 3, 1) := gd_1 db00a_9
theorem d_X0_kindOf_2 : decode prog_2_method_8_code 2 = .ok (.iand, 1) := gd_2 db00a_9
theorem d_X0_kindOf_3 : decode prog_2_method_8_code 3 = .ok (.ireturn, 1) := gd_3 db00a_9
theorem db00a_10 : Ad_ prog_2_method_9_code [(0, .iload_n 0, 1), (1, .iconst 2, 1), (2, .ishr, 1), (3, .bipush 15, 2), (5, .iand, 1), (6, .ireturn, 1)] := bch_ok prog_2_method_9_code _ 0 (by decide +kernel)
theorem d_X0_placeOf_0 : decode prog_2_method_9_code 0 = .ok (.iload_n 0, 1) := gd_0 db00a_10
theorem d_X0_placeOf_1 : decode prog_2_method_9_code 1 = .ok (.iconst 2, 1) := gd_1 db00a_10
theorem d_X0_placeOf_2 : decode prog_2_method_9_code 2 = .ok (.ishr, 1) := gd_2 db00a_10
theorem d_X0_placeOf_3 : decode prog_2_method_9_code 3 = .ok (.bipush 15, 2) := gd_3 db00a_10
theorem d_X0_placeOf_5 : decode prog_2_method_9_code 5 = .ok (.iand, 1) := gd_4 db00a_10
theorem d_X0_placeOf_6 : decode prog_2_method_9_code 6 = .ok (.ireturn, 1) := gd_5 db00a_10
theorem db00a_11 : Ad_ prog_2_method_10_code [(0, .iload_n 0, 1), (1, .bipush 6, 2), (3, .ishr, 1), (4, .ireturn, 1)] := bch_ok prog_2_method_10_code _ 0 (by decide +kernel)
theorem d_X0_amountOf_0 : decode prog_2_method_10_code 0 = .ok (.iload_n 0, 1) := gd_0 db00a_11
theorem d_X0_amountOf_1 : decode prog_2_method_10_code 1 = .ok (.bipush 6, 2) := gd_1 db00a_11
theorem d_X0_amountOf_3 : decode prog_2_method_10_code 3 = .ok (.ishr, 1) := gd_2 db00a_11
theorem d_X0_amountOf_4 : decode prog_2_method_10_code 4 = .ok (.ireturn, 1) := gd_3 db00a_11
theorem db00a_12 : Ad_ prog_2_method_11_code [(0, .iconst 0, 1), (1, .istore 6, 2), (3, .iconst 0, 1), (4, .istore 7, 2), (6, .aload_n 0, 1), (7, .iload_n 1, 1), (8, .invokevirtual 43, 3), (11, .istore 8, 2), (13, .iconst 0, 1), (14, .istore 9, 2), (16, .iload 9, 2), (18, .iload 8, 2), (20, .if_icmp .ge 129, 3), (23, .aload_n 0, 1), (24, .iload_n 1, 1), (25, .iload 9, 2), (27, .invokevirtual 46, 3), (30, .istore 10, 2), (32, .iload 10, 2), (34, .invokestatic 35, 3), (37, .istore 11, 2), (39, .iload 11, 2), (41, .iconst 3, 1), (42, .if_icmp .ne 25, 3)] := bch_ok prog_2_method_11_code _ 0 (by decide +kernel)
theorem d_X0_looksAt_0 : decode prog_2_method_11_code 0 = .ok (.iconst 0, 1) := gd_0 db00a_12
theorem d_X0_looksAt_1 : decode prog_2_method_11_code 1 = .ok (.istore 6, 2) := gd_1 db00a_12
theorem d_X0_looksAt_3 : decode prog_2_method_11_code 3 = .ok (.iconst 0, 1) := gd_2 db00a_12
theorem d_X0_looksAt_4 : decode prog_2_method_11_code 4 = .ok (.istore 7, 2) := gd_3 db00a_12
theorem d_X0_looksAt_6 : decode prog_2_method_11_code 6 = .ok (.aload_n 0, 1) := gd_4 db00a_12
theorem d_X0_looksAt_7 : decode prog_2_method_11_code 7 = .ok (.iload_n 1, 1) := gd_5 db00a_12
theorem d_X0_looksAt_8 : decode prog_2_method_11_code 8 = .ok (.invokevirtual 43, 3) := gd_6 db00a_12
theorem d_X0_looksAt_11 : decode prog_2_method_11_code 11 = .ok (.istore 8, 2) := gd_7 db00a_12
theorem d_X0_looksAt_13 : decode prog_2_method_11_code 13 = .ok (.iconst 0, 1) := gd_8 db00a_12
theorem d_X0_looksAt_14 : decode prog_2_method_11_code 14 = .ok (.istore 9, 2) := gd_9 db00a_12
theorem d_X0_looksAt_16 : decode prog_2_method_11_code 16 = .ok (.iload 9, 2) := gd_10 db00a_12
theorem d_X0_looksAt_18 : decode prog_2_method_11_code 18 = .ok (.iload 8, 2) := gd_11 db00a_12
theorem d_X0_looksAt_20 : decode prog_2_method_11_code 20 = .ok (.if_icmp .ge 129, 3) := gd_12 db00a_12
theorem d_X0_looksAt_23 : decode prog_2_method_11_code 23 = .ok (.aload_n 0, 1) := gd_13 db00a_12
theorem d_X0_looksAt_24 : decode prog_2_method_11_code 24 = .ok (.iload_n 1, 1) := gd_14 db00a_12
theorem d_X0_looksAt_25 : decode prog_2_method_11_code 25 = .ok (.iload 9, 2) := gd_15 db00a_12
theorem d_X0_looksAt_27 : decode prog_2_method_11_code 27 = .ok (.invokevirtual 46, 3) := gd_16 db00a_12
theorem d_X0_looksAt_30 : decode prog_2_method_11_code 30 = .ok (.istore 10, 2) := gd_17 db00a_12
theorem d_X0_looksAt_32 : decode prog_2_method_11_code 32 = .ok (.iload 10, 2) := gd_18 db00a_12
theorem d_X0_looksAt_34 : decode prog_2_method_11_code 34 = .ok (.invokestatic 35, 3) := gd_19 db00a_12
theorem d_X0_looksAt_37 : decode prog_2_method_11_code 37 = .ok (.istore 11, 2) := gd_20 db00a_12
theorem d_X0_looksAt_39 : decode prog_2_method_11_code 39 = .ok (.iload 11, 2) := gd_21 db00a_12
theorem d_X0_looksAt_41 : decode prog_2_method_11_code 41 = .ok (.iconst 3, 1) := gd_22 db00a_12
theorem d_X0_looksAt_42 : decode prog_2_method_11_code 42 = .ok (.if_icmp .ne 25, 3) := gd_23 db00a_12
theorem db00a_13 : Ad_ prog_2_method_11_code [(45, .iinc 6 1, 3), (48, .iload 7, 2), (50, .iload_n 2, 1), (51, .if_icmp .ne 92, 3), (54, .iload 6, 2), (56, .iload_n 3, 1), (57, .iload 4, 2), (59, .invokestatic 50, 3), (62, .ifCond .eq 81, 3), (65, .iconst 1, 1), (66, .ireturn, 1), (67, .iload 11, 2), (69, .iconst 1, 1), (70, .if_icmp .ne 16, 3), (73, .iload 6, 2), (75, .iload 10, 2), (77, .invokestatic 54, 3), (80, .iadd, 1), (81, .istore 6, 2), (83, .goto 60, 3), (86, .aload 5, 2), (88, .iload 7, 2), (90, .iload 10, 2), (92, .invokestatic 57, 3)] := bch_ok prog_2_method_11_code _ 45 (by decide +kernel)
theorem d_X0_looksAt_45 : decode prog_2_method_11_code 45 = .ok (.iinc 6 1, 3) := gd_0 db00a_13
theorem d_X0_looksAt_48 : decode prog_2_method_11_code 48 = .ok (.iload 7, 2) := gd_1 db00a_13
theorem d_X0_looksAt_50 : decode prog_2_method_11_code 50 = .ok (.iload_n 2, 1) := gd_2 db00a_13
theorem d_X0_looksAt_51 : decode prog_2_method_11_code 51 = .ok (.if_icmp .ne 92, 3) := gd_3 db00a_13
theorem d_X0_looksAt_54 : decode prog_2_method_11_code 54 = .ok (.iload 6, 2) := gd_4 db00a_13
theorem d_X0_looksAt_56 : decode prog_2_method_11_code 56 = .ok (.iload_n 3, 1) := gd_5 db00a_13
theorem d_X0_looksAt_57 : decode prog_2_method_11_code 57 = .ok (.iload 4, 2) := gd_6 db00a_13
theorem d_X0_looksAt_59 : decode prog_2_method_11_code 59 = .ok (.invokestatic 50, 3) := gd_7 db00a_13
theorem d_X0_looksAt_62 : decode prog_2_method_11_code 62 = .ok (.ifCond .eq 81, 3) := gd_8 db00a_13
theorem d_X0_looksAt_65 : decode prog_2_method_11_code 65 = .ok (.iconst 1, 1) := gd_9 db00a_13
theorem d_X0_looksAt_66 : decode prog_2_method_11_code 66 = .ok (.ireturn, 1) := gd_10 db00a_13
theorem d_X0_looksAt_67 : decode prog_2_method_11_code 67 = .ok (.iload 11, 2) := gd_11 db00a_13
theorem d_X0_looksAt_69 : decode prog_2_method_11_code 69 = .ok (.iconst 1, 1) := gd_12 db00a_13
theorem d_X0_looksAt_70 : decode prog_2_method_11_code 70 = .ok (.if_icmp .ne 16, 3) := gd_13 db00a_13
theorem d_X0_looksAt_73 : decode prog_2_method_11_code 73 = .ok (.iload 6, 2) := gd_14 db00a_13
theorem d_X0_looksAt_75 : decode prog_2_method_11_code 75 = .ok (.iload 10, 2) := gd_15 db00a_13
theorem d_X0_looksAt_77 : decode prog_2_method_11_code 77 = .ok (.invokestatic 54, 3) := gd_16 db00a_13
theorem d_X0_looksAt_80 : decode prog_2_method_11_code 80 = .ok (.iadd, 1) := gd_17 db00a_13
theorem d_X0_looksAt_81 : decode prog_2_method_11_code 81 = .ok (.istore 6, 2) := gd_18 db00a_13
theorem d_X0_looksAt_83 : decode prog_2_method_11_code 83 = .ok (.goto 60, 3) := gd_19 db00a_13
theorem d_X0_looksAt_86 : decode prog_2_method_11_code 86 = .ok (.aload 5, 2) := gd_20 db00a_13
theorem d_X0_looksAt_88 : decode prog_2_method_11_code 88 = .ok (.iload 7, 2) := gd_21 db00a_13
theorem d_X0_looksAt_90 : decode prog_2_method_11_code 90 = .ok (.iload 10, 2) := gd_22 db00a_13
theorem d_X0_looksAt_92 : decode prog_2_method_11_code 92 = .ok (.invokestatic 57, 3) := gd_23 db00a_13
theorem db00a_14 : Ad_ prog_2_method_11_code [(95, .invokevirtual 60, 3), (98, .istore 12, 2), (100, .iload 12, 2), (102, .iconst (-1), 1), (103, .if_icmp .eq 40, 3), (106, .iload 10, 2), (108, .invokestatic 57, 3), (111, .istore 7, 2), (113, .iload 6, 2), (115, .iload 12, 2), (117, .iadd, 1), (118, .istore 6, 2), (120, .iload 11, 2), (122, .iconst 2, 1), (123, .if_icmp .ne 16, 3), (126, .iload 6, 2), (128, .iload 10, 2), (130, .invokestatic 54, 3), (133, .invokestatic 65, 3), (136, .goto 5, 3), (139, .iload 6, 2), (141, .istore 6, 2), (143, .iinc 9 1, 3), (146, .goto (-130), 3)] := bch_ok prog_2_method_11_code _ 95 (by decide +kernel)
theorem d_X0_looksAt_95 : decode prog_2_method_11_code 95 = .ok (.invokevirtual 60, 3) := gd_0 db00a_14
theorem d_X0_looksAt_98 : decode prog_2_method_11_code 98 = .ok (.istore 12, 2) := gd_1 db00a_14
theorem d_X0_looksAt_100 : decode prog_2_method_11_code 100 = .ok (.iload 12, 2) := gd_2 db00a_14
theorem d_X0_looksAt_102 : decode prog_2_method_11_code 102 = .ok (.iconst (-1), 1) := gd_3 db00a_14
theorem d_X0_looksAt_103 : decode prog_2_method_11_code 103 = .ok (.if_icmp .eq 40, 3) := gd_4 db00a_14
theorem d_X0_looksAt_106 : decode prog_2_method_11_code 106 = .ok (.iload 10, 2) := gd_5 db00a_14
theorem d_X0_looksAt_108 : decode prog_2_method_11_code 108 = .ok (.invokestatic 57, 3) := gd_6 db00a_14
theorem d_X0_looksAt_111 : decode prog_2_method_11_code 111 = .ok (.istore 7, 2) := gd_7 db00a_14
theorem d_X0_looksAt_113 : decode prog_2_method_11_code 113 = .ok (.iload 6, 2) := gd_8 db00a_14
theorem d_X0_looksAt_115 : decode prog_2_method_11_code 115 = .ok (.iload 12, 2) := gd_9 db00a_14
theorem d_X0_looksAt_117 : decode prog_2_method_11_code 117 = .ok (.iadd, 1) := gd_10 db00a_14
theorem d_X0_looksAt_118 : decode prog_2_method_11_code 118 = .ok (.istore 6, 2) := gd_11 db00a_14
theorem d_X0_looksAt_120 : decode prog_2_method_11_code 120 = .ok (.iload 11, 2) := gd_12 db00a_14
theorem d_X0_looksAt_122 : decode prog_2_method_11_code 122 = .ok (.iconst 2, 1) := gd_13 db00a_14
theorem d_X0_looksAt_123 : decode prog_2_method_11_code 123 = .ok (.if_icmp .ne 16, 3) := gd_14 db00a_14
theorem d_X0_looksAt_126 : decode prog_2_method_11_code 126 = .ok (.iload 6, 2) := gd_15 db00a_14
theorem d_X0_looksAt_128 : decode prog_2_method_11_code 128 = .ok (.iload 10, 2) := gd_16 db00a_14
theorem d_X0_looksAt_130 : decode prog_2_method_11_code 130 = .ok (.invokestatic 54, 3) := gd_17 db00a_14
theorem d_X0_looksAt_133 : decode prog_2_method_11_code 133 = .ok (.invokestatic 65, 3) := gd_18 db00a_14
theorem d_X0_looksAt_136 : decode prog_2_method_11_code 136 = .ok (.goto 5, 3) := gd_19 db00a_14
theorem d_X0_looksAt_139 : decode prog_2_method_11_code 139 = .ok (.iload 6, 2) := gd_20 db00a_14
theorem d_X0_looksAt_141 : decode prog_2_method_11_code 141 = .ok (.istore 6, 2) := gd_21 db00a_14
theorem d_X0_looksAt_143 : decode prog_2_method_11_code 143 = .ok (.iinc 9 1, 3) := gd_22 db00a_14
theorem d_X0_looksAt_146 : decode prog_2_method_11_code 146 = .ok (.goto (-130), 3) := gd_23 db00a_14
theorem d_X0_looksAt_149 : decode prog_2_method_11_code 149 = .ok (.iconst 0, 1) := by decide +kernel
theorem d_X0_looksAt_150 : decode prog_2_method_11_code 150 = .ok (.ireturn, 1) := by decide +kernel
theorem d_X1_init_7 : decode prog_3_method_1_code 7 = .ok (.newarray .int, 2) := by decide +kernel
theorem d_X1_init_15 : decode prog_3_method_1_code 15 = .ok (.newarray .int, 2) := by decide +kernel
theorem d_X1_init_23 : decode prog_3_method_1_code 23 = .ok (.newarray .int, 2) := by decide +kernel
theorem d_X1_init_31 : decode prog_3_method_1_code 31 = .ok (.newarray .int, 2) := by decide +kernel
theorem d_X1_init_39 : decode prog_3_method_1_code 39 = .ok (.newarray .int, 2) := by decide +kernel
theorem d_X1_init_48 : decode prog_3_method_1_code 48 = .ok (.newarray .int, 2) := by decide +kernel
theorem d_X1_init_57 : decode prog_3_method_1_code 57 = .ok (.newarray .int, 2) := by decide +kernel
theorem db00a_15 : Ad_ prog_3_method_1_code [(0, .aload_n 0, 1), (1, .invokespecial 3, 3), (4, .aload_n 0, 1), (5, .bipush 30, 2), (9, .putfield 11, 3), (12, .aload_n 0, 1), (13, .bipush 30, 2), (17, .putfield 15, 3), (20, .aload_n 0, 1), (21, .bipush 30, 2), (25, .putfield 18, 3), (28, .aload_n 0, 1), (29, .bipush 10, 2), (33, .putfield 21, 3), (36, .aload_n 0, 1), (37, .bipush 8, 2), (41, .putfield 24, 3), (44, .aload_n 0, 1), (45, .sipush 200, 3), (50, .putfield 27, 3), (53, .aload_n 0, 1), (54, .sipush 200, 3), (59, .putfield 30, 3), (62, .aload_n 0, 1)] := bch_ok prog_3_method_1_code _ 0 (by decide +kernel)
theorem d_X1_init_0 : decode prog_3_method_1_code 0 = .ok (.aload_n 0, 1) := gd_0 db00a_15
theorem d_X1_init_1 : decode prog_3_method_1_code 1 = .ok (.invokespecial 3, 3) := gd_1 db00a_15
theorem d_X1_init_4 : decode prog_3_method_1_code 4 = .ok (.aload_n 0, 1) := gd_2 db00a_15
theorem d_X1_init_5 : decode prog_3_method_1_code 5 = .ok (.bipush 30, 2) := gd_3 db00a_15
theorem d_X1_init_9 : decode prog_3_method_1_code 9 = .ok (.putfield 11, 3) := gd_4 db00a_15
theorem d_X1_init_12 : decode prog_3_method_1_code 12 = .ok (.aload_n 0, 1) := gd_5 db00a_15
theorem d_X1_init_13 : decode prog_3_method_1_code 13 = .ok (.bipush 30, 2) := gd_6 db00a_15
theorem d_X1_init_17 : decode prog_3_method_1_code 17 = .ok (.putfield 15, 3) := gd_7 db00a_15
theorem d_X1_init_20 : decode prog_3_method_1_code 20 = .ok (.aload_n 0, 1) := gd_8 db00a_15
theorem d_X1_init_21 : decode prog_3_method_1_code 21 = .ok (.bipush 30, 2) := gd_9 db00a_15
theorem d_X1_init_25 : decode prog_3_method_1_code 25 = .ok (.putfield 18, 3) := gd_10 db00a_15
theorem d_X1_init_28 : decode prog_3_method_1_code 28 = .ok (.aload_n 0, 1) := gd_11 db00a_15
theorem d_X1_init_29 : decode prog_3_method_1_code 29 = .ok (.bipush 10, 2) := gd_12 db00a_15
theorem d_X1_init_33 : decode prog_3_method_1_code 33 = .ok (.putfield 21, 3) := gd_13 db00a_15
theorem d_X1_init_36 : decode prog_3_method_1_code 36 = .ok (.aload_n 0, 1) := gd_14 db00a_15
theorem d_X1_init_37 : decode prog_3_method_1_code 37 = .ok (.bipush 8, 2) := gd_15 db00a_15
theorem d_X1_init_41 : decode prog_3_method_1_code 41 = .ok (.putfield 24, 3) := gd_16 db00a_15
theorem d_X1_init_44 : decode prog_3_method_1_code 44 = .ok (.aload_n 0, 1) := gd_17 db00a_15
theorem d_X1_init_45 : decode prog_3_method_1_code 45 = .ok (.sipush 200, 3) := gd_18 db00a_15
theorem d_X1_init_50 : decode prog_3_method_1_code 50 = .ok (.putfield 27, 3) := gd_19 db00a_15
theorem d_X1_init_53 : decode prog_3_method_1_code 53 = .ok (.aload_n 0, 1) := gd_20 db00a_15
theorem d_X1_init_54 : decode prog_3_method_1_code 54 = .ok (.sipush 200, 3) := gd_21 db00a_15
theorem d_X1_init_59 : decode prog_3_method_1_code 59 = .ok (.putfield 30, 3) := gd_22 db00a_15
theorem d_X1_init_62 : decode prog_3_method_1_code 62 = .ok (.aload_n 0, 1) := gd_23 db00a_15
theorem d_X1_init_65 : decode prog_3_method_1_code 65 = .ok (.newarray .int, 2) := by decide +kernel
theorem d_X1_init_74 : decode prog_3_method_1_code 74 = .ok (.newarray .int, 2) := by decide +kernel
theorem d_X1_init_83 : decode prog_3_method_1_code 83 = .ok (.newarray .int, 2) := by decide +kernel
theorem d_X1_init_92 : decode prog_3_method_1_code 92 = .ok (.newarray .int, 2) := by decide +kernel
theorem d_X1_init_100 : decode prog_3_method_1_code 100 = .ok (.newarray .int, 2) := by decide +kernel
theorem d_X1_init_108 : decode prog_3_method_1_code 108 = .ok (.newarray .int, 2) := by decide +kernel
theorem d_X1_init_116 : decode prog_3_method_1_code 116 = .ok (.newarray .int, 2) := by decide +kernel
theorem db00a_16 : Ad_ prog_3_method_1_code [(63, .bipush 16, 2), (67, .putfield 33, 3), (70, .aload_n 0, 1), (71, .sipush 180, 3), (76, .putfield 36, 3), (79, .aload_n 0, 1), (80, .sipush 180, 3), (85, .putfield 39, 3), (88, .aload_n 0, 1), (89, .sipush 180, 3), (94, .putfield 42, 3), (97, .aload_n 0, 1), (98, .bipush 8, 2), (102, .putfield 45, 3), (105, .aload_n 0, 1), (106, .bipush 8, 2), (110, .putfield 48, 3), (113, .aload_n 0, 1), (114, .bipush 30, 2), (118, .putfield 51, 3), (121, .aload_n 0, 1), (122, .getfield 24, 3), (125, .iconst 1, 1), (126, .invokestatic 54, 3)] := bch_ok prog_3_method_1_code _ 63 (by decide +kernel)
theorem d_X1_init_63 : decode prog_3_method_1_code 63 = .ok (.bipush 16, 2) := gd_0 db00a_16
theorem d_X1_init_67 : decode prog_3_method_1_code 67 = .ok (.putfield 33, 3) := gd_1 db00a_16
theorem d_X1_init_70 : decode prog_3_method_1_code 70 = .ok (.aload_n 0, 1) := gd_2 db00a_16
theorem d_X1_init_71 : decode prog_3_method_1_code 71 = .ok (.sipush 180, 3) := gd_3 db00a_16
theorem d_X1_init_76 : decode prog_3_method_1_code 76 = .ok (.putfield 36, 3) := gd_4 db00a_16
theorem d_X1_init_79 : decode prog_3_method_1_code 79 = .ok (.aload_n 0, 1) := gd_5 db00a_16
theorem d_X1_init_80 : decode prog_3_method_1_code 80 = .ok (.sipush 180, 3) := gd_6 db00a_16
theorem d_X1_init_85 : decode prog_3_method_1_code 85 = .ok (.putfield 39, 3) := gd_7 db00a_16
theorem d_X1_init_88 : decode prog_3_method_1_code 88 = .ok (.aload_n 0, 1) := gd_8 db00a_16
theorem d_X1_init_89 : decode prog_3_method_1_code 89 = .ok (.sipush 180, 3) := gd_9 db00a_16
theorem d_X1_init_94 : decode prog_3_method_1_code 94 = .ok (.putfield 42, 3) := gd_10 db00a_16
theorem d_X1_init_97 : decode prog_3_method_1_code 97 = .ok (.aload_n 0, 1) := gd_11 db00a_16
theorem d_X1_init_98 : decode prog_3_method_1_code 98 = .ok (.bipush 8, 2) := gd_12 db00a_16
theorem d_X1_init_102 : decode prog_3_method_1_code 102 = .ok (.putfield 45, 3) := gd_13 db00a_16
theorem d_X1_init_105 : decode prog_3_method_1_code 105 = .ok (.aload_n 0, 1) := gd_14 db00a_16
theorem d_X1_init_106 : decode prog_3_method_1_code 106 = .ok (.bipush 8, 2) := gd_15 db00a_16
theorem d_X1_init_110 : decode prog_3_method_1_code 110 = .ok (.putfield 48, 3) := gd_16 db00a_16
theorem d_X1_init_113 : decode prog_3_method_1_code 113 = .ok (.aload_n 0, 1) := gd_17 db00a_16
theorem d_X1_init_114 : decode prog_3_method_1_code 114 = .ok (.bipush 30, 2) := gd_18 db00a_16
theorem d_X1_init_118 : decode prog_3_method_1_code 118 = .ok (.putfield 51, 3) := gd_19 db00a_16
theorem d_X1_init_121 : decode prog_3_method_1_code 121 = .ok (.aload_n 0, 1) := gd_20 db00a_16
theorem d_X1_init_122 : decode prog_3_method_1_code 122 = .ok (.getfield 24, 3) := gd_21 db00a_16
theorem d_X1_init_125 : decode prog_3_method_1_code 125 = .ok (.iconst 1, 1) := gd_22 db00a_16
theorem d_X1_init_126 : decode prog_3_method_1_code 126 = .ok (.invokestatic 54, 3) := gd_23 db00a_16
theorem db00a_17 : Ad_ prog_3_method_1_code [(129, .aload_n 0, 1), (130, .getfield 33, 3), (133, .iconst (-1), 1), (134, .invokestatic 54, 3), (137, .return_, 1)] := bch_ok prog_3_method_1_code _ 129 (by decide +kernel)
theorem d_X1_init_129 : decode prog_3_method_1_code 129 = .ok (.aload_n 0, 1) := gd_0 db00a_17
theorem d_X1_init_130 : decode prog_3_method_1_code 130 = .ok (.getfield 33, 3) := gd_1 db00a_17
theorem d_X1_init_133 : decode prog_3_method_1_code 133 = .ok (.iconst (-1), 1) := gd_2 db00a_17
theorem d_X1_init_134 : decode prog_3_method_1_code 134 = .ok (.invokestatic 54, 3) := gd_3 db00a_17
theorem d_X1_init_137 : decode prog_3_method_1_code 137 = .ok (.return_, 1) := gd_4 db00a_17
theorem db00a_18 : Ad_ prog_3_method_2_code [(0, .iload_n 1, 1), (1, .ifCond .lt 15, 3), (4, .iload_n 1, 1), (5, .aload_n 0, 1), (6, .getfield 60, 3), (9, .if_icmp .ge 7, 3), (12, .iconst 1, 1), (13, .goto 4, 3), (16, .iconst 0, 1), (17, .ireturn, 1)] := bch_ok prog_3_method_2_code _ 0 (by decide +kernel)
theorem d_X1_has_0 : decode prog_3_method_2_code 0 = .ok (.iload_n 1, 1) := gd_0 db00a_18
theorem d_X1_has_1 : decode prog_3_method_2_code 1 = .ok (.ifCond .lt 15, 3) := gd_1 db00a_18
theorem d_X1_has_4 : decode prog_3_method_2_code 4 = .ok (.iload_n 1, 1) := gd_2 db00a_18
theorem d_X1_has_5 : decode prog_3_method_2_code 5 = .ok (.aload_n 0, 1) := gd_3 db00a_18
theorem d_X1_has_6 : decode prog_3_method_2_code 6 = .ok (.getfield 60, 3) := gd_4 db00a_18
theorem d_X1_has_9 : decode prog_3_method_2_code 9 = .ok (.if_icmp .ge 7, 3) := gd_5 db00a_18
theorem d_X1_has_12 : decode prog_3_method_2_code 12 = .ok (.iconst 1, 1) := gd_6 db00a_18
theorem d_X1_has_13 : decode prog_3_method_2_code 13 = .ok (.goto 4, 3) := gd_7 db00a_18
theorem d_X1_has_16 : decode prog_3_method_2_code 16 = .ok (.iconst 0, 1) := gd_8 db00a_18
theorem d_X1_has_17 : decode prog_3_method_2_code 17 = .ok (.ireturn, 1) := gd_9 db00a_18
theorem db00a_19 : Ad_ prog_3_method_3_code [(0, .aload_n 0, 1), (1, .iload_n 1, 1), (2, .invokevirtual 64, 3), (5, .ifCond .eq 17, 3), (8, .aload_n 0, 1), (9, .getfield 15, 3), (12, .iload_n 1, 1), (13, .iaload, 1), (14, .iload_n 2, 1), (15, .if_icmp .gt 7, 3), (18, .iconst 1, 1), (19, .goto 4, 3), (22, .iconst 0, 1), (23, .ireturn, 1)] := bch_ok prog_3_method_3_code _ 0 (by decide +kernel)
theorem d_X1_wasOpen_0 : decode prog_3_method_3_code 0 = .ok (.aload_n 0, 1) := gd_0 db00a_19
theorem d_X1_wasOpen_1 : decode prog_3_method_3_code 1 = .ok (.iload_n 1, 1) := gd_1 db00a_19
theorem d_X1_wasOpen_2 : decode prog_3_method_3_code 2 = .ok (.invokevirtual 64, 3) := gd_2 db00a_19
theorem d_X1_wasOpen_5 : decode prog_3_method_3_code 5 = .ok (.ifCond .eq 17, 3) := gd_3 db00a_19
theorem d_X1_wasOpen_8 : decode prog_3_method_3_code 8 = .ok (.aload_n 0, 1) := gd_4 db00a_19
theorem d_X1_wasOpen_9 : decode prog_3_method_3_code 9 = .ok (.getfield 15, 3) := gd_5 db00a_19
theorem d_X1_wasOpen_12 : decode prog_3_method_3_code 12 = .ok (.iload_n 1, 1) := gd_6 db00a_19
theorem d_X1_wasOpen_13 : decode prog_3_method_3_code 13 = .ok (.iaload, 1) := gd_7 db00a_19
theorem d_X1_wasOpen_14 : decode prog_3_method_3_code 14 = .ok (.iload_n 2, 1) := gd_8 db00a_19
theorem d_X1_wasOpen_15 : decode prog_3_method_3_code 15 = .ok (.if_icmp .gt 7, 3) := gd_9 db00a_19
theorem d_X1_wasOpen_18 : decode prog_3_method_3_code 18 = .ok (.iconst 1, 1) := gd_10 db00a_19
theorem d_X1_wasOpen_19 : decode prog_3_method_3_code 19 = .ok (.goto 4, 3) := gd_11 db00a_19
theorem d_X1_wasOpen_22 : decode prog_3_method_3_code 22 = .ok (.iconst 0, 1) := gd_12 db00a_19
theorem d_X1_wasOpen_23 : decode prog_3_method_3_code 23 = .ok (.ireturn, 1) := gd_13 db00a_19
theorem db00a_20 : Ad_ prog_3_method_4_code [(0, .aload_n 0, 1), (1, .getfield 60, 3), (4, .bipush 30, 2), (6, .if_icmp .lt 5, 3), (9, .iconst (-1), 1), (10, .ireturn, 1), (11, .aload_n 0, 1), (12, .getfield 11, 3), (15, .aload_n 0, 1), (16, .getfield 60, 3), (19, .iload_n 1, 1), (20, .iastore, 1), (21, .aload_n 0, 1), (22, .getfield 15, 3), (25, .aload_n 0, 1), (26, .getfield 60, 3), (29, .iload_n 2, 1), (30, .iastore, 1), (31, .aload_n 0, 1), (32, .dup, 1), (33, .getfield 60, 3), (36, .iconst 1, 1), (37, .iadd, 1), (38, .putfield 60, 3)] := bch_ok prog_3_method_4_code _ 0 (by decide +kernel)
theorem d_X1_start_0 : decode prog_3_method_4_code 0 = .ok (.aload_n 0, 1) := gd_0 db00a_20
theorem d_X1_start_1 : decode prog_3_method_4_code 1 = .ok (.getfield 60, 3) := gd_1 db00a_20
theorem d_X1_start_4 : decode prog_3_method_4_code 4 = .ok (.bipush 30, 2) := gd_2 db00a_20
theorem d_X1_start_6 : decode prog_3_method_4_code 6 = .ok (.if_icmp .lt 5, 3) := gd_3 db00a_20
theorem d_X1_start_9 : decode prog_3_method_4_code 9 = .ok (.iconst (-1), 1) := gd_4 db00a_20
theorem d_X1_start_10 : decode prog_3_method_4_code 10 = .ok (.ireturn, 1) := gd_5 db00a_20
theorem d_X1_start_11 : decode prog_3_method_4_code 11 = .ok (.aload_n 0, 1) := gd_6 db00a_20
theorem d_X1_start_12 : decode prog_3_method_4_code 12 = .ok (.getfield 11, 3) := gd_7 db00a_20
theorem d_X1_start_15 : decode prog_3_method_4_code 15 = .ok (.aload_n 0, 1) := gd_8 db00a_20
theorem d_X1_start_16 : decode prog_3_method_4_code 16 = .ok (.getfield 60, 3) := gd_9 db00a_20
theorem d_X1_start_19 : decode prog_3_method_4_code 19 = .ok (.iload_n 1, 1) := gd_10 db00a_20
theorem d_X1_start_20 : decode prog_3_method_4_code 20 = .ok (.iastore, 1) := gd_11 db00a_20
theorem d_X1_start_21 : decode prog_3_method_4_code 21 = .ok (.aload_n 0, 1) := gd_12 db00a_20
theorem d_X1_start_22 : decode prog_3_method_4_code 22 = .ok (.getfield 15, 3) := gd_13 db00a_20
theorem d_X1_start_25 : decode prog_3_method_4_code 25 = .ok (.aload_n 0, 1) := gd_14 db00a_20
theorem d_X1_start_26 : decode prog_3_method_4_code 26 = .ok (.getfield 60, 3) := gd_15 db00a_20
theorem d_X1_start_29 : decode prog_3_method_4_code 29 = .ok (.iload_n 2, 1) := gd_16 db00a_20
theorem d_X1_start_30 : decode prog_3_method_4_code 30 = .ok (.iastore, 1) := gd_17 db00a_20
theorem d_X1_start_31 : decode prog_3_method_4_code 31 = .ok (.aload_n 0, 1) := gd_18 db00a_20
theorem d_X1_start_32 : decode prog_3_method_4_code 32 = .ok (.dup, 1) := gd_19 db00a_20
theorem d_X1_start_33 : decode prog_3_method_4_code 33 = .ok (.getfield 60, 3) := gd_20 db00a_20
theorem d_X1_start_36 : decode prog_3_method_4_code 36 = .ok (.iconst 1, 1) := gd_21 db00a_20
theorem d_X1_start_37 : decode prog_3_method_4_code 37 = .ok (.iadd, 1) := gd_22 db00a_20
theorem d_X1_start_38 : decode prog_3_method_4_code 38 = .ok (.putfield 60, 3) := gd_23 db00a_20
theorem db00a_21 : Ad_ prog_3_method_4_code [(41, .aload_n 0, 1), (42, .getfield 60, 3), (45, .iconst 1, 1), (46, .isub, 1), (47, .ireturn, 1)] := bch_ok prog_3_method_4_code _ 41 (by decide +kernel)
theorem d_X1_start_41 : decode prog_3_method_4_code 41 = .ok (.aload_n 0, 1) := gd_0 db00a_21
theorem d_X1_start_42 : decode prog_3_method_4_code 42 = .ok (.getfield 60, 3) := gd_1 db00a_21
theorem d_X1_start_45 : decode prog_3_method_4_code 45 = .ok (.iconst 1, 1) := gd_2 db00a_21
theorem d_X1_start_46 : decode prog_3_method_4_code 46 = .ok (.isub, 1) := gd_3 db00a_21
theorem d_X1_start_47 : decode prog_3_method_4_code 47 = .ok (.ireturn, 1) := gd_4 db00a_21
theorem db00a_22 : Ad_ prog_3_method_5_code [(0, .aload_n 0, 1), (1, .getfield 68, 3), (4, .sipush 200, 3), (7, .if_icmp .ge 23, 3), (10, .iload_n 3, 1), (11, .iconst 0, 1), (12, .bipush 15, 2), (14, .invokestatic 71, 3), (17, .ifCond .eq 13, 3), (20, .aload_n 0, 1), (21, .getfield 33, 3), (24, .iload_n 3, 1), (25, .iaload, 1), (26, .iconst (-1), 1), (27, .if_icmp .eq 5, 3), (30, .iconst (-1), 1), (31, .ireturn, 1), (32, .aload_n 0, 1), (33, .getfield 27, 3), (36, .aload_n 0, 1), (37, .getfield 68, 3), (40, .iload_n 1, 1), (41, .bipush 8, 2), (43, .ishl, 1)] := bch_ok prog_3_method_5_code _ 0 (by decide +kernel)
theorem d_X1_addStatement_0 : decode prog_3_method_5_code 0 = .ok (.aload_n 0, 1) := gd_0 db00a_22
theorem d_X1_addStatement_1 : decode prog_3_method_5_code 1 = .ok (.getfield 68, 3) := gd_1 db00a_22
theorem d_X1_addStatement_4 : decode prog_3_method_5_code 4 = .ok (.sipush 200, 3) := gd_2 db00a_22
theorem d_X1_addStatement_7 : decode prog_3_method_5_code 7 = .ok (.if_icmp .ge 23, 3) := gd_3 db00a_22
theorem d_X1_addStatement_10 : decode prog_3_method_5_code 10 = .ok (.iload_n 3, 1) := gd_4 db00a_22
theorem d_X1_addStatement_11 : decode prog_3_method_5_code 11 = .ok (.iconst 0, 1) := gd_5 db00a_22
theorem d_X1_addStatement_12 : decode prog_3_method_5_code 12 = .ok (.bipush 15, 2) := gd_6 db00a_22
theorem d_X1_addStatement_14 : decode prog_3_method_5_code 14 = .ok (.invokestatic 71, 3) := gd_7 db00a_22
theorem d_X1_addStatement_17 : decode prog_3_method_5_code 17 = .ok (.ifCond .eq 13, 3) := gd_8 db00a_22
theorem d_X1_addStatement_20 : decode prog_3_method_5_code 20 = .ok (.aload_n 0, 1) := gd_9 db00a_22
theorem d_X1_addStatement_21 : decode prog_3_method_5_code 21 = .ok (.getfield 33, 3) := gd_10 db00a_22
theorem d_X1_addStatement_24 : decode prog_3_method_5_code 24 = .ok (.iload_n 3, 1) := gd_11 db00a_22
theorem d_X1_addStatement_25 : decode prog_3_method_5_code 25 = .ok (.iaload, 1) := gd_12 db00a_22
theorem d_X1_addStatement_26 : decode prog_3_method_5_code 26 = .ok (.iconst (-1), 1) := gd_13 db00a_22
theorem d_X1_addStatement_27 : decode prog_3_method_5_code 27 = .ok (.if_icmp .eq 5, 3) := gd_14 db00a_22
theorem d_X1_addStatement_30 : decode prog_3_method_5_code 30 = .ok (.iconst (-1), 1) := gd_15 db00a_22
theorem d_X1_addStatement_31 : decode prog_3_method_5_code 31 = .ok (.ireturn, 1) := gd_16 db00a_22
theorem d_X1_addStatement_32 : decode prog_3_method_5_code 32 = .ok (.aload_n 0, 1) := gd_17 db00a_22
theorem d_X1_addStatement_33 : decode prog_3_method_5_code 33 = .ok (.getfield 27, 3) := gd_18 db00a_22
theorem d_X1_addStatement_36 : decode prog_3_method_5_code 36 = .ok (.aload_n 0, 1) := gd_19 db00a_22
theorem d_X1_addStatement_37 : decode prog_3_method_5_code 37 = .ok (.getfield 68, 3) := gd_20 db00a_22
theorem d_X1_addStatement_40 : decode prog_3_method_5_code 40 = .ok (.iload_n 1, 1) := gd_21 db00a_22
theorem d_X1_addStatement_41 : decode prog_3_method_5_code 41 = .ok (.bipush 8, 2) := gd_22 db00a_22
theorem d_X1_addStatement_43 : decode prog_3_method_5_code 43 = .ok (.ishl, 1) := gd_23 db00a_22
theorem db00a_23 : Ad_ prog_3_method_5_code [(44, .iload_n 2, 1), (45, .iconst 5, 1), (46, .ishl, 1), (47, .ior, 1), (48, .iload_n 3, 1), (49, .iconst 1, 1), (50, .ishl, 1), (51, .ior, 1), (52, .iload 4, 2), (54, .ifCond .eq 7, 3), (57, .iconst 1, 1), (58, .goto 4, 3), (61, .iconst 0, 1), (62, .ior, 1), (63, .iastore, 1), (64, .aload_n 0, 1), (65, .getfield 30, 3), (68, .aload_n 0, 1), (69, .getfield 68, 3), (72, .iload 5, 2), (74, .iastore, 1), (75, .aload_n 0, 1), (76, .dup, 1), (77, .getfield 68, 3)] := bch_ok prog_3_method_5_code _ 44 (by decide +kernel)
theorem d_X1_addStatement_44 : decode prog_3_method_5_code 44 = .ok (.iload_n 2, 1) := gd_0 db00a_23
theorem d_X1_addStatement_45 : decode prog_3_method_5_code 45 = .ok (.iconst 5, 1) := gd_1 db00a_23
theorem d_X1_addStatement_46 : decode prog_3_method_5_code 46 = .ok (.ishl, 1) := gd_2 db00a_23
theorem d_X1_addStatement_47 : decode prog_3_method_5_code 47 = .ok (.ior, 1) := gd_3 db00a_23
theorem d_X1_addStatement_48 : decode prog_3_method_5_code 48 = .ok (.iload_n 3, 1) := gd_4 db00a_23
theorem d_X1_addStatement_49 : decode prog_3_method_5_code 49 = .ok (.iconst 1, 1) := gd_5 db00a_23
theorem d_X1_addStatement_50 : decode prog_3_method_5_code 50 = .ok (.ishl, 1) := gd_6 db00a_23
theorem d_X1_addStatement_51 : decode prog_3_method_5_code 51 = .ok (.ior, 1) := gd_7 db00a_23
theorem d_X1_addStatement_52 : decode prog_3_method_5_code 52 = .ok (.iload 4, 2) := gd_8 db00a_23
theorem d_X1_addStatement_54 : decode prog_3_method_5_code 54 = .ok (.ifCond .eq 7, 3) := gd_9 db00a_23
theorem d_X1_addStatement_57 : decode prog_3_method_5_code 57 = .ok (.iconst 1, 1) := gd_10 db00a_23
theorem d_X1_addStatement_58 : decode prog_3_method_5_code 58 = .ok (.goto 4, 3) := gd_11 db00a_23
theorem d_X1_addStatement_61 : decode prog_3_method_5_code 61 = .ok (.iconst 0, 1) := gd_12 db00a_23
theorem d_X1_addStatement_62 : decode prog_3_method_5_code 62 = .ok (.ior, 1) := gd_13 db00a_23
theorem d_X1_addStatement_63 : decode prog_3_method_5_code 63 = .ok (.iastore, 1) := gd_14 db00a_23
theorem d_X1_addStatement_64 : decode prog_3_method_5_code 64 = .ok (.aload_n 0, 1) := gd_15 db00a_23
theorem d_X1_addStatement_65 : decode prog_3_method_5_code 65 = .ok (.getfield 30, 3) := gd_16 db00a_23
theorem d_X1_addStatement_68 : decode prog_3_method_5_code 68 = .ok (.aload_n 0, 1) := gd_17 db00a_23
theorem d_X1_addStatement_69 : decode prog_3_method_5_code 69 = .ok (.getfield 68, 3) := gd_18 db00a_23
theorem d_X1_addStatement_72 : decode prog_3_method_5_code 72 = .ok (.iload 5, 2) := gd_19 db00a_23
theorem d_X1_addStatement_74 : decode prog_3_method_5_code 74 = .ok (.iastore, 1) := gd_20 db00a_23
theorem d_X1_addStatement_75 : decode prog_3_method_5_code 75 = .ok (.aload_n 0, 1) := gd_21 db00a_23
theorem d_X1_addStatement_76 : decode prog_3_method_5_code 76 = .ok (.dup, 1) := gd_22 db00a_23
theorem d_X1_addStatement_77 : decode prog_3_method_5_code 77 = .ok (.getfield 68, 3) := gd_23 db00a_23
theorem db00a_24 : Ad_ prog_3_method_5_code [(80, .iconst 1, 1), (81, .iadd, 1), (82, .putfield 68, 3), (85, .aload_n 0, 1), (86, .getfield 68, 3), (89, .iconst 1, 1), (90, .isub, 1), (91, .ireturn, 1)] := bch_ok prog_3_method_5_code _ 80 (by decide +kernel)
theorem d_X1_addStatement_80 : decode prog_3_method_5_code 80 = .ok (.iconst 1, 1) := gd_0 db00a_24
theorem d_X1_addStatement_81 : decode prog_3_method_5_code 81 = .ok (.iadd, 1) := gd_1 db00a_24
theorem d_X1_addStatement_82 : decode prog_3_method_5_code 82 = .ok (.putfield 68, 3) := gd_2 db00a_24
theorem d_X1_addStatement_85 : decode prog_3_method_5_code 85 = .ok (.aload_n 0, 1) := gd_3 db00a_24
theorem d_X1_addStatement_86 : decode prog_3_method_5_code 86 = .ok (.getfield 68, 3) := gd_4 db00a_24
theorem d_X1_addStatement_89 : decode prog_3_method_5_code 89 = .ok (.iconst 1, 1) := gd_5 db00a_24
theorem d_X1_addStatement_90 : decode prog_3_method_5_code 90 = .ok (.isub, 1) := gd_6 db00a_24
theorem d_X1_addStatement_91 : decode prog_3_method_5_code 91 = .ok (.ireturn, 1) := gd_7 db00a_24
theorem db00a_25 : Ad_ prog_3_method_6_code [(0, .aload_n 0, 1), (1, .getfield 45, 3), (4, .iconst 0, 1), (5, .invokestatic 54, 3), (8, .aload_n 0, 1), (9, .getfield 48, 3), (12, .iconst 0, 1), (13, .invokestatic 54, 3), (16, .iconst 0, 1), (17, .istore_n 3, 1), (18, .iload_n 3, 1), (19, .aload_n 0, 1), (20, .getfield 68, 3), (23, .if_icmp .ge 153, 3), (26, .aload_n 0, 1), (27, .getfield 27, 3), (30, .iload_n 3, 1), (31, .iaload, 1), (32, .bipush 8, 2), (34, .ishr, 1), (35, .iload_n 1, 1), (36, .if_icmp .ne 134, 3), (39, .aload_n 0, 1), (40, .getfield 30, 3)] := bch_ok prog_3_method_6_code _ 0 (by decide +kernel)
theorem d_X1_weigh_0 : decode prog_3_method_6_code 0 = .ok (.aload_n 0, 1) := gd_0 db00a_25
theorem d_X1_weigh_1 : decode prog_3_method_6_code 1 = .ok (.getfield 45, 3) := gd_1 db00a_25
theorem d_X1_weigh_4 : decode prog_3_method_6_code 4 = .ok (.iconst 0, 1) := gd_2 db00a_25
theorem d_X1_weigh_5 : decode prog_3_method_6_code 5 = .ok (.invokestatic 54, 3) := gd_3 db00a_25
theorem d_X1_weigh_8 : decode prog_3_method_6_code 8 = .ok (.aload_n 0, 1) := gd_4 db00a_25
theorem d_X1_weigh_9 : decode prog_3_method_6_code 9 = .ok (.getfield 48, 3) := gd_5 db00a_25
theorem d_X1_weigh_12 : decode prog_3_method_6_code 12 = .ok (.iconst 0, 1) := gd_6 db00a_25
theorem d_X1_weigh_13 : decode prog_3_method_6_code 13 = .ok (.invokestatic 54, 3) := gd_7 db00a_25
theorem d_X1_weigh_16 : decode prog_3_method_6_code 16 = .ok (.iconst 0, 1) := gd_8 db00a_25
theorem d_X1_weigh_17 : decode prog_3_method_6_code 17 = .ok (.istore_n 3, 1) := gd_9 db00a_25
theorem d_X1_weigh_18 : decode prog_3_method_6_code 18 = .ok (.iload_n 3, 1) := gd_10 db00a_25
theorem d_X1_weigh_19 : decode prog_3_method_6_code 19 = .ok (.aload_n 0, 1) := gd_11 db00a_25
theorem d_X1_weigh_20 : decode prog_3_method_6_code 20 = .ok (.getfield 68, 3) := gd_12 db00a_25
theorem d_X1_weigh_23 : decode prog_3_method_6_code 23 = .ok (.if_icmp .ge 153, 3) := gd_13 db00a_25
theorem d_X1_weigh_26 : decode prog_3_method_6_code 26 = .ok (.aload_n 0, 1) := gd_14 db00a_25
theorem d_X1_weigh_27 : decode prog_3_method_6_code 27 = .ok (.getfield 27, 3) := gd_15 db00a_25
theorem d_X1_weigh_30 : decode prog_3_method_6_code 30 = .ok (.iload_n 3, 1) := gd_16 db00a_25
theorem d_X1_weigh_31 : decode prog_3_method_6_code 31 = .ok (.iaload, 1) := gd_17 db00a_25
theorem d_X1_weigh_32 : decode prog_3_method_6_code 32 = .ok (.bipush 8, 2) := gd_18 db00a_25
theorem d_X1_weigh_34 : decode prog_3_method_6_code 34 = .ok (.ishr, 1) := gd_19 db00a_25
theorem d_X1_weigh_35 : decode prog_3_method_6_code 35 = .ok (.iload_n 1, 1) := gd_20 db00a_25
theorem d_X1_weigh_36 : decode prog_3_method_6_code 36 = .ok (.if_icmp .ne 134, 3) := gd_21 db00a_25
theorem d_X1_weigh_39 : decode prog_3_method_6_code 39 = .ok (.aload_n 0, 1) := gd_22 db00a_25
theorem d_X1_weigh_40 : decode prog_3_method_6_code 40 = .ok (.getfield 30, 3) := gd_23 db00a_25
theorem db00a_26 : Ad_ prog_3_method_6_code [(43, .iload_n 3, 1), (44, .iaload, 1), (45, .iload_n 2, 1), (46, .if_icmp .gt 124, 3), (49, .aload_n 0, 1), (50, .getfield 27, 3), (53, .iload_n 3, 1), (54, .iaload, 1), (55, .iconst 5, 1), (56, .ishr, 1), (57, .bipush 7, 2), (59, .iand, 1), (60, .istore 4, 2), (62, .iconst 1, 1), (63, .aload_n 0, 1), (64, .getfield 27, 3), (67, .iload_n 3, 1), (68, .iaload, 1), (69, .iconst 1, 1), (70, .ishr, 1), (71, .bipush 15, 2), (73, .iand, 1), (74, .ishl, 1), (75, .istore 5, 2)] := bch_ok prog_3_method_6_code _ 43 (by decide +kernel)
theorem d_X1_weigh_43 : decode prog_3_method_6_code 43 = .ok (.iload_n 3, 1) := gd_0 db00a_26
theorem d_X1_weigh_44 : decode prog_3_method_6_code 44 = .ok (.iaload, 1) := gd_1 db00a_26
theorem d_X1_weigh_45 : decode prog_3_method_6_code 45 = .ok (.iload_n 2, 1) := gd_2 db00a_26
theorem d_X1_weigh_46 : decode prog_3_method_6_code 46 = .ok (.if_icmp .gt 124, 3) := gd_3 db00a_26
theorem d_X1_weigh_49 : decode prog_3_method_6_code 49 = .ok (.aload_n 0, 1) := gd_4 db00a_26
theorem d_X1_weigh_50 : decode prog_3_method_6_code 50 = .ok (.getfield 27, 3) := gd_5 db00a_26
theorem d_X1_weigh_53 : decode prog_3_method_6_code 53 = .ok (.iload_n 3, 1) := gd_6 db00a_26
theorem d_X1_weigh_54 : decode prog_3_method_6_code 54 = .ok (.iaload, 1) := gd_7 db00a_26
theorem d_X1_weigh_55 : decode prog_3_method_6_code 55 = .ok (.iconst 5, 1) := gd_8 db00a_26
theorem d_X1_weigh_56 : decode prog_3_method_6_code 56 = .ok (.ishr, 1) := gd_9 db00a_26
theorem d_X1_weigh_57 : decode prog_3_method_6_code 57 = .ok (.bipush 7, 2) := gd_10 db00a_26
theorem d_X1_weigh_59 : decode prog_3_method_6_code 59 = .ok (.iand, 1) := gd_11 db00a_26
theorem d_X1_weigh_60 : decode prog_3_method_6_code 60 = .ok (.istore 4, 2) := gd_12 db00a_26
theorem d_X1_weigh_62 : decode prog_3_method_6_code 62 = .ok (.iconst 1, 1) := gd_13 db00a_26
theorem d_X1_weigh_63 : decode prog_3_method_6_code 63 = .ok (.aload_n 0, 1) := gd_14 db00a_26
theorem d_X1_weigh_64 : decode prog_3_method_6_code 64 = .ok (.getfield 27, 3) := gd_15 db00a_26
theorem d_X1_weigh_67 : decode prog_3_method_6_code 67 = .ok (.iload_n 3, 1) := gd_16 db00a_26
theorem d_X1_weigh_68 : decode prog_3_method_6_code 68 = .ok (.iaload, 1) := gd_17 db00a_26
theorem d_X1_weigh_69 : decode prog_3_method_6_code 69 = .ok (.iconst 1, 1) := gd_18 db00a_26
theorem d_X1_weigh_70 : decode prog_3_method_6_code 70 = .ok (.ishr, 1) := gd_19 db00a_26
theorem d_X1_weigh_71 : decode prog_3_method_6_code 71 = .ok (.bipush 15, 2) := gd_20 db00a_26
theorem d_X1_weigh_73 : decode prog_3_method_6_code 73 = .ok (.iand, 1) := gd_21 db00a_26
theorem d_X1_weigh_74 : decode prog_3_method_6_code 74 = .ok (.ishl, 1) := gd_22 db00a_26
theorem d_X1_weigh_75 : decode prog_3_method_6_code 75 = .ok (.istore 5, 2) := gd_23 db00a_26
theorem db00a_27 : Ad_ prog_3_method_6_code [(77, .aload_n 0, 1), (78, .getfield 27, 3), (81, .iload_n 3, 1), (82, .iaload, 1), (83, .iconst 1, 1), (84, .iand, 1), (85, .iconst 1, 1), (86, .if_icmp .ne 7, 3), (89, .iconst 1, 1), (90, .goto 4, 3), (93, .iconst 0, 1), (94, .istore 6, 2), (96, .aload_n 0, 1), (97, .getfield 45, 3), (100, .iload 4, 2), (102, .iload 6, 2), (104, .ifCond .eq 16, 3), (107, .aload_n 0, 1), (108, .getfield 45, 3), (111, .iload 4, 2), (113, .iaload, 1), (114, .iload 5, 2), (116, .ior, 1), (117, .goto 15, 3)] := bch_ok prog_3_method_6_code _ 77 (by decide +kernel)
theorem d_X1_weigh_77 : decode prog_3_method_6_code 77 = .ok (.aload_n 0, 1) := gd_0 db00a_27
theorem d_X1_weigh_78 : decode prog_3_method_6_code 78 = .ok (.getfield 27, 3) := gd_1 db00a_27
theorem d_X1_weigh_81 : decode prog_3_method_6_code 81 = .ok (.iload_n 3, 1) := gd_2 db00a_27
theorem d_X1_weigh_82 : decode prog_3_method_6_code 82 = .ok (.iaload, 1) := gd_3 db00a_27
theorem d_X1_weigh_83 : decode prog_3_method_6_code 83 = .ok (.iconst 1, 1) := gd_4 db00a_27
theorem d_X1_weigh_84 : decode prog_3_method_6_code 84 = .ok (.iand, 1) := gd_5 db00a_27
theorem d_X1_weigh_85 : decode prog_3_method_6_code 85 = .ok (.iconst 1, 1) := gd_6 db00a_27
theorem d_X1_weigh_86 : decode prog_3_method_6_code 86 = .ok (.if_icmp .ne 7, 3) := gd_7 db00a_27
theorem d_X1_weigh_89 : decode prog_3_method_6_code 89 = .ok (.iconst 1, 1) := gd_8 db00a_27
theorem d_X1_weigh_90 : decode prog_3_method_6_code 90 = .ok (.goto 4, 3) := gd_9 db00a_27
theorem d_X1_weigh_93 : decode prog_3_method_6_code 93 = .ok (.iconst 0, 1) := gd_10 db00a_27
theorem d_X1_weigh_94 : decode prog_3_method_6_code 94 = .ok (.istore 6, 2) := gd_11 db00a_27
theorem d_X1_weigh_96 : decode prog_3_method_6_code 96 = .ok (.aload_n 0, 1) := gd_12 db00a_27
theorem d_X1_weigh_97 : decode prog_3_method_6_code 97 = .ok (.getfield 45, 3) := gd_13 db00a_27
theorem d_X1_weigh_100 : decode prog_3_method_6_code 100 = .ok (.iload 4, 2) := gd_14 db00a_27
theorem d_X1_weigh_102 : decode prog_3_method_6_code 102 = .ok (.iload 6, 2) := gd_15 db00a_27
theorem d_X1_weigh_104 : decode prog_3_method_6_code 104 = .ok (.ifCond .eq 16, 3) := gd_16 db00a_27
theorem d_X1_weigh_107 : decode prog_3_method_6_code 107 = .ok (.aload_n 0, 1) := gd_17 db00a_27
theorem d_X1_weigh_108 : decode prog_3_method_6_code 108 = .ok (.getfield 45, 3) := gd_18 db00a_27
theorem d_X1_weigh_111 : decode prog_3_method_6_code 111 = .ok (.iload 4, 2) := gd_19 db00a_27
theorem d_X1_weigh_113 : decode prog_3_method_6_code 113 = .ok (.iaload, 1) := gd_20 db00a_27
theorem d_X1_weigh_114 : decode prog_3_method_6_code 114 = .ok (.iload 5, 2) := gd_21 db00a_27
theorem d_X1_weigh_116 : decode prog_3_method_6_code 116 = .ok (.ior, 1) := gd_22 db00a_27
theorem d_X1_weigh_117 : decode prog_3_method_6_code 117 = .ok (.goto 15, 3) := gd_23 db00a_27
theorem d_X1_weigh_130 : decode prog_3_method_6_code 130 = .ok (.ixor, 1) := by decide +kernel
theorem d_X1_weigh_154 : decode prog_3_method_6_code 154 = .ok (.ixor, 1) := by decide +kernel
theorem db00a_28 : Ad_ prog_3_method_6_code [(120, .aload_n 0, 1), (121, .getfield 45, 3), (124, .iload 4, 2), (126, .iaload, 1), (127, .iload 5, 2), (129, .iconst (-1), 1), (131, .iand, 1), (132, .iastore, 1), (133, .aload_n 0, 1), (134, .getfield 48, 3), (137, .iload 4, 2), (139, .iload 6, 2), (141, .ifCond .eq 18, 3), (144, .aload_n 0, 1), (145, .getfield 48, 3), (148, .iload 4, 2), (150, .iaload, 1), (151, .iload 5, 2), (153, .iconst (-1), 1), (155, .iand, 1), (156, .goto 13, 3), (159, .aload_n 0, 1), (160, .getfield 48, 3), (163, .iload 4, 2)] := bch_ok prog_3_method_6_code _ 120 (by decide +kernel)
theorem d_X1_weigh_120 : decode prog_3_method_6_code 120 = .ok (.aload_n 0, 1) := gd_0 db00a_28
theorem d_X1_weigh_121 : decode prog_3_method_6_code 121 = .ok (.getfield 45, 3) := gd_1 db00a_28
theorem d_X1_weigh_124 : decode prog_3_method_6_code 124 = .ok (.iload 4, 2) := gd_2 db00a_28
theorem d_X1_weigh_126 : decode prog_3_method_6_code 126 = .ok (.iaload, 1) := gd_3 db00a_28
theorem d_X1_weigh_127 : decode prog_3_method_6_code 127 = .ok (.iload 5, 2) := gd_4 db00a_28
theorem d_X1_weigh_129 : decode prog_3_method_6_code 129 = .ok (.iconst (-1), 1) := gd_5 db00a_28
theorem d_X1_weigh_131 : decode prog_3_method_6_code 131 = .ok (.iand, 1) := gd_6 db00a_28
theorem d_X1_weigh_132 : decode prog_3_method_6_code 132 = .ok (.iastore, 1) := gd_7 db00a_28
theorem d_X1_weigh_133 : decode prog_3_method_6_code 133 = .ok (.aload_n 0, 1) := gd_8 db00a_28
theorem d_X1_weigh_134 : decode prog_3_method_6_code 134 = .ok (.getfield 48, 3) := gd_9 db00a_28
theorem d_X1_weigh_137 : decode prog_3_method_6_code 137 = .ok (.iload 4, 2) := gd_10 db00a_28
theorem d_X1_weigh_139 : decode prog_3_method_6_code 139 = .ok (.iload 6, 2) := gd_11 db00a_28
theorem d_X1_weigh_141 : decode prog_3_method_6_code 141 = .ok (.ifCond .eq 18, 3) := gd_12 db00a_28
theorem d_X1_weigh_144 : decode prog_3_method_6_code 144 = .ok (.aload_n 0, 1) := gd_13 db00a_28
theorem d_X1_weigh_145 : decode prog_3_method_6_code 145 = .ok (.getfield 48, 3) := gd_14 db00a_28
theorem d_X1_weigh_148 : decode prog_3_method_6_code 148 = .ok (.iload 4, 2) := gd_15 db00a_28
theorem d_X1_weigh_150 : decode prog_3_method_6_code 150 = .ok (.iaload, 1) := gd_16 db00a_28
theorem d_X1_weigh_151 : decode prog_3_method_6_code 151 = .ok (.iload 5, 2) := gd_17 db00a_28
theorem d_X1_weigh_153 : decode prog_3_method_6_code 153 = .ok (.iconst (-1), 1) := gd_18 db00a_28
theorem d_X1_weigh_155 : decode prog_3_method_6_code 155 = .ok (.iand, 1) := gd_19 db00a_28
theorem d_X1_weigh_156 : decode prog_3_method_6_code 156 = .ok (.goto 13, 3) := gd_20 db00a_28
theorem d_X1_weigh_159 : decode prog_3_method_6_code 159 = .ok (.aload_n 0, 1) := gd_21 db00a_28
theorem d_X1_weigh_160 : decode prog_3_method_6_code 160 = .ok (.getfield 48, 3) := gd_22 db00a_28
theorem d_X1_weigh_163 : decode prog_3_method_6_code 163 = .ok (.iload 4, 2) := gd_23 db00a_28
theorem db00a_29 : Ad_ prog_3_method_6_code [(165, .iaload, 1), (166, .iload 5, 2), (168, .ior, 1), (169, .iastore, 1), (170, .iinc 3 1, 3), (173, .goto (-155), 3), (176, .aload_n 0, 1), (177, .iload_n 2, 1), (178, .invokevirtual 75, 3), (181, .istore_n 3, 1), (182, .iconst 0, 1), (183, .istore 4, 2), (185, .iload 4, 2), (187, .bipush 8, 2), (189, .if_icmp .ge 31, 3), (192, .aload_n 0, 1), (193, .getfield 45, 3), (196, .iload 4, 2), (198, .dup2, 1), (199, .iaload, 1), (200, .iload_n 3, 1), (201, .iand, 1), (202, .iastore, 1), (203, .aload_n 0, 1)] := bch_ok prog_3_method_6_code _ 165 (by decide +kernel)
theorem d_X1_weigh_165 : decode prog_3_method_6_code 165 = .ok (.iaload, 1) := gd_0 db00a_29
theorem d_X1_weigh_166 : decode prog_3_method_6_code 166 = .ok (.iload 5, 2) := gd_1 db00a_29
theorem d_X1_weigh_168 : decode prog_3_method_6_code 168 = .ok (.ior, 1) := gd_2 db00a_29
theorem d_X1_weigh_169 : decode prog_3_method_6_code 169 = .ok (.iastore, 1) := gd_3 db00a_29
theorem d_X1_weigh_170 : decode prog_3_method_6_code 170 = .ok (.iinc 3 1, 3) := gd_4 db00a_29
theorem d_X1_weigh_173 : decode prog_3_method_6_code 173 = .ok (.goto (-155), 3) := gd_5 db00a_29
theorem d_X1_weigh_176 : decode prog_3_method_6_code 176 = .ok (.aload_n 0, 1) := gd_6 db00a_29
theorem d_X1_weigh_177 : decode prog_3_method_6_code 177 = .ok (.iload_n 2, 1) := gd_7 db00a_29
theorem d_X1_weigh_178 : decode prog_3_method_6_code 178 = .ok (.invokevirtual 75, 3) := gd_8 db00a_29
theorem d_X1_weigh_181 : decode prog_3_method_6_code 181 = .ok (.istore_n 3, 1) := gd_9 db00a_29
theorem d_X1_weigh_182 : decode prog_3_method_6_code 182 = .ok (.iconst 0, 1) := gd_10 db00a_29
theorem d_X1_weigh_183 : decode prog_3_method_6_code 183 = .ok (.istore 4, 2) := gd_11 db00a_29
theorem d_X1_weigh_185 : decode prog_3_method_6_code 185 = .ok (.iload 4, 2) := gd_12 db00a_29
theorem d_X1_weigh_187 : decode prog_3_method_6_code 187 = .ok (.bipush 8, 2) := gd_13 db00a_29
theorem d_X1_weigh_189 : decode prog_3_method_6_code 189 = .ok (.if_icmp .ge 31, 3) := gd_14 db00a_29
theorem d_X1_weigh_192 : decode prog_3_method_6_code 192 = .ok (.aload_n 0, 1) := gd_15 db00a_29
theorem d_X1_weigh_193 : decode prog_3_method_6_code 193 = .ok (.getfield 45, 3) := gd_16 db00a_29
theorem d_X1_weigh_196 : decode prog_3_method_6_code 196 = .ok (.iload 4, 2) := gd_17 db00a_29
theorem d_X1_weigh_198 : decode prog_3_method_6_code 198 = .ok (.dup2, 1) := gd_18 db00a_29
theorem d_X1_weigh_199 : decode prog_3_method_6_code 199 = .ok (.iaload, 1) := gd_19 db00a_29
theorem d_X1_weigh_200 : decode prog_3_method_6_code 200 = .ok (.iload_n 3, 1) := gd_20 db00a_29
theorem d_X1_weigh_201 : decode prog_3_method_6_code 201 = .ok (.iand, 1) := gd_21 db00a_29
theorem d_X1_weigh_202 : decode prog_3_method_6_code 202 = .ok (.iastore, 1) := gd_22 db00a_29
theorem d_X1_weigh_203 : decode prog_3_method_6_code 203 = .ok (.aload_n 0, 1) := gd_23 db00a_29
theorem db00a_30 : Ad_ prog_3_method_6_code [(204, .getfield 48, 3), (207, .iload 4, 2), (209, .dup2, 1), (210, .iaload, 1), (211, .iload_n 3, 1), (212, .iand, 1), (213, .iastore, 1), (214, .iinc 4 1, 3), (217, .goto (-32), 3), (220, .return_, 1)] := bch_ok prog_3_method_6_code _ 204 (by decide +kernel)
theorem d_X1_weigh_204 : decode prog_3_method_6_code 204 = .ok (.getfield 48, 3) := gd_0 db00a_30
theorem d_X1_weigh_207 : decode prog_3_method_6_code 207 = .ok (.iload 4, 2) := gd_1 db00a_30
theorem d_X1_weigh_209 : decode prog_3_method_6_code 209 = .ok (.dup2, 1) := gd_2 db00a_30
theorem d_X1_weigh_210 : decode prog_3_method_6_code 210 = .ok (.iaload, 1) := gd_3 db00a_30
theorem d_X1_weigh_211 : decode prog_3_method_6_code 211 = .ok (.iload_n 3, 1) := gd_4 db00a_30
theorem d_X1_weigh_212 : decode prog_3_method_6_code 212 = .ok (.iand, 1) := gd_5 db00a_30
theorem d_X1_weigh_213 : decode prog_3_method_6_code 213 = .ok (.iastore, 1) := gd_6 db00a_30
theorem d_X1_weigh_214 : decode prog_3_method_6_code 214 = .ok (.iinc 4 1, 3) := gd_7 db00a_30
theorem d_X1_weigh_217 : decode prog_3_method_6_code 217 = .ok (.goto (-32), 3) := gd_8 db00a_30
theorem d_X1_weigh_220 : decode prog_3_method_6_code 220 = .ok (.return_, 1) := gd_9 db00a_30
theorem db00a_31 : Ad_ prog_3_method_7_code [(0, .iconst 0, 1), (1, .istore_n 2, 1), (2, .iconst 0, 1), (3, .istore_n 3, 1), (4, .iload_n 3, 1), (5, .bipush 16, 2), (7, .if_icmp .ge 35, 3), (10, .aload_n 0, 1), (11, .getfield 33, 3), (14, .iload_n 3, 1), (15, .iaload, 1), (16, .iconst (-1), 1), (17, .if_icmp .eq 13, 3), (20, .aload_n 0, 1), (21, .getfield 33, 3), (24, .iload_n 3, 1), (25, .iaload, 1), (26, .iload_n 1, 1), (27, .if_icmp .le 9, 3), (30, .iload_n 2, 1), (31, .iconst 1, 1), (32, .iload_n 3, 1), (33, .ishl, 1), (34, .ior, 1)] := bch_ok prog_3_method_7_code _ 0 (by decide +kernel)
theorem d_X1_stillHeard_0 : decode prog_3_method_7_code 0 = .ok (.iconst 0, 1) := gd_0 db00a_31
theorem d_X1_stillHeard_1 : decode prog_3_method_7_code 1 = .ok (.istore_n 2, 1) := gd_1 db00a_31
theorem d_X1_stillHeard_2 : decode prog_3_method_7_code 2 = .ok (.iconst 0, 1) := gd_2 db00a_31
theorem d_X1_stillHeard_3 : decode prog_3_method_7_code 3 = .ok (.istore_n 3, 1) := gd_3 db00a_31
theorem d_X1_stillHeard_4 : decode prog_3_method_7_code 4 = .ok (.iload_n 3, 1) := gd_4 db00a_31
theorem d_X1_stillHeard_5 : decode prog_3_method_7_code 5 = .ok (.bipush 16, 2) := gd_5 db00a_31
theorem d_X1_stillHeard_7 : decode prog_3_method_7_code 7 = .ok (.if_icmp .ge 35, 3) := gd_6 db00a_31
theorem d_X1_stillHeard_10 : decode prog_3_method_7_code 10 = .ok (.aload_n 0, 1) := gd_7 db00a_31
theorem d_X1_stillHeard_11 : decode prog_3_method_7_code 11 = .ok (.getfield 33, 3) := gd_8 db00a_31
theorem d_X1_stillHeard_14 : decode prog_3_method_7_code 14 = .ok (.iload_n 3, 1) := gd_9 db00a_31
theorem d_X1_stillHeard_15 : decode prog_3_method_7_code 15 = .ok (.iaload, 1) := gd_10 db00a_31
theorem d_X1_stillHeard_16 : decode prog_3_method_7_code 16 = .ok (.iconst (-1), 1) := gd_11 db00a_31
theorem d_X1_stillHeard_17 : decode prog_3_method_7_code 17 = .ok (.if_icmp .eq 13, 3) := gd_12 db00a_31
theorem d_X1_stillHeard_20 : decode prog_3_method_7_code 20 = .ok (.aload_n 0, 1) := gd_13 db00a_31
theorem d_X1_stillHeard_21 : decode prog_3_method_7_code 21 = .ok (.getfield 33, 3) := gd_14 db00a_31
theorem d_X1_stillHeard_24 : decode prog_3_method_7_code 24 = .ok (.iload_n 3, 1) := gd_15 db00a_31
theorem d_X1_stillHeard_25 : decode prog_3_method_7_code 25 = .ok (.iaload, 1) := gd_16 db00a_31
theorem d_X1_stillHeard_26 : decode prog_3_method_7_code 26 = .ok (.iload_n 1, 1) := gd_17 db00a_31
theorem d_X1_stillHeard_27 : decode prog_3_method_7_code 27 = .ok (.if_icmp .le 9, 3) := gd_18 db00a_31
theorem d_X1_stillHeard_30 : decode prog_3_method_7_code 30 = .ok (.iload_n 2, 1) := gd_19 db00a_31
theorem d_X1_stillHeard_31 : decode prog_3_method_7_code 31 = .ok (.iconst 1, 1) := gd_20 db00a_31
theorem d_X1_stillHeard_32 : decode prog_3_method_7_code 32 = .ok (.iload_n 3, 1) := gd_21 db00a_31
theorem d_X1_stillHeard_33 : decode prog_3_method_7_code 33 = .ok (.ishl, 1) := gd_22 db00a_31
theorem d_X1_stillHeard_34 : decode prog_3_method_7_code 34 = .ok (.ior, 1) := gd_23 db00a_31
theorem db00a_32 : Ad_ prog_3_method_7_code [(35, .istore_n 2, 1), (36, .iinc 3 1, 3), (39, .goto (-35), 3), (42, .iload_n 2, 1), (43, .ireturn, 1)] := bch_ok prog_3_method_7_code _ 35 (by decide +kernel)
theorem d_X1_stillHeard_35 : decode prog_3_method_7_code 35 = .ok (.istore_n 2, 1) := gd_0 db00a_32
theorem d_X1_stillHeard_36 : decode prog_3_method_7_code 36 = .ok (.iinc 3 1, 3) := gd_1 db00a_32
theorem d_X1_stillHeard_39 : decode prog_3_method_7_code 39 = .ok (.goto (-35), 3) := gd_2 db00a_32
theorem d_X1_stillHeard_42 : decode prog_3_method_7_code 42 = .ok (.iload_n 2, 1) := gd_3 db00a_32
theorem d_X1_stillHeard_43 : decode prog_3_method_7_code 43 = .ok (.ireturn, 1) := gd_4 db00a_32
theorem db00a_33 : Ad_ prog_3_method_8_code [(0, .iload_n 1, 1), (1, .iconst 0, 1), (2, .bipush 7, 2), (4, .invokestatic 71, 3), (7, .ifCond .ne 5, 3), (10, .iconst (-1), 1), (11, .ireturn, 1), (12, .aload_n 0, 1), (13, .getfield 45, 3), (16, .iload_n 1, 1), (17, .iaload, 1), (18, .invokestatic 79, 3), (21, .istore_n 2, 1), (22, .aload_n 0, 1), (23, .getfield 48, 3), (26, .iload_n 1, 1), (27, .iaload, 1), (28, .invokestatic 79, 3), (31, .istore_n 3, 1), (32, .iload_n 2, 1), (33, .ifCond .le 9, 3), (36, .iload_n 3, 1), (37, .ifCond .le 5, 3), (40, .iconst 3, 1)] := bch_ok prog_3_method_8_code _ 0 (by decide +kernel)
theorem d_X1_verdictOn_0 : decode prog_3_method_8_code 0 = .ok (.iload_n 1, 1) := gd_0 db00a_33
theorem d_X1_verdictOn_1 : decode prog_3_method_8_code 1 = .ok (.iconst 0, 1) := gd_1 db00a_33
theorem d_X1_verdictOn_2 : decode prog_3_method_8_code 2 = .ok (.bipush 7, 2) := gd_2 db00a_33
theorem d_X1_verdictOn_4 : decode prog_3_method_8_code 4 = .ok (.invokestatic 71, 3) := gd_3 db00a_33
theorem d_X1_verdictOn_7 : decode prog_3_method_8_code 7 = .ok (.ifCond .ne 5, 3) := gd_4 db00a_33
theorem d_X1_verdictOn_10 : decode prog_3_method_8_code 10 = .ok (.iconst (-1), 1) := gd_5 db00a_33
theorem d_X1_verdictOn_11 : decode prog_3_method_8_code 11 = .ok (.ireturn, 1) := gd_6 db00a_33
theorem d_X1_verdictOn_12 : decode prog_3_method_8_code 12 = .ok (.aload_n 0, 1) := gd_7 db00a_33
theorem d_X1_verdictOn_13 : decode prog_3_method_8_code 13 = .ok (.getfield 45, 3) := gd_8 db00a_33
theorem d_X1_verdictOn_16 : decode prog_3_method_8_code 16 = .ok (.iload_n 1, 1) := gd_9 db00a_33
theorem d_X1_verdictOn_17 : decode prog_3_method_8_code 17 = .ok (.iaload, 1) := gd_10 db00a_33
theorem d_X1_verdictOn_18 : decode prog_3_method_8_code 18 = .ok (.invokestatic 79, 3) := gd_11 db00a_33
theorem d_X1_verdictOn_21 : decode prog_3_method_8_code 21 = .ok (.istore_n 2, 1) := gd_12 db00a_33
theorem d_X1_verdictOn_22 : decode prog_3_method_8_code 22 = .ok (.aload_n 0, 1) := gd_13 db00a_33
theorem d_X1_verdictOn_23 : decode prog_3_method_8_code 23 = .ok (.getfield 48, 3) := gd_14 db00a_33
theorem d_X1_verdictOn_26 : decode prog_3_method_8_code 26 = .ok (.iload_n 1, 1) := gd_15 db00a_33
theorem d_X1_verdictOn_27 : decode prog_3_method_8_code 27 = .ok (.iaload, 1) := gd_16 db00a_33
theorem d_X1_verdictOn_28 : decode prog_3_method_8_code 28 = .ok (.invokestatic 79, 3) := gd_17 db00a_33
theorem d_X1_verdictOn_31 : decode prog_3_method_8_code 31 = .ok (.istore_n 3, 1) := gd_18 db00a_33
theorem d_X1_verdictOn_32 : decode prog_3_method_8_code 32 = .ok (.iload_n 2, 1) := gd_19 db00a_33
theorem d_X1_verdictOn_33 : decode prog_3_method_8_code 33 = .ok (.ifCond .le 9, 3) := gd_20 db00a_33
theorem d_X1_verdictOn_36 : decode prog_3_method_8_code 36 = .ok (.iload_n 3, 1) := gd_21 db00a_33
theorem d_X1_verdictOn_37 : decode prog_3_method_8_code 37 = .ok (.ifCond .le 5, 3) := gd_22 db00a_33
theorem d_X1_verdictOn_40 : decode prog_3_method_8_code 40 = .ok (.iconst 3, 1) := gd_23 db00a_33
theorem db00a_34 : Ad_ prog_3_method_8_code [(41, .ireturn, 1), (42, .iload_n 2, 1), (43, .aload_n 0, 1), (44, .getfield 24, 3), (47, .iload_n 1, 1), (48, .iaload, 1), (49, .if_icmp .lt 7, 3), (52, .iconst 1, 1), (53, .goto 18, 3), (56, .iload_n 3, 1), (57, .aload_n 0, 1), (58, .getfield 24, 3), (61, .iload_n 1, 1), (62, .iaload, 1), (63, .if_icmp .lt 7, 3), (66, .iconst 2, 1), (67, .goto 4, 3), (70, .iconst 0, 1), (71, .ireturn, 1)] := bch_ok prog_3_method_8_code _ 41 (by decide +kernel)
theorem d_X1_verdictOn_41 : decode prog_3_method_8_code 41 = .ok (.ireturn, 1) := gd_0 db00a_34
theorem d_X1_verdictOn_42 : decode prog_3_method_8_code 42 = .ok (.iload_n 2, 1) := gd_1 db00a_34
theorem d_X1_verdictOn_43 : decode prog_3_method_8_code 43 = .ok (.aload_n 0, 1) := gd_2 db00a_34
theorem d_X1_verdictOn_44 : decode prog_3_method_8_code 44 = .ok (.getfield 24, 3) := gd_3 db00a_34
theorem d_X1_verdictOn_47 : decode prog_3_method_8_code 47 = .ok (.iload_n 1, 1) := gd_4 db00a_34
theorem d_X1_verdictOn_48 : decode prog_3_method_8_code 48 = .ok (.iaload, 1) := gd_5 db00a_34
theorem d_X1_verdictOn_49 : decode prog_3_method_8_code 49 = .ok (.if_icmp .lt 7, 3) := gd_6 db00a_34
theorem d_X1_verdictOn_52 : decode prog_3_method_8_code 52 = .ok (.iconst 1, 1) := gd_7 db00a_34
theorem d_X1_verdictOn_53 : decode prog_3_method_8_code 53 = .ok (.goto 18, 3) := gd_8 db00a_34
theorem d_X1_verdictOn_56 : decode prog_3_method_8_code 56 = .ok (.iload_n 3, 1) := gd_9 db00a_34
theorem d_X1_verdictOn_57 : decode prog_3_method_8_code 57 = .ok (.aload_n 0, 1) := gd_10 db00a_34
theorem d_X1_verdictOn_58 : decode prog_3_method_8_code 58 = .ok (.getfield 24, 3) := gd_11 db00a_34
theorem d_X1_verdictOn_61 : decode prog_3_method_8_code 61 = .ok (.iload_n 1, 1) := gd_12 db00a_34
theorem d_X1_verdictOn_62 : decode prog_3_method_8_code 62 = .ok (.iaload, 1) := gd_13 db00a_34
theorem d_X1_verdictOn_63 : decode prog_3_method_8_code 63 = .ok (.if_icmp .lt 7, 3) := gd_14 db00a_34
theorem d_X1_verdictOn_66 : decode prog_3_method_8_code 66 = .ok (.iconst 2, 1) := gd_15 db00a_34
theorem d_X1_verdictOn_67 : decode prog_3_method_8_code 67 = .ok (.goto 4, 3) := gd_16 db00a_34
theorem d_X1_verdictOn_70 : decode prog_3_method_8_code 70 = .ok (.iconst 0, 1) := gd_17 db00a_34
theorem d_X1_verdictOn_71 : decode prog_3_method_8_code 71 = .ok (.ireturn, 1) := gd_18 db00a_34
theorem db00a_35 : Ad_ prog_3_method_9_code [(0, .iconst 0, 1), (1, .istore_n 2, 1), (2, .iconst 0, 1), (3, .istore_n 3, 1), (4, .iload_n 3, 1), (5, .bipush 8, 2), (7, .if_icmp .ge 24, 3), (10, .aload_n 0, 1), (11, .iload_n 3, 1), (12, .invokevirtual 84, 3), (15, .iload_n 1, 1), (16, .if_icmp .ne 9, 3), (19, .iload_n 2, 1), (20, .iconst 1, 1), (21, .iload_n 3, 1), (22, .ishl, 1), (23, .ior, 1), (24, .istore_n 2, 1), (25, .iinc 3 1, 3), (28, .goto (-24), 3), (31, .iload_n 2, 1), (32, .ireturn, 1)] := bch_ok prog_3_method_9_code _ 0 (by decide +kernel)
theorem d_X1_factsThatAre_0 : decode prog_3_method_9_code 0 = .ok (.iconst 0, 1) := gd_0 db00a_35
theorem d_X1_factsThatAre_1 : decode prog_3_method_9_code 1 = .ok (.istore_n 2, 1) := gd_1 db00a_35
theorem d_X1_factsThatAre_2 : decode prog_3_method_9_code 2 = .ok (.iconst 0, 1) := gd_2 db00a_35
theorem d_X1_factsThatAre_3 : decode prog_3_method_9_code 3 = .ok (.istore_n 3, 1) := gd_3 db00a_35
theorem d_X1_factsThatAre_4 : decode prog_3_method_9_code 4 = .ok (.iload_n 3, 1) := gd_4 db00a_35
theorem d_X1_factsThatAre_5 : decode prog_3_method_9_code 5 = .ok (.bipush 8, 2) := gd_5 db00a_35
theorem d_X1_factsThatAre_7 : decode prog_3_method_9_code 7 = .ok (.if_icmp .ge 24, 3) := gd_6 db00a_35
theorem d_X1_factsThatAre_10 : decode prog_3_method_9_code 10 = .ok (.aload_n 0, 1) := gd_7 db00a_35
theorem d_X1_factsThatAre_11 : decode prog_3_method_9_code 11 = .ok (.iload_n 3, 1) := gd_8 db00a_35
theorem d_X1_factsThatAre_12 : decode prog_3_method_9_code 12 = .ok (.invokevirtual 84, 3) := gd_9 db00a_35
theorem d_X1_factsThatAre_15 : decode prog_3_method_9_code 15 = .ok (.iload_n 1, 1) := gd_10 db00a_35
theorem d_X1_factsThatAre_16 : decode prog_3_method_9_code 16 = .ok (.if_icmp .ne 9, 3) := gd_11 db00a_35
theorem d_X1_factsThatAre_19 : decode prog_3_method_9_code 19 = .ok (.iload_n 2, 1) := gd_12 db00a_35
theorem d_X1_factsThatAre_20 : decode prog_3_method_9_code 20 = .ok (.iconst 1, 1) := gd_13 db00a_35
theorem d_X1_factsThatAre_21 : decode prog_3_method_9_code 21 = .ok (.iload_n 3, 1) := gd_14 db00a_35
theorem d_X1_factsThatAre_22 : decode prog_3_method_9_code 22 = .ok (.ishl, 1) := gd_15 db00a_35
theorem d_X1_factsThatAre_23 : decode prog_3_method_9_code 23 = .ok (.ior, 1) := gd_16 db00a_35
theorem d_X1_factsThatAre_24 : decode prog_3_method_9_code 24 = .ok (.istore_n 2, 1) := gd_17 db00a_35
theorem d_X1_factsThatAre_25 : decode prog_3_method_9_code 25 = .ok (.iinc 3 1, 3) := gd_18 db00a_35
theorem d_X1_factsThatAre_28 : decode prog_3_method_9_code 28 = .ok (.goto (-24), 3) := gd_19 db00a_35
theorem d_X1_factsThatAre_31 : decode prog_3_method_9_code 31 = .ok (.iload_n 2, 1) := gd_20 db00a_35
theorem d_X1_factsThatAre_32 : decode prog_3_method_9_code 32 = .ok (.ireturn, 1) := gd_21 db00a_35
theorem db00a_36 : Ad_ prog_3_method_10_code [(0, .aload_n 0, 1), (1, .iload_n 1, 1), (2, .invokevirtual 64, 3), (5, .ifCond .eq 37, 3), (8, .aload_n 0, 1), (9, .getfield 11, 3), (12, .iload_n 1, 1), (13, .iaload, 1), (14, .iconst 0, 1), (15, .aload_n 0, 1), (16, .getfield 21, 3), (19, .arraylength, 1), (20, .iconst 1, 1), (21, .isub, 1), (22, .invokestatic 71, 3), (25, .ifCond .eq 17, 3), (28, .aload_n 0, 1), (29, .getfield 21, 3), (32, .aload_n 0, 1), (33, .getfield 11, 3), (36, .iload_n 1, 1), (37, .iaload, 1), (38, .iaload, 1), (39, .goto 4, 3)] := bch_ok prog_3_method_10_code _ 0 (by decide +kernel)
theorem d_X1_needsOf_0 : decode prog_3_method_10_code 0 = .ok (.aload_n 0, 1) := gd_0 db00a_36
theorem d_X1_needsOf_1 : decode prog_3_method_10_code 1 = .ok (.iload_n 1, 1) := gd_1 db00a_36
theorem d_X1_needsOf_2 : decode prog_3_method_10_code 2 = .ok (.invokevirtual 64, 3) := gd_2 db00a_36
theorem d_X1_needsOf_5 : decode prog_3_method_10_code 5 = .ok (.ifCond .eq 37, 3) := gd_3 db00a_36
theorem d_X1_needsOf_8 : decode prog_3_method_10_code 8 = .ok (.aload_n 0, 1) := gd_4 db00a_36
theorem d_X1_needsOf_9 : decode prog_3_method_10_code 9 = .ok (.getfield 11, 3) := gd_5 db00a_36
theorem d_X1_needsOf_12 : decode prog_3_method_10_code 12 = .ok (.iload_n 1, 1) := gd_6 db00a_36
theorem d_X1_needsOf_13 : decode prog_3_method_10_code 13 = .ok (.iaload, 1) := gd_7 db00a_36
theorem d_X1_needsOf_14 : decode prog_3_method_10_code 14 = .ok (.iconst 0, 1) := gd_8 db00a_36
theorem d_X1_needsOf_15 : decode prog_3_method_10_code 15 = .ok (.aload_n 0, 1) := gd_9 db00a_36
theorem d_X1_needsOf_16 : decode prog_3_method_10_code 16 = .ok (.getfield 21, 3) := gd_10 db00a_36
theorem d_X1_needsOf_19 : decode prog_3_method_10_code 19 = .ok (.arraylength, 1) := gd_11 db00a_36
theorem d_X1_needsOf_20 : decode prog_3_method_10_code 20 = .ok (.iconst 1, 1) := gd_12 db00a_36
theorem d_X1_needsOf_21 : decode prog_3_method_10_code 21 = .ok (.isub, 1) := gd_13 db00a_36
theorem d_X1_needsOf_22 : decode prog_3_method_10_code 22 = .ok (.invokestatic 71, 3) := gd_14 db00a_36
theorem d_X1_needsOf_25 : decode prog_3_method_10_code 25 = .ok (.ifCond .eq 17, 3) := gd_15 db00a_36
theorem d_X1_needsOf_28 : decode prog_3_method_10_code 28 = .ok (.aload_n 0, 1) := gd_16 db00a_36
theorem d_X1_needsOf_29 : decode prog_3_method_10_code 29 = .ok (.getfield 21, 3) := gd_17 db00a_36
theorem d_X1_needsOf_32 : decode prog_3_method_10_code 32 = .ok (.aload_n 0, 1) := gd_18 db00a_36
theorem d_X1_needsOf_33 : decode prog_3_method_10_code 33 = .ok (.getfield 11, 3) := gd_19 db00a_36
theorem d_X1_needsOf_36 : decode prog_3_method_10_code 36 = .ok (.iload_n 1, 1) := gd_20 db00a_36
theorem d_X1_needsOf_37 : decode prog_3_method_10_code 37 = .ok (.iaload, 1) := gd_21 db00a_36
theorem d_X1_needsOf_38 : decode prog_3_method_10_code 38 = .ok (.iaload, 1) := gd_22 db00a_36
theorem d_X1_needsOf_39 : decode prog_3_method_10_code 39 = .ok (.goto 4, 3) := gd_23 db00a_36
theorem d_X1_needsOf_42 : decode prog_3_method_10_code 42 = .ok (.iconst 0, 1) := by decide +kernel
theorem d_X1_needsOf_43 : decode prog_3_method_10_code 43 = .ok (.ireturn, 1) := by decide +kernel
theorem d_X1_lacks_11 : decode prog_3_method_11_code 11 = .ok (.ixor, 1) := by decide +kernel
theorem db00a_37 : Ad_ prog_3_method_11_code [(0, .aload_n 0, 1), (1, .iload_n 1, 1), (2, .invokevirtual 87, 3), (5, .aload_n 0, 1), (6, .iconst 1, 1), (7, .invokevirtual 90, 3), (10, .iconst (-1), 1), (12, .iand, 1), (13, .ireturn, 1)] := bch_ok prog_3_method_11_code _ 0 (by decide +kernel)
theorem d_X1_lacks_0 : decode prog_3_method_11_code 0 = .ok (.aload_n 0, 1) := gd_0 db00a_37
theorem d_X1_lacks_1 : decode prog_3_method_11_code 1 = .ok (.iload_n 1, 1) := gd_1 db00a_37
theorem d_X1_lacks_2 : decode prog_3_method_11_code 2 = .ok (.invokevirtual 87, 3) := gd_2 db00a_37
theorem d_X1_lacks_5 : decode prog_3_method_11_code 5 = .ok (.aload_n 0, 1) := gd_3 db00a_37
theorem d_X1_lacks_6 : decode prog_3_method_11_code 6 = .ok (.iconst 1, 1) := gd_4 db00a_37
theorem d_X1_lacks_7 : decode prog_3_method_11_code 7 = .ok (.invokevirtual 90, 3) := gd_5 db00a_37
theorem d_X1_lacks_10 : decode prog_3_method_11_code 10 = .ok (.iconst (-1), 1) := gd_6 db00a_37
theorem d_X1_lacks_12 : decode prog_3_method_11_code 12 = .ok (.iand, 1) := gd_7 db00a_37
theorem d_X1_lacks_13 : decode prog_3_method_11_code 13 = .ok (.ireturn, 1) := gd_8 db00a_37
theorem db00a_38 : Ad_ prog_3_method_12_code [(0, .aload_n 0, 1), (1, .iload_n 1, 1), (2, .invokevirtual 87, 3), (5, .aload_n 0, 1), (6, .iconst 2, 1), (7, .invokevirtual 90, 3), (10, .iand, 1), (11, .ifCond .eq 5, 3), (14, .iconst 2, 1), (15, .ireturn, 1), (16, .aload_n 0, 1), (17, .iload_n 1, 1), (18, .invokevirtual 93, 3), (21, .ifCond .ne 7, 3), (24, .iconst 1, 1), (25, .goto 4, 3), (28, .iconst 0, 1), (29, .ireturn, 1)] := bch_ok prog_3_method_12_code _ 0 (by decide +kernel)
theorem d_X1_standing_0 : decode prog_3_method_12_code 0 = .ok (.aload_n 0, 1) := gd_0 db00a_38
theorem d_X1_standing_1 : decode prog_3_method_12_code 1 = .ok (.iload_n 1, 1) := gd_1 db00a_38
theorem d_X1_standing_2 : decode prog_3_method_12_code 2 = .ok (.invokevirtual 87, 3) := gd_2 db00a_38
theorem d_X1_standing_5 : decode prog_3_method_12_code 5 = .ok (.aload_n 0, 1) := gd_3 db00a_38
theorem d_X1_standing_6 : decode prog_3_method_12_code 6 = .ok (.iconst 2, 1) := gd_4 db00a_38
theorem d_X1_standing_7 : decode prog_3_method_12_code 7 = .ok (.invokevirtual 90, 3) := gd_5 db00a_38
theorem d_X1_standing_10 : decode prog_3_method_12_code 10 = .ok (.iand, 1) := gd_6 db00a_38
theorem d_X1_standing_11 : decode prog_3_method_12_code 11 = .ok (.ifCond .eq 5, 3) := gd_7 db00a_38
theorem d_X1_standing_14 : decode prog_3_method_12_code 14 = .ok (.iconst 2, 1) := gd_8 db00a_38
theorem d_X1_standing_15 : decode prog_3_method_12_code 15 = .ok (.ireturn, 1) := gd_9 db00a_38
theorem d_X1_standing_16 : decode prog_3_method_12_code 16 = .ok (.aload_n 0, 1) := gd_10 db00a_38
theorem d_X1_standing_17 : decode prog_3_method_12_code 17 = .ok (.iload_n 1, 1) := gd_11 db00a_38
theorem d_X1_standing_18 : decode prog_3_method_12_code 18 = .ok (.invokevirtual 93, 3) := gd_12 db00a_38
theorem d_X1_standing_21 : decode prog_3_method_12_code 21 = .ok (.ifCond .ne 7, 3) := gd_13 db00a_38
theorem d_X1_standing_24 : decode prog_3_method_12_code 24 = .ok (.iconst 1, 1) := gd_14 db00a_38
theorem d_X1_standing_25 : decode prog_3_method_12_code 25 = .ok (.goto 4, 3) := gd_15 db00a_38
theorem d_X1_standing_28 : decode prog_3_method_12_code 28 = .ok (.iconst 0, 1) := gd_16 db00a_38
theorem d_X1_standing_29 : decode prog_3_method_12_code 29 = .ok (.ireturn, 1) := gd_17 db00a_38
theorem d_X1_tell_17 : decode prog_3_method_13_code 17 = .ok (.tableswitch 70 0 4 #[35, 41, 47, 54, 61], 35) := by decide +kernel
theorem db00a_39 : Ad_ prog_3_method_13_code [(0, .aload_n 0, 1), (1, .iload_n 1, 1), (2, .invokevirtual 64, 3), (5, .ifCond .ne 5, 3), (8, .iconst (-1), 1), (9, .ireturn, 1), (10, .aload_n 0, 1), (11, .iload_n 1, 1), (12, .iload_n 2, 1), (13, .invokevirtual 96, 3), (16, .iload_n 3, 1), (52, .aload_n 0, 1), (53, .iload_n 1, 1), (54, .invokevirtual 100, 3), (57, .ireturn, 1), (58, .aload_n 0, 1), (59, .iload_n 1, 1), (60, .invokevirtual 93, 3), (63, .ireturn, 1), (64, .aload_n 0, 1), (65, .getfield 11, 3), (68, .iload_n 1, 1), (69, .iaload, 1), (70, .ireturn, 1)] := bch_ok prog_3_method_13_code _ 0 (by decide +kernel)
theorem d_X1_tell_0 : decode prog_3_method_13_code 0 = .ok (.aload_n 0, 1) := gd_0 db00a_39
theorem d_X1_tell_1 : decode prog_3_method_13_code 1 = .ok (.iload_n 1, 1) := gd_1 db00a_39
theorem d_X1_tell_2 : decode prog_3_method_13_code 2 = .ok (.invokevirtual 64, 3) := gd_2 db00a_39
theorem d_X1_tell_5 : decode prog_3_method_13_code 5 = .ok (.ifCond .ne 5, 3) := gd_3 db00a_39
theorem d_X1_tell_8 : decode prog_3_method_13_code 8 = .ok (.iconst (-1), 1) := gd_4 db00a_39
theorem d_X1_tell_9 : decode prog_3_method_13_code 9 = .ok (.ireturn, 1) := gd_5 db00a_39
theorem d_X1_tell_10 : decode prog_3_method_13_code 10 = .ok (.aload_n 0, 1) := gd_6 db00a_39
theorem d_X1_tell_11 : decode prog_3_method_13_code 11 = .ok (.iload_n 1, 1) := gd_7 db00a_39
theorem d_X1_tell_12 : decode prog_3_method_13_code 12 = .ok (.iload_n 2, 1) := gd_8 db00a_39
theorem d_X1_tell_13 : decode prog_3_method_13_code 13 = .ok (.invokevirtual 96, 3) := gd_9 db00a_39
theorem d_X1_tell_16 : decode prog_3_method_13_code 16 = .ok (.iload_n 3, 1) := gd_10 db00a_39
theorem d_X1_tell_52 : decode prog_3_method_13_code 52 = .ok (.aload_n 0, 1) := gd_11 db00a_39
theorem d_X1_tell_53 : decode prog_3_method_13_code 53 = .ok (.iload_n 1, 1) := gd_12 db00a_39
theorem d_X1_tell_54 : decode prog_3_method_13_code 54 = .ok (.invokevirtual 100, 3) := gd_13 db00a_39
theorem d_X1_tell_57 : decode prog_3_method_13_code 57 = .ok (.ireturn, 1) := gd_14 db00a_39
theorem d_X1_tell_58 : decode prog_3_method_13_code 58 = .ok (.aload_n 0, 1) := gd_15 db00a_39
theorem d_X1_tell_59 : decode prog_3_method_13_code 59 = .ok (.iload_n 1, 1) := gd_16 db00a_39
theorem d_X1_tell_60 : decode prog_3_method_13_code 60 = .ok (.invokevirtual 93, 3) := gd_17 db00a_39
theorem d_X1_tell_63 : decode prog_3_method_13_code 63 = .ok (.ireturn, 1) := gd_18 db00a_39
theorem d_X1_tell_64 : decode prog_3_method_13_code 64 = .ok (.aload_n 0, 1) := gd_19 db00a_39
theorem d_X1_tell_65 : decode prog_3_method_13_code 65 = .ok (.getfield 11, 3) := gd_20 db00a_39
theorem d_X1_tell_68 : decode prog_3_method_13_code 68 = .ok (.iload_n 1, 1) := gd_21 db00a_39
theorem d_X1_tell_69 : decode prog_3_method_13_code 69 = .ok (.iaload, 1) := gd_22 db00a_39
theorem d_X1_tell_70 : decode prog_3_method_13_code 70 = .ok (.ireturn, 1) := gd_23 db00a_39
theorem db00a_40 : Ad_ prog_3_method_13_code [(71, .aload_n 0, 1), (72, .getfield 15, 3), (75, .iload_n 1, 1), (76, .iaload, 1), (77, .ireturn, 1), (78, .aload_n 0, 1), (79, .iload_n 1, 1), (80, .iload_n 2, 1), (81, .iconst 0, 1), (82, .iconst 0, 1), (83, .invokevirtual 103, 3), (86, .ireturn, 1), (87, .iconst (-1), 1), (88, .ireturn, 1)] := bch_ok prog_3_method_13_code _ 71 (by decide +kernel)
theorem d_X1_tell_71 : decode prog_3_method_13_code 71 = .ok (.aload_n 0, 1) := gd_0 db00a_40
theorem d_X1_tell_72 : decode prog_3_method_13_code 72 = .ok (.getfield 15, 3) := gd_1 db00a_40
theorem d_X1_tell_75 : decode prog_3_method_13_code 75 = .ok (.iload_n 1, 1) := gd_2 db00a_40
theorem d_X1_tell_76 : decode prog_3_method_13_code 76 = .ok (.iaload, 1) := gd_3 db00a_40
theorem d_X1_tell_77 : decode prog_3_method_13_code 77 = .ok (.ireturn, 1) := gd_4 db00a_40
theorem d_X1_tell_78 : decode prog_3_method_13_code 78 = .ok (.aload_n 0, 1) := gd_5 db00a_40
theorem d_X1_tell_79 : decode prog_3_method_13_code 79 = .ok (.iload_n 1, 1) := gd_6 db00a_40
theorem d_X1_tell_80 : decode prog_3_method_13_code 80 = .ok (.iload_n 2, 1) := gd_7 db00a_40
theorem d_X1_tell_81 : decode prog_3_method_13_code 81 = .ok (.iconst 0, 1) := gd_8 db00a_40
theorem d_X1_tell_82 : decode prog_3_method_13_code 82 = .ok (.iconst 0, 1) := gd_9 db00a_40
theorem d_X1_tell_83 : decode prog_3_method_13_code 83 = .ok (.invokevirtual 103, 3) := gd_10 db00a_40
theorem d_X1_tell_86 : decode prog_3_method_13_code 86 = .ok (.ireturn, 1) := gd_11 db00a_40
theorem d_X1_tell_87 : decode prog_3_method_13_code 87 = .ok (.iconst (-1), 1) := gd_12 db00a_40
theorem d_X1_tell_88 : decode prog_3_method_13_code 88 = .ok (.ireturn, 1) := gd_13 db00a_40
theorem db00a_41 : Ad_ prog_3_method_14_code [(0, .iload_n 1, 1), (1, .iconst 0, 1), (2, .bipush 15, 2), (4, .invokestatic 71, 3), (7, .ifCond .eq 13, 3), (10, .aload_n 0, 1), (11, .getfield 33, 3), (14, .iload_n 1, 1), (15, .iaload, 1), (16, .iconst (-1), 1), (17, .if_icmp .eq 5, 3), (20, .iconst (-1), 1), (21, .ireturn, 1), (22, .iconst 0, 1), (23, .istore_n 3, 1), (24, .iload_n 3, 1), (25, .aload_n 0, 1), (26, .getfield 60, 3), (29, .if_icmp .ge 21, 3), (32, .aload_n 0, 1), (33, .getfield 51, 3), (36, .iload_n 3, 1), (37, .aload_n 0, 1), (38, .iload_n 3, 1)] := bch_ok prog_3_method_14_code _ 0 (by decide +kernel)
theorem d_X1_strike_0 : decode prog_3_method_14_code 0 = .ok (.iload_n 1, 1) := gd_0 db00a_41
theorem d_X1_strike_1 : decode prog_3_method_14_code 1 = .ok (.iconst 0, 1) := gd_1 db00a_41
theorem d_X1_strike_2 : decode prog_3_method_14_code 2 = .ok (.bipush 15, 2) := gd_2 db00a_41
theorem d_X1_strike_4 : decode prog_3_method_14_code 4 = .ok (.invokestatic 71, 3) := gd_3 db00a_41
theorem d_X1_strike_7 : decode prog_3_method_14_code 7 = .ok (.ifCond .eq 13, 3) := gd_4 db00a_41
theorem d_X1_strike_10 : decode prog_3_method_14_code 10 = .ok (.aload_n 0, 1) := gd_5 db00a_41
theorem d_X1_strike_11 : decode prog_3_method_14_code 11 = .ok (.getfield 33, 3) := gd_6 db00a_41
theorem d_X1_strike_14 : decode prog_3_method_14_code 14 = .ok (.iload_n 1, 1) := gd_7 db00a_41
theorem d_X1_strike_15 : decode prog_3_method_14_code 15 = .ok (.iaload, 1) := gd_8 db00a_41
theorem d_X1_strike_16 : decode prog_3_method_14_code 16 = .ok (.iconst (-1), 1) := gd_9 db00a_41
theorem d_X1_strike_17 : decode prog_3_method_14_code 17 = .ok (.if_icmp .eq 5, 3) := gd_10 db00a_41
theorem d_X1_strike_20 : decode prog_3_method_14_code 20 = .ok (.iconst (-1), 1) := gd_11 db00a_41
theorem d_X1_strike_21 : decode prog_3_method_14_code 21 = .ok (.ireturn, 1) := gd_12 db00a_41
theorem d_X1_strike_22 : decode prog_3_method_14_code 22 = .ok (.iconst 0, 1) := gd_13 db00a_41
theorem d_X1_strike_23 : decode prog_3_method_14_code 23 = .ok (.istore_n 3, 1) := gd_14 db00a_41
theorem d_X1_strike_24 : decode prog_3_method_14_code 24 = .ok (.iload_n 3, 1) := gd_15 db00a_41
theorem d_X1_strike_25 : decode prog_3_method_14_code 25 = .ok (.aload_n 0, 1) := gd_16 db00a_41
theorem d_X1_strike_26 : decode prog_3_method_14_code 26 = .ok (.getfield 60, 3) := gd_17 db00a_41
theorem d_X1_strike_29 : decode prog_3_method_14_code 29 = .ok (.if_icmp .ge 21, 3) := gd_18 db00a_41
theorem d_X1_strike_32 : decode prog_3_method_14_code 32 = .ok (.aload_n 0, 1) := gd_19 db00a_41
theorem d_X1_strike_33 : decode prog_3_method_14_code 33 = .ok (.getfield 51, 3) := gd_20 db00a_41
theorem d_X1_strike_36 : decode prog_3_method_14_code 36 = .ok (.iload_n 3, 1) := gd_21 db00a_41
theorem d_X1_strike_37 : decode prog_3_method_14_code 37 = .ok (.aload_n 0, 1) := gd_22 db00a_41
theorem d_X1_strike_38 : decode prog_3_method_14_code 38 = .ok (.iload_n 3, 1) := gd_23 db00a_41
theorem db00a_42 : Ad_ prog_3_method_14_code [(39, .iload_n 2, 1), (40, .invokevirtual 107, 3), (43, .iastore, 1), (44, .iinc 3 1, 3), (47, .goto (-23), 3), (50, .aload_n 0, 1), (51, .getfield 33, 3), (54, .iload_n 1, 1), (55, .iload_n 2, 1), (56, .iastore, 1), (57, .iconst 0, 1), (58, .istore_n 3, 1), (59, .iconst 0, 1), (60, .istore 4, 2), (62, .iload 4, 2), (64, .aload_n 0, 1), (65, .getfield 60, 3), (68, .if_icmp .ge 29, 3), (71, .aload_n 0, 1), (72, .getfield 51, 3), (75, .iload 4, 2), (77, .iaload, 1), (78, .aload_n 0, 1), (79, .iload 4, 2)] := bch_ok prog_3_method_14_code _ 39 (by decide +kernel)
theorem d_X1_strike_39 : decode prog_3_method_14_code 39 = .ok (.iload_n 2, 1) := gd_0 db00a_42
theorem d_X1_strike_40 : decode prog_3_method_14_code 40 = .ok (.invokevirtual 107, 3) := gd_1 db00a_42
theorem d_X1_strike_43 : decode prog_3_method_14_code 43 = .ok (.iastore, 1) := gd_2 db00a_42
theorem d_X1_strike_44 : decode prog_3_method_14_code 44 = .ok (.iinc 3 1, 3) := gd_3 db00a_42
theorem d_X1_strike_47 : decode prog_3_method_14_code 47 = .ok (.goto (-23), 3) := gd_4 db00a_42
theorem d_X1_strike_50 : decode prog_3_method_14_code 50 = .ok (.aload_n 0, 1) := gd_5 db00a_42
theorem d_X1_strike_51 : decode prog_3_method_14_code 51 = .ok (.getfield 33, 3) := gd_6 db00a_42
theorem d_X1_strike_54 : decode prog_3_method_14_code 54 = .ok (.iload_n 1, 1) := gd_7 db00a_42
theorem d_X1_strike_55 : decode prog_3_method_14_code 55 = .ok (.iload_n 2, 1) := gd_8 db00a_42
theorem d_X1_strike_56 : decode prog_3_method_14_code 56 = .ok (.iastore, 1) := gd_9 db00a_42
theorem d_X1_strike_57 : decode prog_3_method_14_code 57 = .ok (.iconst 0, 1) := gd_10 db00a_42
theorem d_X1_strike_58 : decode prog_3_method_14_code 58 = .ok (.istore_n 3, 1) := gd_11 db00a_42
theorem d_X1_strike_59 : decode prog_3_method_14_code 59 = .ok (.iconst 0, 1) := gd_12 db00a_42
theorem d_X1_strike_60 : decode prog_3_method_14_code 60 = .ok (.istore 4, 2) := gd_13 db00a_42
theorem d_X1_strike_62 : decode prog_3_method_14_code 62 = .ok (.iload 4, 2) := gd_14 db00a_42
theorem d_X1_strike_64 : decode prog_3_method_14_code 64 = .ok (.aload_n 0, 1) := gd_15 db00a_42
theorem d_X1_strike_65 : decode prog_3_method_14_code 65 = .ok (.getfield 60, 3) := gd_16 db00a_42
theorem d_X1_strike_68 : decode prog_3_method_14_code 68 = .ok (.if_icmp .ge 29, 3) := gd_17 db00a_42
theorem d_X1_strike_71 : decode prog_3_method_14_code 71 = .ok (.aload_n 0, 1) := gd_18 db00a_42
theorem d_X1_strike_72 : decode prog_3_method_14_code 72 = .ok (.getfield 51, 3) := gd_19 db00a_42
theorem d_X1_strike_75 : decode prog_3_method_14_code 75 = .ok (.iload 4, 2) := gd_20 db00a_42
theorem d_X1_strike_77 : decode prog_3_method_14_code 77 = .ok (.iaload, 1) := gd_21 db00a_42
theorem d_X1_strike_78 : decode prog_3_method_14_code 78 = .ok (.aload_n 0, 1) := gd_22 db00a_42
theorem d_X1_strike_79 : decode prog_3_method_14_code 79 = .ok (.iload 4, 2) := gd_23 db00a_42
theorem db00a_43 : Ad_ prog_3_method_14_code [(81, .iload_n 2, 1), (82, .invokevirtual 107, 3), (85, .if_icmp .eq 6, 3), (88, .iinc 3 1, 3), (91, .iinc 4 1, 3), (94, .goto (-32), 3), (97, .iload_n 3, 1), (98, .ireturn, 1)] := bch_ok prog_3_method_14_code _ 81 (by decide +kernel)
theorem d_X1_strike_81 : decode prog_3_method_14_code 81 = .ok (.iload_n 2, 1) := gd_0 db00a_43
theorem d_X1_strike_82 : decode prog_3_method_14_code 82 = .ok (.invokevirtual 107, 3) := gd_1 db00a_43
theorem d_X1_strike_85 : decode prog_3_method_14_code 85 = .ok (.if_icmp .eq 6, 3) := gd_2 db00a_43
theorem d_X1_strike_88 : decode prog_3_method_14_code 88 = .ok (.iinc 3 1, 3) := gd_3 db00a_43
theorem d_X1_strike_91 : decode prog_3_method_14_code 91 = .ok (.iinc 4 1, 3) := gd_4 db00a_43
theorem d_X1_strike_94 : decode prog_3_method_14_code 94 = .ok (.goto (-32), 3) := gd_5 db00a_43
theorem d_X1_strike_97 : decode prog_3_method_14_code 97 = .ok (.iload_n 3, 1) := gd_6 db00a_43
theorem d_X1_strike_98 : decode prog_3_method_14_code 98 = .ok (.ireturn, 1) := gd_7 db00a_43
theorem db00a_44 : Ad_ prog_3_method_15_code [(0, .aload_n 0, 1), (1, .iload_n 1, 1), (2, .iload_n 2, 1), (3, .invokevirtual 96, 3), (6, .aload_n 0, 1), (7, .iload_n 1, 1), (8, .invokevirtual 100, 3), (11, .bipush 8, 2), (13, .ishl, 1), (14, .aload_n 0, 1), (15, .iload_n 1, 1), (16, .invokevirtual 93, 3), (19, .ior, 1), (20, .ireturn, 1)] := bch_ok prog_3_method_15_code _ 0 (by decide +kernel)
theorem d_X1_wholeStanding_0 : decode prog_3_method_15_code 0 = .ok (.aload_n 0, 1) := gd_0 db00a_44
theorem d_X1_wholeStanding_1 : decode prog_3_method_15_code 1 = .ok (.iload_n 1, 1) := gd_1 db00a_44
theorem d_X1_wholeStanding_2 : decode prog_3_method_15_code 2 = .ok (.iload_n 2, 1) := gd_2 db00a_44
theorem d_X1_wholeStanding_3 : decode prog_3_method_15_code 3 = .ok (.invokevirtual 96, 3) := gd_3 db00a_44
theorem d_X1_wholeStanding_6 : decode prog_3_method_15_code 6 = .ok (.aload_n 0, 1) := gd_4 db00a_44
theorem d_X1_wholeStanding_7 : decode prog_3_method_15_code 7 = .ok (.iload_n 1, 1) := gd_5 db00a_44
theorem d_X1_wholeStanding_8 : decode prog_3_method_15_code 8 = .ok (.invokevirtual 100, 3) := gd_6 db00a_44
theorem d_X1_wholeStanding_11 : decode prog_3_method_15_code 11 = .ok (.bipush 8, 2) := gd_7 db00a_44
theorem d_X1_wholeStanding_13 : decode prog_3_method_15_code 13 = .ok (.ishl, 1) := gd_8 db00a_44
theorem d_X1_wholeStanding_14 : decode prog_3_method_15_code 14 = .ok (.aload_n 0, 1) := gd_9 db00a_44
theorem d_X1_wholeStanding_15 : decode prog_3_method_15_code 15 = .ok (.iload_n 1, 1) := gd_10 db00a_44
theorem d_X1_wholeStanding_16 : decode prog_3_method_15_code 16 = .ok (.invokevirtual 93, 3) := gd_11 db00a_44
theorem d_X1_wholeStanding_19 : decode prog_3_method_15_code 19 = .ok (.ior, 1) := gd_12 db00a_44
theorem d_X1_wholeStanding_20 : decode prog_3_method_15_code 20 = .ok (.ireturn, 1) := gd_13 db00a_44
theorem db00a_45 : Ad_ prog_3_method_16_code [(0, .aload_n 0, 1), (1, .iload_n 1, 1), (2, .invokevirtual 64, 3), (5, .ifCond .eq 14, 3), (8, .aload_n 0, 1), (9, .getfield 18, 3), (12, .iload_n 1, 1), (13, .iaload, 1), (14, .bipush 6, 2), (16, .if_icmp .lt 5, 3), (19, .iconst (-1), 1), (20, .ireturn, 1), (21, .iload_n 1, 1), (22, .bipush 6, 2), (24, .imul, 1), (25, .aload_n 0, 1), (26, .getfield 18, 3), (29, .iload_n 1, 1), (30, .iaload, 1), (31, .iadd, 1), (32, .istore 5, 2), (34, .aload_n 0, 1), (35, .getfield 36, 3), (38, .iload 5, 2)] := bch_ok prog_3_method_16_code _ 0 (by decide +kernel)
theorem d_X1_addStory_0 : decode prog_3_method_16_code 0 = .ok (.aload_n 0, 1) := gd_0 db00a_45
theorem d_X1_addStory_1 : decode prog_3_method_16_code 1 = .ok (.iload_n 1, 1) := gd_1 db00a_45
theorem d_X1_addStory_2 : decode prog_3_method_16_code 2 = .ok (.invokevirtual 64, 3) := gd_2 db00a_45
theorem d_X1_addStory_5 : decode prog_3_method_16_code 5 = .ok (.ifCond .eq 14, 3) := gd_3 db00a_45
theorem d_X1_addStory_8 : decode prog_3_method_16_code 8 = .ok (.aload_n 0, 1) := gd_4 db00a_45
theorem d_X1_addStory_9 : decode prog_3_method_16_code 9 = .ok (.getfield 18, 3) := gd_5 db00a_45
theorem d_X1_addStory_12 : decode prog_3_method_16_code 12 = .ok (.iload_n 1, 1) := gd_6 db00a_45
theorem d_X1_addStory_13 : decode prog_3_method_16_code 13 = .ok (.iaload, 1) := gd_7 db00a_45
theorem d_X1_addStory_14 : decode prog_3_method_16_code 14 = .ok (.bipush 6, 2) := gd_8 db00a_45
theorem d_X1_addStory_16 : decode prog_3_method_16_code 16 = .ok (.if_icmp .lt 5, 3) := gd_9 db00a_45
theorem d_X1_addStory_19 : decode prog_3_method_16_code 19 = .ok (.iconst (-1), 1) := gd_10 db00a_45
theorem d_X1_addStory_20 : decode prog_3_method_16_code 20 = .ok (.ireturn, 1) := gd_11 db00a_45
theorem d_X1_addStory_21 : decode prog_3_method_16_code 21 = .ok (.iload_n 1, 1) := gd_12 db00a_45
theorem d_X1_addStory_22 : decode prog_3_method_16_code 22 = .ok (.bipush 6, 2) := gd_13 db00a_45
theorem d_X1_addStory_24 : decode prog_3_method_16_code 24 = .ok (.imul, 1) := gd_14 db00a_45
theorem d_X1_addStory_25 : decode prog_3_method_16_code 25 = .ok (.aload_n 0, 1) := gd_15 db00a_45
theorem d_X1_addStory_26 : decode prog_3_method_16_code 26 = .ok (.getfield 18, 3) := gd_16 db00a_45
theorem d_X1_addStory_29 : decode prog_3_method_16_code 29 = .ok (.iload_n 1, 1) := gd_17 db00a_45
theorem d_X1_addStory_30 : decode prog_3_method_16_code 30 = .ok (.iaload, 1) := gd_18 db00a_45
theorem d_X1_addStory_31 : decode prog_3_method_16_code 31 = .ok (.iadd, 1) := gd_19 db00a_45
theorem d_X1_addStory_32 : decode prog_3_method_16_code 32 = .ok (.istore 5, 2) := gd_20 db00a_45
theorem d_X1_addStory_34 : decode prog_3_method_16_code 34 = .ok (.aload_n 0, 1) := gd_21 db00a_45
theorem d_X1_addStory_35 : decode prog_3_method_16_code 35 = .ok (.getfield 36, 3) := gd_22 db00a_45
theorem d_X1_addStory_38 : decode prog_3_method_16_code 38 = .ok (.iload 5, 2) := gd_23 db00a_45
theorem db00a_46 : Ad_ prog_3_method_16_code [(40, .iload_n 2, 1), (41, .iastore, 1), (42, .aload_n 0, 1), (43, .getfield 39, 3), (46, .iload 5, 2), (48, .iload_n 3, 1), (49, .iastore, 1), (50, .aload_n 0, 1), (51, .getfield 42, 3), (54, .iload 5, 2), (56, .iload 4, 2), (58, .iastore, 1), (59, .aload_n 0, 1), (60, .getfield 18, 3), (63, .iload_n 1, 1), (64, .dup2, 1), (65, .iaload, 1), (66, .iconst 1, 1), (67, .iadd, 1), (68, .iastore, 1), (69, .aload_n 0, 1), (70, .getfield 18, 3), (73, .iload_n 1, 1), (74, .iaload, 1)] := bch_ok prog_3_method_16_code _ 40 (by decide +kernel)
theorem d_X1_addStory_40 : decode prog_3_method_16_code 40 = .ok (.iload_n 2, 1) := gd_0 db00a_46
theorem d_X1_addStory_41 : decode prog_3_method_16_code 41 = .ok (.iastore, 1) := gd_1 db00a_46
theorem d_X1_addStory_42 : decode prog_3_method_16_code 42 = .ok (.aload_n 0, 1) := gd_2 db00a_46
theorem d_X1_addStory_43 : decode prog_3_method_16_code 43 = .ok (.getfield 39, 3) := gd_3 db00a_46
theorem d_X1_addStory_46 : decode prog_3_method_16_code 46 = .ok (.iload 5, 2) := gd_4 db00a_46
theorem d_X1_addStory_48 : decode prog_3_method_16_code 48 = .ok (.iload_n 3, 1) := gd_5 db00a_46
theorem d_X1_addStory_49 : decode prog_3_method_16_code 49 = .ok (.iastore, 1) := gd_6 db00a_46
theorem d_X1_addStory_50 : decode prog_3_method_16_code 50 = .ok (.aload_n 0, 1) := gd_7 db00a_46
theorem d_X1_addStory_51 : decode prog_3_method_16_code 51 = .ok (.getfield 42, 3) := gd_8 db00a_46
theorem d_X1_addStory_54 : decode prog_3_method_16_code 54 = .ok (.iload 5, 2) := gd_9 db00a_46
theorem d_X1_addStory_56 : decode prog_3_method_16_code 56 = .ok (.iload 4, 2) := gd_10 db00a_46
theorem d_X1_addStory_58 : decode prog_3_method_16_code 58 = .ok (.iastore, 1) := gd_11 db00a_46
theorem d_X1_addStory_59 : decode prog_3_method_16_code 59 = .ok (.aload_n 0, 1) := gd_12 db00a_46
theorem d_X1_addStory_60 : decode prog_3_method_16_code 60 = .ok (.getfield 18, 3) := gd_13 db00a_46
theorem d_X1_addStory_63 : decode prog_3_method_16_code 63 = .ok (.iload_n 1, 1) := gd_14 db00a_46
theorem d_X1_addStory_64 : decode prog_3_method_16_code 64 = .ok (.dup2, 1) := gd_15 db00a_46
theorem d_X1_addStory_65 : decode prog_3_method_16_code 65 = .ok (.iaload, 1) := gd_16 db00a_46
theorem d_X1_addStory_66 : decode prog_3_method_16_code 66 = .ok (.iconst 1, 1) := gd_17 db00a_46
theorem d_X1_addStory_67 : decode prog_3_method_16_code 67 = .ok (.iadd, 1) := gd_18 db00a_46
theorem d_X1_addStory_68 : decode prog_3_method_16_code 68 = .ok (.iastore, 1) := gd_19 db00a_46
theorem d_X1_addStory_69 : decode prog_3_method_16_code 69 = .ok (.aload_n 0, 1) := gd_20 db00a_46
theorem d_X1_addStory_70 : decode prog_3_method_16_code 70 = .ok (.getfield 18, 3) := gd_21 db00a_46
theorem d_X1_addStory_73 : decode prog_3_method_16_code 73 = .ok (.iload_n 1, 1) := gd_22 db00a_46
theorem d_X1_addStory_74 : decode prog_3_method_16_code 74 = .ok (.iaload, 1) := gd_23 db00a_46
theorem db00a_47 : Ad_ prog_3_method_16_code [(75, .iconst 1, 1), (76, .isub, 1), (77, .ireturn, 1)] := bch_ok prog_3_method_16_code _ 75 (by decide +kernel)
theorem d_X1_addStory_75 : decode prog_3_method_16_code 75 = .ok (.iconst 1, 1) := gd_0 db00a_47
theorem d_X1_addStory_76 : decode prog_3_method_16_code 76 = .ok (.isub, 1) := gd_1 db00a_47
theorem d_X1_addStory_77 : decode prog_3_method_16_code 77 = .ok (.ireturn, 1) := gd_2 db00a_47
theorem db00a_48 : Ad_ prog_3_method_17_code [(0, .aload_n 0, 1), (1, .iconst 2, 1), (2, .invokevirtual 90, 3), (5, .istore 5, 2), (7, .aload_n 0, 1), (8, .iconst 1, 1), (9, .invokevirtual 90, 3), (12, .istore 6, 2), (14, .iconst 0, 1), (15, .istore 7, 2), (17, .iconst 0, 1), (18, .istore 8, 2), (20, .iload 8, 2), (22, .aload_n 0, 1), (23, .getfield 18, 3), (26, .iload_n 1, 1), (27, .iaload, 1), (28, .if_icmp .ge 102, 3), (31, .iload_n 1, 1), (32, .bipush 6, 2), (34, .imul, 1), (35, .iload 8, 2), (37, .iadd, 1), (38, .istore 9, 2)] := bch_ok prog_3_method_17_code _ 0 (by decide +kernel)
theorem d_X1_countStories_0 : decode prog_3_method_17_code 0 = .ok (.aload_n 0, 1) := gd_0 db00a_48
theorem d_X1_countStories_1 : decode prog_3_method_17_code 1 = .ok (.iconst 2, 1) := gd_1 db00a_48
theorem d_X1_countStories_2 : decode prog_3_method_17_code 2 = .ok (.invokevirtual 90, 3) := gd_2 db00a_48
theorem d_X1_countStories_5 : decode prog_3_method_17_code 5 = .ok (.istore 5, 2) := gd_3 db00a_48
theorem d_X1_countStories_7 : decode prog_3_method_17_code 7 = .ok (.aload_n 0, 1) := gd_4 db00a_48
theorem d_X1_countStories_8 : decode prog_3_method_17_code 8 = .ok (.iconst 1, 1) := gd_5 db00a_48
theorem d_X1_countStories_9 : decode prog_3_method_17_code 9 = .ok (.invokevirtual 90, 3) := gd_6 db00a_48
theorem d_X1_countStories_12 : decode prog_3_method_17_code 12 = .ok (.istore 6, 2) := gd_7 db00a_48
theorem d_X1_countStories_14 : decode prog_3_method_17_code 14 = .ok (.iconst 0, 1) := gd_8 db00a_48
theorem d_X1_countStories_15 : decode prog_3_method_17_code 15 = .ok (.istore 7, 2) := gd_9 db00a_48
theorem d_X1_countStories_17 : decode prog_3_method_17_code 17 = .ok (.iconst 0, 1) := gd_10 db00a_48
theorem d_X1_countStories_18 : decode prog_3_method_17_code 18 = .ok (.istore 8, 2) := gd_11 db00a_48
theorem d_X1_countStories_20 : decode prog_3_method_17_code 20 = .ok (.iload 8, 2) := gd_12 db00a_48
theorem d_X1_countStories_22 : decode prog_3_method_17_code 22 = .ok (.aload_n 0, 1) := gd_13 db00a_48
theorem d_X1_countStories_23 : decode prog_3_method_17_code 23 = .ok (.getfield 18, 3) := gd_14 db00a_48
theorem d_X1_countStories_26 : decode prog_3_method_17_code 26 = .ok (.iload_n 1, 1) := gd_15 db00a_48
theorem d_X1_countStories_27 : decode prog_3_method_17_code 27 = .ok (.iaload, 1) := gd_16 db00a_48
theorem d_X1_countStories_28 : decode prog_3_method_17_code 28 = .ok (.if_icmp .ge 102, 3) := gd_17 db00a_48
theorem d_X1_countStories_31 : decode prog_3_method_17_code 31 = .ok (.iload_n 1, 1) := gd_18 db00a_48
theorem d_X1_countStories_32 : decode prog_3_method_17_code 32 = .ok (.bipush 6, 2) := gd_19 db00a_48
theorem d_X1_countStories_34 : decode prog_3_method_17_code 34 = .ok (.imul, 1) := gd_20 db00a_48
theorem d_X1_countStories_35 : decode prog_3_method_17_code 35 = .ok (.iload 8, 2) := gd_21 db00a_48
theorem d_X1_countStories_37 : decode prog_3_method_17_code 37 = .ok (.iadd, 1) := gd_22 db00a_48
theorem d_X1_countStories_38 : decode prog_3_method_17_code 38 = .ok (.istore 9, 2) := gd_23 db00a_48
theorem db00a_49 : Ad_ prog_3_method_17_code [(40, .aload_n 0, 1), (41, .getfield 36, 3), (44, .iload 9, 2), (46, .iaload, 1), (47, .iload 5, 2), (49, .iand, 1), (50, .ifCond .ne 20, 3), (53, .aload_n 0, 1), (54, .getfield 39, 3), (57, .iload 9, 2), (59, .iaload, 1), (60, .iload 6, 2), (62, .iand, 1), (63, .ifCond .ne 7, 3), (66, .iconst 1, 1), (67, .goto 4, 3), (70, .iconst 0, 1), (71, .istore 10, 2), (73, .iload 4, 2), (75, .ifCond .eq 13, 3), (78, .aload_n 0, 1), (79, .getfield 36, 3), (82, .iload 9, 2), (84, .iaload, 1)] := bch_ok prog_3_method_17_code _ 40 (by decide +kernel)
theorem d_X1_countStories_40 : decode prog_3_method_17_code 40 = .ok (.aload_n 0, 1) := gd_0 db00a_49
theorem d_X1_countStories_41 : decode prog_3_method_17_code 41 = .ok (.getfield 36, 3) := gd_1 db00a_49
theorem d_X1_countStories_44 : decode prog_3_method_17_code 44 = .ok (.iload 9, 2) := gd_2 db00a_49
theorem d_X1_countStories_46 : decode prog_3_method_17_code 46 = .ok (.iaload, 1) := gd_3 db00a_49
theorem d_X1_countStories_47 : decode prog_3_method_17_code 47 = .ok (.iload 5, 2) := gd_4 db00a_49
theorem d_X1_countStories_49 : decode prog_3_method_17_code 49 = .ok (.iand, 1) := gd_5 db00a_49
theorem d_X1_countStories_50 : decode prog_3_method_17_code 50 = .ok (.ifCond .ne 20, 3) := gd_6 db00a_49
theorem d_X1_countStories_53 : decode prog_3_method_17_code 53 = .ok (.aload_n 0, 1) := gd_7 db00a_49
theorem d_X1_countStories_54 : decode prog_3_method_17_code 54 = .ok (.getfield 39, 3) := gd_8 db00a_49
theorem d_X1_countStories_57 : decode prog_3_method_17_code 57 = .ok (.iload 9, 2) := gd_9 db00a_49
theorem d_X1_countStories_59 : decode prog_3_method_17_code 59 = .ok (.iaload, 1) := gd_10 db00a_49
theorem d_X1_countStories_60 : decode prog_3_method_17_code 60 = .ok (.iload 6, 2) := gd_11 db00a_49
theorem d_X1_countStories_62 : decode prog_3_method_17_code 62 = .ok (.iand, 1) := gd_12 db00a_49
theorem d_X1_countStories_63 : decode prog_3_method_17_code 63 = .ok (.ifCond .ne 7, 3) := gd_13 db00a_49
theorem d_X1_countStories_66 : decode prog_3_method_17_code 66 = .ok (.iconst 1, 1) := gd_14 db00a_49
theorem d_X1_countStories_67 : decode prog_3_method_17_code 67 = .ok (.goto 4, 3) := gd_15 db00a_49
theorem d_X1_countStories_70 : decode prog_3_method_17_code 70 = .ok (.iconst 0, 1) := gd_16 db00a_49
theorem d_X1_countStories_71 : decode prog_3_method_17_code 71 = .ok (.istore 10, 2) := gd_17 db00a_49
theorem d_X1_countStories_73 : decode prog_3_method_17_code 73 = .ok (.iload 4, 2) := gd_18 db00a_49
theorem d_X1_countStories_75 : decode prog_3_method_17_code 75 = .ok (.ifCond .eq 13, 3) := gd_19 db00a_49
theorem d_X1_countStories_78 : decode prog_3_method_17_code 78 = .ok (.aload_n 0, 1) := gd_20 db00a_49
theorem d_X1_countStories_79 : decode prog_3_method_17_code 79 = .ok (.getfield 36, 3) := gd_21 db00a_49
theorem d_X1_countStories_82 : decode prog_3_method_17_code 82 = .ok (.iload 9, 2) := gd_22 db00a_49
theorem d_X1_countStories_84 : decode prog_3_method_17_code 84 = .ok (.iaload, 1) := gd_23 db00a_49
theorem db00a_50 : Ad_ prog_3_method_17_code [(85, .goto 10, 3), (88, .aload_n 0, 1), (89, .getfield 39, 3), (92, .iload 9, 2), (94, .iaload, 1), (95, .istore 11, 2), (97, .aload_n 0, 1), (98, .getfield 42, 3), (101, .iload 9, 2), (103, .iaload, 1), (104, .iload_n 2, 1), (105, .if_icmp .gt 19, 3), (108, .iload 10, 2), (110, .ifCond .eq 14, 3), (113, .iload 11, 2), (115, .iload_n 3, 1), (116, .iand, 1), (117, .iload_n 3, 1), (118, .if_icmp .ne 6, 3), (121, .iinc 7 1, 3), (124, .iinc 8 1, 3), (127, .goto (-107), 3), (130, .iload 7, 2), (132, .ireturn, 1)] := bch_ok prog_3_method_17_code _ 85 (by decide +kernel)
theorem d_X1_countStories_85 : decode prog_3_method_17_code 85 = .ok (.goto 10, 3) := gd_0 db00a_50
theorem d_X1_countStories_88 : decode prog_3_method_17_code 88 = .ok (.aload_n 0, 1) := gd_1 db00a_50
theorem d_X1_countStories_89 : decode prog_3_method_17_code 89 = .ok (.getfield 39, 3) := gd_2 db00a_50
theorem d_X1_countStories_92 : decode prog_3_method_17_code 92 = .ok (.iload 9, 2) := gd_3 db00a_50
theorem d_X1_countStories_94 : decode prog_3_method_17_code 94 = .ok (.iaload, 1) := gd_4 db00a_50
theorem d_X1_countStories_95 : decode prog_3_method_17_code 95 = .ok (.istore 11, 2) := gd_5 db00a_50
theorem d_X1_countStories_97 : decode prog_3_method_17_code 97 = .ok (.aload_n 0, 1) := gd_6 db00a_50
theorem d_X1_countStories_98 : decode prog_3_method_17_code 98 = .ok (.getfield 42, 3) := gd_7 db00a_50
theorem d_X1_countStories_101 : decode prog_3_method_17_code 101 = .ok (.iload 9, 2) := gd_8 db00a_50
theorem d_X1_countStories_103 : decode prog_3_method_17_code 103 = .ok (.iaload, 1) := gd_9 db00a_50
theorem d_X1_countStories_104 : decode prog_3_method_17_code 104 = .ok (.iload_n 2, 1) := gd_10 db00a_50
theorem d_X1_countStories_105 : decode prog_3_method_17_code 105 = .ok (.if_icmp .gt 19, 3) := gd_11 db00a_50
theorem d_X1_countStories_108 : decode prog_3_method_17_code 108 = .ok (.iload 10, 2) := gd_12 db00a_50
theorem d_X1_countStories_110 : decode prog_3_method_17_code 110 = .ok (.ifCond .eq 14, 3) := gd_13 db00a_50
theorem d_X1_countStories_113 : decode prog_3_method_17_code 113 = .ok (.iload 11, 2) := gd_14 db00a_50
theorem d_X1_countStories_115 : decode prog_3_method_17_code 115 = .ok (.iload_n 3, 1) := gd_15 db00a_50
theorem d_X1_countStories_116 : decode prog_3_method_17_code 116 = .ok (.iand, 1) := gd_16 db00a_50
theorem d_X1_countStories_117 : decode prog_3_method_17_code 117 = .ok (.iload_n 3, 1) := gd_17 db00a_50
theorem d_X1_countStories_118 : decode prog_3_method_17_code 118 = .ok (.if_icmp .ne 6, 3) := gd_18 db00a_50
theorem d_X1_countStories_121 : decode prog_3_method_17_code 121 = .ok (.iinc 7 1, 3) := gd_19 db00a_50
theorem d_X1_countStories_124 : decode prog_3_method_17_code 124 = .ok (.iinc 8 1, 3) := gd_20 db00a_50
theorem d_X1_countStories_127 : decode prog_3_method_17_code 127 = .ok (.goto (-107), 3) := gd_21 db00a_50
theorem d_X1_countStories_130 : decode prog_3_method_17_code 130 = .ok (.iload 7, 2) := gd_22 db00a_50
theorem d_X1_countStories_132 : decode prog_3_method_17_code 132 = .ok (.ireturn, 1) := gd_23 db00a_50
theorem db00a_51 : Ad_ prog_3_method_18_code [(0, .aload_n 0, 1), (1, .iload_n 1, 1), (2, .invokevirtual 64, 3), (5, .ifCond .ne 5, 3), (8, .iconst (-1), 1), (9, .ireturn, 1), (10, .aload_n 0, 1), (11, .iload_n 1, 1), (12, .iload_n 2, 1), (13, .invokevirtual 96, 3), (16, .iconst (-1), 1), (17, .istore_n 3, 1), (18, .iconst 0, 1), (19, .istore 4, 2), (21, .iconst 0, 1), (22, .istore 5, 2), (24, .iconst 0, 1), (25, .istore 6, 2), (27, .iload 6, 2), (29, .bipush 8, 2), (31, .if_icmp .ge 110, 3), (34, .aload_n 0, 1), (35, .iload 6, 2), (37, .invokevirtual 84, 3)] := bch_ok prog_3_method_18_code _ 0 (by decide +kernel)
theorem d_X1_bestParting_0 : decode prog_3_method_18_code 0 = .ok (.aload_n 0, 1) := gd_0 db00a_51
theorem d_X1_bestParting_1 : decode prog_3_method_18_code 1 = .ok (.iload_n 1, 1) := gd_1 db00a_51
theorem d_X1_bestParting_2 : decode prog_3_method_18_code 2 = .ok (.invokevirtual 64, 3) := gd_2 db00a_51
theorem d_X1_bestParting_5 : decode prog_3_method_18_code 5 = .ok (.ifCond .ne 5, 3) := gd_3 db00a_51
theorem d_X1_bestParting_8 : decode prog_3_method_18_code 8 = .ok (.iconst (-1), 1) := gd_4 db00a_51
theorem d_X1_bestParting_9 : decode prog_3_method_18_code 9 = .ok (.ireturn, 1) := gd_5 db00a_51
theorem d_X1_bestParting_10 : decode prog_3_method_18_code 10 = .ok (.aload_n 0, 1) := gd_6 db00a_51
theorem d_X1_bestParting_11 : decode prog_3_method_18_code 11 = .ok (.iload_n 1, 1) := gd_7 db00a_51
theorem d_X1_bestParting_12 : decode prog_3_method_18_code 12 = .ok (.iload_n 2, 1) := gd_8 db00a_51
theorem d_X1_bestParting_13 : decode prog_3_method_18_code 13 = .ok (.invokevirtual 96, 3) := gd_9 db00a_51
theorem d_X1_bestParting_16 : decode prog_3_method_18_code 16 = .ok (.iconst (-1), 1) := gd_10 db00a_51
theorem d_X1_bestParting_17 : decode prog_3_method_18_code 17 = .ok (.istore_n 3, 1) := gd_11 db00a_51
theorem d_X1_bestParting_18 : decode prog_3_method_18_code 18 = .ok (.iconst 0, 1) := gd_12 db00a_51
theorem d_X1_bestParting_19 : decode prog_3_method_18_code 19 = .ok (.istore 4, 2) := gd_13 db00a_51
theorem d_X1_bestParting_21 : decode prog_3_method_18_code 21 = .ok (.iconst 0, 1) := gd_14 db00a_51
theorem d_X1_bestParting_22 : decode prog_3_method_18_code 22 = .ok (.istore 5, 2) := gd_15 db00a_51
theorem d_X1_bestParting_24 : decode prog_3_method_18_code 24 = .ok (.iconst 0, 1) := gd_16 db00a_51
theorem d_X1_bestParting_25 : decode prog_3_method_18_code 25 = .ok (.istore 6, 2) := gd_17 db00a_51
theorem d_X1_bestParting_27 : decode prog_3_method_18_code 27 = .ok (.iload 6, 2) := gd_18 db00a_51
theorem d_X1_bestParting_29 : decode prog_3_method_18_code 29 = .ok (.bipush 8, 2) := gd_19 db00a_51
theorem d_X1_bestParting_31 : decode prog_3_method_18_code 31 = .ok (.if_icmp .ge 110, 3) := gd_20 db00a_51
theorem d_X1_bestParting_34 : decode prog_3_method_18_code 34 = .ok (.aload_n 0, 1) := gd_21 db00a_51
theorem d_X1_bestParting_35 : decode prog_3_method_18_code 35 = .ok (.iload 6, 2) := gd_22 db00a_51
theorem d_X1_bestParting_37 : decode prog_3_method_18_code 37 = .ok (.invokevirtual 84, 3) := gd_23 db00a_51
theorem db00a_52 : Ad_ prog_3_method_18_code [(40, .istore 7, 2), (42, .iload 7, 2), (44, .iconst 1, 1), (45, .if_icmp .eq 90, 3), (48, .iload 7, 2), (50, .iconst 2, 1), (51, .if_icmp .ne 6, 3), (54, .goto 81, 3), (57, .aload_n 0, 1), (58, .iload_n 1, 1), (59, .iload_n 2, 1), (60, .iconst 1, 1), (61, .iload 6, 2), (63, .ishl, 1), (64, .iconst 1, 1), (65, .invokevirtual 103, 3), (68, .istore 8, 2), (70, .aload_n 0, 1), (71, .iload_n 1, 1), (72, .iload_n 2, 1), (73, .iconst 1, 1), (74, .iload 6, 2), (76, .ishl, 1), (77, .iconst 0, 1)] := bch_ok prog_3_method_18_code _ 40 (by decide +kernel)
theorem d_X1_bestParting_40 : decode prog_3_method_18_code 40 = .ok (.istore 7, 2) := gd_0 db00a_52
theorem d_X1_bestParting_42 : decode prog_3_method_18_code 42 = .ok (.iload 7, 2) := gd_1 db00a_52
theorem d_X1_bestParting_44 : decode prog_3_method_18_code 44 = .ok (.iconst 1, 1) := gd_2 db00a_52
theorem d_X1_bestParting_45 : decode prog_3_method_18_code 45 = .ok (.if_icmp .eq 90, 3) := gd_3 db00a_52
theorem d_X1_bestParting_48 : decode prog_3_method_18_code 48 = .ok (.iload 7, 2) := gd_4 db00a_52
theorem d_X1_bestParting_50 : decode prog_3_method_18_code 50 = .ok (.iconst 2, 1) := gd_5 db00a_52
theorem d_X1_bestParting_51 : decode prog_3_method_18_code 51 = .ok (.if_icmp .ne 6, 3) := gd_6 db00a_52
theorem d_X1_bestParting_54 : decode prog_3_method_18_code 54 = .ok (.goto 81, 3) := gd_7 db00a_52
theorem d_X1_bestParting_57 : decode prog_3_method_18_code 57 = .ok (.aload_n 0, 1) := gd_8 db00a_52
theorem d_X1_bestParting_58 : decode prog_3_method_18_code 58 = .ok (.iload_n 1, 1) := gd_9 db00a_52
theorem d_X1_bestParting_59 : decode prog_3_method_18_code 59 = .ok (.iload_n 2, 1) := gd_10 db00a_52
theorem d_X1_bestParting_60 : decode prog_3_method_18_code 60 = .ok (.iconst 1, 1) := gd_11 db00a_52
theorem d_X1_bestParting_61 : decode prog_3_method_18_code 61 = .ok (.iload 6, 2) := gd_12 db00a_52
theorem d_X1_bestParting_63 : decode prog_3_method_18_code 63 = .ok (.ishl, 1) := gd_13 db00a_52
theorem d_X1_bestParting_64 : decode prog_3_method_18_code 64 = .ok (.iconst 1, 1) := gd_14 db00a_52
theorem d_X1_bestParting_65 : decode prog_3_method_18_code 65 = .ok (.invokevirtual 103, 3) := gd_15 db00a_52
theorem d_X1_bestParting_68 : decode prog_3_method_18_code 68 = .ok (.istore 8, 2) := gd_16 db00a_52
theorem d_X1_bestParting_70 : decode prog_3_method_18_code 70 = .ok (.aload_n 0, 1) := gd_17 db00a_52
theorem d_X1_bestParting_71 : decode prog_3_method_18_code 71 = .ok (.iload_n 1, 1) := gd_18 db00a_52
theorem d_X1_bestParting_72 : decode prog_3_method_18_code 72 = .ok (.iload_n 2, 1) := gd_19 db00a_52
theorem d_X1_bestParting_73 : decode prog_3_method_18_code 73 = .ok (.iconst 1, 1) := gd_20 db00a_52
theorem d_X1_bestParting_74 : decode prog_3_method_18_code 74 = .ok (.iload 6, 2) := gd_21 db00a_52
theorem d_X1_bestParting_76 : decode prog_3_method_18_code 76 = .ok (.ishl, 1) := gd_22 db00a_52
theorem d_X1_bestParting_77 : decode prog_3_method_18_code 77 = .ok (.iconst 0, 1) := gd_23 db00a_52
theorem db00a_53 : Ad_ prog_3_method_18_code [(78, .invokevirtual 103, 3), (81, .istore 9, 2), (83, .iload 8, 2), (85, .iload 9, 2), (87, .invokestatic 111, 3), (90, .istore 10, 2), (92, .iload 10, 2), (94, .iload 4, 2), (96, .if_icmp .gt 25, 3), (99, .iload 10, 2), (101, .ifCond .le 34, 3), (104, .iload 10, 2), (106, .iload 4, 2), (108, .if_icmp .ne 27, 3), (111, .iload 8, 2), (113, .iload 9, 2), (115, .iadd, 1), (116, .iload 5, 2), (118, .if_icmp .le 17, 3), (121, .iload 6, 2), (123, .istore_n 3, 1), (124, .iload 10, 2), (126, .istore 4, 2), (128, .iload 8, 2)] := bch_ok prog_3_method_18_code _ 78 (by decide +kernel)
theorem d_X1_bestParting_78 : decode prog_3_method_18_code 78 = .ok (.invokevirtual 103, 3) := gd_0 db00a_53
theorem d_X1_bestParting_81 : decode prog_3_method_18_code 81 = .ok (.istore 9, 2) := gd_1 db00a_53
theorem d_X1_bestParting_83 : decode prog_3_method_18_code 83 = .ok (.iload 8, 2) := gd_2 db00a_53
theorem d_X1_bestParting_85 : decode prog_3_method_18_code 85 = .ok (.iload 9, 2) := gd_3 db00a_53
theorem d_X1_bestParting_87 : decode prog_3_method_18_code 87 = .ok (.invokestatic 111, 3) := gd_4 db00a_53
theorem d_X1_bestParting_90 : decode prog_3_method_18_code 90 = .ok (.istore 10, 2) := gd_5 db00a_53
theorem d_X1_bestParting_92 : decode prog_3_method_18_code 92 = .ok (.iload 10, 2) := gd_6 db00a_53
theorem d_X1_bestParting_94 : decode prog_3_method_18_code 94 = .ok (.iload 4, 2) := gd_7 db00a_53
theorem d_X1_bestParting_96 : decode prog_3_method_18_code 96 = .ok (.if_icmp .gt 25, 3) := gd_8 db00a_53
theorem d_X1_bestParting_99 : decode prog_3_method_18_code 99 = .ok (.iload 10, 2) := gd_9 db00a_53
theorem d_X1_bestParting_101 : decode prog_3_method_18_code 101 = .ok (.ifCond .le 34, 3) := gd_10 db00a_53
theorem d_X1_bestParting_104 : decode prog_3_method_18_code 104 = .ok (.iload 10, 2) := gd_11 db00a_53
theorem d_X1_bestParting_106 : decode prog_3_method_18_code 106 = .ok (.iload 4, 2) := gd_12 db00a_53
theorem d_X1_bestParting_108 : decode prog_3_method_18_code 108 = .ok (.if_icmp .ne 27, 3) := gd_13 db00a_53
theorem d_X1_bestParting_111 : decode prog_3_method_18_code 111 = .ok (.iload 8, 2) := gd_14 db00a_53
theorem d_X1_bestParting_113 : decode prog_3_method_18_code 113 = .ok (.iload 9, 2) := gd_15 db00a_53
theorem d_X1_bestParting_115 : decode prog_3_method_18_code 115 = .ok (.iadd, 1) := gd_16 db00a_53
theorem d_X1_bestParting_116 : decode prog_3_method_18_code 116 = .ok (.iload 5, 2) := gd_17 db00a_53
theorem d_X1_bestParting_118 : decode prog_3_method_18_code 118 = .ok (.if_icmp .le 17, 3) := gd_18 db00a_53
theorem d_X1_bestParting_121 : decode prog_3_method_18_code 121 = .ok (.iload 6, 2) := gd_19 db00a_53
theorem d_X1_bestParting_123 : decode prog_3_method_18_code 123 = .ok (.istore_n 3, 1) := gd_20 db00a_53
theorem d_X1_bestParting_124 : decode prog_3_method_18_code 124 = .ok (.iload 10, 2) := gd_21 db00a_53
theorem d_X1_bestParting_126 : decode prog_3_method_18_code 126 = .ok (.istore 4, 2) := gd_22 db00a_53
theorem d_X1_bestParting_128 : decode prog_3_method_18_code 128 = .ok (.iload 8, 2) := gd_23 db00a_53
theorem db00a_54 : Ad_ prog_3_method_18_code [(130, .iload 9, 2), (132, .iadd, 1), (133, .istore 5, 2), (135, .iinc 6 1, 3), (138, .goto (-111), 3), (141, .iload_n 3, 1), (142, .ireturn, 1)] := bch_ok prog_3_method_18_code _ 130 (by decide +kernel)
theorem d_X1_bestParting_130 : decode prog_3_method_18_code 130 = .ok (.iload 9, 2) := gd_0 db00a_54
theorem d_X1_bestParting_132 : decode prog_3_method_18_code 132 = .ok (.iadd, 1) := gd_1 db00a_54
theorem d_X1_bestParting_133 : decode prog_3_method_18_code 133 = .ok (.istore 5, 2) := gd_2 db00a_54
theorem d_X1_bestParting_135 : decode prog_3_method_18_code 135 = .ok (.iinc 6 1, 3) := gd_3 db00a_54
theorem d_X1_bestParting_138 : decode prog_3_method_18_code 138 = .ok (.goto (-111), 3) := gd_4 db00a_54
theorem d_X1_bestParting_141 : decode prog_3_method_18_code 141 = .ok (.iload_n 3, 1) := gd_5 db00a_54
theorem d_X1_bestParting_142 : decode prog_3_method_18_code 142 = .ok (.ireturn, 1) := gd_6 db00a_54
theorem db00a_55 : Ad_ prog_4_method_1_code [(0, .aload_n 0, 1), (1, .invokespecial 3, 3), (4, .aload_n 0, 1), (5, .iconst 0, 1), (6, .putfield 9, 3), (9, .aload_n 0, 1), (10, .iconst (-1), 1), (11, .putfield 15, 3), (14, .aload_n 0, 1), (15, .iconst (-1), 1), (16, .putfield 18, 3), (19, .aload_n 0, 1), (20, .iconst (-1), 1), (21, .putfield 21, 3), (24, .aload_n 0, 1), (25, .iload_n 1, 1), (26, .putfield 24, 3), (29, .aload_n 0, 1), (30, .iload_n 2, 1), (31, .putfield 27, 3), (34, .aload_n 0, 1), (35, .iload_n 3, 1), (36, .putfield 30, 3), (39, .aload_n 0, 1)] := bch_ok prog_4_method_1_code _ 0 (by decide +kernel)
theorem d_X2_init_0 : decode prog_4_method_1_code 0 = .ok (.aload_n 0, 1) := gd_0 db00a_55
theorem d_X2_init_1 : decode prog_4_method_1_code 1 = .ok (.invokespecial 3, 3) := gd_1 db00a_55
theorem d_X2_init_4 : decode prog_4_method_1_code 4 = .ok (.aload_n 0, 1) := gd_2 db00a_55
theorem d_X2_init_5 : decode prog_4_method_1_code 5 = .ok (.iconst 0, 1) := gd_3 db00a_55
theorem d_X2_init_6 : decode prog_4_method_1_code 6 = .ok (.putfield 9, 3) := gd_4 db00a_55
theorem d_X2_init_9 : decode prog_4_method_1_code 9 = .ok (.aload_n 0, 1) := gd_5 db00a_55
theorem d_X2_init_10 : decode prog_4_method_1_code 10 = .ok (.iconst (-1), 1) := gd_6 db00a_55
theorem d_X2_init_11 : decode prog_4_method_1_code 11 = .ok (.putfield 15, 3) := gd_7 db00a_55
theorem d_X2_init_14 : decode prog_4_method_1_code 14 = .ok (.aload_n 0, 1) := gd_8 db00a_55
theorem d_X2_init_15 : decode prog_4_method_1_code 15 = .ok (.iconst (-1), 1) := gd_9 db00a_55
theorem d_X2_init_16 : decode prog_4_method_1_code 16 = .ok (.putfield 18, 3) := gd_10 db00a_55
theorem d_X2_init_19 : decode prog_4_method_1_code 19 = .ok (.aload_n 0, 1) := gd_11 db00a_55
theorem d_X2_init_20 : decode prog_4_method_1_code 20 = .ok (.iconst (-1), 1) := gd_12 db00a_55
theorem d_X2_init_21 : decode prog_4_method_1_code 21 = .ok (.putfield 21, 3) := gd_13 db00a_55
theorem d_X2_init_24 : decode prog_4_method_1_code 24 = .ok (.aload_n 0, 1) := gd_14 db00a_55
theorem d_X2_init_25 : decode prog_4_method_1_code 25 = .ok (.iload_n 1, 1) := gd_15 db00a_55
theorem d_X2_init_26 : decode prog_4_method_1_code 26 = .ok (.putfield 24, 3) := gd_16 db00a_55
theorem d_X2_init_29 : decode prog_4_method_1_code 29 = .ok (.aload_n 0, 1) := gd_17 db00a_55
theorem d_X2_init_30 : decode prog_4_method_1_code 30 = .ok (.iload_n 2, 1) := gd_18 db00a_55
theorem d_X2_init_31 : decode prog_4_method_1_code 31 = .ok (.putfield 27, 3) := gd_19 db00a_55
theorem d_X2_init_34 : decode prog_4_method_1_code 34 = .ok (.aload_n 0, 1) := gd_20 db00a_55
theorem d_X2_init_35 : decode prog_4_method_1_code 35 = .ok (.iload_n 3, 1) := gd_21 db00a_55
theorem d_X2_init_36 : decode prog_4_method_1_code 36 = .ok (.putfield 30, 3) := gd_22 db00a_55
theorem d_X2_init_39 : decode prog_4_method_1_code 39 = .ok (.aload_n 0, 1) := gd_23 db00a_55
theorem db00a_56 : Ad_ prog_4_method_1_code [(40, .iload 4, 2), (42, .putfield 33, 3), (45, .return_, 1)] := bch_ok prog_4_method_1_code _ 40 (by decide +kernel)
theorem d_X2_init_40 : decode prog_4_method_1_code 40 = .ok (.iload 4, 2) := gd_0 db00a_56
theorem d_X2_init_42 : decode prog_4_method_1_code 42 = .ok (.putfield 33, 3) := gd_1 db00a_56
theorem d_X2_init_45 : decode prog_4_method_1_code 45 = .ok (.return_, 1) := gd_2 db00a_56
theorem db00a_57 : Ad_ prog_4_method_2_code [(0, .aload_n 0, 1), (1, .getfield 36, 3), (4, .aload_n 0, 1), (5, .getfield 39, 3), (8, .isub, 1), (9, .ireturn, 1)] := bch_ok prog_4_method_2_code _ 0 (by decide +kernel)
theorem d_X2_openPoints_0 : decode prog_4_method_2_code 0 = .ok (.aload_n 0, 1) := gd_0 db00a_57
theorem d_X2_openPoints_1 : decode prog_4_method_2_code 1 = .ok (.getfield 36, 3) := gd_1 db00a_57
theorem d_X2_openPoints_4 : decode prog_4_method_2_code 4 = .ok (.aload_n 0, 1) := gd_2 db00a_57
theorem d_X2_openPoints_5 : decode prog_4_method_2_code 5 = .ok (.getfield 39, 3) := gd_3 db00a_57
theorem d_X2_openPoints_8 : decode prog_4_method_2_code 8 = .ok (.isub, 1) := gd_4 db00a_57
theorem d_X2_openPoints_9 : decode prog_4_method_2_code 9 = .ok (.ireturn, 1) := gd_5 db00a_57
theorem d_X3_init_7 : decode prog_5_method_1_code 7 = .ok (.newarray .int, 2) := by decide +kernel
theorem d_X3_init_15 : decode prog_5_method_1_code 15 = .ok (.newarray .int, 2) := by decide +kernel
theorem d_X3_init_33 : decode prog_5_method_1_code 33 = .ok (.newarray .int, 2) := by decide +kernel
theorem d_X3_init_42 : decode prog_5_method_1_code 42 = .ok (.newarray .int, 2) := by decide +kernel
theorem d_X3_init_51 : decode prog_5_method_1_code 51 = .ok (.newarray .boolean, 2) := by decide +kernel
theorem db00a_58 : Ad_ prog_5_method_1_code [(0, .aload_n 0, 1), (1, .invokespecial 5, 3), (4, .aload_n 0, 1), (5, .bipush 8, 2), (9, .putfield 11, 3), (12, .aload_n 0, 1), (13, .bipush 8, 2), (17, .putfield 15, 3), (20, .aload_n 0, 1), (21, .iconst 3, 1), (22, .putfield 18, 3), (25, .aload_n 0, 1), (26, .iconst 1, 1), (27, .putfield 22, 3), (30, .aload_n 0, 1), (31, .bipush 64, 2), (35, .putfield 26, 3), (38, .aload_n 0, 1), (39, .sipush 2304, 3), (44, .putfield 29, 3), (47, .aload_n 0, 1), (48, .sipush 2304, 3), (53, .putfield 32, 3), (56, .aload_n 0, 1)] := bch_ok prog_5_method_1_code _ 0 (by decide +kernel)
theorem d_X3_init_0 : decode prog_5_method_1_code 0 = .ok (.aload_n 0, 1) := gd_0 db00a_58
theorem d_X3_init_1 : decode prog_5_method_1_code 1 = .ok (.invokespecial 5, 3) := gd_1 db00a_58
theorem d_X3_init_4 : decode prog_5_method_1_code 4 = .ok (.aload_n 0, 1) := gd_2 db00a_58
theorem d_X3_init_5 : decode prog_5_method_1_code 5 = .ok (.bipush 8, 2) := gd_3 db00a_58
theorem d_X3_init_9 : decode prog_5_method_1_code 9 = .ok (.putfield 11, 3) := gd_4 db00a_58
theorem d_X3_init_12 : decode prog_5_method_1_code 12 = .ok (.aload_n 0, 1) := gd_5 db00a_58
theorem d_X3_init_13 : decode prog_5_method_1_code 13 = .ok (.bipush 8, 2) := gd_6 db00a_58
theorem d_X3_init_17 : decode prog_5_method_1_code 17 = .ok (.putfield 15, 3) := gd_7 db00a_58
theorem d_X3_init_20 : decode prog_5_method_1_code 20 = .ok (.aload_n 0, 1) := gd_8 db00a_58
theorem d_X3_init_21 : decode prog_5_method_1_code 21 = .ok (.iconst 3, 1) := gd_9 db00a_58
theorem d_X3_init_22 : decode prog_5_method_1_code 22 = .ok (.putfield 18, 3) := gd_10 db00a_58
theorem d_X3_init_25 : decode prog_5_method_1_code 25 = .ok (.aload_n 0, 1) := gd_11 db00a_58
theorem d_X3_init_26 : decode prog_5_method_1_code 26 = .ok (.iconst 1, 1) := gd_12 db00a_58
theorem d_X3_init_27 : decode prog_5_method_1_code 27 = .ok (.putfield 22, 3) := gd_13 db00a_58
theorem d_X3_init_30 : decode prog_5_method_1_code 30 = .ok (.aload_n 0, 1) := gd_14 db00a_58
theorem d_X3_init_31 : decode prog_5_method_1_code 31 = .ok (.bipush 64, 2) := gd_15 db00a_58
theorem d_X3_init_35 : decode prog_5_method_1_code 35 = .ok (.putfield 26, 3) := gd_16 db00a_58
theorem d_X3_init_38 : decode prog_5_method_1_code 38 = .ok (.aload_n 0, 1) := gd_17 db00a_58
theorem d_X3_init_39 : decode prog_5_method_1_code 39 = .ok (.sipush 2304, 3) := gd_18 db00a_58
theorem d_X3_init_44 : decode prog_5_method_1_code 44 = .ok (.putfield 29, 3) := gd_19 db00a_58
theorem d_X3_init_47 : decode prog_5_method_1_code 47 = .ok (.aload_n 0, 1) := gd_20 db00a_58
theorem d_X3_init_48 : decode prog_5_method_1_code 48 = .ok (.sipush 2304, 3) := gd_21 db00a_58
theorem d_X3_init_53 : decode prog_5_method_1_code 53 = .ok (.putfield 32, 3) := gd_22 db00a_58
theorem d_X3_init_56 : decode prog_5_method_1_code 56 = .ok (.aload_n 0, 1) := gd_23 db00a_58
theorem d_X3_init_59 : decode prog_5_method_1_code 59 = .ok (.newarray .int, 2) := by decide +kernel
theorem d_X3_init_67 : decode prog_5_method_1_code 67 = .ok (.newarray .int, 2) := by decide +kernel
theorem db00a_59 : Ad_ prog_5_method_1_code [(57, .bipush 8, 2), (61, .putfield 36, 3), (64, .aload_n 0, 1), (65, .bipush 8, 2), (69, .putfield 39, 3), (72, .return_, 1)] := bch_ok prog_5_method_1_code _ 57 (by decide +kernel)
theorem d_X3_init_57 : decode prog_5_method_1_code 57 = .ok (.bipush 8, 2) := gd_0 db00a_59
theorem d_X3_init_61 : decode prog_5_method_1_code 61 = .ok (.putfield 36, 3) := gd_1 db00a_59
theorem d_X3_init_64 : decode prog_5_method_1_code 64 = .ok (.aload_n 0, 1) := gd_2 db00a_59
theorem d_X3_init_65 : decode prog_5_method_1_code 65 = .ok (.bipush 8, 2) := gd_3 db00a_59
theorem d_X3_init_69 : decode prog_5_method_1_code 69 = .ok (.putfield 39, 3) := gd_4 db00a_59
theorem d_X3_init_72 : decode prog_5_method_1_code 72 = .ok (.return_, 1) := gd_5 db00a_59
theorem db00a_60 : Ad_ prog_5_method_2_code [(0, .iload_n 1, 1), (1, .ifCond .eq 10, 3), (4, .aload_n 0, 1), (5, .getfield 42, 3), (8, .goto 7, 3), (11, .aload_n 0, 1), (12, .getfield 45, 3), (15, .istore_n 3, 1), (16, .iload_n 3, 1), (17, .bipush 8, 2), (19, .if_icmp .lt 5, 3), (22, .iconst (-1), 1), (23, .ireturn, 1), (24, .aload_n 0, 1), (25, .iconst 1, 1), (26, .putfield 22, 3), (29, .iload_n 1, 1), (30, .ifCond .eq 23, 3), (33, .aload_n 0, 1), (34, .getfield 11, 3), (37, .iload_n 3, 1), (38, .iload_n 2, 1), (39, .iastore, 1), (40, .aload_n 0, 1)] := bch_ok prog_5_method_2_code _ 0 (by decide +kernel)
theorem d_X3_add_0 : decode prog_5_method_2_code 0 = .ok (.iload_n 1, 1) := gd_0 db00a_60
theorem d_X3_add_1 : decode prog_5_method_2_code 1 = .ok (.ifCond .eq 10, 3) := gd_1 db00a_60
theorem d_X3_add_4 : decode prog_5_method_2_code 4 = .ok (.aload_n 0, 1) := gd_2 db00a_60
theorem d_X3_add_5 : decode prog_5_method_2_code 5 = .ok (.getfield 42, 3) := gd_3 db00a_60
theorem d_X3_add_8 : decode prog_5_method_2_code 8 = .ok (.goto 7, 3) := gd_4 db00a_60
theorem d_X3_add_11 : decode prog_5_method_2_code 11 = .ok (.aload_n 0, 1) := gd_5 db00a_60
theorem d_X3_add_12 : decode prog_5_method_2_code 12 = .ok (.getfield 45, 3) := gd_6 db00a_60
theorem d_X3_add_15 : decode prog_5_method_2_code 15 = .ok (.istore_n 3, 1) := gd_7 db00a_60
theorem d_X3_add_16 : decode prog_5_method_2_code 16 = .ok (.iload_n 3, 1) := gd_8 db00a_60
theorem d_X3_add_17 : decode prog_5_method_2_code 17 = .ok (.bipush 8, 2) := gd_9 db00a_60
theorem d_X3_add_19 : decode prog_5_method_2_code 19 = .ok (.if_icmp .lt 5, 3) := gd_10 db00a_60
theorem d_X3_add_22 : decode prog_5_method_2_code 22 = .ok (.iconst (-1), 1) := gd_11 db00a_60
theorem d_X3_add_23 : decode prog_5_method_2_code 23 = .ok (.ireturn, 1) := gd_12 db00a_60
theorem d_X3_add_24 : decode prog_5_method_2_code 24 = .ok (.aload_n 0, 1) := gd_13 db00a_60
theorem d_X3_add_25 : decode prog_5_method_2_code 25 = .ok (.iconst 1, 1) := gd_14 db00a_60
theorem d_X3_add_26 : decode prog_5_method_2_code 26 = .ok (.putfield 22, 3) := gd_15 db00a_60
theorem d_X3_add_29 : decode prog_5_method_2_code 29 = .ok (.iload_n 1, 1) := gd_16 db00a_60
theorem d_X3_add_30 : decode prog_5_method_2_code 30 = .ok (.ifCond .eq 23, 3) := gd_17 db00a_60
theorem d_X3_add_33 : decode prog_5_method_2_code 33 = .ok (.aload_n 0, 1) := gd_18 db00a_60
theorem d_X3_add_34 : decode prog_5_method_2_code 34 = .ok (.getfield 11, 3) := gd_19 db00a_60
theorem d_X3_add_37 : decode prog_5_method_2_code 37 = .ok (.iload_n 3, 1) := gd_20 db00a_60
theorem d_X3_add_38 : decode prog_5_method_2_code 38 = .ok (.iload_n 2, 1) := gd_21 db00a_60
theorem d_X3_add_39 : decode prog_5_method_2_code 39 = .ok (.iastore, 1) := gd_22 db00a_60
theorem d_X3_add_40 : decode prog_5_method_2_code 40 = .ok (.aload_n 0, 1) := gd_23 db00a_60
theorem db00a_61 : Ad_ prog_5_method_2_code [(41, .dup, 1), (42, .getfield 42, 3), (45, .iconst 1, 1), (46, .iadd, 1), (47, .putfield 42, 3), (50, .goto 20, 3), (53, .aload_n 0, 1), (54, .getfield 15, 3), (57, .iload_n 3, 1), (58, .iload_n 2, 1), (59, .iastore, 1), (60, .aload_n 0, 1), (61, .dup, 1), (62, .getfield 45, 3), (65, .iconst 1, 1), (66, .iadd, 1), (67, .putfield 45, 3), (70, .iload_n 3, 1), (71, .ireturn, 1)] := bch_ok prog_5_method_2_code _ 41 (by decide +kernel)
theorem d_X3_add_41 : decode prog_5_method_2_code 41 = .ok (.dup, 1) := gd_0 db00a_61
theorem d_X3_add_42 : decode prog_5_method_2_code 42 = .ok (.getfield 42, 3) := gd_1 db00a_61
theorem d_X3_add_45 : decode prog_5_method_2_code 45 = .ok (.iconst 1, 1) := gd_2 db00a_61
theorem d_X3_add_46 : decode prog_5_method_2_code 46 = .ok (.iadd, 1) := gd_3 db00a_61
theorem d_X3_add_47 : decode prog_5_method_2_code 47 = .ok (.putfield 42, 3) := gd_4 db00a_61
theorem d_X3_add_50 : decode prog_5_method_2_code 50 = .ok (.goto 20, 3) := gd_5 db00a_61
theorem d_X3_add_53 : decode prog_5_method_2_code 53 = .ok (.aload_n 0, 1) := gd_6 db00a_61
theorem d_X3_add_54 : decode prog_5_method_2_code 54 = .ok (.getfield 15, 3) := gd_7 db00a_61
theorem d_X3_add_57 : decode prog_5_method_2_code 57 = .ok (.iload_n 3, 1) := gd_8 db00a_61
theorem d_X3_add_58 : decode prog_5_method_2_code 58 = .ok (.iload_n 2, 1) := gd_9 db00a_61
theorem d_X3_add_59 : decode prog_5_method_2_code 59 = .ok (.iastore, 1) := gd_10 db00a_61
theorem d_X3_add_60 : decode prog_5_method_2_code 60 = .ok (.aload_n 0, 1) := gd_11 db00a_61
theorem d_X3_add_61 : decode prog_5_method_2_code 61 = .ok (.dup, 1) := gd_12 db00a_61
theorem d_X3_add_62 : decode prog_5_method_2_code 62 = .ok (.getfield 45, 3) := gd_13 db00a_61
theorem d_X3_add_65 : decode prog_5_method_2_code 65 = .ok (.iconst 1, 1) := gd_14 db00a_61
theorem d_X3_add_66 : decode prog_5_method_2_code 66 = .ok (.iadd, 1) := gd_15 db00a_61
theorem d_X3_add_67 : decode prog_5_method_2_code 67 = .ok (.putfield 45, 3) := gd_16 db00a_61
theorem d_X3_add_70 : decode prog_5_method_2_code 70 = .ok (.iload_n 3, 1) := gd_17 db00a_61
theorem d_X3_add_71 : decode prog_5_method_2_code 71 = .ok (.ireturn, 1) := gd_18 db00a_61
theorem db00a_62 : Ad_ prog_5_method_3_code [(0, .aload_n 0, 1), (1, .iload_n 1, 1), (2, .putfield 18, 3), (5, .aload_n 0, 1), (6, .iconst 1, 1), (7, .putfield 22, 3), (10, .iconst 1, 1), (11, .ireturn, 1)] := bch_ok prog_5_method_3_code _ 0 (by decide +kernel)
theorem d_X3_setLeast_0 : decode prog_5_method_3_code 0 = .ok (.aload_n 0, 1) := gd_0 db00a_62
theorem d_X3_setLeast_1 : decode prog_5_method_3_code 1 = .ok (.iload_n 1, 1) := gd_1 db00a_62
theorem d_X3_setLeast_2 : decode prog_5_method_3_code 2 = .ok (.putfield 18, 3) := gd_2 db00a_62
theorem d_X3_setLeast_5 : decode prog_5_method_3_code 5 = .ok (.aload_n 0, 1) := gd_3 db00a_62
theorem d_X3_setLeast_6 : decode prog_5_method_3_code 6 = .ok (.iconst 1, 1) := gd_4 db00a_62
theorem d_X3_setLeast_7 : decode prog_5_method_3_code 7 = .ok (.putfield 22, 3) := gd_5 db00a_62
theorem d_X3_setLeast_10 : decode prog_5_method_3_code 10 = .ok (.iconst 1, 1) := gd_6 db00a_62
theorem d_X3_setLeast_11 : decode prog_5_method_3_code 11 = .ok (.ireturn, 1) := gd_7 db00a_62
theorem db00a_63 : Ad_ prog_5_method_4_code [(0, .iload_n 1, 1), (1, .ifCond .lt 15, 3), (4, .iload_n 1, 1), (5, .aload_n 0, 1), (6, .getfield 42, 3), (9, .if_icmp .ge 7, 3), (12, .iconst 1, 1), (13, .goto 4, 3), (16, .iconst 0, 1), (17, .ireturn, 1)] := bch_ok prog_5_method_4_code _ 0 (by decide +kernel)
theorem d_X3_hasLost_0 : decode prog_5_method_4_code 0 = .ok (.iload_n 1, 1) := gd_0 db00a_63
theorem d_X3_hasLost_1 : decode prog_5_method_4_code 1 = .ok (.ifCond .lt 15, 3) := gd_1 db00a_63
theorem d_X3_hasLost_4 : decode prog_5_method_4_code 4 = .ok (.iload_n 1, 1) := gd_2 db00a_63
theorem d_X3_hasLost_5 : decode prog_5_method_4_code 5 = .ok (.aload_n 0, 1) := gd_3 db00a_63
theorem d_X3_hasLost_6 : decode prog_5_method_4_code 6 = .ok (.getfield 42, 3) := gd_4 db00a_63
theorem d_X3_hasLost_9 : decode prog_5_method_4_code 9 = .ok (.if_icmp .ge 7, 3) := gd_5 db00a_63
theorem d_X3_hasLost_12 : decode prog_5_method_4_code 12 = .ok (.iconst 1, 1) := gd_6 db00a_63
theorem d_X3_hasLost_13 : decode prog_5_method_4_code 13 = .ok (.goto 4, 3) := gd_7 db00a_63
theorem d_X3_hasLost_16 : decode prog_5_method_4_code 16 = .ok (.iconst 0, 1) := gd_8 db00a_63
theorem d_X3_hasLost_17 : decode prog_5_method_4_code 17 = .ok (.ireturn, 1) := gd_9 db00a_63
theorem db00a_64 : Ad_ prog_5_method_5_code [(0, .aload_n 0, 1), (1, .invokevirtual 48, 3), (4, .aload_n 0, 1), (5, .getfield 29, 3), (8, .iconst 0, 1), (9, .iaload, 1), (10, .ireturn, 1)] := bch_ok prog_5_method_5_code _ 0 (by decide +kernel)
theorem d_X3_bestSum_0 : decode prog_5_method_5_code 0 = .ok (.aload_n 0, 1) := gd_0 db00a_64
theorem d_X3_bestSum_1 : decode prog_5_method_5_code 1 = .ok (.invokevirtual 48, 3) := gd_1 db00a_64
theorem d_X3_bestSum_4 : decode prog_5_method_5_code 4 = .ok (.aload_n 0, 1) := gd_2 db00a_64
theorem d_X3_bestSum_5 : decode prog_5_method_5_code 5 = .ok (.getfield 29, 3) := gd_3 db00a_64
theorem d_X3_bestSum_8 : decode prog_5_method_5_code 8 = .ok (.iconst 0, 1) := gd_4 db00a_64
theorem d_X3_bestSum_9 : decode prog_5_method_5_code 9 = .ok (.iaload, 1) := gd_5 db00a_64
theorem d_X3_bestSum_10 : decode prog_5_method_5_code 10 = .ok (.ireturn, 1) := gd_6 db00a_64
theorem db00a_65 : Ad_ prog_5_method_6_code [(0, .aload_n 0, 1), (1, .invokevirtual 48, 3), (4, .aload_n 0, 1), (5, .iload_n 1, 1), (6, .invokevirtual 51, 3), (9, .ifCond .eq 12, 3), (12, .aload_n 0, 1), (13, .getfield 39, 3), (16, .iload_n 1, 1), (17, .iaload, 1), (18, .goto 4, 3), (21, .iconst (-1), 1), (22, .ireturn, 1)] := bch_ok prog_5_method_6_code _ 0 (by decide +kernel)
theorem d_X3_firstOf_0 : decode prog_5_method_6_code 0 = .ok (.aload_n 0, 1) := gd_0 db00a_65
theorem d_X3_firstOf_1 : decode prog_5_method_6_code 1 = .ok (.invokevirtual 48, 3) := gd_1 db00a_65
theorem d_X3_firstOf_4 : decode prog_5_method_6_code 4 = .ok (.aload_n 0, 1) := gd_2 db00a_65
theorem d_X3_firstOf_5 : decode prog_5_method_6_code 5 = .ok (.iload_n 1, 1) := gd_3 db00a_65
theorem d_X3_firstOf_6 : decode prog_5_method_6_code 6 = .ok (.invokevirtual 51, 3) := gd_4 db00a_65
theorem d_X3_firstOf_9 : decode prog_5_method_6_code 9 = .ok (.ifCond .eq 12, 3) := gd_5 db00a_65
theorem d_X3_firstOf_12 : decode prog_5_method_6_code 12 = .ok (.aload_n 0, 1) := gd_6 db00a_65
theorem d_X3_firstOf_13 : decode prog_5_method_6_code 13 = .ok (.getfield 39, 3) := gd_7 db00a_65
theorem d_X3_firstOf_16 : decode prog_5_method_6_code 16 = .ok (.iload_n 1, 1) := gd_8 db00a_65
theorem d_X3_firstOf_17 : decode prog_5_method_6_code 17 = .ok (.iaload, 1) := gd_9 db00a_65
theorem d_X3_firstOf_18 : decode prog_5_method_6_code 18 = .ok (.goto 4, 3) := gd_10 db00a_65
theorem d_X3_firstOf_21 : decode prog_5_method_6_code 21 = .ok (.iconst (-1), 1) := gd_11 db00a_65
theorem d_X3_firstOf_22 : decode prog_5_method_6_code 22 = .ok (.ireturn, 1) := gd_12 db00a_65
theorem db00a_66 : Ad_ prog_5_method_7_code [(0, .aload_n 0, 1), (1, .invokevirtual 48, 3), (4, .aload_n 0, 1), (5, .iload_n 1, 1), (6, .invokevirtual 51, 3), (9, .ifCond .eq 16, 3), (12, .aload_n 0, 1), (13, .getfield 36, 3), (16, .iload_n 1, 1), (17, .iaload, 1), (18, .sipush (-257), 3), (21, .iand, 1), (22, .goto 4, 3), (25, .iconst (-1), 1), (26, .ireturn, 1)] := bch_ok prog_5_method_7_code _ 0 (by decide +kernel)
theorem d_X3_foundFor_0 : decode prog_5_method_7_code 0 = .ok (.aload_n 0, 1) := gd_0 db00a_66
theorem d_X3_foundFor_1 : decode prog_5_method_7_code 1 = .ok (.invokevirtual 48, 3) := gd_1 db00a_66
theorem d_X3_foundFor_4 : decode prog_5_method_7_code 4 = .ok (.aload_n 0, 1) := gd_2 db00a_66
theorem d_X3_foundFor_5 : decode prog_5_method_7_code 5 = .ok (.iload_n 1, 1) := gd_3 db00a_66
theorem d_X3_foundFor_6 : decode prog_5_method_7_code 6 = .ok (.invokevirtual 51, 3) := gd_4 db00a_66
theorem d_X3_foundFor_9 : decode prog_5_method_7_code 9 = .ok (.ifCond .eq 16, 3) := gd_5 db00a_66
theorem d_X3_foundFor_12 : decode prog_5_method_7_code 12 = .ok (.aload_n 0, 1) := gd_6 db00a_66
theorem d_X3_foundFor_13 : decode prog_5_method_7_code 13 = .ok (.getfield 36, 3) := gd_7 db00a_66
theorem d_X3_foundFor_16 : decode prog_5_method_7_code 16 = .ok (.iload_n 1, 1) := gd_8 db00a_66
theorem d_X3_foundFor_17 : decode prog_5_method_7_code 17 = .ok (.iaload, 1) := gd_9 db00a_66
theorem d_X3_foundFor_18 : decode prog_5_method_7_code 18 = .ok (.sipush (-257), 3) := gd_10 db00a_66
theorem d_X3_foundFor_21 : decode prog_5_method_7_code 21 = .ok (.iand, 1) := gd_11 db00a_66
theorem d_X3_foundFor_22 : decode prog_5_method_7_code 22 = .ok (.goto 4, 3) := gd_12 db00a_66
theorem d_X3_foundFor_25 : decode prog_5_method_7_code 25 = .ok (.iconst (-1), 1) := gd_13 db00a_66
theorem d_X3_foundFor_26 : decode prog_5_method_7_code 26 = .ok (.ireturn, 1) := gd_14 db00a_66
theorem db00a_67 : Ad_ prog_5_method_8_code [(0, .aload_n 0, 1), (1, .invokevirtual 48, 3), (4, .aload_n 0, 1), (5, .iload_n 1, 1), (6, .invokevirtual 51, 3), (9, .ifCond .eq 20, 3), (12, .aload_n 0, 1), (13, .getfield 36, 3), (16, .iload_n 1, 1), (17, .iaload, 1), (18, .invokestatic 55, 3), (21, .iconst 1, 1), (22, .if_icmp .ne 7, 3), (25, .iconst 1, 1), (26, .goto 4, 3), (29, .iconst 0, 1), (30, .ireturn, 1)] := bch_ok prog_5_method_8_code _ 0 (by decide +kernel)
theorem d_X3_isSure_0 : decode prog_5_method_8_code 0 = .ok (.aload_n 0, 1) := gd_0 db00a_67
theorem d_X3_isSure_1 : decode prog_5_method_8_code 1 = .ok (.invokevirtual 48, 3) := gd_1 db00a_67
theorem d_X3_isSure_4 : decode prog_5_method_8_code 4 = .ok (.aload_n 0, 1) := gd_2 db00a_67
theorem d_X3_isSure_5 : decode prog_5_method_8_code 5 = .ok (.iload_n 1, 1) := gd_3 db00a_67
theorem d_X3_isSure_6 : decode prog_5_method_8_code 6 = .ok (.invokevirtual 51, 3) := gd_4 db00a_67
theorem d_X3_isSure_9 : decode prog_5_method_8_code 9 = .ok (.ifCond .eq 20, 3) := gd_5 db00a_67
theorem d_X3_isSure_12 : decode prog_5_method_8_code 12 = .ok (.aload_n 0, 1) := gd_6 db00a_67
theorem d_X3_isSure_13 : decode prog_5_method_8_code 13 = .ok (.getfield 36, 3) := gd_7 db00a_67
theorem d_X3_isSure_16 : decode prog_5_method_8_code 16 = .ok (.iload_n 1, 1) := gd_8 db00a_67
theorem d_X3_isSure_17 : decode prog_5_method_8_code 17 = .ok (.iaload, 1) := gd_9 db00a_67
theorem d_X3_isSure_18 : decode prog_5_method_8_code 18 = .ok (.invokestatic 55, 3) := gd_10 db00a_67
theorem d_X3_isSure_21 : decode prog_5_method_8_code 21 = .ok (.iconst 1, 1) := gd_11 db00a_67
theorem d_X3_isSure_22 : decode prog_5_method_8_code 22 = .ok (.if_icmp .ne 7, 3) := gd_12 db00a_67
theorem d_X3_isSure_25 : decode prog_5_method_8_code 25 = .ok (.iconst 1, 1) := gd_13 db00a_67
theorem d_X3_isSure_26 : decode prog_5_method_8_code 26 = .ok (.goto 4, 3) := gd_14 db00a_67
theorem d_X3_isSure_29 : decode prog_5_method_8_code 29 = .ok (.iconst 0, 1) := gd_15 db00a_67
theorem d_X3_isSure_30 : decode prog_5_method_8_code 30 = .ok (.ireturn, 1) := gd_16 db00a_67
theorem db00a_68 : Ad_ prog_5_method_9_code [(0, .aload_n 0, 1), (1, .getfield 22, 3), (4, .ifCond .eq 24, 3), (7, .aload_n 0, 1), (8, .invokevirtual 61, 3), (11, .aload_n 0, 1), (12, .invokevirtual 64, 3), (15, .aload_n 0, 1), (16, .invokevirtual 67, 3), (19, .aload_n 0, 1), (20, .invokevirtual 70, 3), (23, .aload_n 0, 1), (24, .iconst 0, 1), (25, .putfield 22, 3), (28, .return_, 1)] := bch_ok prog_5_method_9_code _ 0 (by decide +kernel)
theorem d_X3_solve_0 : decode prog_5_method_9_code 0 = .ok (.aload_n 0, 1) := gd_0 db00a_68
theorem d_X3_solve_1 : decode prog_5_method_9_code 1 = .ok (.getfield 22, 3) := gd_1 db00a_68
theorem d_X3_solve_4 : decode prog_5_method_9_code 4 = .ok (.ifCond .eq 24, 3) := gd_2 db00a_68
theorem d_X3_solve_7 : decode prog_5_method_9_code 7 = .ok (.aload_n 0, 1) := gd_3 db00a_68
theorem d_X3_solve_8 : decode prog_5_method_9_code 8 = .ok (.invokevirtual 61, 3) := gd_4 db00a_68
theorem d_X3_solve_11 : decode prog_5_method_9_code 11 = .ok (.aload_n 0, 1) := gd_5 db00a_68
theorem d_X3_solve_12 : decode prog_5_method_9_code 12 = .ok (.invokevirtual 64, 3) := gd_6 db00a_68
theorem d_X3_solve_15 : decode prog_5_method_9_code 15 = .ok (.aload_n 0, 1) := gd_7 db00a_68
theorem d_X3_solve_16 : decode prog_5_method_9_code 16 = .ok (.invokevirtual 67, 3) := gd_8 db00a_68
theorem d_X3_solve_19 : decode prog_5_method_9_code 19 = .ok (.aload_n 0, 1) := gd_9 db00a_68
theorem d_X3_solve_20 : decode prog_5_method_9_code 20 = .ok (.invokevirtual 70, 3) := gd_10 db00a_68
theorem d_X3_solve_23 : decode prog_5_method_9_code 23 = .ok (.aload_n 0, 1) := gd_11 db00a_68
theorem d_X3_solve_24 : decode prog_5_method_9_code 24 = .ok (.iconst 0, 1) := gd_12 db00a_68
theorem d_X3_solve_25 : decode prog_5_method_9_code 25 = .ok (.putfield 22, 3) := gd_13 db00a_68
theorem d_X3_solve_28 : decode prog_5_method_9_code 28 = .ok (.return_, 1) := gd_14 db00a_68
theorem db00a_69 : Ad_ prog_5_method_10_code [(0, .iconst 0, 1), (1, .istore_n 2, 1), (2, .iload_n 0, 1), (3, .istore_n 3, 1), (4, .iload_n 1, 1), (5, .istore 4, 2), (7, .iconst 0, 1), (8, .istore 5, 2), (10, .iload 5, 2), (12, .iconst 5, 1), (13, .if_icmp .ge 36, 3), (16, .iload_n 3, 1), (17, .bipush 10, 2), (19, .irem, 1), (20, .iload 4, 2), (22, .bipush 10, 2), (24, .irem, 1), (25, .if_icmp .ne 6, 3), (28, .iinc 2 1, 3), (31, .iload_n 3, 1), (32, .bipush 10, 2), (34, .idiv, 1), (35, .istore_n 3, 1), (36, .iload 4, 2)] := bch_ok prog_5_method_10_code _ 0 (by decide +kernel)
theorem d_X3_alike_0 : decode prog_5_method_10_code 0 = .ok (.iconst 0, 1) := gd_0 db00a_69
theorem d_X3_alike_1 : decode prog_5_method_10_code 1 = .ok (.istore_n 2, 1) := gd_1 db00a_69
theorem d_X3_alike_2 : decode prog_5_method_10_code 2 = .ok (.iload_n 0, 1) := gd_2 db00a_69
theorem d_X3_alike_3 : decode prog_5_method_10_code 3 = .ok (.istore_n 3, 1) := gd_3 db00a_69
theorem d_X3_alike_4 : decode prog_5_method_10_code 4 = .ok (.iload_n 1, 1) := gd_4 db00a_69
theorem d_X3_alike_5 : decode prog_5_method_10_code 5 = .ok (.istore 4, 2) := gd_5 db00a_69
theorem d_X3_alike_7 : decode prog_5_method_10_code 7 = .ok (.iconst 0, 1) := gd_6 db00a_69
theorem d_X3_alike_8 : decode prog_5_method_10_code 8 = .ok (.istore 5, 2) := gd_7 db00a_69
theorem d_X3_alike_10 : decode prog_5_method_10_code 10 = .ok (.iload 5, 2) := gd_8 db00a_69
theorem d_X3_alike_12 : decode prog_5_method_10_code 12 = .ok (.iconst 5, 1) := gd_9 db00a_69
theorem d_X3_alike_13 : decode prog_5_method_10_code 13 = .ok (.if_icmp .ge 36, 3) := gd_10 db00a_69
theorem d_X3_alike_16 : decode prog_5_method_10_code 16 = .ok (.iload_n 3, 1) := gd_11 db00a_69
theorem d_X3_alike_17 : decode prog_5_method_10_code 17 = .ok (.bipush 10, 2) := gd_12 db00a_69
theorem d_X3_alike_19 : decode prog_5_method_10_code 19 = .ok (.irem, 1) := gd_13 db00a_69
theorem d_X3_alike_20 : decode prog_5_method_10_code 20 = .ok (.iload 4, 2) := gd_14 db00a_69
theorem d_X3_alike_22 : decode prog_5_method_10_code 22 = .ok (.bipush 10, 2) := gd_15 db00a_69
theorem d_X3_alike_24 : decode prog_5_method_10_code 24 = .ok (.irem, 1) := gd_16 db00a_69
theorem d_X3_alike_25 : decode prog_5_method_10_code 25 = .ok (.if_icmp .ne 6, 3) := gd_17 db00a_69
theorem d_X3_alike_28 : decode prog_5_method_10_code 28 = .ok (.iinc 2 1, 3) := gd_18 db00a_69
theorem d_X3_alike_31 : decode prog_5_method_10_code 31 = .ok (.iload_n 3, 1) := gd_19 db00a_69
theorem d_X3_alike_32 : decode prog_5_method_10_code 32 = .ok (.bipush 10, 2) := gd_20 db00a_69
theorem d_X3_alike_34 : decode prog_5_method_10_code 34 = .ok (.idiv, 1) := gd_21 db00a_69
theorem d_X3_alike_35 : decode prog_5_method_10_code 35 = .ok (.istore_n 3, 1) := gd_22 db00a_69
theorem d_X3_alike_36 : decode prog_5_method_10_code 36 = .ok (.iload 4, 2) := gd_23 db00a_69
theorem db00a_70 : Ad_ prog_5_method_10_code [(38, .bipush 10, 2), (40, .idiv, 1), (41, .istore 4, 2), (43, .iinc 5 1, 3), (46, .goto (-36), 3), (49, .iload_n 2, 1), (50, .ireturn, 1)] := bch_ok prog_5_method_10_code _ 38 (by decide +kernel)
theorem d_X3_alike_38 : decode prog_5_method_10_code 38 = .ok (.bipush 10, 2) := gd_0 db00a_70
theorem d_X3_alike_40 : decode prog_5_method_10_code 40 = .ok (.idiv, 1) := gd_1 db00a_70
theorem d_X3_alike_41 : decode prog_5_method_10_code 41 = .ok (.istore 4, 2) := gd_2 db00a_70
theorem d_X3_alike_43 : decode prog_5_method_10_code 43 = .ok (.iinc 5 1, 3) := gd_3 db00a_70
theorem d_X3_alike_46 : decode prog_5_method_10_code 46 = .ok (.goto (-36), 3) := gd_4 db00a_70
theorem d_X3_alike_49 : decode prog_5_method_10_code 49 = .ok (.iload_n 2, 1) := gd_5 db00a_70
theorem d_X3_alike_50 : decode prog_5_method_10_code 50 = .ok (.ireturn, 1) := gd_6 db00a_70
theorem db00a_71 : Ad_ prog_5_method_11_code [(0, .iconst 0, 1), (1, .istore_n 1, 1), (2, .iload_n 1, 1), (3, .aload_n 0, 1), (4, .getfield 42, 3), (7, .if_icmp .ge 65, 3), (10, .iconst 0, 1), (11, .istore_n 2, 1), (12, .iload_n 2, 1), (13, .aload_n 0, 1), (14, .getfield 45, 3), (17, .if_icmp .ge 49, 3), (20, .aload_n 0, 1), (21, .getfield 11, 3), (24, .iload_n 1, 1), (25, .iaload, 1), (26, .aload_n 0, 1), (27, .getfield 15, 3), (30, .iload_n 2, 1), (31, .iaload, 1), (32, .invokestatic 73, 3), (35, .istore_n 3, 1), (36, .aload_n 0, 1), (37, .getfield 26, 3)] := bch_ok prog_5_method_11_code _ 0 (by decide +kernel)
theorem d_X3_fillGains_0 : decode prog_5_method_11_code 0 = .ok (.iconst 0, 1) := gd_0 db00a_71
theorem d_X3_fillGains_1 : decode prog_5_method_11_code 1 = .ok (.istore_n 1, 1) := gd_1 db00a_71
theorem d_X3_fillGains_2 : decode prog_5_method_11_code 2 = .ok (.iload_n 1, 1) := gd_2 db00a_71
theorem d_X3_fillGains_3 : decode prog_5_method_11_code 3 = .ok (.aload_n 0, 1) := gd_3 db00a_71
theorem d_X3_fillGains_4 : decode prog_5_method_11_code 4 = .ok (.getfield 42, 3) := gd_4 db00a_71
theorem d_X3_fillGains_7 : decode prog_5_method_11_code 7 = .ok (.if_icmp .ge 65, 3) := gd_5 db00a_71
theorem d_X3_fillGains_10 : decode prog_5_method_11_code 10 = .ok (.iconst 0, 1) := gd_6 db00a_71
theorem d_X3_fillGains_11 : decode prog_5_method_11_code 11 = .ok (.istore_n 2, 1) := gd_7 db00a_71
theorem d_X3_fillGains_12 : decode prog_5_method_11_code 12 = .ok (.iload_n 2, 1) := gd_8 db00a_71
theorem d_X3_fillGains_13 : decode prog_5_method_11_code 13 = .ok (.aload_n 0, 1) := gd_9 db00a_71
theorem d_X3_fillGains_14 : decode prog_5_method_11_code 14 = .ok (.getfield 45, 3) := gd_10 db00a_71
theorem d_X3_fillGains_17 : decode prog_5_method_11_code 17 = .ok (.if_icmp .ge 49, 3) := gd_11 db00a_71
theorem d_X3_fillGains_20 : decode prog_5_method_11_code 20 = .ok (.aload_n 0, 1) := gd_12 db00a_71
theorem d_X3_fillGains_21 : decode prog_5_method_11_code 21 = .ok (.getfield 11, 3) := gd_13 db00a_71
theorem d_X3_fillGains_24 : decode prog_5_method_11_code 24 = .ok (.iload_n 1, 1) := gd_14 db00a_71
theorem d_X3_fillGains_25 : decode prog_5_method_11_code 25 = .ok (.iaload, 1) := gd_15 db00a_71
theorem d_X3_fillGains_26 : decode prog_5_method_11_code 26 = .ok (.aload_n 0, 1) := gd_16 db00a_71
theorem d_X3_fillGains_27 : decode prog_5_method_11_code 27 = .ok (.getfield 15, 3) := gd_17 db00a_71
theorem d_X3_fillGains_30 : decode prog_5_method_11_code 30 = .ok (.iload_n 2, 1) := gd_18 db00a_71
theorem d_X3_fillGains_31 : decode prog_5_method_11_code 31 = .ok (.iaload, 1) := gd_19 db00a_71
theorem d_X3_fillGains_32 : decode prog_5_method_11_code 32 = .ok (.invokestatic 73, 3) := gd_20 db00a_71
theorem d_X3_fillGains_35 : decode prog_5_method_11_code 35 = .ok (.istore_n 3, 1) := gd_21 db00a_71
theorem d_X3_fillGains_36 : decode prog_5_method_11_code 36 = .ok (.aload_n 0, 1) := gd_22 db00a_71
theorem d_X3_fillGains_37 : decode prog_5_method_11_code 37 = .ok (.getfield 26, 3) := gd_23 db00a_71
theorem db00a_72 : Ad_ prog_5_method_11_code [(40, .iload_n 1, 1), (41, .bipush 8, 2), (43, .imul, 1), (44, .iload_n 2, 1), (45, .iadd, 1), (46, .iload_n 3, 1), (47, .aload_n 0, 1), (48, .getfield 18, 3), (51, .if_icmp .lt 7, 3), (54, .iload_n 3, 1), (55, .goto 4, 3), (58, .iconst 0, 1), (59, .iastore, 1), (60, .iinc 2 1, 3), (63, .goto (-51), 3), (66, .iinc 1 1, 3), (69, .goto (-67), 3), (72, .return_, 1)] := bch_ok prog_5_method_11_code _ 40 (by decide +kernel)
theorem d_X3_fillGains_40 : decode prog_5_method_11_code 40 = .ok (.iload_n 1, 1) := gd_0 db00a_72
theorem d_X3_fillGains_41 : decode prog_5_method_11_code 41 = .ok (.bipush 8, 2) := gd_1 db00a_72
theorem d_X3_fillGains_43 : decode prog_5_method_11_code 43 = .ok (.imul, 1) := gd_2 db00a_72
theorem d_X3_fillGains_44 : decode prog_5_method_11_code 44 = .ok (.iload_n 2, 1) := gd_3 db00a_72
theorem d_X3_fillGains_45 : decode prog_5_method_11_code 45 = .ok (.iadd, 1) := gd_4 db00a_72
theorem d_X3_fillGains_46 : decode prog_5_method_11_code 46 = .ok (.iload_n 3, 1) := gd_5 db00a_72
theorem d_X3_fillGains_47 : decode prog_5_method_11_code 47 = .ok (.aload_n 0, 1) := gd_6 db00a_72
theorem d_X3_fillGains_48 : decode prog_5_method_11_code 48 = .ok (.getfield 18, 3) := gd_7 db00a_72
theorem d_X3_fillGains_51 : decode prog_5_method_11_code 51 = .ok (.if_icmp .lt 7, 3) := gd_8 db00a_72
theorem d_X3_fillGains_54 : decode prog_5_method_11_code 54 = .ok (.iload_n 3, 1) := gd_9 db00a_72
theorem d_X3_fillGains_55 : decode prog_5_method_11_code 55 = .ok (.goto 4, 3) := gd_10 db00a_72
theorem d_X3_fillGains_58 : decode prog_5_method_11_code 58 = .ok (.iconst 0, 1) := gd_11 db00a_72
theorem d_X3_fillGains_59 : decode prog_5_method_11_code 59 = .ok (.iastore, 1) := gd_12 db00a_72
theorem d_X3_fillGains_60 : decode prog_5_method_11_code 60 = .ok (.iinc 2 1, 3) := gd_13 db00a_72
theorem d_X3_fillGains_63 : decode prog_5_method_11_code 63 = .ok (.goto (-51), 3) := gd_14 db00a_72
theorem d_X3_fillGains_66 : decode prog_5_method_11_code 66 = .ok (.iinc 1 1, 3) := gd_15 db00a_72
theorem d_X3_fillGains_69 : decode prog_5_method_11_code 69 = .ok (.goto (-67), 3) := gd_16 db00a_72
theorem d_X3_fillGains_72 : decode prog_5_method_11_code 72 = .ok (.return_, 1) := gd_17 db00a_72
theorem db00a_73 : Ad_ prog_5_method_12_code [(0, .iload_n 3, 1), (1, .iload_n 2, 1), (2, .ishr, 1), (3, .iconst 1, 1), (4, .iand, 1), (5, .ifCond .ne 21, 3), (8, .aload_n 0, 1), (9, .getfield 26, 3), (12, .iload_n 1, 1), (13, .bipush 8, 2), (15, .imul, 1), (16, .iload_n 2, 1), (17, .iadd, 1), (18, .iaload, 1), (19, .ifCond .le 7, 3), (22, .iconst 1, 1), (23, .goto 4, 3), (26, .iconst 0, 1), (27, .ireturn, 1)] := bch_ok prog_5_method_12_code _ 0 (by decide +kernel)
theorem d_X3_canJoin_0 : decode prog_5_method_12_code 0 = .ok (.iload_n 3, 1) := gd_0 db00a_73
theorem d_X3_canJoin_1 : decode prog_5_method_12_code 1 = .ok (.iload_n 2, 1) := gd_1 db00a_73
theorem d_X3_canJoin_2 : decode prog_5_method_12_code 2 = .ok (.ishr, 1) := gd_2 db00a_73
theorem d_X3_canJoin_3 : decode prog_5_method_12_code 3 = .ok (.iconst 1, 1) := gd_3 db00a_73
theorem d_X3_canJoin_4 : decode prog_5_method_12_code 4 = .ok (.iand, 1) := gd_4 db00a_73
theorem d_X3_canJoin_5 : decode prog_5_method_12_code 5 = .ok (.ifCond .ne 21, 3) := gd_5 db00a_73
theorem d_X3_canJoin_8 : decode prog_5_method_12_code 8 = .ok (.aload_n 0, 1) := gd_6 db00a_73
theorem d_X3_canJoin_9 : decode prog_5_method_12_code 9 = .ok (.getfield 26, 3) := gd_7 db00a_73
theorem d_X3_canJoin_12 : decode prog_5_method_12_code 12 = .ok (.iload_n 1, 1) := gd_8 db00a_73
theorem d_X3_canJoin_13 : decode prog_5_method_12_code 13 = .ok (.bipush 8, 2) := gd_9 db00a_73
theorem d_X3_canJoin_15 : decode prog_5_method_12_code 15 = .ok (.imul, 1) := gd_10 db00a_73
theorem d_X3_canJoin_16 : decode prog_5_method_12_code 16 = .ok (.iload_n 2, 1) := gd_11 db00a_73
theorem d_X3_canJoin_17 : decode prog_5_method_12_code 17 = .ok (.iadd, 1) := gd_12 db00a_73
theorem d_X3_canJoin_18 : decode prog_5_method_12_code 18 = .ok (.iaload, 1) := gd_13 db00a_73
theorem d_X3_canJoin_19 : decode prog_5_method_12_code 19 = .ok (.ifCond .le 7, 3) := gd_14 db00a_73
theorem d_X3_canJoin_22 : decode prog_5_method_12_code 22 = .ok (.iconst 1, 1) := gd_15 db00a_73
theorem d_X3_canJoin_23 : decode prog_5_method_12_code 23 = .ok (.goto 4, 3) := gd_16 db00a_73
theorem d_X3_canJoin_26 : decode prog_5_method_12_code 26 = .ok (.iconst 0, 1) := gd_17 db00a_73
theorem d_X3_canJoin_27 : decode prog_5_method_12_code 27 = .ok (.ireturn, 1) := gd_18 db00a_73
theorem db00a_74 : Ad_ prog_5_method_13_code [(0, .aload_n 0, 1), (1, .getfield 26, 3), (4, .iload_n 1, 1), (5, .bipush 8, 2), (7, .imul, 1), (8, .iload_n 2, 1), (9, .iadd, 1), (10, .iaload, 1), (11, .aload_n 0, 1), (12, .getfield 29, 3), (15, .iload_n 1, 1), (16, .iconst 1, 1), (17, .iadd, 1), (18, .sipush 256, 3), (21, .imul, 1), (22, .iload_n 3, 1), (23, .iconst 1, 1), (24, .iload_n 2, 1), (25, .ishl, 1), (26, .ior, 1), (27, .iadd, 1), (28, .iaload, 1), (29, .iadd, 1), (30, .ireturn, 1)] := bch_ok prog_5_method_13_code _ 0 (by decide +kernel)
theorem d_X3_sumWith_0 : decode prog_5_method_13_code 0 = .ok (.aload_n 0, 1) := gd_0 db00a_74
theorem d_X3_sumWith_1 : decode prog_5_method_13_code 1 = .ok (.getfield 26, 3) := gd_1 db00a_74
theorem d_X3_sumWith_4 : decode prog_5_method_13_code 4 = .ok (.iload_n 1, 1) := gd_2 db00a_74
theorem d_X3_sumWith_5 : decode prog_5_method_13_code 5 = .ok (.bipush 8, 2) := gd_3 db00a_74
theorem d_X3_sumWith_7 : decode prog_5_method_13_code 7 = .ok (.imul, 1) := gd_4 db00a_74
theorem d_X3_sumWith_8 : decode prog_5_method_13_code 8 = .ok (.iload_n 2, 1) := gd_5 db00a_74
theorem d_X3_sumWith_9 : decode prog_5_method_13_code 9 = .ok (.iadd, 1) := gd_6 db00a_74
theorem d_X3_sumWith_10 : decode prog_5_method_13_code 10 = .ok (.iaload, 1) := gd_7 db00a_74
theorem d_X3_sumWith_11 : decode prog_5_method_13_code 11 = .ok (.aload_n 0, 1) := gd_8 db00a_74
theorem d_X3_sumWith_12 : decode prog_5_method_13_code 12 = .ok (.getfield 29, 3) := gd_9 db00a_74
theorem d_X3_sumWith_15 : decode prog_5_method_13_code 15 = .ok (.iload_n 1, 1) := gd_10 db00a_74
theorem d_X3_sumWith_16 : decode prog_5_method_13_code 16 = .ok (.iconst 1, 1) := gd_11 db00a_74
theorem d_X3_sumWith_17 : decode prog_5_method_13_code 17 = .ok (.iadd, 1) := gd_12 db00a_74
theorem d_X3_sumWith_18 : decode prog_5_method_13_code 18 = .ok (.sipush 256, 3) := gd_13 db00a_74
theorem d_X3_sumWith_21 : decode prog_5_method_13_code 21 = .ok (.imul, 1) := gd_14 db00a_74
theorem d_X3_sumWith_22 : decode prog_5_method_13_code 22 = .ok (.iload_n 3, 1) := gd_15 db00a_74
theorem d_X3_sumWith_23 : decode prog_5_method_13_code 23 = .ok (.iconst 1, 1) := gd_16 db00a_74
theorem d_X3_sumWith_24 : decode prog_5_method_13_code 24 = .ok (.iload_n 2, 1) := gd_17 db00a_74
theorem d_X3_sumWith_25 : decode prog_5_method_13_code 25 = .ok (.ishl, 1) := gd_18 db00a_74
theorem d_X3_sumWith_26 : decode prog_5_method_13_code 26 = .ok (.ior, 1) := gd_19 db00a_74
theorem d_X3_sumWith_27 : decode prog_5_method_13_code 27 = .ok (.iadd, 1) := gd_20 db00a_74
theorem d_X3_sumWith_28 : decode prog_5_method_13_code 28 = .ok (.iaload, 1) := gd_21 db00a_74
theorem d_X3_sumWith_29 : decode prog_5_method_13_code 29 = .ok (.iadd, 1) := gd_22 db00a_74
theorem d_X3_sumWith_30 : decode prog_5_method_13_code 30 = .ok (.ireturn, 1) := gd_23 db00a_74
theorem db00a_75 : Ad_ prog_5_method_14_code [(0, .aload_n 0, 1), (1, .getfield 29, 3), (4, .iconst 0, 1), (5, .invokestatic 77, 3), (8, .iconst 1, 1), (9, .aload_n 0, 1), (10, .getfield 45, 3), (13, .ishl, 1), (14, .istore_n 1, 1), (15, .aload_n 0, 1), (16, .getfield 42, 3), (19, .iconst 1, 1), (20, .isub, 1), (21, .istore_n 2, 1), (22, .iload_n 2, 1), (23, .ifCond .lt 96, 3), (26, .iconst 0, 1), (27, .istore_n 3, 1), (28, .iload_n 3, 1), (29, .iload_n 1, 1), (30, .if_icmp .ge 83, 3), (33, .aload_n 0, 1), (34, .getfield 29, 3), (37, .iload_n 2, 1)] := bch_ok prog_5_method_14_code _ 0 (by decide +kernel)
theorem d_X3_fillBest_0 : decode prog_5_method_14_code 0 = .ok (.aload_n 0, 1) := gd_0 db00a_75
theorem d_X3_fillBest_1 : decode prog_5_method_14_code 1 = .ok (.getfield 29, 3) := gd_1 db00a_75
theorem d_X3_fillBest_4 : decode prog_5_method_14_code 4 = .ok (.iconst 0, 1) := gd_2 db00a_75
theorem d_X3_fillBest_5 : decode prog_5_method_14_code 5 = .ok (.invokestatic 77, 3) := gd_3 db00a_75
theorem d_X3_fillBest_8 : decode prog_5_method_14_code 8 = .ok (.iconst 1, 1) := gd_4 db00a_75
theorem d_X3_fillBest_9 : decode prog_5_method_14_code 9 = .ok (.aload_n 0, 1) := gd_5 db00a_75
theorem d_X3_fillBest_10 : decode prog_5_method_14_code 10 = .ok (.getfield 45, 3) := gd_6 db00a_75
theorem d_X3_fillBest_13 : decode prog_5_method_14_code 13 = .ok (.ishl, 1) := gd_7 db00a_75
theorem d_X3_fillBest_14 : decode prog_5_method_14_code 14 = .ok (.istore_n 1, 1) := gd_8 db00a_75
theorem d_X3_fillBest_15 : decode prog_5_method_14_code 15 = .ok (.aload_n 0, 1) := gd_9 db00a_75
theorem d_X3_fillBest_16 : decode prog_5_method_14_code 16 = .ok (.getfield 42, 3) := gd_10 db00a_75
theorem d_X3_fillBest_19 : decode prog_5_method_14_code 19 = .ok (.iconst 1, 1) := gd_11 db00a_75
theorem d_X3_fillBest_20 : decode prog_5_method_14_code 20 = .ok (.isub, 1) := gd_12 db00a_75
theorem d_X3_fillBest_21 : decode prog_5_method_14_code 21 = .ok (.istore_n 2, 1) := gd_13 db00a_75
theorem d_X3_fillBest_22 : decode prog_5_method_14_code 22 = .ok (.iload_n 2, 1) := gd_14 db00a_75
theorem d_X3_fillBest_23 : decode prog_5_method_14_code 23 = .ok (.ifCond .lt 96, 3) := gd_15 db00a_75
theorem d_X3_fillBest_26 : decode prog_5_method_14_code 26 = .ok (.iconst 0, 1) := gd_16 db00a_75
theorem d_X3_fillBest_27 : decode prog_5_method_14_code 27 = .ok (.istore_n 3, 1) := gd_17 db00a_75
theorem d_X3_fillBest_28 : decode prog_5_method_14_code 28 = .ok (.iload_n 3, 1) := gd_18 db00a_75
theorem d_X3_fillBest_29 : decode prog_5_method_14_code 29 = .ok (.iload_n 1, 1) := gd_19 db00a_75
theorem d_X3_fillBest_30 : decode prog_5_method_14_code 30 = .ok (.if_icmp .ge 83, 3) := gd_20 db00a_75
theorem d_X3_fillBest_33 : decode prog_5_method_14_code 33 = .ok (.aload_n 0, 1) := gd_21 db00a_75
theorem d_X3_fillBest_34 : decode prog_5_method_14_code 34 = .ok (.getfield 29, 3) := gd_22 db00a_75
theorem d_X3_fillBest_37 : decode prog_5_method_14_code 37 = .ok (.iload_n 2, 1) := gd_23 db00a_75
theorem db00a_76 : Ad_ prog_5_method_14_code [(38, .iconst 1, 1), (39, .iadd, 1), (40, .sipush 256, 3), (43, .imul, 1), (44, .iload_n 3, 1), (45, .iadd, 1), (46, .iaload, 1), (47, .istore 4, 2), (49, .iconst 0, 1), (50, .istore 5, 2), (52, .iload 5, 2), (54, .aload_n 0, 1), (55, .getfield 45, 3), (58, .if_icmp .ge 35, 3), (61, .aload_n 0, 1), (62, .iload_n 2, 1), (63, .iload 5, 2), (65, .iload_n 3, 1), (66, .invokevirtual 83, 3), (69, .ifCond .eq 18, 3), (72, .iload 4, 2), (74, .aload_n 0, 1), (75, .iload_n 2, 1), (76, .iload 5, 2)] := bch_ok prog_5_method_14_code _ 38 (by decide +kernel)
theorem d_X3_fillBest_38 : decode prog_5_method_14_code 38 = .ok (.iconst 1, 1) := gd_0 db00a_76
theorem d_X3_fillBest_39 : decode prog_5_method_14_code 39 = .ok (.iadd, 1) := gd_1 db00a_76
theorem d_X3_fillBest_40 : decode prog_5_method_14_code 40 = .ok (.sipush 256, 3) := gd_2 db00a_76
theorem d_X3_fillBest_43 : decode prog_5_method_14_code 43 = .ok (.imul, 1) := gd_3 db00a_76
theorem d_X3_fillBest_44 : decode prog_5_method_14_code 44 = .ok (.iload_n 3, 1) := gd_4 db00a_76
theorem d_X3_fillBest_45 : decode prog_5_method_14_code 45 = .ok (.iadd, 1) := gd_5 db00a_76
theorem d_X3_fillBest_46 : decode prog_5_method_14_code 46 = .ok (.iaload, 1) := gd_6 db00a_76
theorem d_X3_fillBest_47 : decode prog_5_method_14_code 47 = .ok (.istore 4, 2) := gd_7 db00a_76
theorem d_X3_fillBest_49 : decode prog_5_method_14_code 49 = .ok (.iconst 0, 1) := gd_8 db00a_76
theorem d_X3_fillBest_50 : decode prog_5_method_14_code 50 = .ok (.istore 5, 2) := gd_9 db00a_76
theorem d_X3_fillBest_52 : decode prog_5_method_14_code 52 = .ok (.iload 5, 2) := gd_10 db00a_76
theorem d_X3_fillBest_54 : decode prog_5_method_14_code 54 = .ok (.aload_n 0, 1) := gd_11 db00a_76
theorem d_X3_fillBest_55 : decode prog_5_method_14_code 55 = .ok (.getfield 45, 3) := gd_12 db00a_76
theorem d_X3_fillBest_58 : decode prog_5_method_14_code 58 = .ok (.if_icmp .ge 35, 3) := gd_13 db00a_76
theorem d_X3_fillBest_61 : decode prog_5_method_14_code 61 = .ok (.aload_n 0, 1) := gd_14 db00a_76
theorem d_X3_fillBest_62 : decode prog_5_method_14_code 62 = .ok (.iload_n 2, 1) := gd_15 db00a_76
theorem d_X3_fillBest_63 : decode prog_5_method_14_code 63 = .ok (.iload 5, 2) := gd_16 db00a_76
theorem d_X3_fillBest_65 : decode prog_5_method_14_code 65 = .ok (.iload_n 3, 1) := gd_17 db00a_76
theorem d_X3_fillBest_66 : decode prog_5_method_14_code 66 = .ok (.invokevirtual 83, 3) := gd_18 db00a_76
theorem d_X3_fillBest_69 : decode prog_5_method_14_code 69 = .ok (.ifCond .eq 18, 3) := gd_19 db00a_76
theorem d_X3_fillBest_72 : decode prog_5_method_14_code 72 = .ok (.iload 4, 2) := gd_20 db00a_76
theorem d_X3_fillBest_74 : decode prog_5_method_14_code 74 = .ok (.aload_n 0, 1) := gd_21 db00a_76
theorem d_X3_fillBest_75 : decode prog_5_method_14_code 75 = .ok (.iload_n 2, 1) := gd_22 db00a_76
theorem d_X3_fillBest_76 : decode prog_5_method_14_code 76 = .ok (.iload 5, 2) := gd_23 db00a_76
theorem db00a_77 : Ad_ prog_5_method_14_code [(78, .iload_n 3, 1), (79, .invokevirtual 87, 3), (82, .invokestatic 91, 3), (85, .istore 4, 2), (87, .iinc 5 1, 3), (90, .goto (-38), 3), (93, .aload_n 0, 1), (94, .getfield 29, 3), (97, .iload_n 2, 1), (98, .sipush 256, 3), (101, .imul, 1), (102, .iload_n 3, 1), (103, .iadd, 1), (104, .iload 4, 2), (106, .iastore, 1), (107, .iinc 3 1, 3), (110, .goto (-82), 3), (113, .iinc 2 (-1), 3), (116, .goto (-94), 3), (119, .return_, 1)] := bch_ok prog_5_method_14_code _ 78 (by decide +kernel)
theorem d_X3_fillBest_78 : decode prog_5_method_14_code 78 = .ok (.iload_n 3, 1) := gd_0 db00a_77
theorem d_X3_fillBest_79 : decode prog_5_method_14_code 79 = .ok (.invokevirtual 87, 3) := gd_1 db00a_77
theorem d_X3_fillBest_82 : decode prog_5_method_14_code 82 = .ok (.invokestatic 91, 3) := gd_2 db00a_77
theorem d_X3_fillBest_85 : decode prog_5_method_14_code 85 = .ok (.istore 4, 2) := gd_3 db00a_77
theorem d_X3_fillBest_87 : decode prog_5_method_14_code 87 = .ok (.iinc 5 1, 3) := gd_4 db00a_77
theorem d_X3_fillBest_90 : decode prog_5_method_14_code 90 = .ok (.goto (-38), 3) := gd_5 db00a_77
theorem d_X3_fillBest_93 : decode prog_5_method_14_code 93 = .ok (.aload_n 0, 1) := gd_6 db00a_77
theorem d_X3_fillBest_94 : decode prog_5_method_14_code 94 = .ok (.getfield 29, 3) := gd_7 db00a_77
theorem d_X3_fillBest_97 : decode prog_5_method_14_code 97 = .ok (.iload_n 2, 1) := gd_8 db00a_77
theorem d_X3_fillBest_98 : decode prog_5_method_14_code 98 = .ok (.sipush 256, 3) := gd_9 db00a_77
theorem d_X3_fillBest_101 : decode prog_5_method_14_code 101 = .ok (.imul, 1) := gd_10 db00a_77
theorem d_X3_fillBest_102 : decode prog_5_method_14_code 102 = .ok (.iload_n 3, 1) := gd_11 db00a_77
theorem d_X3_fillBest_103 : decode prog_5_method_14_code 103 = .ok (.iadd, 1) := gd_12 db00a_77
theorem d_X3_fillBest_104 : decode prog_5_method_14_code 104 = .ok (.iload 4, 2) := gd_13 db00a_77
theorem d_X3_fillBest_106 : decode prog_5_method_14_code 106 = .ok (.iastore, 1) := gd_14 db00a_77
theorem d_X3_fillBest_107 : decode prog_5_method_14_code 107 = .ok (.iinc 3 1, 3) := gd_15 db00a_77
theorem d_X3_fillBest_110 : decode prog_5_method_14_code 110 = .ok (.goto (-82), 3) := gd_16 db00a_77
theorem d_X3_fillBest_113 : decode prog_5_method_14_code 113 = .ok (.iinc 2 (-1), 3) := gd_17 db00a_77
theorem d_X3_fillBest_116 : decode prog_5_method_14_code 116 = .ok (.goto (-94), 3) := gd_18 db00a_77
theorem d_X3_fillBest_119 : decode prog_5_method_14_code 119 = .ok (.return_, 1) := gd_19 db00a_77
theorem db00a_78 : Ad_ prog_5_method_15_code [(0, .iconst 0, 1), (1, .istore_n 1, 1), (2, .iload_n 1, 1), (3, .aload_n 0, 1), (4, .getfield 32, 3), (7, .arraylength, 1), (8, .if_icmp .ge 16, 3), (11, .aload_n 0, 1), (12, .getfield 32, 3), (15, .iload_n 1, 1), (16, .iconst 0, 1), (17, .bastore, 1), (18, .iinc 1 1, 3), (21, .goto (-19), 3), (24, .aload_n 0, 1), (25, .getfield 36, 3), (28, .iconst 0, 1), (29, .invokestatic 77, 3), (32, .aload_n 0, 1), (33, .getfield 32, 3), (36, .iconst 0, 1), (37, .iconst 1, 1), (38, .bastore, 1), (39, .iconst 1, 1)] := bch_ok prog_5_method_15_code _ 0 (by decide +kernel)
theorem d_X3_fillChoices_0 : decode prog_5_method_15_code 0 = .ok (.iconst 0, 1) := gd_0 db00a_78
theorem d_X3_fillChoices_1 : decode prog_5_method_15_code 1 = .ok (.istore_n 1, 1) := gd_1 db00a_78
theorem d_X3_fillChoices_2 : decode prog_5_method_15_code 2 = .ok (.iload_n 1, 1) := gd_2 db00a_78
theorem d_X3_fillChoices_3 : decode prog_5_method_15_code 3 = .ok (.aload_n 0, 1) := gd_3 db00a_78
theorem d_X3_fillChoices_4 : decode prog_5_method_15_code 4 = .ok (.getfield 32, 3) := gd_4 db00a_78
theorem d_X3_fillChoices_7 : decode prog_5_method_15_code 7 = .ok (.arraylength, 1) := gd_5 db00a_78
theorem d_X3_fillChoices_8 : decode prog_5_method_15_code 8 = .ok (.if_icmp .ge 16, 3) := gd_6 db00a_78
theorem d_X3_fillChoices_11 : decode prog_5_method_15_code 11 = .ok (.aload_n 0, 1) := gd_7 db00a_78
theorem d_X3_fillChoices_12 : decode prog_5_method_15_code 12 = .ok (.getfield 32, 3) := gd_8 db00a_78
theorem d_X3_fillChoices_15 : decode prog_5_method_15_code 15 = .ok (.iload_n 1, 1) := gd_9 db00a_78
theorem d_X3_fillChoices_16 : decode prog_5_method_15_code 16 = .ok (.iconst 0, 1) := gd_10 db00a_78
theorem d_X3_fillChoices_17 : decode prog_5_method_15_code 17 = .ok (.bastore, 1) := gd_11 db00a_78
theorem d_X3_fillChoices_18 : decode prog_5_method_15_code 18 = .ok (.iinc 1 1, 3) := gd_12 db00a_78
theorem d_X3_fillChoices_21 : decode prog_5_method_15_code 21 = .ok (.goto (-19), 3) := gd_13 db00a_78
theorem d_X3_fillChoices_24 : decode prog_5_method_15_code 24 = .ok (.aload_n 0, 1) := gd_14 db00a_78
theorem d_X3_fillChoices_25 : decode prog_5_method_15_code 25 = .ok (.getfield 36, 3) := gd_15 db00a_78
theorem d_X3_fillChoices_28 : decode prog_5_method_15_code 28 = .ok (.iconst 0, 1) := gd_16 db00a_78
theorem d_X3_fillChoices_29 : decode prog_5_method_15_code 29 = .ok (.invokestatic 77, 3) := gd_17 db00a_78
theorem d_X3_fillChoices_32 : decode prog_5_method_15_code 32 = .ok (.aload_n 0, 1) := gd_18 db00a_78
theorem d_X3_fillChoices_33 : decode prog_5_method_15_code 33 = .ok (.getfield 32, 3) := gd_19 db00a_78
theorem d_X3_fillChoices_36 : decode prog_5_method_15_code 36 = .ok (.iconst 0, 1) := gd_20 db00a_78
theorem d_X3_fillChoices_37 : decode prog_5_method_15_code 37 = .ok (.iconst 1, 1) := gd_21 db00a_78
theorem d_X3_fillChoices_38 : decode prog_5_method_15_code 38 = .ok (.bastore, 1) := gd_22 db00a_78
theorem d_X3_fillChoices_39 : decode prog_5_method_15_code 39 = .ok (.iconst 1, 1) := gd_23 db00a_78
theorem db00a_79 : Ad_ prog_5_method_15_code [(40, .aload_n 0, 1), (41, .getfield 45, 3), (44, .ishl, 1), (45, .istore_n 1, 1), (46, .iconst 0, 1), (47, .istore_n 2, 1), (48, .iload_n 2, 1), (49, .aload_n 0, 1), (50, .getfield 42, 3), (53, .if_icmp .ge 43, 3), (56, .iconst 0, 1), (57, .istore_n 3, 1), (58, .iload_n 3, 1), (59, .iload_n 1, 1), (60, .if_icmp .ge 30, 3), (63, .aload_n 0, 1), (64, .getfield 32, 3), (67, .iload_n 2, 1), (68, .sipush 256, 3), (71, .imul, 1), (72, .iload_n 3, 1), (73, .iadd, 1), (74, .baload, 1), (75, .ifCond .eq 9, 3)] := bch_ok prog_5_method_15_code _ 40 (by decide +kernel)
theorem d_X3_fillChoices_40 : decode prog_5_method_15_code 40 = .ok (.aload_n 0, 1) := gd_0 db00a_79
theorem d_X3_fillChoices_41 : decode prog_5_method_15_code 41 = .ok (.getfield 45, 3) := gd_1 db00a_79
theorem d_X3_fillChoices_44 : decode prog_5_method_15_code 44 = .ok (.ishl, 1) := gd_2 db00a_79
theorem d_X3_fillChoices_45 : decode prog_5_method_15_code 45 = .ok (.istore_n 1, 1) := gd_3 db00a_79
theorem d_X3_fillChoices_46 : decode prog_5_method_15_code 46 = .ok (.iconst 0, 1) := gd_4 db00a_79
theorem d_X3_fillChoices_47 : decode prog_5_method_15_code 47 = .ok (.istore_n 2, 1) := gd_5 db00a_79
theorem d_X3_fillChoices_48 : decode prog_5_method_15_code 48 = .ok (.iload_n 2, 1) := gd_6 db00a_79
theorem d_X3_fillChoices_49 : decode prog_5_method_15_code 49 = .ok (.aload_n 0, 1) := gd_7 db00a_79
theorem d_X3_fillChoices_50 : decode prog_5_method_15_code 50 = .ok (.getfield 42, 3) := gd_8 db00a_79
theorem d_X3_fillChoices_53 : decode prog_5_method_15_code 53 = .ok (.if_icmp .ge 43, 3) := gd_9 db00a_79
theorem d_X3_fillChoices_56 : decode prog_5_method_15_code 56 = .ok (.iconst 0, 1) := gd_10 db00a_79
theorem d_X3_fillChoices_57 : decode prog_5_method_15_code 57 = .ok (.istore_n 3, 1) := gd_11 db00a_79
theorem d_X3_fillChoices_58 : decode prog_5_method_15_code 58 = .ok (.iload_n 3, 1) := gd_12 db00a_79
theorem d_X3_fillChoices_59 : decode prog_5_method_15_code 59 = .ok (.iload_n 1, 1) := gd_13 db00a_79
theorem d_X3_fillChoices_60 : decode prog_5_method_15_code 60 = .ok (.if_icmp .ge 30, 3) := gd_14 db00a_79
theorem d_X3_fillChoices_63 : decode prog_5_method_15_code 63 = .ok (.aload_n 0, 1) := gd_15 db00a_79
theorem d_X3_fillChoices_64 : decode prog_5_method_15_code 64 = .ok (.getfield 32, 3) := gd_16 db00a_79
theorem d_X3_fillChoices_67 : decode prog_5_method_15_code 67 = .ok (.iload_n 2, 1) := gd_17 db00a_79
theorem d_X3_fillChoices_68 : decode prog_5_method_15_code 68 = .ok (.sipush 256, 3) := gd_18 db00a_79
theorem d_X3_fillChoices_71 : decode prog_5_method_15_code 71 = .ok (.imul, 1) := gd_19 db00a_79
theorem d_X3_fillChoices_72 : decode prog_5_method_15_code 72 = .ok (.iload_n 3, 1) := gd_20 db00a_79
theorem d_X3_fillChoices_73 : decode prog_5_method_15_code 73 = .ok (.iadd, 1) := gd_21 db00a_79
theorem d_X3_fillChoices_74 : decode prog_5_method_15_code 74 = .ok (.baload, 1) := gd_22 db00a_79
theorem d_X3_fillChoices_75 : decode prog_5_method_15_code 75 = .ok (.ifCond .eq 9, 3) := gd_23 db00a_79
theorem db00a_80 : Ad_ prog_5_method_15_code [(78, .aload_n 0, 1), (79, .iload_n 2, 1), (80, .iload_n 3, 1), (81, .invokevirtual 96, 3), (84, .iinc 3 1, 3), (87, .goto (-29), 3), (90, .iinc 2 1, 3), (93, .goto (-45), 3), (96, .return_, 1)] := bch_ok prog_5_method_15_code _ 78 (by decide +kernel)
theorem d_X3_fillChoices_78 : decode prog_5_method_15_code 78 = .ok (.aload_n 0, 1) := gd_0 db00a_80
theorem d_X3_fillChoices_79 : decode prog_5_method_15_code 79 = .ok (.iload_n 2, 1) := gd_1 db00a_80
theorem d_X3_fillChoices_80 : decode prog_5_method_15_code 80 = .ok (.iload_n 3, 1) := gd_2 db00a_80
theorem d_X3_fillChoices_81 : decode prog_5_method_15_code 81 = .ok (.invokevirtual 96, 3) := gd_3 db00a_80
theorem d_X3_fillChoices_84 : decode prog_5_method_15_code 84 = .ok (.iinc 3 1, 3) := gd_4 db00a_80
theorem d_X3_fillChoices_87 : decode prog_5_method_15_code 87 = .ok (.goto (-29), 3) := gd_5 db00a_80
theorem d_X3_fillChoices_90 : decode prog_5_method_15_code 90 = .ok (.iinc 2 1, 3) := gd_6 db00a_80
theorem d_X3_fillChoices_93 : decode prog_5_method_15_code 93 = .ok (.goto (-45), 3) := gd_7 db00a_80
theorem d_X3_fillChoices_96 : decode prog_5_method_15_code 96 = .ok (.return_, 1) := gd_8 db00a_80
theorem db00a_81 : Ad_ prog_5_method_16_code [(0, .aload_n 0, 1), (1, .getfield 29, 3), (4, .iload_n 1, 1), (5, .sipush 256, 3), (8, .imul, 1), (9, .iload_n 2, 1), (10, .iadd, 1), (11, .iaload, 1), (12, .istore_n 3, 1), (13, .aload_n 0, 1), (14, .getfield 29, 3), (17, .iload_n 1, 1), (18, .iconst 1, 1), (19, .iadd, 1), (20, .sipush 256, 3), (23, .imul, 1), (24, .iload_n 2, 1), (25, .iadd, 1), (26, .iaload, 1), (27, .iload_n 3, 1), (28, .if_icmp .ne 30, 3), (31, .aload_n 0, 1), (32, .getfield 36, 3), (35, .iload_n 1, 1)] := bch_ok prog_5_method_16_code _ 0 (by decide +kernel)
theorem d_X3_spreadFrom_0 : decode prog_5_method_16_code 0 = .ok (.aload_n 0, 1) := gd_0 db00a_81
theorem d_X3_spreadFrom_1 : decode prog_5_method_16_code 1 = .ok (.getfield 29, 3) := gd_1 db00a_81
theorem d_X3_spreadFrom_4 : decode prog_5_method_16_code 4 = .ok (.iload_n 1, 1) := gd_2 db00a_81
theorem d_X3_spreadFrom_5 : decode prog_5_method_16_code 5 = .ok (.sipush 256, 3) := gd_3 db00a_81
theorem d_X3_spreadFrom_8 : decode prog_5_method_16_code 8 = .ok (.imul, 1) := gd_4 db00a_81
theorem d_X3_spreadFrom_9 : decode prog_5_method_16_code 9 = .ok (.iload_n 2, 1) := gd_5 db00a_81
theorem d_X3_spreadFrom_10 : decode prog_5_method_16_code 10 = .ok (.iadd, 1) := gd_6 db00a_81
theorem d_X3_spreadFrom_11 : decode prog_5_method_16_code 11 = .ok (.iaload, 1) := gd_7 db00a_81
theorem d_X3_spreadFrom_12 : decode prog_5_method_16_code 12 = .ok (.istore_n 3, 1) := gd_8 db00a_81
theorem d_X3_spreadFrom_13 : decode prog_5_method_16_code 13 = .ok (.aload_n 0, 1) := gd_9 db00a_81
theorem d_X3_spreadFrom_14 : decode prog_5_method_16_code 14 = .ok (.getfield 29, 3) := gd_10 db00a_81
theorem d_X3_spreadFrom_17 : decode prog_5_method_16_code 17 = .ok (.iload_n 1, 1) := gd_11 db00a_81
theorem d_X3_spreadFrom_18 : decode prog_5_method_16_code 18 = .ok (.iconst 1, 1) := gd_12 db00a_81
theorem d_X3_spreadFrom_19 : decode prog_5_method_16_code 19 = .ok (.iadd, 1) := gd_13 db00a_81
theorem d_X3_spreadFrom_20 : decode prog_5_method_16_code 20 = .ok (.sipush 256, 3) := gd_14 db00a_81
theorem d_X3_spreadFrom_23 : decode prog_5_method_16_code 23 = .ok (.imul, 1) := gd_15 db00a_81
theorem d_X3_spreadFrom_24 : decode prog_5_method_16_code 24 = .ok (.iload_n 2, 1) := gd_16 db00a_81
theorem d_X3_spreadFrom_25 : decode prog_5_method_16_code 25 = .ok (.iadd, 1) := gd_17 db00a_81
theorem d_X3_spreadFrom_26 : decode prog_5_method_16_code 26 = .ok (.iaload, 1) := gd_18 db00a_81
theorem d_X3_spreadFrom_27 : decode prog_5_method_16_code 27 = .ok (.iload_n 3, 1) := gd_19 db00a_81
theorem d_X3_spreadFrom_28 : decode prog_5_method_16_code 28 = .ok (.if_icmp .ne 30, 3) := gd_20 db00a_81
theorem d_X3_spreadFrom_31 : decode prog_5_method_16_code 31 = .ok (.aload_n 0, 1) := gd_21 db00a_81
theorem d_X3_spreadFrom_32 : decode prog_5_method_16_code 32 = .ok (.getfield 36, 3) := gd_22 db00a_81
theorem d_X3_spreadFrom_35 : decode prog_5_method_16_code 35 = .ok (.iload_n 1, 1) := gd_23 db00a_81
theorem db00a_82 : Ad_ prog_5_method_16_code [(36, .dup2, 1), (37, .iaload, 1), (38, .sipush 256, 3), (41, .ior, 1), (42, .iastore, 1), (43, .aload_n 0, 1), (44, .getfield 32, 3), (47, .iload_n 1, 1), (48, .iconst 1, 1), (49, .iadd, 1), (50, .sipush 256, 3), (53, .imul, 1), (54, .iload_n 2, 1), (55, .iadd, 1), (56, .iconst 1, 1), (57, .bastore, 1), (58, .iconst 0, 1), (59, .istore 4, 2), (61, .iload 4, 2), (63, .aload_n 0, 1), (64, .getfield 45, 3), (67, .if_icmp .ge 65, 3), (70, .aload_n 0, 1), (71, .iload_n 1, 1)] := bch_ok prog_5_method_16_code _ 36 (by decide +kernel)
theorem d_X3_spreadFrom_36 : decode prog_5_method_16_code 36 = .ok (.dup2, 1) := gd_0 db00a_82
theorem d_X3_spreadFrom_37 : decode prog_5_method_16_code 37 = .ok (.iaload, 1) := gd_1 db00a_82
theorem d_X3_spreadFrom_38 : decode prog_5_method_16_code 38 = .ok (.sipush 256, 3) := gd_2 db00a_82
theorem d_X3_spreadFrom_41 : decode prog_5_method_16_code 41 = .ok (.ior, 1) := gd_3 db00a_82
theorem d_X3_spreadFrom_42 : decode prog_5_method_16_code 42 = .ok (.iastore, 1) := gd_4 db00a_82
theorem d_X3_spreadFrom_43 : decode prog_5_method_16_code 43 = .ok (.aload_n 0, 1) := gd_5 db00a_82
theorem d_X3_spreadFrom_44 : decode prog_5_method_16_code 44 = .ok (.getfield 32, 3) := gd_6 db00a_82
theorem d_X3_spreadFrom_47 : decode prog_5_method_16_code 47 = .ok (.iload_n 1, 1) := gd_7 db00a_82
theorem d_X3_spreadFrom_48 : decode prog_5_method_16_code 48 = .ok (.iconst 1, 1) := gd_8 db00a_82
theorem d_X3_spreadFrom_49 : decode prog_5_method_16_code 49 = .ok (.iadd, 1) := gd_9 db00a_82
theorem d_X3_spreadFrom_50 : decode prog_5_method_16_code 50 = .ok (.sipush 256, 3) := gd_10 db00a_82
theorem d_X3_spreadFrom_53 : decode prog_5_method_16_code 53 = .ok (.imul, 1) := gd_11 db00a_82
theorem d_X3_spreadFrom_54 : decode prog_5_method_16_code 54 = .ok (.iload_n 2, 1) := gd_12 db00a_82
theorem d_X3_spreadFrom_55 : decode prog_5_method_16_code 55 = .ok (.iadd, 1) := gd_13 db00a_82
theorem d_X3_spreadFrom_56 : decode prog_5_method_16_code 56 = .ok (.iconst 1, 1) := gd_14 db00a_82
theorem d_X3_spreadFrom_57 : decode prog_5_method_16_code 57 = .ok (.bastore, 1) := gd_15 db00a_82
theorem d_X3_spreadFrom_58 : decode prog_5_method_16_code 58 = .ok (.iconst 0, 1) := gd_16 db00a_82
theorem d_X3_spreadFrom_59 : decode prog_5_method_16_code 59 = .ok (.istore 4, 2) := gd_17 db00a_82
theorem d_X3_spreadFrom_61 : decode prog_5_method_16_code 61 = .ok (.iload 4, 2) := gd_18 db00a_82
theorem d_X3_spreadFrom_63 : decode prog_5_method_16_code 63 = .ok (.aload_n 0, 1) := gd_19 db00a_82
theorem d_X3_spreadFrom_64 : decode prog_5_method_16_code 64 = .ok (.getfield 45, 3) := gd_20 db00a_82
theorem d_X3_spreadFrom_67 : decode prog_5_method_16_code 67 = .ok (.if_icmp .ge 65, 3) := gd_21 db00a_82
theorem d_X3_spreadFrom_70 : decode prog_5_method_16_code 70 = .ok (.aload_n 0, 1) := gd_22 db00a_82
theorem d_X3_spreadFrom_71 : decode prog_5_method_16_code 71 = .ok (.iload_n 1, 1) := gd_23 db00a_82
theorem db00a_83 : Ad_ prog_5_method_16_code [(72, .iload 4, 2), (74, .iload_n 2, 1), (75, .invokevirtual 83, 3), (78, .ifCond .eq 48, 3), (81, .aload_n 0, 1), (82, .iload_n 1, 1), (83, .iload 4, 2), (85, .iload_n 2, 1), (86, .invokevirtual 87, 3), (89, .iload_n 3, 1), (90, .if_icmp .ne 36, 3), (93, .aload_n 0, 1), (94, .getfield 36, 3), (97, .iload_n 1, 1), (98, .dup2, 1), (99, .iaload, 1), (100, .iconst 1, 1), (101, .iload 4, 2), (103, .ishl, 1), (104, .ior, 1), (105, .iastore, 1), (106, .aload_n 0, 1), (107, .getfield 32, 3), (110, .iload_n 1, 1)] := bch_ok prog_5_method_16_code _ 72 (by decide +kernel)
theorem d_X3_spreadFrom_72 : decode prog_5_method_16_code 72 = .ok (.iload 4, 2) := gd_0 db00a_83
theorem d_X3_spreadFrom_74 : decode prog_5_method_16_code 74 = .ok (.iload_n 2, 1) := gd_1 db00a_83
theorem d_X3_spreadFrom_75 : decode prog_5_method_16_code 75 = .ok (.invokevirtual 83, 3) := gd_2 db00a_83
theorem d_X3_spreadFrom_78 : decode prog_5_method_16_code 78 = .ok (.ifCond .eq 48, 3) := gd_3 db00a_83
theorem d_X3_spreadFrom_81 : decode prog_5_method_16_code 81 = .ok (.aload_n 0, 1) := gd_4 db00a_83
theorem d_X3_spreadFrom_82 : decode prog_5_method_16_code 82 = .ok (.iload_n 1, 1) := gd_5 db00a_83
theorem d_X3_spreadFrom_83 : decode prog_5_method_16_code 83 = .ok (.iload 4, 2) := gd_6 db00a_83
theorem d_X3_spreadFrom_85 : decode prog_5_method_16_code 85 = .ok (.iload_n 2, 1) := gd_7 db00a_83
theorem d_X3_spreadFrom_86 : decode prog_5_method_16_code 86 = .ok (.invokevirtual 87, 3) := gd_8 db00a_83
theorem d_X3_spreadFrom_89 : decode prog_5_method_16_code 89 = .ok (.iload_n 3, 1) := gd_9 db00a_83
theorem d_X3_spreadFrom_90 : decode prog_5_method_16_code 90 = .ok (.if_icmp .ne 36, 3) := gd_10 db00a_83
theorem d_X3_spreadFrom_93 : decode prog_5_method_16_code 93 = .ok (.aload_n 0, 1) := gd_11 db00a_83
theorem d_X3_spreadFrom_94 : decode prog_5_method_16_code 94 = .ok (.getfield 36, 3) := gd_12 db00a_83
theorem d_X3_spreadFrom_97 : decode prog_5_method_16_code 97 = .ok (.iload_n 1, 1) := gd_13 db00a_83
theorem d_X3_spreadFrom_98 : decode prog_5_method_16_code 98 = .ok (.dup2, 1) := gd_14 db00a_83
theorem d_X3_spreadFrom_99 : decode prog_5_method_16_code 99 = .ok (.iaload, 1) := gd_15 db00a_83
theorem d_X3_spreadFrom_100 : decode prog_5_method_16_code 100 = .ok (.iconst 1, 1) := gd_16 db00a_83
theorem d_X3_spreadFrom_101 : decode prog_5_method_16_code 101 = .ok (.iload 4, 2) := gd_17 db00a_83
theorem d_X3_spreadFrom_103 : decode prog_5_method_16_code 103 = .ok (.ishl, 1) := gd_18 db00a_83
theorem d_X3_spreadFrom_104 : decode prog_5_method_16_code 104 = .ok (.ior, 1) := gd_19 db00a_83
theorem d_X3_spreadFrom_105 : decode prog_5_method_16_code 105 = .ok (.iastore, 1) := gd_20 db00a_83
theorem d_X3_spreadFrom_106 : decode prog_5_method_16_code 106 = .ok (.aload_n 0, 1) := gd_21 db00a_83
theorem d_X3_spreadFrom_107 : decode prog_5_method_16_code 107 = .ok (.getfield 32, 3) := gd_22 db00a_83
theorem d_X3_spreadFrom_110 : decode prog_5_method_16_code 110 = .ok (.iload_n 1, 1) := gd_23 db00a_83
theorem db00a_84 : Ad_ prog_5_method_16_code [(111, .iconst 1, 1), (112, .iadd, 1), (113, .sipush 256, 3), (116, .imul, 1), (117, .iload_n 2, 1), (118, .iconst 1, 1), (119, .iload 4, 2), (121, .ishl, 1), (122, .ior, 1), (123, .iadd, 1), (124, .iconst 1, 1), (125, .bastore, 1), (126, .iinc 4 1, 3), (129, .goto (-68), 3), (132, .return_, 1)] := bch_ok prog_5_method_16_code _ 111 (by decide +kernel)
theorem d_X3_spreadFrom_111 : decode prog_5_method_16_code 111 = .ok (.iconst 1, 1) := gd_0 db00a_84
theorem d_X3_spreadFrom_112 : decode prog_5_method_16_code 112 = .ok (.iadd, 1) := gd_1 db00a_84
theorem d_X3_spreadFrom_113 : decode prog_5_method_16_code 113 = .ok (.sipush 256, 3) := gd_2 db00a_84
theorem d_X3_spreadFrom_116 : decode prog_5_method_16_code 116 = .ok (.imul, 1) := gd_3 db00a_84
theorem d_X3_spreadFrom_117 : decode prog_5_method_16_code 117 = .ok (.iload_n 2, 1) := gd_4 db00a_84
theorem d_X3_spreadFrom_118 : decode prog_5_method_16_code 118 = .ok (.iconst 1, 1) := gd_5 db00a_84
theorem d_X3_spreadFrom_119 : decode prog_5_method_16_code 119 = .ok (.iload 4, 2) := gd_6 db00a_84
theorem d_X3_spreadFrom_121 : decode prog_5_method_16_code 121 = .ok (.ishl, 1) := gd_7 db00a_84
theorem d_X3_spreadFrom_122 : decode prog_5_method_16_code 122 = .ok (.ior, 1) := gd_8 db00a_84
theorem d_X3_spreadFrom_123 : decode prog_5_method_16_code 123 = .ok (.iadd, 1) := gd_9 db00a_84
theorem d_X3_spreadFrom_124 : decode prog_5_method_16_code 124 = .ok (.iconst 1, 1) := gd_10 db00a_84
theorem d_X3_spreadFrom_125 : decode prog_5_method_16_code 125 = .ok (.bastore, 1) := gd_11 db00a_84
theorem d_X3_spreadFrom_126 : decode prog_5_method_16_code 126 = .ok (.iinc 4 1, 3) := gd_12 db00a_84
theorem d_X3_spreadFrom_129 : decode prog_5_method_16_code 129 = .ok (.goto (-68), 3) := gd_13 db00a_84
theorem d_X3_spreadFrom_132 : decode prog_5_method_16_code 132 = .ok (.return_, 1) := gd_14 db00a_84
theorem db00a_85 : Ad_ prog_5_method_17_code [(0, .iconst 0, 1), (1, .istore_n 1, 1), (2, .iconst 0, 1), (3, .istore_n 2, 1), (4, .iload_n 2, 1), (5, .aload_n 0, 1), (6, .getfield 42, 3), (9, .if_icmp .ge 102, 3), (12, .aload_n 0, 1), (13, .getfield 39, 3), (16, .iload_n 2, 1), (17, .iconst (-1), 1), (18, .iastore, 1), (19, .iconst 0, 1), (20, .istore_n 3, 1), (21, .iload_n 3, 1), (22, .aload_n 0, 1), (23, .getfield 45, 3), (26, .if_icmp .ge 58, 3), (29, .aload_n 0, 1), (30, .getfield 39, 3), (33, .iload_n 2, 1), (34, .iaload, 1), (35, .iconst (-1), 1)] := bch_ok prog_5_method_17_code _ 0 (by decide +kernel)
theorem d_X3_fillFirst_0 : decode prog_5_method_17_code 0 = .ok (.iconst 0, 1) := gd_0 db00a_85
theorem d_X3_fillFirst_1 : decode prog_5_method_17_code 1 = .ok (.istore_n 1, 1) := gd_1 db00a_85
theorem d_X3_fillFirst_2 : decode prog_5_method_17_code 2 = .ok (.iconst 0, 1) := gd_2 db00a_85
theorem d_X3_fillFirst_3 : decode prog_5_method_17_code 3 = .ok (.istore_n 2, 1) := gd_3 db00a_85
theorem d_X3_fillFirst_4 : decode prog_5_method_17_code 4 = .ok (.iload_n 2, 1) := gd_4 db00a_85
theorem d_X3_fillFirst_5 : decode prog_5_method_17_code 5 = .ok (.aload_n 0, 1) := gd_5 db00a_85
theorem d_X3_fillFirst_6 : decode prog_5_method_17_code 6 = .ok (.getfield 42, 3) := gd_6 db00a_85
theorem d_X3_fillFirst_9 : decode prog_5_method_17_code 9 = .ok (.if_icmp .ge 102, 3) := gd_7 db00a_85
theorem d_X3_fillFirst_12 : decode prog_5_method_17_code 12 = .ok (.aload_n 0, 1) := gd_8 db00a_85
theorem d_X3_fillFirst_13 : decode prog_5_method_17_code 13 = .ok (.getfield 39, 3) := gd_9 db00a_85
theorem d_X3_fillFirst_16 : decode prog_5_method_17_code 16 = .ok (.iload_n 2, 1) := gd_10 db00a_85
theorem d_X3_fillFirst_17 : decode prog_5_method_17_code 17 = .ok (.iconst (-1), 1) := gd_11 db00a_85
theorem d_X3_fillFirst_18 : decode prog_5_method_17_code 18 = .ok (.iastore, 1) := gd_12 db00a_85
theorem d_X3_fillFirst_19 : decode prog_5_method_17_code 19 = .ok (.iconst 0, 1) := gd_13 db00a_85
theorem d_X3_fillFirst_20 : decode prog_5_method_17_code 20 = .ok (.istore_n 3, 1) := gd_14 db00a_85
theorem d_X3_fillFirst_21 : decode prog_5_method_17_code 21 = .ok (.iload_n 3, 1) := gd_15 db00a_85
theorem d_X3_fillFirst_22 : decode prog_5_method_17_code 22 = .ok (.aload_n 0, 1) := gd_16 db00a_85
theorem d_X3_fillFirst_23 : decode prog_5_method_17_code 23 = .ok (.getfield 45, 3) := gd_17 db00a_85
theorem d_X3_fillFirst_26 : decode prog_5_method_17_code 26 = .ok (.if_icmp .ge 58, 3) := gd_18 db00a_85
theorem d_X3_fillFirst_29 : decode prog_5_method_17_code 29 = .ok (.aload_n 0, 1) := gd_19 db00a_85
theorem d_X3_fillFirst_30 : decode prog_5_method_17_code 30 = .ok (.getfield 39, 3) := gd_20 db00a_85
theorem d_X3_fillFirst_33 : decode prog_5_method_17_code 33 = .ok (.iload_n 2, 1) := gd_21 db00a_85
theorem d_X3_fillFirst_34 : decode prog_5_method_17_code 34 = .ok (.iaload, 1) := gd_22 db00a_85
theorem d_X3_fillFirst_35 : decode prog_5_method_17_code 35 = .ok (.iconst (-1), 1) := gd_23 db00a_85
theorem db00a_86 : Ad_ prog_5_method_17_code [(36, .if_icmp .ne 48, 3), (39, .aload_n 0, 1), (40, .iload_n 2, 1), (41, .iload_n 3, 1), (42, .iload_n 1, 1), (43, .invokevirtual 83, 3), (46, .ifCond .eq 32, 3), (49, .aload_n 0, 1), (50, .iload_n 2, 1), (51, .iload_n 3, 1), (52, .iload_n 1, 1), (53, .invokevirtual 87, 3), (56, .aload_n 0, 1), (57, .getfield 29, 3), (60, .iload_n 2, 1), (61, .sipush 256, 3), (64, .imul, 1), (65, .iload_n 1, 1), (66, .iadd, 1), (67, .iaload, 1), (68, .if_icmp .ne 10, 3), (71, .aload_n 0, 1), (72, .getfield 39, 3), (75, .iload_n 2, 1)] := bch_ok prog_5_method_17_code _ 36 (by decide +kernel)
theorem d_X3_fillFirst_36 : decode prog_5_method_17_code 36 = .ok (.if_icmp .ne 48, 3) := gd_0 db00a_86
theorem d_X3_fillFirst_39 : decode prog_5_method_17_code 39 = .ok (.aload_n 0, 1) := gd_1 db00a_86
theorem d_X3_fillFirst_40 : decode prog_5_method_17_code 40 = .ok (.iload_n 2, 1) := gd_2 db00a_86
theorem d_X3_fillFirst_41 : decode prog_5_method_17_code 41 = .ok (.iload_n 3, 1) := gd_3 db00a_86
theorem d_X3_fillFirst_42 : decode prog_5_method_17_code 42 = .ok (.iload_n 1, 1) := gd_4 db00a_86
theorem d_X3_fillFirst_43 : decode prog_5_method_17_code 43 = .ok (.invokevirtual 83, 3) := gd_5 db00a_86
theorem d_X3_fillFirst_46 : decode prog_5_method_17_code 46 = .ok (.ifCond .eq 32, 3) := gd_6 db00a_86
theorem d_X3_fillFirst_49 : decode prog_5_method_17_code 49 = .ok (.aload_n 0, 1) := gd_7 db00a_86
theorem d_X3_fillFirst_50 : decode prog_5_method_17_code 50 = .ok (.iload_n 2, 1) := gd_8 db00a_86
theorem d_X3_fillFirst_51 : decode prog_5_method_17_code 51 = .ok (.iload_n 3, 1) := gd_9 db00a_86
theorem d_X3_fillFirst_52 : decode prog_5_method_17_code 52 = .ok (.iload_n 1, 1) := gd_10 db00a_86
theorem d_X3_fillFirst_53 : decode prog_5_method_17_code 53 = .ok (.invokevirtual 87, 3) := gd_11 db00a_86
theorem d_X3_fillFirst_56 : decode prog_5_method_17_code 56 = .ok (.aload_n 0, 1) := gd_12 db00a_86
theorem d_X3_fillFirst_57 : decode prog_5_method_17_code 57 = .ok (.getfield 29, 3) := gd_13 db00a_86
theorem d_X3_fillFirst_60 : decode prog_5_method_17_code 60 = .ok (.iload_n 2, 1) := gd_14 db00a_86
theorem d_X3_fillFirst_61 : decode prog_5_method_17_code 61 = .ok (.sipush 256, 3) := gd_15 db00a_86
theorem d_X3_fillFirst_64 : decode prog_5_method_17_code 64 = .ok (.imul, 1) := gd_16 db00a_86
theorem d_X3_fillFirst_65 : decode prog_5_method_17_code 65 = .ok (.iload_n 1, 1) := gd_17 db00a_86
theorem d_X3_fillFirst_66 : decode prog_5_method_17_code 66 = .ok (.iadd, 1) := gd_18 db00a_86
theorem d_X3_fillFirst_67 : decode prog_5_method_17_code 67 = .ok (.iaload, 1) := gd_19 db00a_86
theorem d_X3_fillFirst_68 : decode prog_5_method_17_code 68 = .ok (.if_icmp .ne 10, 3) := gd_20 db00a_86
theorem d_X3_fillFirst_71 : decode prog_5_method_17_code 71 = .ok (.aload_n 0, 1) := gd_21 db00a_86
theorem d_X3_fillFirst_72 : decode prog_5_method_17_code 72 = .ok (.getfield 39, 3) := gd_22 db00a_86
theorem d_X3_fillFirst_75 : decode prog_5_method_17_code 75 = .ok (.iload_n 2, 1) := gd_23 db00a_86
theorem db00a_87 : Ad_ prog_5_method_17_code [(76, .iload_n 3, 1), (77, .iastore, 1), (78, .iinc 3 1, 3), (81, .goto (-60), 3), (84, .aload_n 0, 1), (85, .getfield 39, 3), (88, .iload_n 2, 1), (89, .iaload, 1), (90, .iconst (-1), 1), (91, .if_icmp .eq 14, 3), (94, .iload_n 1, 1), (95, .iconst 1, 1), (96, .aload_n 0, 1), (97, .getfield 39, 3), (100, .iload_n 2, 1), (101, .iaload, 1), (102, .ishl, 1), (103, .ior, 1), (104, .istore_n 1, 1), (105, .iinc 2 1, 3), (108, .goto (-104), 3), (111, .return_, 1)] := bch_ok prog_5_method_17_code _ 76 (by decide +kernel)
theorem d_X3_fillFirst_76 : decode prog_5_method_17_code 76 = .ok (.iload_n 3, 1) := gd_0 db00a_87
theorem d_X3_fillFirst_77 : decode prog_5_method_17_code 77 = .ok (.iastore, 1) := gd_1 db00a_87
theorem d_X3_fillFirst_78 : decode prog_5_method_17_code 78 = .ok (.iinc 3 1, 3) := gd_2 db00a_87
theorem d_X3_fillFirst_81 : decode prog_5_method_17_code 81 = .ok (.goto (-60), 3) := gd_3 db00a_87
theorem d_X3_fillFirst_84 : decode prog_5_method_17_code 84 = .ok (.aload_n 0, 1) := gd_4 db00a_87
theorem d_X3_fillFirst_85 : decode prog_5_method_17_code 85 = .ok (.getfield 39, 3) := gd_5 db00a_87
theorem d_X3_fillFirst_88 : decode prog_5_method_17_code 88 = .ok (.iload_n 2, 1) := gd_6 db00a_87
theorem d_X3_fillFirst_89 : decode prog_5_method_17_code 89 = .ok (.iaload, 1) := gd_7 db00a_87
theorem d_X3_fillFirst_90 : decode prog_5_method_17_code 90 = .ok (.iconst (-1), 1) := gd_8 db00a_87
theorem d_X3_fillFirst_91 : decode prog_5_method_17_code 91 = .ok (.if_icmp .eq 14, 3) := gd_9 db00a_87
theorem d_X3_fillFirst_94 : decode prog_5_method_17_code 94 = .ok (.iload_n 1, 1) := gd_10 db00a_87
theorem d_X3_fillFirst_95 : decode prog_5_method_17_code 95 = .ok (.iconst 1, 1) := gd_11 db00a_87
theorem d_X3_fillFirst_96 : decode prog_5_method_17_code 96 = .ok (.aload_n 0, 1) := gd_12 db00a_87
theorem d_X3_fillFirst_97 : decode prog_5_method_17_code 97 = .ok (.getfield 39, 3) := gd_13 db00a_87
theorem d_X3_fillFirst_100 : decode prog_5_method_17_code 100 = .ok (.iload_n 2, 1) := gd_14 db00a_87
theorem d_X3_fillFirst_101 : decode prog_5_method_17_code 101 = .ok (.iaload, 1) := gd_15 db00a_87
theorem d_X3_fillFirst_102 : decode prog_5_method_17_code 102 = .ok (.ishl, 1) := gd_16 db00a_87
theorem d_X3_fillFirst_103 : decode prog_5_method_17_code 103 = .ok (.ior, 1) := gd_17 db00a_87
theorem d_X3_fillFirst_104 : decode prog_5_method_17_code 104 = .ok (.istore_n 1, 1) := gd_18 db00a_87
theorem d_X3_fillFirst_105 : decode prog_5_method_17_code 105 = .ok (.iinc 2 1, 3) := gd_19 db00a_87
theorem d_X3_fillFirst_108 : decode prog_5_method_17_code 108 = .ok (.goto (-104), 3) := gd_20 db00a_87
theorem d_X3_fillFirst_111 : decode prog_5_method_17_code 111 = .ok (.return_, 1) := gd_21 db00a_87
theorem d_X4_init_7 : decode prog_6_method_1_code 7 = .ok (.newarray .int, 2) := by decide +kernel
theorem d_X4_init_15 : decode prog_6_method_1_code 15 = .ok (.newarray .int, 2) := by decide +kernel
theorem d_X4_init_23 : decode prog_6_method_1_code 23 = .ok (.newarray .int, 2) := by decide +kernel
theorem d_X4_init_31 : decode prog_6_method_1_code 31 = .ok (.newarray .int, 2) := by decide +kernel
theorem d_X4_init_39 : decode prog_6_method_1_code 39 = .ok (.newarray .int, 2) := by decide +kernel
theorem d_X4_init_47 : decode prog_6_method_1_code 47 = .ok (.newarray .int, 2) := by decide +kernel
theorem d_X4_init_55 : decode prog_6_method_1_code 55 = .ok (.newarray .boolean, 2) := by decide +kernel
theorem db00a_88 : Ad_ prog_6_method_1_code [(0, .aload_n 0, 1), (1, .invokespecial 3, 3), (4, .aload_n 0, 1), (5, .bipush 80, 2), (9, .putfield 11, 3), (12, .aload_n 0, 1), (13, .bipush 80, 2), (17, .putfield 15, 3), (20, .aload_n 0, 1), (21, .bipush 80, 2), (25, .putfield 18, 3), (28, .aload_n 0, 1), (29, .bipush 80, 2), (33, .putfield 21, 3), (36, .aload_n 0, 1), (37, .bipush 80, 2), (41, .putfield 24, 3), (44, .aload_n 0, 1), (45, .bipush 80, 2), (49, .putfield 27, 3), (52, .aload_n 0, 1), (53, .bipush 80, 2), (57, .putfield 30, 3), (60, .aload_n 0, 1)] := bch_ok prog_6_method_1_code _ 0 (by decide +kernel)
theorem d_X4_init_0 : decode prog_6_method_1_code 0 = .ok (.aload_n 0, 1) := gd_0 db00a_88
theorem d_X4_init_1 : decode prog_6_method_1_code 1 = .ok (.invokespecial 3, 3) := gd_1 db00a_88
theorem d_X4_init_4 : decode prog_6_method_1_code 4 = .ok (.aload_n 0, 1) := gd_2 db00a_88
theorem d_X4_init_5 : decode prog_6_method_1_code 5 = .ok (.bipush 80, 2) := gd_3 db00a_88
theorem d_X4_init_9 : decode prog_6_method_1_code 9 = .ok (.putfield 11, 3) := gd_4 db00a_88
theorem d_X4_init_12 : decode prog_6_method_1_code 12 = .ok (.aload_n 0, 1) := gd_5 db00a_88
theorem d_X4_init_13 : decode prog_6_method_1_code 13 = .ok (.bipush 80, 2) := gd_6 db00a_88
theorem d_X4_init_17 : decode prog_6_method_1_code 17 = .ok (.putfield 15, 3) := gd_7 db00a_88
theorem d_X4_init_20 : decode prog_6_method_1_code 20 = .ok (.aload_n 0, 1) := gd_8 db00a_88
theorem d_X4_init_21 : decode prog_6_method_1_code 21 = .ok (.bipush 80, 2) := gd_9 db00a_88
theorem d_X4_init_25 : decode prog_6_method_1_code 25 = .ok (.putfield 18, 3) := gd_10 db00a_88
theorem d_X4_init_28 : decode prog_6_method_1_code 28 = .ok (.aload_n 0, 1) := gd_11 db00a_88
theorem d_X4_init_29 : decode prog_6_method_1_code 29 = .ok (.bipush 80, 2) := gd_12 db00a_88
theorem d_X4_init_33 : decode prog_6_method_1_code 33 = .ok (.putfield 21, 3) := gd_13 db00a_88
theorem d_X4_init_36 : decode prog_6_method_1_code 36 = .ok (.aload_n 0, 1) := gd_14 db00a_88
theorem d_X4_init_37 : decode prog_6_method_1_code 37 = .ok (.bipush 80, 2) := gd_15 db00a_88
theorem d_X4_init_41 : decode prog_6_method_1_code 41 = .ok (.putfield 24, 3) := gd_16 db00a_88
theorem d_X4_init_44 : decode prog_6_method_1_code 44 = .ok (.aload_n 0, 1) := gd_17 db00a_88
theorem d_X4_init_45 : decode prog_6_method_1_code 45 = .ok (.bipush 80, 2) := gd_18 db00a_88
theorem d_X4_init_49 : decode prog_6_method_1_code 49 = .ok (.putfield 27, 3) := gd_19 db00a_88
theorem d_X4_init_52 : decode prog_6_method_1_code 52 = .ok (.aload_n 0, 1) := gd_20 db00a_88
theorem d_X4_init_53 : decode prog_6_method_1_code 53 = .ok (.bipush 80, 2) := gd_21 db00a_88
theorem d_X4_init_57 : decode prog_6_method_1_code 57 = .ok (.putfield 30, 3) := gd_22 db00a_88
theorem d_X4_init_60 : decode prog_6_method_1_code 60 = .ok (.aload_n 0, 1) := gd_23 db00a_88
theorem d_X4_init_64 : decode prog_6_method_1_code 64 = .ok (.newarray .int, 2) := by decide +kernel
theorem d_X4_init_73 : decode prog_6_method_1_code 73 = .ok (.newarray .int, 2) := by decide +kernel
theorem d_X4_init_82 : decode prog_6_method_1_code 82 = .ok (.newarray .int, 2) := by decide +kernel
theorem d_X4_init_91 : decode prog_6_method_1_code 91 = .ok (.newarray .int, 2) := by decide +kernel
theorem d_X4_init_100 : decode prog_6_method_1_code 100 = .ok (.newarray .int, 2) := by decide +kernel
theorem d_X4_init_109 : decode prog_6_method_1_code 109 = .ok (.newarray .int, 2) := by decide +kernel
theorem d_X4_init_118 : decode prog_6_method_1_code 118 = .ok (.newarray .int, 2) := by decide +kernel
theorem db00a_89 : Ad_ prog_6_method_1_code [(61, .sipush 300, 3), (66, .putfield 34, 3), (69, .aload_n 0, 1), (70, .sipush 300, 3), (75, .putfield 37, 3), (78, .aload_n 0, 1), (79, .sipush 300, 3), (84, .putfield 40, 3), (87, .aload_n 0, 1), (88, .sipush 300, 3), (93, .putfield 43, 3), (96, .aload_n 0, 1), (97, .sipush 300, 3), (102, .putfield 46, 3), (105, .aload_n 0, 1), (106, .sipush 300, 3), (111, .putfield 49, 3), (114, .aload_n 0, 1), (115, .sipush 2700, 3), (120, .putfield 52, 3), (123, .return_, 1)] := bch_ok prog_6_method_1_code _ 61 (by decide +kernel)
theorem d_X4_init_61 : decode prog_6_method_1_code 61 = .ok (.sipush 300, 3) := gd_0 db00a_89
theorem d_X4_init_66 : decode prog_6_method_1_code 66 = .ok (.putfield 34, 3) := gd_1 db00a_89
theorem d_X4_init_69 : decode prog_6_method_1_code 69 = .ok (.aload_n 0, 1) := gd_2 db00a_89
theorem d_X4_init_70 : decode prog_6_method_1_code 70 = .ok (.sipush 300, 3) := gd_3 db00a_89
theorem d_X4_init_75 : decode prog_6_method_1_code 75 = .ok (.putfield 37, 3) := gd_4 db00a_89
theorem d_X4_init_78 : decode prog_6_method_1_code 78 = .ok (.aload_n 0, 1) := gd_5 db00a_89
theorem d_X4_init_79 : decode prog_6_method_1_code 79 = .ok (.sipush 300, 3) := gd_6 db00a_89
theorem d_X4_init_84 : decode prog_6_method_1_code 84 = .ok (.putfield 40, 3) := gd_7 db00a_89
theorem d_X4_init_87 : decode prog_6_method_1_code 87 = .ok (.aload_n 0, 1) := gd_8 db00a_89
theorem d_X4_init_88 : decode prog_6_method_1_code 88 = .ok (.sipush 300, 3) := gd_9 db00a_89
theorem d_X4_init_93 : decode prog_6_method_1_code 93 = .ok (.putfield 43, 3) := gd_10 db00a_89
theorem d_X4_init_96 : decode prog_6_method_1_code 96 = .ok (.aload_n 0, 1) := gd_11 db00a_89
theorem d_X4_init_97 : decode prog_6_method_1_code 97 = .ok (.sipush 300, 3) := gd_12 db00a_89
theorem d_X4_init_102 : decode prog_6_method_1_code 102 = .ok (.putfield 46, 3) := gd_13 db00a_89
theorem d_X4_init_105 : decode prog_6_method_1_code 105 = .ok (.aload_n 0, 1) := gd_14 db00a_89
theorem d_X4_init_106 : decode prog_6_method_1_code 106 = .ok (.sipush 300, 3) := gd_15 db00a_89
theorem d_X4_init_111 : decode prog_6_method_1_code 111 = .ok (.putfield 49, 3) := gd_16 db00a_89
theorem d_X4_init_114 : decode prog_6_method_1_code 114 = .ok (.aload_n 0, 1) := gd_17 db00a_89
theorem d_X4_init_115 : decode prog_6_method_1_code 115 = .ok (.sipush 2700, 3) := gd_18 db00a_89
theorem d_X4_init_120 : decode prog_6_method_1_code 120 = .ok (.putfield 52, 3) := gd_19 db00a_89
theorem d_X4_init_123 : decode prog_6_method_1_code 123 = .ok (.return_, 1) := gd_20 db00a_89
theorem db00a_90 : Ad_ prog_6_method_2_code [(0, .aload_n 0, 1), (1, .getfield 55, 3), (4, .bipush 80, 2), (6, .if_icmp .lt 5, 3), (9, .iconst (-1), 1), (10, .ireturn, 1), (11, .aload_n 0, 1), (12, .getfield 11, 3), (15, .aload_n 0, 1), (16, .getfield 55, 3), (19, .iload_n 1, 1), (20, .iastore, 1), (21, .aload_n 0, 1), (22, .getfield 15, 3), (25, .aload_n 0, 1), (26, .getfield 55, 3), (29, .iload_n 2, 1), (30, .iastore, 1), (31, .aload_n 0, 1), (32, .getfield 18, 3), (35, .aload_n 0, 1), (36, .getfield 55, 3), (39, .iload_n 3, 1), (40, .iastore, 1)] := bch_ok prog_6_method_2_code _ 0 (by decide +kernel)
theorem d_X4_addFind_0 : decode prog_6_method_2_code 0 = .ok (.aload_n 0, 1) := gd_0 db00a_90
theorem d_X4_addFind_1 : decode prog_6_method_2_code 1 = .ok (.getfield 55, 3) := gd_1 db00a_90
theorem d_X4_addFind_4 : decode prog_6_method_2_code 4 = .ok (.bipush 80, 2) := gd_2 db00a_90
theorem d_X4_addFind_6 : decode prog_6_method_2_code 6 = .ok (.if_icmp .lt 5, 3) := gd_3 db00a_90
theorem d_X4_addFind_9 : decode prog_6_method_2_code 9 = .ok (.iconst (-1), 1) := gd_4 db00a_90
theorem d_X4_addFind_10 : decode prog_6_method_2_code 10 = .ok (.ireturn, 1) := gd_5 db00a_90
theorem d_X4_addFind_11 : decode prog_6_method_2_code 11 = .ok (.aload_n 0, 1) := gd_6 db00a_90
theorem d_X4_addFind_12 : decode prog_6_method_2_code 12 = .ok (.getfield 11, 3) := gd_7 db00a_90
theorem d_X4_addFind_15 : decode prog_6_method_2_code 15 = .ok (.aload_n 0, 1) := gd_8 db00a_90
theorem d_X4_addFind_16 : decode prog_6_method_2_code 16 = .ok (.getfield 55, 3) := gd_9 db00a_90
theorem d_X4_addFind_19 : decode prog_6_method_2_code 19 = .ok (.iload_n 1, 1) := gd_10 db00a_90
theorem d_X4_addFind_20 : decode prog_6_method_2_code 20 = .ok (.iastore, 1) := gd_11 db00a_90
theorem d_X4_addFind_21 : decode prog_6_method_2_code 21 = .ok (.aload_n 0, 1) := gd_12 db00a_90
theorem d_X4_addFind_22 : decode prog_6_method_2_code 22 = .ok (.getfield 15, 3) := gd_13 db00a_90
theorem d_X4_addFind_25 : decode prog_6_method_2_code 25 = .ok (.aload_n 0, 1) := gd_14 db00a_90
theorem d_X4_addFind_26 : decode prog_6_method_2_code 26 = .ok (.getfield 55, 3) := gd_15 db00a_90
theorem d_X4_addFind_29 : decode prog_6_method_2_code 29 = .ok (.iload_n 2, 1) := gd_16 db00a_90
theorem d_X4_addFind_30 : decode prog_6_method_2_code 30 = .ok (.iastore, 1) := gd_17 db00a_90
theorem d_X4_addFind_31 : decode prog_6_method_2_code 31 = .ok (.aload_n 0, 1) := gd_18 db00a_90
theorem d_X4_addFind_32 : decode prog_6_method_2_code 32 = .ok (.getfield 18, 3) := gd_19 db00a_90
theorem d_X4_addFind_35 : decode prog_6_method_2_code 35 = .ok (.aload_n 0, 1) := gd_20 db00a_90
theorem d_X4_addFind_36 : decode prog_6_method_2_code 36 = .ok (.getfield 55, 3) := gd_21 db00a_90
theorem d_X4_addFind_39 : decode prog_6_method_2_code 39 = .ok (.iload_n 3, 1) := gd_22 db00a_90
theorem d_X4_addFind_40 : decode prog_6_method_2_code 40 = .ok (.iastore, 1) := gd_23 db00a_90
theorem db00a_91 : Ad_ prog_6_method_2_code [(41, .aload_n 0, 1), (42, .getfield 21, 3), (45, .aload_n 0, 1), (46, .getfield 55, 3), (49, .iload 4, 2), (51, .iastore, 1), (52, .aload_n 0, 1), (53, .getfield 24, 3), (56, .aload_n 0, 1), (57, .getfield 55, 3), (60, .iload 5, 2), (62, .iastore, 1), (63, .aload_n 0, 1), (64, .dup, 1), (65, .getfield 55, 3), (68, .iconst 1, 1), (69, .iadd, 1), (70, .putfield 55, 3), (73, .aload_n 0, 1), (74, .getfield 55, 3), (77, .iconst 1, 1), (78, .isub, 1), (79, .ireturn, 1)] := bch_ok prog_6_method_2_code _ 41 (by decide +kernel)
theorem d_X4_addFind_41 : decode prog_6_method_2_code 41 = .ok (.aload_n 0, 1) := gd_0 db00a_91
theorem d_X4_addFind_42 : decode prog_6_method_2_code 42 = .ok (.getfield 21, 3) := gd_1 db00a_91
theorem d_X4_addFind_45 : decode prog_6_method_2_code 45 = .ok (.aload_n 0, 1) := gd_2 db00a_91
theorem d_X4_addFind_46 : decode prog_6_method_2_code 46 = .ok (.getfield 55, 3) := gd_3 db00a_91
theorem d_X4_addFind_49 : decode prog_6_method_2_code 49 = .ok (.iload 4, 2) := gd_4 db00a_91
theorem d_X4_addFind_51 : decode prog_6_method_2_code 51 = .ok (.iastore, 1) := gd_5 db00a_91
theorem d_X4_addFind_52 : decode prog_6_method_2_code 52 = .ok (.aload_n 0, 1) := gd_6 db00a_91
theorem d_X4_addFind_53 : decode prog_6_method_2_code 53 = .ok (.getfield 24, 3) := gd_7 db00a_91
theorem d_X4_addFind_56 : decode prog_6_method_2_code 56 = .ok (.aload_n 0, 1) := gd_8 db00a_91
theorem d_X4_addFind_57 : decode prog_6_method_2_code 57 = .ok (.getfield 55, 3) := gd_9 db00a_91
theorem d_X4_addFind_60 : decode prog_6_method_2_code 60 = .ok (.iload 5, 2) := gd_10 db00a_91
theorem d_X4_addFind_62 : decode prog_6_method_2_code 62 = .ok (.iastore, 1) := gd_11 db00a_91
theorem d_X4_addFind_63 : decode prog_6_method_2_code 63 = .ok (.aload_n 0, 1) := gd_12 db00a_91
theorem d_X4_addFind_64 : decode prog_6_method_2_code 64 = .ok (.dup, 1) := gd_13 db00a_91
theorem d_X4_addFind_65 : decode prog_6_method_2_code 65 = .ok (.getfield 55, 3) := gd_14 db00a_91
theorem d_X4_addFind_68 : decode prog_6_method_2_code 68 = .ok (.iconst 1, 1) := gd_15 db00a_91
theorem d_X4_addFind_69 : decode prog_6_method_2_code 69 = .ok (.iadd, 1) := gd_16 db00a_91
theorem d_X4_addFind_70 : decode prog_6_method_2_code 70 = .ok (.putfield 55, 3) := gd_17 db00a_91
theorem d_X4_addFind_73 : decode prog_6_method_2_code 73 = .ok (.aload_n 0, 1) := gd_18 db00a_91
theorem d_X4_addFind_74 : decode prog_6_method_2_code 74 = .ok (.getfield 55, 3) := gd_19 db00a_91
theorem d_X4_addFind_77 : decode prog_6_method_2_code 77 = .ok (.iconst 1, 1) := gd_20 db00a_91
theorem d_X4_addFind_78 : decode prog_6_method_2_code 78 = .ok (.isub, 1) := gd_21 db00a_91
theorem d_X4_addFind_79 : decode prog_6_method_2_code 79 = .ok (.ireturn, 1) := gd_22 db00a_91
theorem db00a_92 : Ad_ prog_6_method_3_code [(0, .iload_n 1, 1), (1, .iconst 0, 1), (2, .aload_n 0, 1), (3, .getfield 55, 3), (6, .iconst 1, 1), (7, .isub, 1), (8, .invokestatic 59, 3), (11, .ifCond .eq 12, 3), (14, .aload_n 0, 1), (15, .getfield 11, 3), (18, .iload_n 1, 1), (19, .iaload, 1), (20, .goto 4, 3), (23, .iconst 0, 1), (24, .ireturn, 1)] := bch_ok prog_6_method_3_code _ 0 (by decide +kernel)
theorem d_X4_kindOf_0 : decode prog_6_method_3_code 0 = .ok (.iload_n 1, 1) := gd_0 db00a_92
theorem d_X4_kindOf_1 : decode prog_6_method_3_code 1 = .ok (.iconst 0, 1) := gd_1 db00a_92
theorem d_X4_kindOf_2 : decode prog_6_method_3_code 2 = .ok (.aload_n 0, 1) := gd_2 db00a_92
theorem d_X4_kindOf_3 : decode prog_6_method_3_code 3 = .ok (.getfield 55, 3) := gd_3 db00a_92
theorem d_X4_kindOf_6 : decode prog_6_method_3_code 6 = .ok (.iconst 1, 1) := gd_4 db00a_92
theorem d_X4_kindOf_7 : decode prog_6_method_3_code 7 = .ok (.isub, 1) := gd_5 db00a_92
theorem d_X4_kindOf_8 : decode prog_6_method_3_code 8 = .ok (.invokestatic 59, 3) := gd_6 db00a_92
theorem d_X4_kindOf_11 : decode prog_6_method_3_code 11 = .ok (.ifCond .eq 12, 3) := gd_7 db00a_92
theorem d_X4_kindOf_14 : decode prog_6_method_3_code 14 = .ok (.aload_n 0, 1) := gd_8 db00a_92
theorem d_X4_kindOf_15 : decode prog_6_method_3_code 15 = .ok (.getfield 11, 3) := gd_9 db00a_92
theorem d_X4_kindOf_18 : decode prog_6_method_3_code 18 = .ok (.iload_n 1, 1) := gd_10 db00a_92
theorem d_X4_kindOf_19 : decode prog_6_method_3_code 19 = .ok (.iaload, 1) := gd_11 db00a_92
theorem d_X4_kindOf_20 : decode prog_6_method_3_code 20 = .ok (.goto 4, 3) := gd_12 db00a_92
theorem d_X4_kindOf_23 : decode prog_6_method_3_code 23 = .ok (.iconst 0, 1) := gd_13 db00a_92
theorem d_X4_kindOf_24 : decode prog_6_method_3_code 24 = .ok (.ireturn, 1) := gd_14 db00a_92
theorem db00a_93 : Ad_ prog_6_method_4_code [(0, .iload_n 1, 1), (1, .ifCond .lt 15, 3), (4, .iload_n 1, 1), (5, .aload_n 0, 1), (6, .getfield 63, 3), (9, .if_icmp .ge 7, 3), (12, .iconst 1, 1), (13, .goto 4, 3), (16, .iconst 0, 1), (17, .ireturn, 1)] := bch_ok prog_6_method_4_code _ 0 (by decide +kernel)
theorem d_X4_has_0 : decode prog_6_method_4_code 0 = .ok (.iload_n 1, 1) := gd_0 db00a_93
theorem d_X4_has_1 : decode prog_6_method_4_code 1 = .ok (.ifCond .lt 15, 3) := gd_1 db00a_93
theorem d_X4_has_4 : decode prog_6_method_4_code 4 = .ok (.iload_n 1, 1) := gd_2 db00a_93
theorem d_X4_has_5 : decode prog_6_method_4_code 5 = .ok (.aload_n 0, 1) := gd_3 db00a_93
theorem d_X4_has_6 : decode prog_6_method_4_code 6 = .ok (.getfield 63, 3) := gd_4 db00a_93
theorem d_X4_has_9 : decode prog_6_method_4_code 9 = .ok (.if_icmp .ge 7, 3) := gd_5 db00a_93
theorem d_X4_has_12 : decode prog_6_method_4_code 12 = .ok (.iconst 1, 1) := gd_6 db00a_93
theorem d_X4_has_13 : decode prog_6_method_4_code 13 = .ok (.goto 4, 3) := gd_7 db00a_93
theorem d_X4_has_16 : decode prog_6_method_4_code 16 = .ok (.iconst 0, 1) := gd_8 db00a_93
theorem d_X4_has_17 : decode prog_6_method_4_code 17 = .ok (.ireturn, 1) := gd_9 db00a_93
theorem db00a_94 : Ad_ prog_6_method_5_code [(0, .iload_n 1, 1), (1, .iconst 0, 1), (2, .aload_n 0, 1), (3, .getfield 55, 3), (6, .iconst 1, 1), (7, .isub, 1), (8, .invokestatic 59, 3), (11, .ifCond .eq 26, 3), (14, .aload_n 0, 1), (15, .getfield 63, 3), (18, .sipush 300, 3), (21, .if_icmp .ge 16, 3), (24, .aload_n 0, 1), (25, .getfield 30, 3), (28, .iload_n 1, 1), (29, .baload, 1), (30, .ifCond .ne 7, 3), (33, .iconst 1, 1), (34, .goto 4, 3), (37, .iconst 0, 1), (38, .istore 4, 2), (40, .iload 4, 2), (42, .ifCond .eq 36, 3), (45, .aload_n 0, 1)] := bch_ok prog_6_method_5_code _ 0 (by decide +kernel)
theorem d_X4_canBeSeen_0 : decode prog_6_method_5_code 0 = .ok (.iload_n 1, 1) := gd_0 db00a_94
theorem d_X4_canBeSeen_1 : decode prog_6_method_5_code 1 = .ok (.iconst 0, 1) := gd_1 db00a_94
theorem d_X4_canBeSeen_2 : decode prog_6_method_5_code 2 = .ok (.aload_n 0, 1) := gd_2 db00a_94
theorem d_X4_canBeSeen_3 : decode prog_6_method_5_code 3 = .ok (.getfield 55, 3) := gd_3 db00a_94
theorem d_X4_canBeSeen_6 : decode prog_6_method_5_code 6 = .ok (.iconst 1, 1) := gd_4 db00a_94
theorem d_X4_canBeSeen_7 : decode prog_6_method_5_code 7 = .ok (.isub, 1) := gd_5 db00a_94
theorem d_X4_canBeSeen_8 : decode prog_6_method_5_code 8 = .ok (.invokestatic 59, 3) := gd_6 db00a_94
theorem d_X4_canBeSeen_11 : decode prog_6_method_5_code 11 = .ok (.ifCond .eq 26, 3) := gd_7 db00a_94
theorem d_X4_canBeSeen_14 : decode prog_6_method_5_code 14 = .ok (.aload_n 0, 1) := gd_8 db00a_94
theorem d_X4_canBeSeen_15 : decode prog_6_method_5_code 15 = .ok (.getfield 63, 3) := gd_9 db00a_94
theorem d_X4_canBeSeen_18 : decode prog_6_method_5_code 18 = .ok (.sipush 300, 3) := gd_10 db00a_94
theorem d_X4_canBeSeen_21 : decode prog_6_method_5_code 21 = .ok (.if_icmp .ge 16, 3) := gd_11 db00a_94
theorem d_X4_canBeSeen_24 : decode prog_6_method_5_code 24 = .ok (.aload_n 0, 1) := gd_12 db00a_94
theorem d_X4_canBeSeen_25 : decode prog_6_method_5_code 25 = .ok (.getfield 30, 3) := gd_13 db00a_94
theorem d_X4_canBeSeen_28 : decode prog_6_method_5_code 28 = .ok (.iload_n 1, 1) := gd_14 db00a_94
theorem d_X4_canBeSeen_29 : decode prog_6_method_5_code 29 = .ok (.baload, 1) := gd_15 db00a_94
theorem d_X4_canBeSeen_30 : decode prog_6_method_5_code 30 = .ok (.ifCond .ne 7, 3) := gd_16 db00a_94
theorem d_X4_canBeSeen_33 : decode prog_6_method_5_code 33 = .ok (.iconst 1, 1) := gd_17 db00a_94
theorem d_X4_canBeSeen_34 : decode prog_6_method_5_code 34 = .ok (.goto 4, 3) := gd_18 db00a_94
theorem d_X4_canBeSeen_37 : decode prog_6_method_5_code 37 = .ok (.iconst 0, 1) := gd_19 db00a_94
theorem d_X4_canBeSeen_38 : decode prog_6_method_5_code 38 = .ok (.istore 4, 2) := gd_20 db00a_94
theorem d_X4_canBeSeen_40 : decode prog_6_method_5_code 40 = .ok (.iload 4, 2) := gd_21 db00a_94
theorem d_X4_canBeSeen_42 : decode prog_6_method_5_code 42 = .ok (.ifCond .eq 36, 3) := gd_22 db00a_94
theorem d_X4_canBeSeen_45 : decode prog_6_method_5_code 45 = .ok (.aload_n 0, 1) := gd_23 db00a_94
theorem db00a_95 : Ad_ prog_6_method_5_code [(46, .getfield 15, 3), (49, .iload_n 1, 1), (50, .iaload, 1), (51, .iload_n 2, 1), (52, .if_icmp .ne 26, 3), (55, .iload_n 3, 1), (56, .aload_n 0, 1), (57, .getfield 18, 3), (60, .iload_n 1, 1), (61, .iaload, 1), (62, .aload_n 0, 1), (63, .getfield 21, 3), (66, .iload_n 1, 1), (67, .iaload, 1), (68, .invokestatic 59, 3), (71, .ifCond .eq 7, 3), (74, .iconst 1, 1), (75, .goto 4, 3), (78, .iconst 0, 1), (79, .ireturn, 1)] := bch_ok prog_6_method_5_code _ 46 (by decide +kernel)
theorem d_X4_canBeSeen_46 : decode prog_6_method_5_code 46 = .ok (.getfield 15, 3) := gd_0 db00a_95
theorem d_X4_canBeSeen_49 : decode prog_6_method_5_code 49 = .ok (.iload_n 1, 1) := gd_1 db00a_95
theorem d_X4_canBeSeen_50 : decode prog_6_method_5_code 50 = .ok (.iaload, 1) := gd_2 db00a_95
theorem d_X4_canBeSeen_51 : decode prog_6_method_5_code 51 = .ok (.iload_n 2, 1) := gd_3 db00a_95
theorem d_X4_canBeSeen_52 : decode prog_6_method_5_code 52 = .ok (.if_icmp .ne 26, 3) := gd_4 db00a_95
theorem d_X4_canBeSeen_55 : decode prog_6_method_5_code 55 = .ok (.iload_n 3, 1) := gd_5 db00a_95
theorem d_X4_canBeSeen_56 : decode prog_6_method_5_code 56 = .ok (.aload_n 0, 1) := gd_6 db00a_95
theorem d_X4_canBeSeen_57 : decode prog_6_method_5_code 57 = .ok (.getfield 18, 3) := gd_7 db00a_95
theorem d_X4_canBeSeen_60 : decode prog_6_method_5_code 60 = .ok (.iload_n 1, 1) := gd_8 db00a_95
theorem d_X4_canBeSeen_61 : decode prog_6_method_5_code 61 = .ok (.iaload, 1) := gd_9 db00a_95
theorem d_X4_canBeSeen_62 : decode prog_6_method_5_code 62 = .ok (.aload_n 0, 1) := gd_10 db00a_95
theorem d_X4_canBeSeen_63 : decode prog_6_method_5_code 63 = .ok (.getfield 21, 3) := gd_11 db00a_95
theorem d_X4_canBeSeen_66 : decode prog_6_method_5_code 66 = .ok (.iload_n 1, 1) := gd_12 db00a_95
theorem d_X4_canBeSeen_67 : decode prog_6_method_5_code 67 = .ok (.iaload, 1) := gd_13 db00a_95
theorem d_X4_canBeSeen_68 : decode prog_6_method_5_code 68 = .ok (.invokestatic 59, 3) := gd_14 db00a_95
theorem d_X4_canBeSeen_71 : decode prog_6_method_5_code 71 = .ok (.ifCond .eq 7, 3) := gd_15 db00a_95
theorem d_X4_canBeSeen_74 : decode prog_6_method_5_code 74 = .ok (.iconst 1, 1) := gd_16 db00a_95
theorem d_X4_canBeSeen_75 : decode prog_6_method_5_code 75 = .ok (.goto 4, 3) := gd_17 db00a_95
theorem d_X4_canBeSeen_78 : decode prog_6_method_5_code 78 = .ok (.iconst 0, 1) := gd_18 db00a_95
theorem d_X4_canBeSeen_79 : decode prog_6_method_5_code 79 = .ok (.ireturn, 1) := gd_19 db00a_95
theorem db00a_96 : Ad_ prog_6_method_6_code [(0, .aload_n 0, 1), (1, .getfield 63, 3), (4, .sipush 300, 3), (7, .if_icmp .ge 17, 3), (10, .iload_n 2, 1), (11, .iconst 0, 1), (12, .aload_n 0, 1), (13, .getfield 55, 3), (16, .iconst 1, 1), (17, .isub, 1), (18, .invokestatic 59, 3), (21, .ifCond .ne 5, 3), (24, .iconst (-1), 1), (25, .ireturn, 1), (26, .aload_n 0, 1), (27, .getfield 63, 3), (30, .istore 4, 2), (32, .aload_n 0, 1), (33, .getfield 34, 3), (36, .iload 4, 2), (38, .iload_n 1, 1), (39, .iastore, 1), (40, .aload_n 0, 1), (41, .getfield 37, 3)] := bch_ok prog_6_method_6_code _ 0 (by decide +kernel)
theorem d_X4_write_0 : decode prog_6_method_6_code 0 = .ok (.aload_n 0, 1) := gd_0 db00a_96
theorem d_X4_write_1 : decode prog_6_method_6_code 1 = .ok (.getfield 63, 3) := gd_1 db00a_96
theorem d_X4_write_4 : decode prog_6_method_6_code 4 = .ok (.sipush 300, 3) := gd_2 db00a_96
theorem d_X4_write_7 : decode prog_6_method_6_code 7 = .ok (.if_icmp .ge 17, 3) := gd_3 db00a_96
theorem d_X4_write_10 : decode prog_6_method_6_code 10 = .ok (.iload_n 2, 1) := gd_4 db00a_96
theorem d_X4_write_11 : decode prog_6_method_6_code 11 = .ok (.iconst 0, 1) := gd_5 db00a_96
theorem d_X4_write_12 : decode prog_6_method_6_code 12 = .ok (.aload_n 0, 1) := gd_6 db00a_96
theorem d_X4_write_13 : decode prog_6_method_6_code 13 = .ok (.getfield 55, 3) := gd_7 db00a_96
theorem d_X4_write_16 : decode prog_6_method_6_code 16 = .ok (.iconst 1, 1) := gd_8 db00a_96
theorem d_X4_write_17 : decode prog_6_method_6_code 17 = .ok (.isub, 1) := gd_9 db00a_96
theorem d_X4_write_18 : decode prog_6_method_6_code 18 = .ok (.invokestatic 59, 3) := gd_10 db00a_96
theorem d_X4_write_21 : decode prog_6_method_6_code 21 = .ok (.ifCond .ne 5, 3) := gd_11 db00a_96
theorem d_X4_write_24 : decode prog_6_method_6_code 24 = .ok (.iconst (-1), 1) := gd_12 db00a_96
theorem d_X4_write_25 : decode prog_6_method_6_code 25 = .ok (.ireturn, 1) := gd_13 db00a_96
theorem d_X4_write_26 : decode prog_6_method_6_code 26 = .ok (.aload_n 0, 1) := gd_14 db00a_96
theorem d_X4_write_27 : decode prog_6_method_6_code 27 = .ok (.getfield 63, 3) := gd_15 db00a_96
theorem d_X4_write_30 : decode prog_6_method_6_code 30 = .ok (.istore 4, 2) := gd_16 db00a_96
theorem d_X4_write_32 : decode prog_6_method_6_code 32 = .ok (.aload_n 0, 1) := gd_17 db00a_96
theorem d_X4_write_33 : decode prog_6_method_6_code 33 = .ok (.getfield 34, 3) := gd_18 db00a_96
theorem d_X4_write_36 : decode prog_6_method_6_code 36 = .ok (.iload 4, 2) := gd_19 db00a_96
theorem d_X4_write_38 : decode prog_6_method_6_code 38 = .ok (.iload_n 1, 1) := gd_20 db00a_96
theorem d_X4_write_39 : decode prog_6_method_6_code 39 = .ok (.iastore, 1) := gd_21 db00a_96
theorem d_X4_write_40 : decode prog_6_method_6_code 40 = .ok (.aload_n 0, 1) := gd_22 db00a_96
theorem d_X4_write_41 : decode prog_6_method_6_code 41 = .ok (.getfield 37, 3) := gd_23 db00a_96
theorem db00a_97 : Ad_ prog_6_method_6_code [(44, .iload 4, 2), (46, .iload_n 2, 1), (47, .iastore, 1), (48, .aload_n 0, 1), (49, .getfield 40, 3), (52, .iload 4, 2), (54, .iload_n 3, 1), (55, .iastore, 1), (56, .aload_n 0, 1), (57, .getfield 43, 3), (60, .iload 4, 2), (62, .iconst 0, 1), (63, .iastore, 1), (64, .aload_n 0, 1), (65, .getfield 46, 3), (68, .iload 4, 2), (70, .iconst (-1), 1), (71, .iastore, 1), (72, .aload_n 0, 1), (73, .getfield 49, 3), (76, .iload 4, 2), (78, .iconst (-1), 1), (79, .iastore, 1), (80, .aload_n 0, 1)] := bch_ok prog_6_method_6_code _ 44 (by decide +kernel)
theorem d_X4_write_44 : decode prog_6_method_6_code 44 = .ok (.iload 4, 2) := gd_0 db00a_97
theorem d_X4_write_46 : decode prog_6_method_6_code 46 = .ok (.iload_n 2, 1) := gd_1 db00a_97
theorem d_X4_write_47 : decode prog_6_method_6_code 47 = .ok (.iastore, 1) := gd_2 db00a_97
theorem d_X4_write_48 : decode prog_6_method_6_code 48 = .ok (.aload_n 0, 1) := gd_3 db00a_97
theorem d_X4_write_49 : decode prog_6_method_6_code 49 = .ok (.getfield 40, 3) := gd_4 db00a_97
theorem d_X4_write_52 : decode prog_6_method_6_code 52 = .ok (.iload 4, 2) := gd_5 db00a_97
theorem d_X4_write_54 : decode prog_6_method_6_code 54 = .ok (.iload_n 3, 1) := gd_6 db00a_97
theorem d_X4_write_55 : decode prog_6_method_6_code 55 = .ok (.iastore, 1) := gd_7 db00a_97
theorem d_X4_write_56 : decode prog_6_method_6_code 56 = .ok (.aload_n 0, 1) := gd_8 db00a_97
theorem d_X4_write_57 : decode prog_6_method_6_code 57 = .ok (.getfield 43, 3) := gd_9 db00a_97
theorem d_X4_write_60 : decode prog_6_method_6_code 60 = .ok (.iload 4, 2) := gd_10 db00a_97
theorem d_X4_write_62 : decode prog_6_method_6_code 62 = .ok (.iconst 0, 1) := gd_11 db00a_97
theorem d_X4_write_63 : decode prog_6_method_6_code 63 = .ok (.iastore, 1) := gd_12 db00a_97
theorem d_X4_write_64 : decode prog_6_method_6_code 64 = .ok (.aload_n 0, 1) := gd_13 db00a_97
theorem d_X4_write_65 : decode prog_6_method_6_code 65 = .ok (.getfield 46, 3) := gd_14 db00a_97
theorem d_X4_write_68 : decode prog_6_method_6_code 68 = .ok (.iload 4, 2) := gd_15 db00a_97
theorem d_X4_write_70 : decode prog_6_method_6_code 70 = .ok (.iconst (-1), 1) := gd_16 db00a_97
theorem d_X4_write_71 : decode prog_6_method_6_code 71 = .ok (.iastore, 1) := gd_17 db00a_97
theorem d_X4_write_72 : decode prog_6_method_6_code 72 = .ok (.aload_n 0, 1) := gd_18 db00a_97
theorem d_X4_write_73 : decode prog_6_method_6_code 73 = .ok (.getfield 49, 3) := gd_19 db00a_97
theorem d_X4_write_76 : decode prog_6_method_6_code 76 = .ok (.iload 4, 2) := gd_20 db00a_97
theorem d_X4_write_78 : decode prog_6_method_6_code 78 = .ok (.iconst (-1), 1) := gd_21 db00a_97
theorem d_X4_write_79 : decode prog_6_method_6_code 79 = .ok (.iastore, 1) := gd_22 db00a_97
theorem d_X4_write_80 : decode prog_6_method_6_code 80 = .ok (.aload_n 0, 1) := gd_23 db00a_97
theorem db00a_98 : Ad_ prog_6_method_6_code [(81, .dup, 1), (82, .getfield 63, 3), (85, .iconst 1, 1), (86, .iadd, 1), (87, .putfield 63, 3), (90, .iload 4, 2), (92, .bipush 9, 2), (94, .imul, 1), (95, .istore 5, 2), (97, .aload_n 0, 1), (98, .getfield 52, 3), (101, .iload 5, 2), (103, .aload_n 0, 1), (104, .getfield 11, 3), (107, .iload_n 2, 1), (108, .iaload, 1), (109, .iastore, 1), (110, .aload_n 0, 1), (111, .getfield 52, 3), (114, .iload 5, 2), (116, .iconst 1, 1), (117, .iadd, 1), (118, .aload_n 0, 1), (119, .getfield 24, 3)] := bch_ok prog_6_method_6_code _ 81 (by decide +kernel)
theorem d_X4_write_81 : decode prog_6_method_6_code 81 = .ok (.dup, 1) := gd_0 db00a_98
theorem d_X4_write_82 : decode prog_6_method_6_code 82 = .ok (.getfield 63, 3) := gd_1 db00a_98
theorem d_X4_write_85 : decode prog_6_method_6_code 85 = .ok (.iconst 1, 1) := gd_2 db00a_98
theorem d_X4_write_86 : decode prog_6_method_6_code 86 = .ok (.iadd, 1) := gd_3 db00a_98
theorem d_X4_write_87 : decode prog_6_method_6_code 87 = .ok (.putfield 63, 3) := gd_4 db00a_98
theorem d_X4_write_90 : decode prog_6_method_6_code 90 = .ok (.iload 4, 2) := gd_5 db00a_98
theorem d_X4_write_92 : decode prog_6_method_6_code 92 = .ok (.bipush 9, 2) := gd_6 db00a_98
theorem d_X4_write_94 : decode prog_6_method_6_code 94 = .ok (.imul, 1) := gd_7 db00a_98
theorem d_X4_write_95 : decode prog_6_method_6_code 95 = .ok (.istore 5, 2) := gd_8 db00a_98
theorem d_X4_write_97 : decode prog_6_method_6_code 97 = .ok (.aload_n 0, 1) := gd_9 db00a_98
theorem d_X4_write_98 : decode prog_6_method_6_code 98 = .ok (.getfield 52, 3) := gd_10 db00a_98
theorem d_X4_write_101 : decode prog_6_method_6_code 101 = .ok (.iload 5, 2) := gd_11 db00a_98
theorem d_X4_write_103 : decode prog_6_method_6_code 103 = .ok (.aload_n 0, 1) := gd_12 db00a_98
theorem d_X4_write_104 : decode prog_6_method_6_code 104 = .ok (.getfield 11, 3) := gd_13 db00a_98
theorem d_X4_write_107 : decode prog_6_method_6_code 107 = .ok (.iload_n 2, 1) := gd_14 db00a_98
theorem d_X4_write_108 : decode prog_6_method_6_code 108 = .ok (.iaload, 1) := gd_15 db00a_98
theorem d_X4_write_109 : decode prog_6_method_6_code 109 = .ok (.iastore, 1) := gd_16 db00a_98
theorem d_X4_write_110 : decode prog_6_method_6_code 110 = .ok (.aload_n 0, 1) := gd_17 db00a_98
theorem d_X4_write_111 : decode prog_6_method_6_code 111 = .ok (.getfield 52, 3) := gd_18 db00a_98
theorem d_X4_write_114 : decode prog_6_method_6_code 114 = .ok (.iload 5, 2) := gd_19 db00a_98
theorem d_X4_write_116 : decode prog_6_method_6_code 116 = .ok (.iconst 1, 1) := gd_20 db00a_98
theorem d_X4_write_117 : decode prog_6_method_6_code 117 = .ok (.iadd, 1) := gd_21 db00a_98
theorem d_X4_write_118 : decode prog_6_method_6_code 118 = .ok (.aload_n 0, 1) := gd_22 db00a_98
theorem d_X4_write_119 : decode prog_6_method_6_code 119 = .ok (.getfield 24, 3) := gd_23 db00a_98
theorem db00a_99 : Ad_ prog_6_method_6_code [(122, .iload_n 2, 1), (123, .iaload, 1), (124, .iastore, 1), (125, .aload_n 0, 1), (126, .getfield 52, 3), (129, .iload 5, 2), (131, .iconst 2, 1), (132, .iadd, 1), (133, .aload_n 0, 1), (134, .getfield 15, 3), (137, .iload_n 2, 1), (138, .iaload, 1), (139, .iastore, 1), (140, .aload_n 0, 1), (141, .getfield 52, 3), (144, .iload 5, 2), (146, .iconst 3, 1), (147, .iadd, 1), (148, .iload_n 3, 1), (149, .sipush 1440, 3), (152, .irem, 1), (153, .bipush 60, 2), (155, .idiv, 1), (156, .iastore, 1)] := bch_ok prog_6_method_6_code _ 122 (by decide +kernel)
theorem d_X4_write_122 : decode prog_6_method_6_code 122 = .ok (.iload_n 2, 1) := gd_0 db00a_99
theorem d_X4_write_123 : decode prog_6_method_6_code 123 = .ok (.iaload, 1) := gd_1 db00a_99
theorem d_X4_write_124 : decode prog_6_method_6_code 124 = .ok (.iastore, 1) := gd_2 db00a_99
theorem d_X4_write_125 : decode prog_6_method_6_code 125 = .ok (.aload_n 0, 1) := gd_3 db00a_99
theorem d_X4_write_126 : decode prog_6_method_6_code 126 = .ok (.getfield 52, 3) := gd_4 db00a_99
theorem d_X4_write_129 : decode prog_6_method_6_code 129 = .ok (.iload 5, 2) := gd_5 db00a_99
theorem d_X4_write_131 : decode prog_6_method_6_code 131 = .ok (.iconst 2, 1) := gd_6 db00a_99
theorem d_X4_write_132 : decode prog_6_method_6_code 132 = .ok (.iadd, 1) := gd_7 db00a_99
theorem d_X4_write_133 : decode prog_6_method_6_code 133 = .ok (.aload_n 0, 1) := gd_8 db00a_99
theorem d_X4_write_134 : decode prog_6_method_6_code 134 = .ok (.getfield 15, 3) := gd_9 db00a_99
theorem d_X4_write_137 : decode prog_6_method_6_code 137 = .ok (.iload_n 2, 1) := gd_10 db00a_99
theorem d_X4_write_138 : decode prog_6_method_6_code 138 = .ok (.iaload, 1) := gd_11 db00a_99
theorem d_X4_write_139 : decode prog_6_method_6_code 139 = .ok (.iastore, 1) := gd_12 db00a_99
theorem d_X4_write_140 : decode prog_6_method_6_code 140 = .ok (.aload_n 0, 1) := gd_13 db00a_99
theorem d_X4_write_141 : decode prog_6_method_6_code 141 = .ok (.getfield 52, 3) := gd_14 db00a_99
theorem d_X4_write_144 : decode prog_6_method_6_code 144 = .ok (.iload 5, 2) := gd_15 db00a_99
theorem d_X4_write_146 : decode prog_6_method_6_code 146 = .ok (.iconst 3, 1) := gd_16 db00a_99
theorem d_X4_write_147 : decode prog_6_method_6_code 147 = .ok (.iadd, 1) := gd_17 db00a_99
theorem d_X4_write_148 : decode prog_6_method_6_code 148 = .ok (.iload_n 3, 1) := gd_18 db00a_99
theorem d_X4_write_149 : decode prog_6_method_6_code 149 = .ok (.sipush 1440, 3) := gd_19 db00a_99
theorem d_X4_write_152 : decode prog_6_method_6_code 152 = .ok (.irem, 1) := gd_20 db00a_99
theorem d_X4_write_153 : decode prog_6_method_6_code 153 = .ok (.bipush 60, 2) := gd_21 db00a_99
theorem d_X4_write_155 : decode prog_6_method_6_code 155 = .ok (.idiv, 1) := gd_22 db00a_99
theorem d_X4_write_156 : decode prog_6_method_6_code 156 = .ok (.iastore, 1) := gd_23 db00a_99
theorem db00a_100 : Ad_ prog_6_method_6_code [(157, .aload_n 0, 1), (158, .getfield 52, 3), (161, .iload 5, 2), (163, .iconst 4, 1), (164, .iadd, 1), (165, .iload_n 3, 1), (166, .sipush 1440, 3), (169, .idiv, 1), (170, .iastore, 1), (171, .aload_n 0, 1), (172, .getfield 52, 3), (175, .iload 5, 2), (177, .bipush 7, 2), (179, .iadd, 1), (180, .aload_n 0, 1), (181, .getfield 27, 3), (184, .iload_n 2, 1), (185, .iaload, 1), (186, .iastore, 1), (187, .aload_n 0, 1), (188, .getfield 52, 3), (191, .iload 5, 2), (193, .bipush 8, 2), (195, .iadd, 1)] := bch_ok prog_6_method_6_code _ 157 (by decide +kernel)
theorem d_X4_write_157 : decode prog_6_method_6_code 157 = .ok (.aload_n 0, 1) := gd_0 db00a_100
theorem d_X4_write_158 : decode prog_6_method_6_code 158 = .ok (.getfield 52, 3) := gd_1 db00a_100
theorem d_X4_write_161 : decode prog_6_method_6_code 161 = .ok (.iload 5, 2) := gd_2 db00a_100
theorem d_X4_write_163 : decode prog_6_method_6_code 163 = .ok (.iconst 4, 1) := gd_3 db00a_100
theorem d_X4_write_164 : decode prog_6_method_6_code 164 = .ok (.iadd, 1) := gd_4 db00a_100
theorem d_X4_write_165 : decode prog_6_method_6_code 165 = .ok (.iload_n 3, 1) := gd_5 db00a_100
theorem d_X4_write_166 : decode prog_6_method_6_code 166 = .ok (.sipush 1440, 3) := gd_6 db00a_100
theorem d_X4_write_169 : decode prog_6_method_6_code 169 = .ok (.idiv, 1) := gd_7 db00a_100
theorem d_X4_write_170 : decode prog_6_method_6_code 170 = .ok (.iastore, 1) := gd_8 db00a_100
theorem d_X4_write_171 : decode prog_6_method_6_code 171 = .ok (.aload_n 0, 1) := gd_9 db00a_100
theorem d_X4_write_172 : decode prog_6_method_6_code 172 = .ok (.getfield 52, 3) := gd_10 db00a_100
theorem d_X4_write_175 : decode prog_6_method_6_code 175 = .ok (.iload 5, 2) := gd_11 db00a_100
theorem d_X4_write_177 : decode prog_6_method_6_code 177 = .ok (.bipush 7, 2) := gd_12 db00a_100
theorem d_X4_write_179 : decode prog_6_method_6_code 179 = .ok (.iadd, 1) := gd_13 db00a_100
theorem d_X4_write_180 : decode prog_6_method_6_code 180 = .ok (.aload_n 0, 1) := gd_14 db00a_100
theorem d_X4_write_181 : decode prog_6_method_6_code 181 = .ok (.getfield 27, 3) := gd_15 db00a_100
theorem d_X4_write_184 : decode prog_6_method_6_code 184 = .ok (.iload_n 2, 1) := gd_16 db00a_100
theorem d_X4_write_185 : decode prog_6_method_6_code 185 = .ok (.iaload, 1) := gd_17 db00a_100
theorem d_X4_write_186 : decode prog_6_method_6_code 186 = .ok (.iastore, 1) := gd_18 db00a_100
theorem d_X4_write_187 : decode prog_6_method_6_code 187 = .ok (.aload_n 0, 1) := gd_19 db00a_100
theorem d_X4_write_188 : decode prog_6_method_6_code 188 = .ok (.getfield 52, 3) := gd_20 db00a_100
theorem d_X4_write_191 : decode prog_6_method_6_code 191 = .ok (.iload 5, 2) := gd_21 db00a_100
theorem d_X4_write_193 : decode prog_6_method_6_code 193 = .ok (.bipush 8, 2) := gd_22 db00a_100
theorem d_X4_write_195 : decode prog_6_method_6_code 195 = .ok (.iadd, 1) := gd_23 db00a_100
theorem db00a_101 : Ad_ prog_6_method_6_code [(196, .iload_n 3, 1), (197, .aload_n 0, 1), (198, .getfield 18, 3), (201, .iload_n 2, 1), (202, .iaload, 1), (203, .isub, 1), (204, .iastore, 1), (205, .aload_n 0, 1), (206, .getfield 27, 3), (209, .iload_n 2, 1), (210, .dup2, 1), (211, .iaload, 1), (212, .iconst 1, 1), (213, .iadd, 1), (214, .iastore, 1), (215, .iload 4, 2), (217, .ireturn, 1)] := bch_ok prog_6_method_6_code _ 196 (by decide +kernel)
theorem d_X4_write_196 : decode prog_6_method_6_code 196 = .ok (.iload_n 3, 1) := gd_0 db00a_101
theorem d_X4_write_197 : decode prog_6_method_6_code 197 = .ok (.aload_n 0, 1) := gd_1 db00a_101
theorem d_X4_write_198 : decode prog_6_method_6_code 198 = .ok (.getfield 18, 3) := gd_2 db00a_101
theorem d_X4_write_201 : decode prog_6_method_6_code 201 = .ok (.iload_n 2, 1) := gd_3 db00a_101
theorem d_X4_write_202 : decode prog_6_method_6_code 202 = .ok (.iaload, 1) := gd_4 db00a_101
theorem d_X4_write_203 : decode prog_6_method_6_code 203 = .ok (.isub, 1) := gd_5 db00a_101
theorem d_X4_write_204 : decode prog_6_method_6_code 204 = .ok (.iastore, 1) := gd_6 db00a_101
theorem d_X4_write_205 : decode prog_6_method_6_code 205 = .ok (.aload_n 0, 1) := gd_7 db00a_101
theorem d_X4_write_206 : decode prog_6_method_6_code 206 = .ok (.getfield 27, 3) := gd_8 db00a_101
theorem d_X4_write_209 : decode prog_6_method_6_code 209 = .ok (.iload_n 2, 1) := gd_9 db00a_101
theorem d_X4_write_210 : decode prog_6_method_6_code 210 = .ok (.dup2, 1) := gd_10 db00a_101
theorem d_X4_write_211 : decode prog_6_method_6_code 211 = .ok (.iaload, 1) := gd_11 db00a_101
theorem d_X4_write_212 : decode prog_6_method_6_code 212 = .ok (.iconst 1, 1) := gd_12 db00a_101
theorem d_X4_write_213 : decode prog_6_method_6_code 213 = .ok (.iadd, 1) := gd_13 db00a_101
theorem d_X4_write_214 : decode prog_6_method_6_code 214 = .ok (.iastore, 1) := gd_14 db00a_101
theorem d_X4_write_215 : decode prog_6_method_6_code 215 = .ok (.iload 4, 2) := gd_15 db00a_101
theorem d_X4_write_217 : decode prog_6_method_6_code 217 = .ok (.ireturn, 1) := gd_16 db00a_101
theorem db00a_102 : Ad_ prog_6_method_7_code [(0, .aload_n 0, 1), (1, .iload_n 1, 1), (2, .invokevirtual 66, 3), (5, .ifCond .eq 25, 3), (8, .iload_n 2, 1), (9, .iconst 0, 1), (10, .bipush 8, 2), (12, .invokestatic 59, 3), (15, .ifCond .eq 15, 3), (18, .aload_n 0, 1), (19, .getfield 52, 3), (22, .iload_n 1, 1), (23, .bipush 9, 2), (25, .imul, 1), (26, .iload_n 2, 1), (27, .iadd, 1), (28, .iload_n 3, 1), (29, .iastore, 1), (30, .return_, 1)] := bch_ok prog_6_method_7_code _ 0 (by decide +kernel)
theorem d_X4_setLetter_0 : decode prog_6_method_7_code 0 = .ok (.aload_n 0, 1) := gd_0 db00a_102
theorem d_X4_setLetter_1 : decode prog_6_method_7_code 1 = .ok (.iload_n 1, 1) := gd_1 db00a_102
theorem d_X4_setLetter_2 : decode prog_6_method_7_code 2 = .ok (.invokevirtual 66, 3) := gd_2 db00a_102
theorem d_X4_setLetter_5 : decode prog_6_method_7_code 5 = .ok (.ifCond .eq 25, 3) := gd_3 db00a_102
theorem d_X4_setLetter_8 : decode prog_6_method_7_code 8 = .ok (.iload_n 2, 1) := gd_4 db00a_102
theorem d_X4_setLetter_9 : decode prog_6_method_7_code 9 = .ok (.iconst 0, 1) := gd_5 db00a_102
theorem d_X4_setLetter_10 : decode prog_6_method_7_code 10 = .ok (.bipush 8, 2) := gd_6 db00a_102
theorem d_X4_setLetter_12 : decode prog_6_method_7_code 12 = .ok (.invokestatic 59, 3) := gd_7 db00a_102
theorem d_X4_setLetter_15 : decode prog_6_method_7_code 15 = .ok (.ifCond .eq 15, 3) := gd_8 db00a_102
theorem d_X4_setLetter_18 : decode prog_6_method_7_code 18 = .ok (.aload_n 0, 1) := gd_9 db00a_102
theorem d_X4_setLetter_19 : decode prog_6_method_7_code 19 = .ok (.getfield 52, 3) := gd_10 db00a_102
theorem d_X4_setLetter_22 : decode prog_6_method_7_code 22 = .ok (.iload_n 1, 1) := gd_11 db00a_102
theorem d_X4_setLetter_23 : decode prog_6_method_7_code 23 = .ok (.bipush 9, 2) := gd_12 db00a_102
theorem d_X4_setLetter_25 : decode prog_6_method_7_code 25 = .ok (.imul, 1) := gd_13 db00a_102
theorem d_X4_setLetter_26 : decode prog_6_method_7_code 26 = .ok (.iload_n 2, 1) := gd_14 db00a_102
theorem d_X4_setLetter_27 : decode prog_6_method_7_code 27 = .ok (.iadd, 1) := gd_15 db00a_102
theorem d_X4_setLetter_28 : decode prog_6_method_7_code 28 = .ok (.iload_n 3, 1) := gd_16 db00a_102
theorem d_X4_setLetter_29 : decode prog_6_method_7_code 29 = .ok (.iastore, 1) := gd_17 db00a_102
theorem d_X4_setLetter_30 : decode prog_6_method_7_code 30 = .ok (.return_, 1) := gd_18 db00a_102
theorem db00a_103 : Ad_ prog_6_method_8_code [(0, .aload_n 0, 1), (1, .iload_n 1, 1), (2, .invokevirtual 66, 3), (5, .ifCond .ne 4, 3), (8, .return_, 1), (9, .aload_n 0, 1), (10, .getfield 43, 3), (13, .iload_n 1, 1), (14, .iload_n 2, 1), (15, .iastore, 1), (16, .aload_n 0, 1), (17, .getfield 46, 3), (20, .iload_n 1, 1), (21, .iload_n 3, 1), (22, .iastore, 1), (23, .iload_n 2, 1), (24, .iconst 1, 1), (25, .if_icmp .le 24, 3), (28, .iload 4, 2), (30, .iconst (-1), 1), (31, .if_icmp .eq 18, 3), (34, .aload_n 0, 1), (35, .getfield 49, 3), (38, .iload_n 1, 1)] := bch_ok prog_6_method_8_code _ 0 (by decide +kernel)
theorem d_X4_settle_0 : decode prog_6_method_8_code 0 = .ok (.aload_n 0, 1) := gd_0 db00a_103
theorem d_X4_settle_1 : decode prog_6_method_8_code 1 = .ok (.iload_n 1, 1) := gd_1 db00a_103
theorem d_X4_settle_2 : decode prog_6_method_8_code 2 = .ok (.invokevirtual 66, 3) := gd_2 db00a_103
theorem d_X4_settle_5 : decode prog_6_method_8_code 5 = .ok (.ifCond .ne 4, 3) := gd_3 db00a_103
theorem d_X4_settle_8 : decode prog_6_method_8_code 8 = .ok (.return_, 1) := gd_4 db00a_103
theorem d_X4_settle_9 : decode prog_6_method_8_code 9 = .ok (.aload_n 0, 1) := gd_5 db00a_103
theorem d_X4_settle_10 : decode prog_6_method_8_code 10 = .ok (.getfield 43, 3) := gd_6 db00a_103
theorem d_X4_settle_13 : decode prog_6_method_8_code 13 = .ok (.iload_n 1, 1) := gd_7 db00a_103
theorem d_X4_settle_14 : decode prog_6_method_8_code 14 = .ok (.iload_n 2, 1) := gd_8 db00a_103
theorem d_X4_settle_15 : decode prog_6_method_8_code 15 = .ok (.iastore, 1) := gd_9 db00a_103
theorem d_X4_settle_16 : decode prog_6_method_8_code 16 = .ok (.aload_n 0, 1) := gd_10 db00a_103
theorem d_X4_settle_17 : decode prog_6_method_8_code 17 = .ok (.getfield 46, 3) := gd_11 db00a_103
theorem d_X4_settle_20 : decode prog_6_method_8_code 20 = .ok (.iload_n 1, 1) := gd_12 db00a_103
theorem d_X4_settle_21 : decode prog_6_method_8_code 21 = .ok (.iload_n 3, 1) := gd_13 db00a_103
theorem d_X4_settle_22 : decode prog_6_method_8_code 22 = .ok (.iastore, 1) := gd_14 db00a_103
theorem d_X4_settle_23 : decode prog_6_method_8_code 23 = .ok (.iload_n 2, 1) := gd_15 db00a_103
theorem d_X4_settle_24 : decode prog_6_method_8_code 24 = .ok (.iconst 1, 1) := gd_16 db00a_103
theorem d_X4_settle_25 : decode prog_6_method_8_code 25 = .ok (.if_icmp .le 24, 3) := gd_17 db00a_103
theorem d_X4_settle_28 : decode prog_6_method_8_code 28 = .ok (.iload 4, 2) := gd_18 db00a_103
theorem d_X4_settle_30 : decode prog_6_method_8_code 30 = .ok (.iconst (-1), 1) := gd_19 db00a_103
theorem d_X4_settle_31 : decode prog_6_method_8_code 31 = .ok (.if_icmp .eq 18, 3) := gd_20 db00a_103
theorem d_X4_settle_34 : decode prog_6_method_8_code 34 = .ok (.aload_n 0, 1) := gd_21 db00a_103
theorem d_X4_settle_35 : decode prog_6_method_8_code 35 = .ok (.getfield 49, 3) := gd_22 db00a_103
theorem d_X4_settle_38 : decode prog_6_method_8_code 38 = .ok (.iload_n 1, 1) := gd_23 db00a_103
theorem db00a_104 : Ad_ prog_6_method_8_code [(39, .aload_n 0, 1), (40, .getfield 40, 3), (43, .iload_n 1, 1), (44, .iaload, 1), (45, .iload 4, 2), (47, .iadd, 1), (48, .iastore, 1), (49, .iload_n 2, 1), (50, .iconst 3, 1), (51, .if_icmp .ne 25, 3), (54, .aload_n 0, 1), (55, .getfield 30, 3), (58, .aload_n 0, 1), (59, .getfield 37, 3), (62, .iload_n 1, 1), (63, .iaload, 1), (64, .iconst 1, 1), (65, .bastore, 1), (66, .aload_n 0, 1), (67, .dup, 1), (68, .getfield 70, 3), (71, .iconst 1, 1), (72, .iadd, 1), (73, .putfield 70, 3)] := bch_ok prog_6_method_8_code _ 39 (by decide +kernel)
theorem d_X4_settle_39 : decode prog_6_method_8_code 39 = .ok (.aload_n 0, 1) := gd_0 db00a_104
theorem d_X4_settle_40 : decode prog_6_method_8_code 40 = .ok (.getfield 40, 3) := gd_1 db00a_104
theorem d_X4_settle_43 : decode prog_6_method_8_code 43 = .ok (.iload_n 1, 1) := gd_2 db00a_104
theorem d_X4_settle_44 : decode prog_6_method_8_code 44 = .ok (.iaload, 1) := gd_3 db00a_104
theorem d_X4_settle_45 : decode prog_6_method_8_code 45 = .ok (.iload 4, 2) := gd_4 db00a_104
theorem d_X4_settle_47 : decode prog_6_method_8_code 47 = .ok (.iadd, 1) := gd_5 db00a_104
theorem d_X4_settle_48 : decode prog_6_method_8_code 48 = .ok (.iastore, 1) := gd_6 db00a_104
theorem d_X4_settle_49 : decode prog_6_method_8_code 49 = .ok (.iload_n 2, 1) := gd_7 db00a_104
theorem d_X4_settle_50 : decode prog_6_method_8_code 50 = .ok (.iconst 3, 1) := gd_8 db00a_104
theorem d_X4_settle_51 : decode prog_6_method_8_code 51 = .ok (.if_icmp .ne 25, 3) := gd_9 db00a_104
theorem d_X4_settle_54 : decode prog_6_method_8_code 54 = .ok (.aload_n 0, 1) := gd_10 db00a_104
theorem d_X4_settle_55 : decode prog_6_method_8_code 55 = .ok (.getfield 30, 3) := gd_11 db00a_104
theorem d_X4_settle_58 : decode prog_6_method_8_code 58 = .ok (.aload_n 0, 1) := gd_12 db00a_104
theorem d_X4_settle_59 : decode prog_6_method_8_code 59 = .ok (.getfield 37, 3) := gd_13 db00a_104
theorem d_X4_settle_62 : decode prog_6_method_8_code 62 = .ok (.iload_n 1, 1) := gd_14 db00a_104
theorem d_X4_settle_63 : decode prog_6_method_8_code 63 = .ok (.iaload, 1) := gd_15 db00a_104
theorem d_X4_settle_64 : decode prog_6_method_8_code 64 = .ok (.iconst 1, 1) := gd_16 db00a_104
theorem d_X4_settle_65 : decode prog_6_method_8_code 65 = .ok (.bastore, 1) := gd_17 db00a_104
theorem d_X4_settle_66 : decode prog_6_method_8_code 66 = .ok (.aload_n 0, 1) := gd_18 db00a_104
theorem d_X4_settle_67 : decode prog_6_method_8_code 67 = .ok (.dup, 1) := gd_19 db00a_104
theorem d_X4_settle_68 : decode prog_6_method_8_code 68 = .ok (.getfield 70, 3) := gd_20 db00a_104
theorem d_X4_settle_71 : decode prog_6_method_8_code 71 = .ok (.iconst 1, 1) := gd_21 db00a_104
theorem d_X4_settle_72 : decode prog_6_method_8_code 72 = .ok (.iadd, 1) := gd_22 db00a_104
theorem d_X4_settle_73 : decode prog_6_method_8_code 73 = .ok (.putfield 70, 3) := gd_23 db00a_104
theorem d_X4_settle_76 : decode prog_6_method_8_code 76 = .ok (.return_, 1) := by decide +kernel
theorem db00a_105 : Ad_ prog_6_method_9_code [(0, .iconst 0, 1), (1, .istore_n 3, 1), (2, .iload_n 3, 1), (3, .aload_n 0, 1), (4, .getfield 63, 3), (7, .if_icmp .ge 46, 3), (10, .aload_n 0, 1), (11, .getfield 34, 3), (14, .iload_n 3, 1), (15, .iaload, 1), (16, .iload_n 1, 1), (17, .if_icmp .ne 30, 3), (20, .aload_n 0, 1), (21, .getfield 43, 3), (24, .iload_n 3, 1), (25, .iaload, 1), (26, .iconst 1, 1), (27, .if_icmp .ne 20, 3), (30, .aload_n 0, 1), (31, .getfield 49, 3), (34, .iload_n 3, 1), (35, .iaload, 1), (36, .iconst (-1), 1), (37, .if_icmp .ne 10, 3)] := bch_ok prog_6_method_9_code _ 0 (by decide +kernel)
theorem d_X4_tellNoted_0 : decode prog_6_method_9_code 0 = .ok (.iconst 0, 1) := gd_0 db00a_105
theorem d_X4_tellNoted_1 : decode prog_6_method_9_code 1 = .ok (.istore_n 3, 1) := gd_1 db00a_105
theorem d_X4_tellNoted_2 : decode prog_6_method_9_code 2 = .ok (.iload_n 3, 1) := gd_2 db00a_105
theorem d_X4_tellNoted_3 : decode prog_6_method_9_code 3 = .ok (.aload_n 0, 1) := gd_3 db00a_105
theorem d_X4_tellNoted_4 : decode prog_6_method_9_code 4 = .ok (.getfield 63, 3) := gd_4 db00a_105
theorem d_X4_tellNoted_7 : decode prog_6_method_9_code 7 = .ok (.if_icmp .ge 46, 3) := gd_5 db00a_105
theorem d_X4_tellNoted_10 : decode prog_6_method_9_code 10 = .ok (.aload_n 0, 1) := gd_6 db00a_105
theorem d_X4_tellNoted_11 : decode prog_6_method_9_code 11 = .ok (.getfield 34, 3) := gd_7 db00a_105
theorem d_X4_tellNoted_14 : decode prog_6_method_9_code 14 = .ok (.iload_n 3, 1) := gd_8 db00a_105
theorem d_X4_tellNoted_15 : decode prog_6_method_9_code 15 = .ok (.iaload, 1) := gd_9 db00a_105
theorem d_X4_tellNoted_16 : decode prog_6_method_9_code 16 = .ok (.iload_n 1, 1) := gd_10 db00a_105
theorem d_X4_tellNoted_17 : decode prog_6_method_9_code 17 = .ok (.if_icmp .ne 30, 3) := gd_11 db00a_105
theorem d_X4_tellNoted_20 : decode prog_6_method_9_code 20 = .ok (.aload_n 0, 1) := gd_12 db00a_105
theorem d_X4_tellNoted_21 : decode prog_6_method_9_code 21 = .ok (.getfield 43, 3) := gd_13 db00a_105
theorem d_X4_tellNoted_24 : decode prog_6_method_9_code 24 = .ok (.iload_n 3, 1) := gd_14 db00a_105
theorem d_X4_tellNoted_25 : decode prog_6_method_9_code 25 = .ok (.iaload, 1) := gd_15 db00a_105
theorem d_X4_tellNoted_26 : decode prog_6_method_9_code 26 = .ok (.iconst 1, 1) := gd_16 db00a_105
theorem d_X4_tellNoted_27 : decode prog_6_method_9_code 27 = .ok (.if_icmp .ne 20, 3) := gd_17 db00a_105
theorem d_X4_tellNoted_30 : decode prog_6_method_9_code 30 = .ok (.aload_n 0, 1) := gd_18 db00a_105
theorem d_X4_tellNoted_31 : decode prog_6_method_9_code 31 = .ok (.getfield 49, 3) := gd_19 db00a_105
theorem d_X4_tellNoted_34 : decode prog_6_method_9_code 34 = .ok (.iload_n 3, 1) := gd_20 db00a_105
theorem d_X4_tellNoted_35 : decode prog_6_method_9_code 35 = .ok (.iaload, 1) := gd_21 db00a_105
theorem d_X4_tellNoted_36 : decode prog_6_method_9_code 36 = .ok (.iconst (-1), 1) := gd_22 db00a_105
theorem d_X4_tellNoted_37 : decode prog_6_method_9_code 37 = .ok (.if_icmp .ne 10, 3) := gd_23 db00a_105
theorem db00a_106 : Ad_ prog_6_method_9_code [(40, .aload_n 0, 1), (41, .getfield 49, 3), (44, .iload_n 3, 1), (45, .iload_n 2, 1)] := bch_ok prog_6_method_9_code _ 40 (by decide +kernel)
theorem d_X4_tellNoted_40 : decode prog_6_method_9_code 40 = .ok (.aload_n 0, 1) := gd_0 db00a_106
theorem d_X4_tellNoted_41 : decode prog_6_method_9_code 41 = .ok (.getfield 49, 3) := gd_1 db00a_106
theorem d_X4_tellNoted_44 : decode prog_6_method_9_code 44 = .ok (.iload_n 3, 1) := gd_2 db00a_106
theorem d_X4_tellNoted_45 : decode prog_6_method_9_code 45 = .ok (.iload_n 2, 1) := gd_3 db00a_106
