theorem d_X0_init_8 : decode prog_2_method_1_code 8 = .ok (.newarray .int, 2) := by decide +kernel
theorem d_X0_init_16 : decode prog_2_method_1_code 16 = .ok (.newarray .int, 2) := by decide +kernel
theorem d_X0_init_24 : decode prog_2_method_1_code 24 = .ok (.newarray .int, 2) := by decide +kernel
theorem db00a_0 : Pf_ prog_2_method_1_code [(0, [0x2a]), (1, [0xb7, 0x00, 0x03]), (4, [0x2a]), (5, [0x11, 0x07, 0x08]), (10, [0xb5, 0x00, 0x0b]), (13, [0x2a]), (14, [0x10, 0x0c]), (18, [0xb5, 0x00, 0x0f]), (21, [0x2a]), (22, [0x10, 0x0c]), (26, [0xb5, 0x00, 0x12]), (29, [0xb1])] := pf_ok prog_2_method_1_code _ 0 (by decide +kernel)
theorem d_X0_init_0 : decode prog_2_method_1_code 0 = .ok (.aload_n 0, 1) := gq_0 db00a_0 eb_0
theorem d_X0_init_1 : decode prog_2_method_1_code 1 = .ok (.invokespecial 3, 3) := gq_1 db00a_0 eb_1
theorem d_X0_init_4 : decode prog_2_method_1_code 4 = .ok (.aload_n 0, 1) := gq_2 db00a_0 eb_0
theorem d_X0_init_5 : decode prog_2_method_1_code 5 = .ok (.sipush 1800, 3) := gq_3 db00a_0 eb_2
theorem d_X0_init_10 : decode prog_2_method_1_code 10 = .ok (.putfield 11, 3) := gq_4 db00a_0 eb_3
theorem d_X0_init_13 : decode prog_2_method_1_code 13 = .ok (.aload_n 0, 1) := gq_5 db00a_0 eb_0
theorem d_X0_init_14 : decode prog_2_method_1_code 14 = .ok (.bipush 12, 2) := gq_6 db00a_0 eb_4
theorem d_X0_init_18 : decode prog_2_method_1_code 18 = .ok (.putfield 15, 3) := gq_7 db00a_0 eb_5
theorem d_X0_init_21 : decode prog_2_method_1_code 21 = .ok (.aload_n 0, 1) := gq_8 db00a_0 eb_0
theorem d_X0_init_22 : decode prog_2_method_1_code 22 = .ok (.bipush 12, 2) := gq_9 db00a_0 eb_4
theorem d_X0_init_26 : decode prog_2_method_1_code 26 = .ok (.putfield 18, 3) := gq_10 db00a_0 eb_6
theorem d_X0_init_29 : decode prog_2_method_1_code 29 = .ok (.return_, 1) := gq_11 db00a_0 eb_7
theorem db00a_1 : Pf_ prog_2_method_2_code [(0, [0x1a]), (1, [0x1b]), (2, [0x05]), (3, [0x78]), (4, [0x80]), (5, [0x1c]), (6, [0x10, 0x06]), (8, [0x78]), (9, [0x80]), (10, [0xac])] := pf_ok prog_2_method_2_code _ 0 (by decide +kernel)
theorem d_X0_pack_0 : decode prog_2_method_2_code 0 = .ok (.iload_n 0, 1) := gq_0 db00a_1 eb_8
theorem d_X0_pack_1 : decode prog_2_method_2_code 1 = .ok (.iload_n 1, 1) := gq_1 db00a_1 eb_9
theorem d_X0_pack_2 : decode prog_2_method_2_code 2 = .ok (.iconst 2, 1) := gq_2 db00a_1 eb_10
theorem d_X0_pack_3 : decode prog_2_method_2_code 3 = .ok (.ishl, 1) := gq_3 db00a_1 eb_11
theorem d_X0_pack_4 : decode prog_2_method_2_code 4 = .ok (.ior, 1) := gq_4 db00a_1 eb_12
theorem d_X0_pack_5 : decode prog_2_method_2_code 5 = .ok (.iload_n 2, 1) := gq_5 db00a_1 eb_13
theorem d_X0_pack_6 : decode prog_2_method_2_code 6 = .ok (.bipush 6, 2) := gq_6 db00a_1 eb_14
theorem d_X0_pack_8 : decode prog_2_method_2_code 8 = .ok (.ishl, 1) := gq_7 db00a_1 eb_11
theorem d_X0_pack_9 : decode prog_2_method_2_code 9 = .ok (.ior, 1) := gq_8 db00a_1 eb_12
theorem d_X0_pack_10 : decode prog_2_method_2_code 10 = .ok (.ireturn, 1) := gq_9 db00a_1 eb_15
theorem db00a_2 : Pf_ prog_2_method_3_code [(0, [0x1b]), (1, [0x9b, 0x00, 0x0f]), (4, [0x1b]), (5, [0x2a]), (6, [0xb4, 0x00, 0x15]), (9, [0xa2, 0x00, 0x07]), (12, [0x04]), (13, [0xa7, 0x00, 0x04]), (16, [0x03]), (17, [0xac])] := pf_ok prog_2_method_3_code _ 0 (by decide +kernel)
theorem d_X0_has_0 : decode prog_2_method_3_code 0 = .ok (.iload_n 1, 1) := gq_0 db00a_2 eb_9
theorem d_X0_has_1 : decode prog_2_method_3_code 1 = .ok (.ifCond .lt 15, 3) := gq_1 db00a_2 eb_16
theorem d_X0_has_4 : decode prog_2_method_3_code 4 = .ok (.iload_n 1, 1) := gq_2 db00a_2 eb_9
theorem d_X0_has_5 : decode prog_2_method_3_code 5 = .ok (.aload_n 0, 1) := gq_3 db00a_2 eb_0
theorem d_X0_has_6 : decode prog_2_method_3_code 6 = .ok (.getfield 21, 3) := gq_4 db00a_2 eb_17
theorem d_X0_has_9 : decode prog_2_method_3_code 9 = .ok (.if_icmp .ge 7, 3) := gq_5 db00a_2 eb_18
theorem d_X0_has_12 : decode prog_2_method_3_code 12 = .ok (.iconst 1, 1) := gq_6 db00a_2 eb_19
theorem d_X0_has_13 : decode prog_2_method_3_code 13 = .ok (.goto 4, 3) := gq_7 db00a_2 eb_20
theorem d_X0_has_16 : decode prog_2_method_3_code 16 = .ok (.iconst 0, 1) := gq_8 db00a_2 eb_21
theorem d_X0_has_17 : decode prog_2_method_3_code 17 = .ok (.ireturn, 1) := gq_9 db00a_2 eb_15
theorem db00a_3 : Pf_ prog_2_method_4_code [(0, [0x2a]), (1, [0xb4, 0x00, 0x15]), (4, [0x10, 0x0c]), (6, [0xa2, 0x00, 0x0a]), (9, [0x2b]), (10, [0xb4, 0x00, 0x19]), (13, [0x99, 0x00, 0x05]), (16, [0x02]), (17, [0xac]), (18, [0x03]), (19, [0x3d]), (20, [0x03]), (21, [0x3e]), (22, [0x1d]), (23, [0x2b]), (24, [0xb4, 0x00, 0x1f]), (27, [0xa2, 0x00, 0x2e]), (30, [0x2a]), (31, [0xb4, 0x00, 0x0b]), (34, [0x2a]), (35, [0xb4, 0x00, 0x15]), (38, [0x11, 0x00, 0x96]), (41, [0x68]), (42, [0x1d])] := pf_ok prog_2_method_4_code _ 0 (by decide +kernel)
theorem d_X0_keep_0 : decode prog_2_method_4_code 0 = .ok (.aload_n 0, 1) := gq_0 db00a_3 eb_0
theorem d_X0_keep_1 : decode prog_2_method_4_code 1 = .ok (.getfield 21, 3) := gq_1 db00a_3 eb_17
theorem d_X0_keep_4 : decode prog_2_method_4_code 4 = .ok (.bipush 12, 2) := gq_2 db00a_3 eb_4
theorem d_X0_keep_6 : decode prog_2_method_4_code 6 = .ok (.if_icmp .ge 10, 3) := gq_3 db00a_3 eb_22
theorem d_X0_keep_9 : decode prog_2_method_4_code 9 = .ok (.aload_n 1, 1) := gq_4 db00a_3 eb_23
theorem d_X0_keep_10 : decode prog_2_method_4_code 10 = .ok (.getfield 25, 3) := gq_5 db00a_3 eb_24
theorem d_X0_keep_13 : decode prog_2_method_4_code 13 = .ok (.ifCond .eq 5, 3) := gq_6 db00a_3 eb_25
theorem d_X0_keep_16 : decode prog_2_method_4_code 16 = .ok (.iconst (-1), 1) := gq_7 db00a_3 eb_26
theorem d_X0_keep_17 : decode prog_2_method_4_code 17 = .ok (.ireturn, 1) := gq_8 db00a_3 eb_15
theorem d_X0_keep_18 : decode prog_2_method_4_code 18 = .ok (.iconst 0, 1) := gq_9 db00a_3 eb_21
theorem d_X0_keep_19 : decode prog_2_method_4_code 19 = .ok (.istore_n 2, 1) := gq_10 db00a_3 eb_27
theorem d_X0_keep_20 : decode prog_2_method_4_code 20 = .ok (.iconst 0, 1) := gq_11 db00a_3 eb_21
theorem d_X0_keep_21 : decode prog_2_method_4_code 21 = .ok (.istore_n 3, 1) := gq_12 db00a_3 eb_28
theorem d_X0_keep_22 : decode prog_2_method_4_code 22 = .ok (.iload_n 3, 1) := gq_13 db00a_3 eb_29
theorem d_X0_keep_23 : decode prog_2_method_4_code 23 = .ok (.aload_n 1, 1) := gq_14 db00a_3 eb_23
theorem d_X0_keep_24 : decode prog_2_method_4_code 24 = .ok (.getfield 31, 3) := gq_15 db00a_3 eb_30
theorem d_X0_keep_27 : decode prog_2_method_4_code 27 = .ok (.if_icmp .ge 46, 3) := gq_16 db00a_3 eb_31
theorem d_X0_keep_30 : decode prog_2_method_4_code 30 = .ok (.aload_n 0, 1) := gq_17 db00a_3 eb_0
theorem d_X0_keep_31 : decode prog_2_method_4_code 31 = .ok (.getfield 11, 3) := gq_18 db00a_3 eb_32
theorem d_X0_keep_34 : decode prog_2_method_4_code 34 = .ok (.aload_n 0, 1) := gq_19 db00a_3 eb_0
theorem d_X0_keep_35 : decode prog_2_method_4_code 35 = .ok (.getfield 21, 3) := gq_20 db00a_3 eb_17
theorem d_X0_keep_38 : decode prog_2_method_4_code 38 = .ok (.sipush 150, 3) := gq_21 db00a_3 eb_33
theorem d_X0_keep_41 : decode prog_2_method_4_code 41 = .ok (.imul, 1) := gq_22 db00a_3 eb_34
theorem d_X0_keep_42 : decode prog_2_method_4_code 42 = .ok (.iload_n 3, 1) := gq_23 db00a_3 eb_29
theorem db00a_4 : Pf_ prog_2_method_4_code [(43, [0x60]), (44, [0x2b]), (45, [0xb4, 0x00, 0x22]), (48, [0x1d]), (49, [0x2e]), (50, [0x4f]), (51, [0x2b]), (52, [0xb4, 0x00, 0x22]), (55, [0x1d]), (56, [0x2e]), (57, [0xb8, 0x00, 0x23]), (60, [0x05]), (61, [0xa0, 0x00, 0x06]), (64, [0x84, 0x02, 0x01]), (67, [0x84, 0x03, 0x01]), (70, [0xa7, 0xff, 0xd0]), (73, [0x2a]), (74, [0xb4, 0x00, 0x0f]), (77, [0x2a]), (78, [0xb4, 0x00, 0x15]), (81, [0x2b]), (82, [0xb4, 0x00, 0x1f]), (85, [0x4f]), (86, [0x2a])] := pf_ok prog_2_method_4_code _ 43 (by decide +kernel)
theorem d_X0_keep_43 : decode prog_2_method_4_code 43 = .ok (.iadd, 1) := gq_0 db00a_4 eb_35
theorem d_X0_keep_44 : decode prog_2_method_4_code 44 = .ok (.aload_n 1, 1) := gq_1 db00a_4 eb_23
theorem d_X0_keep_45 : decode prog_2_method_4_code 45 = .ok (.getfield 34, 3) := gq_2 db00a_4 eb_36
theorem d_X0_keep_48 : decode prog_2_method_4_code 48 = .ok (.iload_n 3, 1) := gq_3 db00a_4 eb_29
theorem d_X0_keep_49 : decode prog_2_method_4_code 49 = .ok (.iaload, 1) := gq_4 db00a_4 eb_37
theorem d_X0_keep_50 : decode prog_2_method_4_code 50 = .ok (.iastore, 1) := gq_5 db00a_4 eb_38
theorem d_X0_keep_51 : decode prog_2_method_4_code 51 = .ok (.aload_n 1, 1) := gq_6 db00a_4 eb_23
theorem d_X0_keep_52 : decode prog_2_method_4_code 52 = .ok (.getfield 34, 3) := gq_7 db00a_4 eb_36
theorem d_X0_keep_55 : decode prog_2_method_4_code 55 = .ok (.iload_n 3, 1) := gq_8 db00a_4 eb_29
theorem d_X0_keep_56 : decode prog_2_method_4_code 56 = .ok (.iaload, 1) := gq_9 db00a_4 eb_37
theorem d_X0_keep_57 : decode prog_2_method_4_code 57 = .ok (.invokestatic 35, 3) := gq_10 db00a_4 eb_39
theorem d_X0_keep_60 : decode prog_2_method_4_code 60 = .ok (.iconst 2, 1) := gq_11 db00a_4 eb_10
theorem d_X0_keep_61 : decode prog_2_method_4_code 61 = .ok (.if_icmp .ne 6, 3) := gq_12 db00a_4 eb_40
theorem d_X0_keep_64 : decode prog_2_method_4_code 64 = .ok (.iinc 2 1, 3) := gq_13 db00a_4 eb_41
theorem d_X0_keep_67 : decode prog_2_method_4_code 67 = .ok (.iinc 3 1, 3) := gq_14 db00a_4 eb_42
theorem d_X0_keep_70 : decode prog_2_method_4_code 70 = .ok (.goto (-48), 3) := gq_15 db00a_4 eb_43
theorem d_X0_keep_73 : decode prog_2_method_4_code 73 = .ok (.aload_n 0, 1) := gq_16 db00a_4 eb_0
theorem d_X0_keep_74 : decode prog_2_method_4_code 74 = .ok (.getfield 15, 3) := gq_17 db00a_4 eb_44
theorem d_X0_keep_77 : decode prog_2_method_4_code 77 = .ok (.aload_n 0, 1) := gq_18 db00a_4 eb_0
theorem d_X0_keep_78 : decode prog_2_method_4_code 78 = .ok (.getfield 21, 3) := gq_19 db00a_4 eb_17
theorem d_X0_keep_81 : decode prog_2_method_4_code 81 = .ok (.aload_n 1, 1) := gq_20 db00a_4 eb_23
theorem d_X0_keep_82 : decode prog_2_method_4_code 82 = .ok (.getfield 31, 3) := gq_21 db00a_4 eb_30
theorem d_X0_keep_85 : decode prog_2_method_4_code 85 = .ok (.iastore, 1) := gq_22 db00a_4 eb_38
theorem d_X0_keep_86 : decode prog_2_method_4_code 86 = .ok (.aload_n 0, 1) := gq_23 db00a_4 eb_0
theorem db00a_5 : Pf_ prog_2_method_4_code [(87, [0xb4, 0x00, 0x12]), (90, [0x2a]), (91, [0xb4, 0x00, 0x15]), (94, [0x1c]), (95, [0x4f]), (96, [0x2a]), (97, [0x59]), (98, [0xb4, 0x00, 0x15]), (101, [0x04]), (102, [0x60]), (103, [0xb5, 0x00, 0x15]), (106, [0x2a]), (107, [0xb4, 0x00, 0x15]), (110, [0x04]), (111, [0x64]), (112, [0xac])] := pf_ok prog_2_method_4_code _ 87 (by decide +kernel)
theorem d_X0_keep_87 : decode prog_2_method_4_code 87 = .ok (.getfield 18, 3) := gq_0 db00a_5 eb_45
theorem d_X0_keep_90 : decode prog_2_method_4_code 90 = .ok (.aload_n 0, 1) := gq_1 db00a_5 eb_0
theorem d_X0_keep_91 : decode prog_2_method_4_code 91 = .ok (.getfield 21, 3) := gq_2 db00a_5 eb_17
theorem d_X0_keep_94 : decode prog_2_method_4_code 94 = .ok (.iload_n 2, 1) := gq_3 db00a_5 eb_13
theorem d_X0_keep_95 : decode prog_2_method_4_code 95 = .ok (.iastore, 1) := gq_4 db00a_5 eb_38
theorem d_X0_keep_96 : decode prog_2_method_4_code 96 = .ok (.aload_n 0, 1) := gq_5 db00a_5 eb_0
theorem d_X0_keep_97 : decode prog_2_method_4_code 97 = .ok (.dup, 1) := gq_6 db00a_5 eb_46
theorem d_X0_keep_98 : decode prog_2_method_4_code 98 = .ok (.getfield 21, 3) := gq_7 db00a_5 eb_17
theorem d_X0_keep_101 : decode prog_2_method_4_code 101 = .ok (.iconst 1, 1) := gq_8 db00a_5 eb_19
theorem d_X0_keep_102 : decode prog_2_method_4_code 102 = .ok (.iadd, 1) := gq_9 db00a_5 eb_35
theorem d_X0_keep_103 : decode prog_2_method_4_code 103 = .ok (.putfield 21, 3) := gq_10 db00a_5 eb_47
theorem d_X0_keep_106 : decode prog_2_method_4_code 106 = .ok (.aload_n 0, 1) := gq_11 db00a_5 eb_0
theorem d_X0_keep_107 : decode prog_2_method_4_code 107 = .ok (.getfield 21, 3) := gq_12 db00a_5 eb_17
theorem d_X0_keep_110 : decode prog_2_method_4_code 110 = .ok (.iconst 1, 1) := gq_13 db00a_5 eb_19
theorem d_X0_keep_111 : decode prog_2_method_4_code 111 = .ok (.isub, 1) := gq_14 db00a_5 eb_48
theorem d_X0_keep_112 : decode prog_2_method_4_code 112 = .ok (.ireturn, 1) := gq_15 db00a_5 eb_15
theorem db00a_6 : Pf_ prog_2_method_5_code [(0, [0x2a]), (1, [0x1b]), (2, [0xb6, 0x00, 0x27]), (5, [0x99, 0x00, 0x0c]), (8, [0x2a]), (9, [0xb4, 0x00, 0x0f]), (12, [0x1b]), (13, [0x2e]), (14, [0xa7, 0x00, 0x04]), (17, [0x03]), (18, [0xac])] := pf_ok prog_2_method_5_code _ 0 (by decide +kernel)
theorem d_X0_stepsOf_0 : decode prog_2_method_5_code 0 = .ok (.aload_n 0, 1) := gq_0 db00a_6 eb_0
theorem d_X0_stepsOf_1 : decode prog_2_method_5_code 1 = .ok (.iload_n 1, 1) := gq_1 db00a_6 eb_9
theorem d_X0_stepsOf_2 : decode prog_2_method_5_code 2 = .ok (.invokevirtual 39, 3) := gq_2 db00a_6 eb_49
theorem d_X0_stepsOf_5 : decode prog_2_method_5_code 5 = .ok (.ifCond .eq 12, 3) := gq_3 db00a_6 eb_50
theorem d_X0_stepsOf_8 : decode prog_2_method_5_code 8 = .ok (.aload_n 0, 1) := gq_4 db00a_6 eb_0
theorem d_X0_stepsOf_9 : decode prog_2_method_5_code 9 = .ok (.getfield 15, 3) := gq_5 db00a_6 eb_44
theorem d_X0_stepsOf_12 : decode prog_2_method_5_code 12 = .ok (.iload_n 1, 1) := gq_6 db00a_6 eb_9
theorem d_X0_stepsOf_13 : decode prog_2_method_5_code 13 = .ok (.iaload, 1) := gq_7 db00a_6 eb_37
theorem d_X0_stepsOf_14 : decode prog_2_method_5_code 14 = .ok (.goto 4, 3) := gq_8 db00a_6 eb_20
theorem d_X0_stepsOf_17 : decode prog_2_method_5_code 17 = .ok (.iconst 0, 1) := gq_9 db00a_6 eb_21
theorem d_X0_stepsOf_18 : decode prog_2_method_5_code 18 = .ok (.ireturn, 1) := gq_10 db00a_6 eb_15
theorem db00a_7 : Pf_ prog_2_method_6_code [(0, [0x2a]), (1, [0x1b]), (2, [0xb6, 0x00, 0x27]), (5, [0x99, 0x00, 0x0c]), (8, [0x2a]), (9, [0xb4, 0x00, 0x12]), (12, [0x1b]), (13, [0x2e]), (14, [0xa7, 0x00, 0x04]), (17, [0x03]), (18, [0xac])] := pf_ok prog_2_method_6_code _ 0 (by decide +kernel)
theorem d_X0_pointsOf_0 : decode prog_2_method_6_code 0 = .ok (.aload_n 0, 1) := gq_0 db00a_7 eb_0
theorem d_X0_pointsOf_1 : decode prog_2_method_6_code 1 = .ok (.iload_n 1, 1) := gq_1 db00a_7 eb_9
theorem d_X0_pointsOf_2 : decode prog_2_method_6_code 2 = .ok (.invokevirtual 39, 3) := gq_2 db00a_7 eb_49
theorem d_X0_pointsOf_5 : decode prog_2_method_6_code 5 = .ok (.ifCond .eq 12, 3) := gq_3 db00a_7 eb_50
theorem d_X0_pointsOf_8 : decode prog_2_method_6_code 8 = .ok (.aload_n 0, 1) := gq_4 db00a_7 eb_0
theorem d_X0_pointsOf_9 : decode prog_2_method_6_code 9 = .ok (.getfield 18, 3) := gq_5 db00a_7 eb_45
theorem d_X0_pointsOf_12 : decode prog_2_method_6_code 12 = .ok (.iload_n 1, 1) := gq_6 db00a_7 eb_9
theorem d_X0_pointsOf_13 : decode prog_2_method_6_code 13 = .ok (.iaload, 1) := gq_7 db00a_7 eb_37
theorem d_X0_pointsOf_14 : decode prog_2_method_6_code 14 = .ok (.goto 4, 3) := gq_8 db00a_7 eb_20
theorem d_X0_pointsOf_17 : decode prog_2_method_6_code 17 = .ok (.iconst 0, 1) := gq_9 db00a_7 eb_21
theorem d_X0_pointsOf_18 : decode prog_2_method_6_code 18 = .ok (.ireturn, 1) := gq_10 db00a_7 eb_15
theorem db00a_8 : Pf_ prog_2_method_7_code [(0, [0x1b]), (1, [0x11, 0x00, 0x96]), (4, [0x68]), (5, [0x1c]), (6, [0x60]), (7, [0x3e]), (8, [0x1d]), (9, [0x9b, 0x00, 0x15]), (12, [0x1d]), (13, [0x2a]), (14, [0xb4, 0x00, 0x0b]), (17, [0xbe]), (18, [0xa2, 0x00, 0x0c]), (21, [0x2a]), (22, [0xb4, 0x00, 0x0b]), (25, [0x1d]), (26, [0x2e]), (27, [0xa7, 0x00, 0x04]), (30, [0x03]), (31, [0xac])] := pf_ok prog_2_method_7_code _ 0 (by decide +kernel)
theorem d_X0_stepAt_0 : decode prog_2_method_7_code 0 = .ok (.iload_n 1, 1) := gq_0 db00a_8 eb_9
theorem d_X0_stepAt_1 : decode prog_2_method_7_code 1 = .ok (.sipush 150, 3) := gq_1 db00a_8 eb_33
theorem d_X0_stepAt_4 : decode prog_2_method_7_code 4 = .ok (.imul, 1) := gq_2 db00a_8 eb_34
theorem d_X0_stepAt_5 : decode prog_2_method_7_code 5 = .ok (.iload_n 2, 1) := gq_3 db00a_8 eb_13
theorem d_X0_stepAt_6 : decode prog_2_method_7_code 6 = .ok (.iadd, 1) := gq_4 db00a_8 eb_35
theorem d_X0_stepAt_7 : decode prog_2_method_7_code 7 = .ok (.istore_n 3, 1) := gq_5 db00a_8 eb_28
theorem d_X0_stepAt_8 : decode prog_2_method_7_code 8 = .ok (.iload_n 3, 1) := gq_6 db00a_8 eb_29
theorem d_X0_stepAt_9 : decode prog_2_method_7_code 9 = .ok (.ifCond .lt 21, 3) := gq_7 db00a_8 eb_51
theorem d_X0_stepAt_12 : decode prog_2_method_7_code 12 = .ok (.iload_n 3, 1) := gq_8 db00a_8 eb_29
theorem d_X0_stepAt_13 : decode prog_2_method_7_code 13 = .ok (.aload_n 0, 1) := gq_9 db00a_8 eb_0
theorem d_X0_stepAt_14 : decode prog_2_method_7_code 14 = .ok (.getfield 11, 3) := gq_10 db00a_8 eb_32
theorem d_X0_stepAt_17 : decode prog_2_method_7_code 17 = .ok (.arraylength, 1) := gq_11 db00a_8 eb_52
theorem d_X0_stepAt_18 : decode prog_2_method_7_code 18 = .ok (.if_icmp .ge 12, 3) := gq_12 db00a_8 eb_53
theorem d_X0_stepAt_21 : decode prog_2_method_7_code 21 = .ok (.aload_n 0, 1) := gq_13 db00a_8 eb_0
theorem d_X0_stepAt_22 : decode prog_2_method_7_code 22 = .ok (.getfield 11, 3) := gq_14 db00a_8 eb_32
theorem d_X0_stepAt_25 : decode prog_2_method_7_code 25 = .ok (.iload_n 3, 1) := gq_15 db00a_8 eb_29
theorem d_X0_stepAt_26 : decode prog_2_method_7_code 26 = .ok (.iaload, 1) := gq_16 db00a_8 eb_37
theorem d_X0_stepAt_27 : decode prog_2_method_7_code 27 = .ok (.goto 4, 3) := gq_17 db00a_8 eb_20
theorem d_X0_stepAt_30 : decode prog_2_method_7_code 30 = .ok (.iconst 0, 1) := gq_18 db00a_8 eb_21
theorem d_X0_stepAt_31 : decode prog_2_method_7_code 31 = .ok (.ireturn, 1) := gq_19 db00a_8 eb_15
theorem db00a_9 : Pf_ prog_2_method_8_code [(0, [0x1a]), (1, [0x06]), (2, [0x7e]), (3, [0xac])] := pf_ok prog_2_method_8_code _ 0 (by decide +kernel)
theorem d_X0_kindOf_0 : decode prog_2_method_8_code 0 = .ok (.iload_n 0, 1) := gq_0 db00a_9 eb_8
theorem d_X0_kindOf_1 : decode prog_2_method_8_code 1 = .ok (.iconst 3, 1) := gq_1 db00a_9 eb_54
theorem d_X0_kindOf_2 : decode prog_2_method_8_code 2 = .ok (.iand, 1) := gq_2 db00a_9 eb_55
theorem d_X0_kindOf_3 : decode prog_2_method_8_code 3 = .ok (.ireturn, 1) := gq_3 db00a_9 eb_15
theorem db00a_10 : Pf_ prog_2_method_9_code [(0, [0x1a]), (1, [0x05]), (2, [0x7a]), (3, [0x10, 0x0f]), (5, [0x7e]), (6, [0xac])] := pf_ok prog_2_method_9_code _ 0 (by decide +kernel)
theorem d_X0_placeOf_0 : decode prog_2_method_9_code 0 = .ok (.iload_n 0, 1) := gq_0 db00a_10 eb_8
theorem d_X0_placeOf_1 : decode prog_2_method_9_code 1 = .ok (.iconst 2, 1) := gq_1 db00a_10 eb_10
theorem d_X0_placeOf_2 : decode prog_2_method_9_code 2 = .ok (.ishr, 1) := gq_2 db00a_10 eb_56
theorem d_X0_placeOf_3 : decode prog_2_method_9_code 3 = .ok (.bipush 15, 2) := gq_3 db00a_10 eb_57
theorem d_X0_placeOf_5 : decode prog_2_method_9_code 5 = .ok (.iand, 1) := gq_4 db00a_10 eb_55
theorem d_X0_placeOf_6 : decode prog_2_method_9_code 6 = .ok (.ireturn, 1) := gq_5 db00a_10 eb_15
theorem db00a_11 : Pf_ prog_2_method_10_code [(0, [0x1a]), (1, [0x10, 0x06]), (3, [0x7a]), (4, [0xac])] := pf_ok prog_2_method_10_code _ 0 (by decide +kernel)
theorem d_X0_amountOf_0 : decode prog_2_method_10_code 0 = .ok (.iload_n 0, 1) := gq_0 db00a_11 eb_8
theorem d_X0_amountOf_1 : decode prog_2_method_10_code 1 = .ok (.bipush 6, 2) := gq_1 db00a_11 eb_14
theorem d_X0_amountOf_3 : decode prog_2_method_10_code 3 = .ok (.ishr, 1) := gq_2 db00a_11 eb_56
theorem d_X0_amountOf_4 : decode prog_2_method_10_code 4 = .ok (.ireturn, 1) := gq_3 db00a_11 eb_15
theorem db00a_12 : Pf_ prog_2_method_11_code [(0, [0x03]), (1, [0x36, 0x06]), (3, [0x03]), (4, [0x36, 0x07]), (6, [0x2a]), (7, [0x1b]), (8, [0xb6, 0x00, 0x2b]), (11, [0x36, 0x08]), (13, [0x03]), (14, [0x36, 0x09]), (16, [0x15, 0x09]), (18, [0x15, 0x08]), (20, [0xa2, 0x00, 0x81]), (23, [0x2a]), (24, [0x1b]), (25, [0x15, 0x09]), (27, [0xb6, 0x00, 0x2e]), (30, [0x36, 0x0a]), (32, [0x15, 0x0a]), (34, [0xb8, 0x00, 0x23]), (37, [0x36, 0x0b]), (39, [0x15, 0x0b]), (41, [0x06]), (42, [0xa0, 0x00, 0x19])] := pf_ok prog_2_method_11_code _ 0 (by decide +kernel)
theorem d_X0_looksAt_0 : decode prog_2_method_11_code 0 = .ok (.iconst 0, 1) := gq_0 db00a_12 eb_21
theorem d_X0_looksAt_1 : decode prog_2_method_11_code 1 = .ok (.istore 6, 2) := gq_1 db00a_12 eb_58
theorem d_X0_looksAt_3 : decode prog_2_method_11_code 3 = .ok (.iconst 0, 1) := gq_2 db00a_12 eb_21
theorem d_X0_looksAt_4 : decode prog_2_method_11_code 4 = .ok (.istore 7, 2) := gq_3 db00a_12 eb_59
theorem d_X0_looksAt_6 : decode prog_2_method_11_code 6 = .ok (.aload_n 0, 1) := gq_4 db00a_12 eb_0
theorem d_X0_looksAt_7 : decode prog_2_method_11_code 7 = .ok (.iload_n 1, 1) := gq_5 db00a_12 eb_9
theorem d_X0_looksAt_8 : decode prog_2_method_11_code 8 = .ok (.invokevirtual 43, 3) := gq_6 db00a_12 eb_60
theorem d_X0_looksAt_11 : decode prog_2_method_11_code 11 = .ok (.istore 8, 2) := gq_7 db00a_12 eb_61
theorem d_X0_looksAt_13 : decode prog_2_method_11_code 13 = .ok (.iconst 0, 1) := gq_8 db00a_12 eb_21
theorem d_X0_looksAt_14 : decode prog_2_method_11_code 14 = .ok (.istore 9, 2) := gq_9 db00a_12 eb_62
theorem d_X0_looksAt_16 : decode prog_2_method_11_code 16 = .ok (.iload 9, 2) := gq_10 db00a_12 eb_63
theorem d_X0_looksAt_18 : decode prog_2_method_11_code 18 = .ok (.iload 8, 2) := gq_11 db00a_12 eb_64
theorem d_X0_looksAt_20 : decode prog_2_method_11_code 20 = .ok (.if_icmp .ge 129, 3) := gq_12 db00a_12 eb_65
theorem d_X0_looksAt_23 : decode prog_2_method_11_code 23 = .ok (.aload_n 0, 1) := gq_13 db00a_12 eb_0
theorem d_X0_looksAt_24 : decode prog_2_method_11_code 24 = .ok (.iload_n 1, 1) := gq_14 db00a_12 eb_9
theorem d_X0_looksAt_25 : decode prog_2_method_11_code 25 = .ok (.iload 9, 2) := gq_15 db00a_12 eb_63
theorem d_X0_looksAt_27 : decode prog_2_method_11_code 27 = .ok (.invokevirtual 46, 3) := gq_16 db00a_12 eb_66
theorem d_X0_looksAt_30 : decode prog_2_method_11_code 30 = .ok (.istore 10, 2) := gq_17 db00a_12 eb_67
theorem d_X0_looksAt_32 : decode prog_2_method_11_code 32 = .ok (.iload 10, 2) := gq_18 db00a_12 eb_68
theorem d_X0_looksAt_34 : decode prog_2_method_11_code 34 = .ok (.invokestatic 35, 3) := gq_19 db00a_12 eb_39
theorem d_X0_looksAt_37 : decode prog_2_method_11_code 37 = .ok (.istore 11, 2) := gq_20 db00a_12 eb_69
theorem d_X0_looksAt_39 : decode prog_2_method_11_code 39 = .ok (.iload 11, 2) := gq_21 db00a_12 eb_70
theorem d_X0_looksAt_41 : decode prog_2_method_11_code 41 = .ok (.iconst 3, 1) := gq_22 db00a_12 eb_54
theorem d_X0_looksAt_42 : decode prog_2_method_11_code 42 = .ok (.if_icmp .ne 25, 3) := gq_23 db00a_12 eb_71
theorem db00a_13 : Pf_ prog_2_method_11_code [(45, [0x84, 0x06, 0x01]), (48, [0x15, 0x07]), (50, [0x1c]), (51, [0xa0, 0x00, 0x5c]), (54, [0x15, 0x06]), (56, [0x1d]), (57, [0x15, 0x04]), (59, [0xb8, 0x00, 0x32]), (62, [0x99, 0x00, 0x51]), (65, [0x04]), (66, [0xac]), (67, [0x15, 0x0b]), (69, [0x04]), (70, [0xa0, 0x00, 0x10]), (73, [0x15, 0x06]), (75, [0x15, 0x0a]), (77, [0xb8, 0x00, 0x36]), (80, [0x60]), (81, [0x36, 0x06]), (83, [0xa7, 0x00, 0x3c]), (86, [0x19, 0x05]), (88, [0x15, 0x07]), (90, [0x15, 0x0a]), (92, [0xb8, 0x00, 0x39])] := pf_ok prog_2_method_11_code _ 45 (by decide +kernel)
theorem d_X0_looksAt_45 : decode prog_2_method_11_code 45 = .ok (.iinc 6 1, 3) := gq_0 db00a_13 eb_72
theorem d_X0_looksAt_48 : decode prog_2_method_11_code 48 = .ok (.iload 7, 2) := gq_1 db00a_13 eb_73
theorem d_X0_looksAt_50 : decode prog_2_method_11_code 50 = .ok (.iload_n 2, 1) := gq_2 db00a_13 eb_13
theorem d_X0_looksAt_51 : decode prog_2_method_11_code 51 = .ok (.if_icmp .ne 92, 3) := gq_3 db00a_13 eb_74
theorem d_X0_looksAt_54 : decode prog_2_method_11_code 54 = .ok (.iload 6, 2) := gq_4 db00a_13 eb_75
theorem d_X0_looksAt_56 : decode prog_2_method_11_code 56 = .ok (.iload_n 3, 1) := gq_5 db00a_13 eb_29
theorem d_X0_looksAt_57 : decode prog_2_method_11_code 57 = .ok (.iload 4, 2) := gq_6 db00a_13 eb_76
theorem d_X0_looksAt_59 : decode prog_2_method_11_code 59 = .ok (.invokestatic 50, 3) := gq_7 db00a_13 eb_77
theorem d_X0_looksAt_62 : decode prog_2_method_11_code 62 = .ok (.ifCond .eq 81, 3) := gq_8 db00a_13 eb_78
theorem d_X0_looksAt_65 : decode prog_2_method_11_code 65 = .ok (.iconst 1, 1) := gq_9 db00a_13 eb_19
theorem d_X0_looksAt_66 : decode prog_2_method_11_code 66 = .ok (.ireturn, 1) := gq_10 db00a_13 eb_15
theorem d_X0_looksAt_67 : decode prog_2_method_11_code 67 = .ok (.iload 11, 2) := gq_11 db00a_13 eb_70
theorem d_X0_looksAt_69 : decode prog_2_method_11_code 69 = .ok (.iconst 1, 1) := gq_12 db00a_13 eb_19
theorem d_X0_looksAt_70 : decode prog_2_method_11_code 70 = .ok (.if_icmp .ne 16, 3) := gq_13 db00a_13 eb_79
theorem d_X0_looksAt_73 : decode prog_2_method_11_code 73 = .ok (.iload 6, 2) := gq_14 db00a_13 eb_75
theorem d_X0_looksAt_75 : decode prog_2_method_11_code 75 = .ok (.iload 10, 2) := gq_15 db00a_13 eb_68
theorem d_X0_looksAt_77 : decode prog_2_method_11_code 77 = .ok (.invokestatic 54, 3) := gq_16 db00a_13 eb_80
theorem d_X0_looksAt_80 : decode prog_2_method_11_code 80 = .ok (.iadd, 1) := gq_17 db00a_13 eb_35
theorem d_X0_looksAt_81 : decode prog_2_method_11_code 81 = .ok (.istore 6, 2) := gq_18 db00a_13 eb_58
theorem d_X0_looksAt_83 : decode prog_2_method_11_code 83 = .ok (.goto 60, 3) := gq_19 db00a_13 eb_81
theorem d_X0_looksAt_86 : decode prog_2_method_11_code 86 = .ok (.aload 5, 2) := gq_20 db00a_13 eb_82
theorem d_X0_looksAt_88 : decode prog_2_method_11_code 88 = .ok (.iload 7, 2) := gq_21 db00a_13 eb_73
theorem d_X0_looksAt_90 : decode prog_2_method_11_code 90 = .ok (.iload 10, 2) := gq_22 db00a_13 eb_68
theorem d_X0_looksAt_92 : decode prog_2_method_11_code 92 = .ok (.invokestatic 57, 3) := gq_23 db00a_13 eb_83
theorem db00a_14 : Pf_ prog_2_method_11_code [(95, [0xb6, 0x00, 0x3c]), (98, [0x36, 0x0c]), (100, [0x15, 0x0c]), (102, [0x02]), (103, [0x9f, 0x00, 0x28]), (106, [0x15, 0x0a]), (108, [0xb8, 0x00, 0x39]), (111, [0x36, 0x07]), (113, [0x15, 0x06]), (115, [0x15, 0x0c]), (117, [0x60]), (118, [0x36, 0x06]), (120, [0x15, 0x0b]), (122, [0x05]), (123, [0xa0, 0x00, 0x10]), (126, [0x15, 0x06]), (128, [0x15, 0x0a]), (130, [0xb8, 0x00, 0x36]), (133, [0xb8, 0x00, 0x41]), (136, [0xa7, 0x00, 0x05]), (139, [0x15, 0x06]), (141, [0x36, 0x06]), (143, [0x84, 0x09, 0x01]), (146, [0xa7, 0xff, 0x7e])] := pf_ok prog_2_method_11_code _ 95 (by decide +kernel)
theorem d_X0_looksAt_95 : decode prog_2_method_11_code 95 = .ok (.invokevirtual 60, 3) := gq_0 db00a_14 eb_84
theorem d_X0_looksAt_98 : decode prog_2_method_11_code 98 = .ok (.istore 12, 2) := gq_1 db00a_14 eb_85
theorem d_X0_looksAt_100 : decode prog_2_method_11_code 100 = .ok (.iload 12, 2) := gq_2 db00a_14 eb_86
theorem d_X0_looksAt_102 : decode prog_2_method_11_code 102 = .ok (.iconst (-1), 1) := gq_3 db00a_14 eb_26
theorem d_X0_looksAt_103 : decode prog_2_method_11_code 103 = .ok (.if_icmp .eq 40, 3) := gq_4 db00a_14 eb_87
theorem d_X0_looksAt_106 : decode prog_2_method_11_code 106 = .ok (.iload 10, 2) := gq_5 db00a_14 eb_68
theorem d_X0_looksAt_108 : decode prog_2_method_11_code 108 = .ok (.invokestatic 57, 3) := gq_6 db00a_14 eb_83
theorem d_X0_looksAt_111 : decode prog_2_method_11_code 111 = .ok (.istore 7, 2) := gq_7 db00a_14 eb_59
theorem d_X0_looksAt_113 : decode prog_2_method_11_code 113 = .ok (.iload 6, 2) := gq_8 db00a_14 eb_75
theorem d_X0_looksAt_115 : decode prog_2_method_11_code 115 = .ok (.iload 12, 2) := gq_9 db00a_14 eb_86
theorem d_X0_looksAt_117 : decode prog_2_method_11_code 117 = .ok (.iadd, 1) := gq_10 db00a_14 eb_35
theorem d_X0_looksAt_118 : decode prog_2_method_11_code 118 = .ok (.istore 6, 2) := gq_11 db00a_14 eb_58
theorem d_X0_looksAt_120 : decode prog_2_method_11_code 120 = .ok (.iload 11, 2) := gq_12 db00a_14 eb_70
theorem d_X0_looksAt_122 : decode prog_2_method_11_code 122 = .ok (.iconst 2, 1) := gq_13 db00a_14 eb_10
theorem d_X0_looksAt_123 : decode prog_2_method_11_code 123 = .ok (.if_icmp .ne 16, 3) := gq_14 db00a_14 eb_79
theorem d_X0_looksAt_126 : decode prog_2_method_11_code 126 = .ok (.iload 6, 2) := gq_15 db00a_14 eb_75
theorem d_X0_looksAt_128 : decode prog_2_method_11_code 128 = .ok (.iload 10, 2) := gq_16 db00a_14 eb_68
theorem d_X0_looksAt_130 : decode prog_2_method_11_code 130 = .ok (.invokestatic 54, 3) := gq_17 db00a_14 eb_80
theorem d_X0_looksAt_133 : decode prog_2_method_11_code 133 = .ok (.invokestatic 65, 3) := gq_18 db00a_14 eb_88
theorem d_X0_looksAt_136 : decode prog_2_method_11_code 136 = .ok (.goto 5, 3) := gq_19 db00a_14 eb_89
theorem d_X0_looksAt_139 : decode prog_2_method_11_code 139 = .ok (.iload 6, 2) := gq_20 db00a_14 eb_75
theorem d_X0_looksAt_141 : decode prog_2_method_11_code 141 = .ok (.istore 6, 2) := gq_21 db00a_14 eb_58
theorem d_X0_looksAt_143 : decode prog_2_method_11_code 143 = .ok (.iinc 9 1, 3) := gq_22 db00a_14 eb_90
theorem d_X0_looksAt_146 : decode prog_2_method_11_code 146 = .ok (.goto (-130), 3) := gq_23 db00a_14 eb_91
theorem db00a_15 : Pf_ prog_2_method_11_code [(149, [0x03]), (150, [0xac])] := pf_ok prog_2_method_11_code _ 149 (by decide +kernel)
theorem d_X0_looksAt_149 : decode prog_2_method_11_code 149 = .ok (.iconst 0, 1) := gq_0 db00a_15 eb_21
theorem d_X0_looksAt_150 : decode prog_2_method_11_code 150 = .ok (.ireturn, 1) := gq_1 db00a_15 eb_15
theorem d_X1_init_7 : decode prog_3_method_1_code 7 = .ok (.newarray .int, 2) := by decide +kernel
theorem d_X1_init_15 : decode prog_3_method_1_code 15 = .ok (.newarray .int, 2) := by decide +kernel
theorem d_X1_init_23 : decode prog_3_method_1_code 23 = .ok (.newarray .int, 2) := by decide +kernel
theorem d_X1_init_31 : decode prog_3_method_1_code 31 = .ok (.newarray .int, 2) := by decide +kernel
theorem d_X1_init_39 : decode prog_3_method_1_code 39 = .ok (.newarray .int, 2) := by decide +kernel
theorem d_X1_init_48 : decode prog_3_method_1_code 48 = .ok (.newarray .int, 2) := by decide +kernel
theorem d_X1_init_57 : decode prog_3_method_1_code 57 = .ok (.newarray .int, 2) := by decide +kernel
theorem db00a_16 : Pf_ prog_3_method_1_code [(0, [0x2a]), (1, [0xb7, 0x00, 0x03]), (4, [0x2a]), (5, [0x10, 0x1e]), (9, [0xb5, 0x00, 0x0b]), (12, [0x2a]), (13, [0x10, 0x1e]), (17, [0xb5, 0x00, 0x0f]), (20, [0x2a]), (21, [0x10, 0x1e]), (25, [0xb5, 0x00, 0x12]), (28, [0x2a]), (29, [0x10, 0x0a]), (33, [0xb5, 0x00, 0x15]), (36, [0x2a]), (37, [0x10, 0x08]), (41, [0xb5, 0x00, 0x18]), (44, [0x2a]), (45, [0x11, 0x00, 0xc8]), (50, [0xb5, 0x00, 0x1b]), (53, [0x2a]), (54, [0x11, 0x00, 0xc8]), (59, [0xb5, 0x00, 0x1e]), (62, [0x2a])] := pf_ok prog_3_method_1_code _ 0 (by decide +kernel)
theorem d_X1_init_0 : decode prog_3_method_1_code 0 = .ok (.aload_n 0, 1) := gq_0 db00a_16 eb_0
theorem d_X1_init_1 : decode prog_3_method_1_code 1 = .ok (.invokespecial 3, 3) := gq_1 db00a_16 eb_1
theorem d_X1_init_4 : decode prog_3_method_1_code 4 = .ok (.aload_n 0, 1) := gq_2 db00a_16 eb_0
theorem d_X1_init_5 : decode prog_3_method_1_code 5 = .ok (.bipush 30, 2) := gq_3 db00a_16 eb_92
theorem d_X1_init_9 : decode prog_3_method_1_code 9 = .ok (.putfield 11, 3) := gq_4 db00a_16 eb_3
theorem d_X1_init_12 : decode prog_3_method_1_code 12 = .ok (.aload_n 0, 1) := gq_5 db00a_16 eb_0
theorem d_X1_init_13 : decode prog_3_method_1_code 13 = .ok (.bipush 30, 2) := gq_6 db00a_16 eb_92
theorem d_X1_init_17 : decode prog_3_method_1_code 17 = .ok (.putfield 15, 3) := gq_7 db00a_16 eb_5
theorem d_X1_init_20 : decode prog_3_method_1_code 20 = .ok (.aload_n 0, 1) := gq_8 db00a_16 eb_0
theorem d_X1_init_21 : decode prog_3_method_1_code 21 = .ok (.bipush 30, 2) := gq_9 db00a_16 eb_92
theorem d_X1_init_25 : decode prog_3_method_1_code 25 = .ok (.putfield 18, 3) := gq_10 db00a_16 eb_6
theorem d_X1_init_28 : decode prog_3_method_1_code 28 = .ok (.aload_n 0, 1) := gq_11 db00a_16 eb_0
theorem d_X1_init_29 : decode prog_3_method_1_code 29 = .ok (.bipush 10, 2) := gq_12 db00a_16 eb_93
theorem d_X1_init_33 : decode prog_3_method_1_code 33 = .ok (.putfield 21, 3) := gq_13 db00a_16 eb_47
theorem d_X1_init_36 : decode prog_3_method_1_code 36 = .ok (.aload_n 0, 1) := gq_14 db00a_16 eb_0
theorem d_X1_init_37 : decode prog_3_method_1_code 37 = .ok (.bipush 8, 2) := gq_15 db00a_16 eb_94
theorem d_X1_init_41 : decode prog_3_method_1_code 41 = .ok (.putfield 24, 3) := gq_16 db00a_16 eb_95
theorem d_X1_init_44 : decode prog_3_method_1_code 44 = .ok (.aload_n 0, 1) := gq_17 db00a_16 eb_0
theorem d_X1_init_45 : decode prog_3_method_1_code 45 = .ok (.sipush 200, 3) := gq_18 db00a_16 eb_96
theorem d_X1_init_50 : decode prog_3_method_1_code 50 = .ok (.putfield 27, 3) := gq_19 db00a_16 eb_97
theorem d_X1_init_53 : decode prog_3_method_1_code 53 = .ok (.aload_n 0, 1) := gq_20 db00a_16 eb_0
theorem d_X1_init_54 : decode prog_3_method_1_code 54 = .ok (.sipush 200, 3) := gq_21 db00a_16 eb_96
theorem d_X1_init_59 : decode prog_3_method_1_code 59 = .ok (.putfield 30, 3) := gq_22 db00a_16 eb_98
theorem d_X1_init_62 : decode prog_3_method_1_code 62 = .ok (.aload_n 0, 1) := gq_23 db00a_16 eb_0
theorem d_X1_init_65 : decode prog_3_method_1_code 65 = .ok (.newarray .int, 2) := by decide +kernel
theorem d_X1_init_74 : decode prog_3_method_1_code 74 = .ok (.newarray .int, 2) := by decide +kernel
theorem d_X1_init_83 : decode prog_3_method_1_code 83 = .ok (.newarray .int, 2) := by decide +kernel
theorem d_X1_init_92 : decode prog_3_method_1_code 92 = .ok (.newarray .int, 2) := by decide +kernel
theorem d_X1_init_100 : decode prog_3_method_1_code 100 = .ok (.newarray .int, 2) := by decide +kernel
theorem d_X1_init_108 : decode prog_3_method_1_code 108 = .ok (.newarray .int, 2) := by decide +kernel
theorem d_X1_init_116 : decode prog_3_method_1_code 116 = .ok (.newarray .int, 2) := by decide +kernel
theorem db00a_17 : Pf_ prog_3_method_1_code [(63, [0x10, 0x10]), (67, [0xb5, 0x00, 0x21]), (70, [0x2a]), (71, [0x11, 0x00, 0xb4]), (76, [0xb5, 0x00, 0x24]), (79, [0x2a]), (80, [0x11, 0x00, 0xb4]), (85, [0xb5, 0x00, 0x27]), (88, [0x2a]), (89, [0x11, 0x00, 0xb4]), (94, [0xb5, 0x00, 0x2a]), (97, [0x2a]), (98, [0x10, 0x08]), (102, [0xb5, 0x00, 0x2d]), (105, [0x2a]), (106, [0x10, 0x08]), (110, [0xb5, 0x00, 0x30]), (113, [0x2a]), (114, [0x10, 0x1e]), (118, [0xb5, 0x00, 0x33]), (121, [0x2a]), (122, [0xb4, 0x00, 0x18]), (125, [0x04]), (126, [0xb8, 0x00, 0x36])] := pf_ok prog_3_method_1_code _ 63 (by decide +kernel)
theorem d_X1_init_63 : decode prog_3_method_1_code 63 = .ok (.bipush 16, 2) := gq_0 db00a_17 eb_99
theorem d_X1_init_67 : decode prog_3_method_1_code 67 = .ok (.putfield 33, 3) := gq_1 db00a_17 eb_100
theorem d_X1_init_70 : decode prog_3_method_1_code 70 = .ok (.aload_n 0, 1) := gq_2 db00a_17 eb_0
theorem d_X1_init_71 : decode prog_3_method_1_code 71 = .ok (.sipush 180, 3) := gq_3 db00a_17 eb_101
theorem d_X1_init_76 : decode prog_3_method_1_code 76 = .ok (.putfield 36, 3) := gq_4 db00a_17 eb_102
theorem d_X1_init_79 : decode prog_3_method_1_code 79 = .ok (.aload_n 0, 1) := gq_5 db00a_17 eb_0
theorem d_X1_init_80 : decode prog_3_method_1_code 80 = .ok (.sipush 180, 3) := gq_6 db00a_17 eb_101
theorem d_X1_init_85 : decode prog_3_method_1_code 85 = .ok (.putfield 39, 3) := gq_7 db00a_17 eb_103
theorem d_X1_init_88 : decode prog_3_method_1_code 88 = .ok (.aload_n 0, 1) := gq_8 db00a_17 eb_0
theorem d_X1_init_89 : decode prog_3_method_1_code 89 = .ok (.sipush 180, 3) := gq_9 db00a_17 eb_101
theorem d_X1_init_94 : decode prog_3_method_1_code 94 = .ok (.putfield 42, 3) := gq_10 db00a_17 eb_104
theorem d_X1_init_97 : decode prog_3_method_1_code 97 = .ok (.aload_n 0, 1) := gq_11 db00a_17 eb_0
theorem d_X1_init_98 : decode prog_3_method_1_code 98 = .ok (.bipush 8, 2) := gq_12 db00a_17 eb_94
theorem d_X1_init_102 : decode prog_3_method_1_code 102 = .ok (.putfield 45, 3) := gq_13 db00a_17 eb_105
theorem d_X1_init_105 : decode prog_3_method_1_code 105 = .ok (.aload_n 0, 1) := gq_14 db00a_17 eb_0
theorem d_X1_init_106 : decode prog_3_method_1_code 106 = .ok (.bipush 8, 2) := gq_15 db00a_17 eb_94
theorem d_X1_init_110 : decode prog_3_method_1_code 110 = .ok (.putfield 48, 3) := gq_16 db00a_17 eb_106
theorem d_X1_init_113 : decode prog_3_method_1_code 113 = .ok (.aload_n 0, 1) := gq_17 db00a_17 eb_0
theorem d_X1_init_114 : decode prog_3_method_1_code 114 = .ok (.bipush 30, 2) := gq_18 db00a_17 eb_92
theorem d_X1_init_118 : decode prog_3_method_1_code 118 = .ok (.putfield 51, 3) := gq_19 db00a_17 eb_107
theorem d_X1_init_121 : decode prog_3_method_1_code 121 = .ok (.aload_n 0, 1) := gq_20 db00a_17 eb_0
theorem d_X1_init_122 : decode prog_3_method_1_code 122 = .ok (.getfield 24, 3) := gq_21 db00a_17 eb_108
theorem d_X1_init_125 : decode prog_3_method_1_code 125 = .ok (.iconst 1, 1) := gq_22 db00a_17 eb_19
theorem d_X1_init_126 : decode prog_3_method_1_code 126 = .ok (.invokestatic 54, 3) := gq_23 db00a_17 eb_80
theorem db00a_18 : Pf_ prog_3_method_1_code [(129, [0x2a]), (130, [0xb4, 0x00, 0x21]), (133, [0x02]), (134, [0xb8, 0x00, 0x36]), (137, [0xb1])] := pf_ok prog_3_method_1_code _ 129 (by decide +kernel)
theorem d_X1_init_129 : decode prog_3_method_1_code 129 = .ok (.aload_n 0, 1) := gq_0 db00a_18 eb_0
theorem d_X1_init_130 : decode prog_3_method_1_code 130 = .ok (.getfield 33, 3) := gq_1 db00a_18 eb_109
theorem d_X1_init_133 : decode prog_3_method_1_code 133 = .ok (.iconst (-1), 1) := gq_2 db00a_18 eb_26
theorem d_X1_init_134 : decode prog_3_method_1_code 134 = .ok (.invokestatic 54, 3) := gq_3 db00a_18 eb_80
theorem d_X1_init_137 : decode prog_3_method_1_code 137 = .ok (.return_, 1) := gq_4 db00a_18 eb_7
theorem db00a_19 : Pf_ prog_3_method_2_code [(0, [0x1b]), (1, [0x9b, 0x00, 0x0f]), (4, [0x1b]), (5, [0x2a]), (6, [0xb4, 0x00, 0x3c]), (9, [0xa2, 0x00, 0x07]), (12, [0x04]), (13, [0xa7, 0x00, 0x04]), (16, [0x03]), (17, [0xac])] := pf_ok prog_3_method_2_code _ 0 (by decide +kernel)
theorem d_X1_has_0 : decode prog_3_method_2_code 0 = .ok (.iload_n 1, 1) := gq_0 db00a_19 eb_9
theorem d_X1_has_1 : decode prog_3_method_2_code 1 = .ok (.ifCond .lt 15, 3) := gq_1 db00a_19 eb_16
theorem d_X1_has_4 : decode prog_3_method_2_code 4 = .ok (.iload_n 1, 1) := gq_2 db00a_19 eb_9
theorem d_X1_has_5 : decode prog_3_method_2_code 5 = .ok (.aload_n 0, 1) := gq_3 db00a_19 eb_0
theorem d_X1_has_6 : decode prog_3_method_2_code 6 = .ok (.getfield 60, 3) := gq_4 db00a_19 eb_110
theorem d_X1_has_9 : decode prog_3_method_2_code 9 = .ok (.if_icmp .ge 7, 3) := gq_5 db00a_19 eb_18
theorem d_X1_has_12 : decode prog_3_method_2_code 12 = .ok (.iconst 1, 1) := gq_6 db00a_19 eb_19
theorem d_X1_has_13 : decode prog_3_method_2_code 13 = .ok (.goto 4, 3) := gq_7 db00a_19 eb_20
theorem d_X1_has_16 : decode prog_3_method_2_code 16 = .ok (.iconst 0, 1) := gq_8 db00a_19 eb_21
theorem d_X1_has_17 : decode prog_3_method_2_code 17 = .ok (.ireturn, 1) := gq_9 db00a_19 eb_15
theorem db00a_20 : Pf_ prog_3_method_3_code [(0, [0x2a]), (1, [0x1b]), (2, [0xb6, 0x00, 0x40]), (5, [0x99, 0x00, 0x11]), (8, [0x2a]), (9, [0xb4, 0x00, 0x0f]), (12, [0x1b]), (13, [0x2e]), (14, [0x1c]), (15, [0xa3, 0x00, 0x07]), (18, [0x04]), (19, [0xa7, 0x00, 0x04]), (22, [0x03]), (23, [0xac])] := pf_ok prog_3_method_3_code _ 0 (by decide +kernel)
theorem d_X1_wasOpen_0 : decode prog_3_method_3_code 0 = .ok (.aload_n 0, 1) := gq_0 db00a_20 eb_0
theorem d_X1_wasOpen_1 : decode prog_3_method_3_code 1 = .ok (.iload_n 1, 1) := gq_1 db00a_20 eb_9
theorem d_X1_wasOpen_2 : decode prog_3_method_3_code 2 = .ok (.invokevirtual 64, 3) := gq_2 db00a_20 eb_111
theorem d_X1_wasOpen_5 : decode prog_3_method_3_code 5 = .ok (.ifCond .eq 17, 3) := gq_3 db00a_20 eb_112
theorem d_X1_wasOpen_8 : decode prog_3_method_3_code 8 = .ok (.aload_n 0, 1) := gq_4 db00a_20 eb_0
theorem d_X1_wasOpen_9 : decode prog_3_method_3_code 9 = .ok (.getfield 15, 3) := gq_5 db00a_20 eb_44
theorem d_X1_wasOpen_12 : decode prog_3_method_3_code 12 = .ok (.iload_n 1, 1) := gq_6 db00a_20 eb_9
theorem d_X1_wasOpen_13 : decode prog_3_method_3_code 13 = .ok (.iaload, 1) := gq_7 db00a_20 eb_37
theorem d_X1_wasOpen_14 : decode prog_3_method_3_code 14 = .ok (.iload_n 2, 1) := gq_8 db00a_20 eb_13
theorem d_X1_wasOpen_15 : decode prog_3_method_3_code 15 = .ok (.if_icmp .gt 7, 3) := gq_9 db00a_20 eb_113
theorem d_X1_wasOpen_18 : decode prog_3_method_3_code 18 = .ok (.iconst 1, 1) := gq_10 db00a_20 eb_19
theorem d_X1_wasOpen_19 : decode prog_3_method_3_code 19 = .ok (.goto 4, 3) := gq_11 db00a_20 eb_20
theorem d_X1_wasOpen_22 : decode prog_3_method_3_code 22 = .ok (.iconst 0, 1) := gq_12 db00a_20 eb_21
theorem d_X1_wasOpen_23 : decode prog_3_method_3_code 23 = .ok (.ireturn, 1) := gq_13 db00a_20 eb_15
theorem db00a_21 : Pf_ prog_3_method_4_code [(0, [0x2a]), (1, [0xb4, 0x00, 0x3c]), (4, [0x10, 0x1e]), (6, [0xa1, 0x00, 0x05]), (9, [0x02]), (10, [0xac]), (11, [0x2a]), (12, [0xb4, 0x00, 0x0b]), (15, [0x2a]), (16, [0xb4, 0x00, 0x3c]), (19, [0x1b]), (20, [0x4f]), (21, [0x2a]), (22, [0xb4, 0x00, 0x0f]), (25, [0x2a]), (26, [0xb4, 0x00, 0x3c]), (29, [0x1c]), (30, [0x4f]), (31, [0x2a]), (32, [0x59]), (33, [0xb4, 0x00, 0x3c]), (36, [0x04]), (37, [0x60]), (38, [0xb5, 0x00, 0x3c])] := pf_ok prog_3_method_4_code _ 0 (by decide +kernel)
theorem d_X1_start_0 : decode prog_3_method_4_code 0 = .ok (.aload_n 0, 1) := gq_0 db00a_21 eb_0
theorem d_X1_start_1 : decode prog_3_method_4_code 1 = .ok (.getfield 60, 3) := gq_1 db00a_21 eb_110
theorem d_X1_start_4 : decode prog_3_method_4_code 4 = .ok (.bipush 30, 2) := gq_2 db00a_21 eb_92
theorem d_X1_start_6 : decode prog_3_method_4_code 6 = .ok (.if_icmp .lt 5, 3) := gq_3 db00a_21 eb_114
theorem d_X1_start_9 : decode prog_3_method_4_code 9 = .ok (.iconst (-1), 1) := gq_4 db00a_21 eb_26
theorem d_X1_start_10 : decode prog_3_method_4_code 10 = .ok (.ireturn, 1) := gq_5 db00a_21 eb_15
theorem d_X1_start_11 : decode prog_3_method_4_code 11 = .ok (.aload_n 0, 1) := gq_6 db00a_21 eb_0
theorem d_X1_start_12 : decode prog_3_method_4_code 12 = .ok (.getfield 11, 3) := gq_7 db00a_21 eb_32
theorem d_X1_start_15 : decode prog_3_method_4_code 15 = .ok (.aload_n 0, 1) := gq_8 db00a_21 eb_0
theorem d_X1_start_16 : decode prog_3_method_4_code 16 = .ok (.getfield 60, 3) := gq_9 db00a_21 eb_110
theorem d_X1_start_19 : decode prog_3_method_4_code 19 = .ok (.iload_n 1, 1) := gq_10 db00a_21 eb_9
theorem d_X1_start_20 : decode prog_3_method_4_code 20 = .ok (.iastore, 1) := gq_11 db00a_21 eb_38
theorem d_X1_start_21 : decode prog_3_method_4_code 21 = .ok (.aload_n 0, 1) := gq_12 db00a_21 eb_0
theorem d_X1_start_22 : decode prog_3_method_4_code 22 = .ok (.getfield 15, 3) := gq_13 db00a_21 eb_44
theorem d_X1_start_25 : decode prog_3_method_4_code 25 = .ok (.aload_n 0, 1) := gq_14 db00a_21 eb_0
theorem d_X1_start_26 : decode prog_3_method_4_code 26 = .ok (.getfield 60, 3) := gq_15 db00a_21 eb_110
theorem d_X1_start_29 : decode prog_3_method_4_code 29 = .ok (.iload_n 2, 1) := gq_16 db00a_21 eb_13
theorem d_X1_start_30 : decode prog_3_method_4_code 30 = .ok (.iastore, 1) := gq_17 db00a_21 eb_38
theorem d_X1_start_31 : decode prog_3_method_4_code 31 = .ok (.aload_n 0, 1) := gq_18 db00a_21 eb_0
theorem d_X1_start_32 : decode prog_3_method_4_code 32 = .ok (.dup, 1) := gq_19 db00a_21 eb_46
theorem d_X1_start_33 : decode prog_3_method_4_code 33 = .ok (.getfield 60, 3) := gq_20 db00a_21 eb_110
theorem d_X1_start_36 : decode prog_3_method_4_code 36 = .ok (.iconst 1, 1) := gq_21 db00a_21 eb_19
theorem d_X1_start_37 : decode prog_3_method_4_code 37 = .ok (.iadd, 1) := gq_22 db00a_21 eb_35
theorem d_X1_start_38 : decode prog_3_method_4_code 38 = .ok (.putfield 60, 3) := gq_23 db00a_21 eb_115
theorem db00a_22 : Pf_ prog_3_method_4_code [(41, [0x2a]), (42, [0xb4, 0x00, 0x3c]), (45, [0x04]), (46, [0x64]), (47, [0xac])] := pf_ok prog_3_method_4_code _ 41 (by decide +kernel)
theorem d_X1_start_41 : decode prog_3_method_4_code 41 = .ok (.aload_n 0, 1) := gq_0 db00a_22 eb_0
theorem d_X1_start_42 : decode prog_3_method_4_code 42 = .ok (.getfield 60, 3) := gq_1 db00a_22 eb_110
theorem d_X1_start_45 : decode prog_3_method_4_code 45 = .ok (.iconst 1, 1) := gq_2 db00a_22 eb_19
theorem d_X1_start_46 : decode prog_3_method_4_code 46 = .ok (.isub, 1) := gq_3 db00a_22 eb_48
theorem d_X1_start_47 : decode prog_3_method_4_code 47 = .ok (.ireturn, 1) := gq_4 db00a_22 eb_15
theorem db00a_23 : Pf_ prog_3_method_5_code [(0, [0x2a]), (1, [0xb4, 0x00, 0x44]), (4, [0x11, 0x00, 0xc8]), (7, [0xa2, 0x00, 0x17]), (10, [0x1d]), (11, [0x03]), (12, [0x10, 0x0f]), (14, [0xb8, 0x00, 0x47]), (17, [0x99, 0x00, 0x0d]), (20, [0x2a]), (21, [0xb4, 0x00, 0x21]), (24, [0x1d]), (25, [0x2e]), (26, [0x02]), (27, [0x9f, 0x00, 0x05]), (30, [0x02]), (31, [0xac]), (32, [0x2a]), (33, [0xb4, 0x00, 0x1b]), (36, [0x2a]), (37, [0xb4, 0x00, 0x44]), (40, [0x1b]), (41, [0x10, 0x08]), (43, [0x78])] := pf_ok prog_3_method_5_code _ 0 (by decide +kernel)
theorem d_X1_addStatement_0 : decode prog_3_method_5_code 0 = .ok (.aload_n 0, 1) := gq_0 db00a_23 eb_0
theorem d_X1_addStatement_1 : decode prog_3_method_5_code 1 = .ok (.getfield 68, 3) := gq_1 db00a_23 eb_116
theorem d_X1_addStatement_4 : decode prog_3_method_5_code 4 = .ok (.sipush 200, 3) := gq_2 db00a_23 eb_96
theorem d_X1_addStatement_7 : decode prog_3_method_5_code 7 = .ok (.if_icmp .ge 23, 3) := gq_3 db00a_23 eb_117
theorem d_X1_addStatement_10 : decode prog_3_method_5_code 10 = .ok (.iload_n 3, 1) := gq_4 db00a_23 eb_29
theorem d_X1_addStatement_11 : decode prog_3_method_5_code 11 = .ok (.iconst 0, 1) := gq_5 db00a_23 eb_21
theorem d_X1_addStatement_12 : decode prog_3_method_5_code 12 = .ok (.bipush 15, 2) := gq_6 db00a_23 eb_57
theorem d_X1_addStatement_14 : decode prog_3_method_5_code 14 = .ok (.invokestatic 71, 3) := gq_7 db00a_23 eb_118
theorem d_X1_addStatement_17 : decode prog_3_method_5_code 17 = .ok (.ifCond .eq 13, 3) := gq_8 db00a_23 eb_119
theorem d_X1_addStatement_20 : decode prog_3_method_5_code 20 = .ok (.aload_n 0, 1) := gq_9 db00a_23 eb_0
theorem d_X1_addStatement_21 : decode prog_3_method_5_code 21 = .ok (.getfield 33, 3) := gq_10 db00a_23 eb_109
theorem d_X1_addStatement_24 : decode prog_3_method_5_code 24 = .ok (.iload_n 3, 1) := gq_11 db00a_23 eb_29
theorem d_X1_addStatement_25 : decode prog_3_method_5_code 25 = .ok (.iaload, 1) := gq_12 db00a_23 eb_37
theorem d_X1_addStatement_26 : decode prog_3_method_5_code 26 = .ok (.iconst (-1), 1) := gq_13 db00a_23 eb_26
theorem d_X1_addStatement_27 : decode prog_3_method_5_code 27 = .ok (.if_icmp .eq 5, 3) := gq_14 db00a_23 eb_120
theorem d_X1_addStatement_30 : decode prog_3_method_5_code 30 = .ok (.iconst (-1), 1) := gq_15 db00a_23 eb_26
theorem d_X1_addStatement_31 : decode prog_3_method_5_code 31 = .ok (.ireturn, 1) := gq_16 db00a_23 eb_15
theorem d_X1_addStatement_32 : decode prog_3_method_5_code 32 = .ok (.aload_n 0, 1) := gq_17 db00a_23 eb_0
theorem d_X1_addStatement_33 : decode prog_3_method_5_code 33 = .ok (.getfield 27, 3) := gq_18 db00a_23 eb_121
theorem d_X1_addStatement_36 : decode prog_3_method_5_code 36 = .ok (.aload_n 0, 1) := gq_19 db00a_23 eb_0
theorem d_X1_addStatement_37 : decode prog_3_method_5_code 37 = .ok (.getfield 68, 3) := gq_20 db00a_23 eb_116
theorem d_X1_addStatement_40 : decode prog_3_method_5_code 40 = .ok (.iload_n 1, 1) := gq_21 db00a_23 eb_9
theorem d_X1_addStatement_41 : decode prog_3_method_5_code 41 = .ok (.bipush 8, 2) := gq_22 db00a_23 eb_94
theorem d_X1_addStatement_43 : decode prog_3_method_5_code 43 = .ok (.ishl, 1) := gq_23 db00a_23 eb_11
theorem db00a_24 : Pf_ prog_3_method_5_code [(44, [0x1c]), (45, [0x08]), (46, [0x78]), (47, [0x80]), (48, [0x1d]), (49, [0x04]), (50, [0x78]), (51, [0x80]), (52, [0x15, 0x04]), (54, [0x99, 0x00, 0x07]), (57, [0x04]), (58, [0xa7, 0x00, 0x04]), (61, [0x03]), (62, [0x80]), (63, [0x4f]), (64, [0x2a]), (65, [0xb4, 0x00, 0x1e]), (68, [0x2a]), (69, [0xb4, 0x00, 0x44]), (72, [0x15, 0x05]), (74, [0x4f]), (75, [0x2a]), (76, [0x59]), (77, [0xb4, 0x00, 0x44])] := pf_ok prog_3_method_5_code _ 44 (by decide +kernel)
theorem d_X1_addStatement_44 : decode prog_3_method_5_code 44 = .ok (.iload_n 2, 1) := gq_0 db00a_24 eb_13
theorem d_X1_addStatement_45 : decode prog_3_method_5_code 45 = .ok (.iconst 5, 1) := gq_1 db00a_24 eb_122
theorem d_X1_addStatement_46 : decode prog_3_method_5_code 46 = .ok (.ishl, 1) := gq_2 db00a_24 eb_11
theorem d_X1_addStatement_47 : decode prog_3_method_5_code 47 = .ok (.ior, 1) := gq_3 db00a_24 eb_12
theorem d_X1_addStatement_48 : decode prog_3_method_5_code 48 = .ok (.iload_n 3, 1) := gq_4 db00a_24 eb_29
theorem d_X1_addStatement_49 : decode prog_3_method_5_code 49 = .ok (.iconst 1, 1) := gq_5 db00a_24 eb_19
theorem d_X1_addStatement_50 : decode prog_3_method_5_code 50 = .ok (.ishl, 1) := gq_6 db00a_24 eb_11
theorem d_X1_addStatement_51 : decode prog_3_method_5_code 51 = .ok (.ior, 1) := gq_7 db00a_24 eb_12
theorem d_X1_addStatement_52 : decode prog_3_method_5_code 52 = .ok (.iload 4, 2) := gq_8 db00a_24 eb_76
theorem d_X1_addStatement_54 : decode prog_3_method_5_code 54 = .ok (.ifCond .eq 7, 3) := gq_9 db00a_24 eb_123
theorem d_X1_addStatement_57 : decode prog_3_method_5_code 57 = .ok (.iconst 1, 1) := gq_10 db00a_24 eb_19
theorem d_X1_addStatement_58 : decode prog_3_method_5_code 58 = .ok (.goto 4, 3) := gq_11 db00a_24 eb_20
theorem d_X1_addStatement_61 : decode prog_3_method_5_code 61 = .ok (.iconst 0, 1) := gq_12 db00a_24 eb_21
theorem d_X1_addStatement_62 : decode prog_3_method_5_code 62 = .ok (.ior, 1) := gq_13 db00a_24 eb_12
theorem d_X1_addStatement_63 : decode prog_3_method_5_code 63 = .ok (.iastore, 1) := gq_14 db00a_24 eb_38
theorem d_X1_addStatement_64 : decode prog_3_method_5_code 64 = .ok (.aload_n 0, 1) := gq_15 db00a_24 eb_0
theorem d_X1_addStatement_65 : decode prog_3_method_5_code 65 = .ok (.getfield 30, 3) := gq_16 db00a_24 eb_124
theorem d_X1_addStatement_68 : decode prog_3_method_5_code 68 = .ok (.aload_n 0, 1) := gq_17 db00a_24 eb_0
theorem d_X1_addStatement_69 : decode prog_3_method_5_code 69 = .ok (.getfield 68, 3) := gq_18 db00a_24 eb_116
theorem d_X1_addStatement_72 : decode prog_3_method_5_code 72 = .ok (.iload 5, 2) := gq_19 db00a_24 eb_125
theorem d_X1_addStatement_74 : decode prog_3_method_5_code 74 = .ok (.iastore, 1) := gq_20 db00a_24 eb_38
theorem d_X1_addStatement_75 : decode prog_3_method_5_code 75 = .ok (.aload_n 0, 1) := gq_21 db00a_24 eb_0
theorem d_X1_addStatement_76 : decode prog_3_method_5_code 76 = .ok (.dup, 1) := gq_22 db00a_24 eb_46
theorem d_X1_addStatement_77 : decode prog_3_method_5_code 77 = .ok (.getfield 68, 3) := gq_23 db00a_24 eb_116
theorem db00a_25 : Pf_ prog_3_method_5_code [(80, [0x04]), (81, [0x60]), (82, [0xb5, 0x00, 0x44]), (85, [0x2a]), (86, [0xb4, 0x00, 0x44]), (89, [0x04]), (90, [0x64]), (91, [0xac])] := pf_ok prog_3_method_5_code _ 80 (by decide +kernel)
theorem d_X1_addStatement_80 : decode prog_3_method_5_code 80 = .ok (.iconst 1, 1) := gq_0 db00a_25 eb_19
theorem d_X1_addStatement_81 : decode prog_3_method_5_code 81 = .ok (.iadd, 1) := gq_1 db00a_25 eb_35
theorem d_X1_addStatement_82 : decode prog_3_method_5_code 82 = .ok (.putfield 68, 3) := gq_2 db00a_25 eb_126
theorem d_X1_addStatement_85 : decode prog_3_method_5_code 85 = .ok (.aload_n 0, 1) := gq_3 db00a_25 eb_0
theorem d_X1_addStatement_86 : decode prog_3_method_5_code 86 = .ok (.getfield 68, 3) := gq_4 db00a_25 eb_116
theorem d_X1_addStatement_89 : decode prog_3_method_5_code 89 = .ok (.iconst 1, 1) := gq_5 db00a_25 eb_19
theorem d_X1_addStatement_90 : decode prog_3_method_5_code 90 = .ok (.isub, 1) := gq_6 db00a_25 eb_48
theorem d_X1_addStatement_91 : decode prog_3_method_5_code 91 = .ok (.ireturn, 1) := gq_7 db00a_25 eb_15
theorem db00a_26 : Pf_ prog_3_method_6_code [(0, [0x2a]), (1, [0xb4, 0x00, 0x2d]), (4, [0x03]), (5, [0xb8, 0x00, 0x36]), (8, [0x2a]), (9, [0xb4, 0x00, 0x30]), (12, [0x03]), (13, [0xb8, 0x00, 0x36]), (16, [0x03]), (17, [0x3e]), (18, [0x1d]), (19, [0x2a]), (20, [0xb4, 0x00, 0x44]), (23, [0xa2, 0x00, 0x99]), (26, [0x2a]), (27, [0xb4, 0x00, 0x1b]), (30, [0x1d]), (31, [0x2e]), (32, [0x10, 0x08]), (34, [0x7a]), (35, [0x1b]), (36, [0xa0, 0x00, 0x86]), (39, [0x2a]), (40, [0xb4, 0x00, 0x1e])] := pf_ok prog_3_method_6_code _ 0 (by decide +kernel)
theorem d_X1_weigh_0 : decode prog_3_method_6_code 0 = .ok (.aload_n 0, 1) := gq_0 db00a_26 eb_0
theorem d_X1_weigh_1 : decode prog_3_method_6_code 1 = .ok (.getfield 45, 3) := gq_1 db00a_26 eb_127
theorem d_X1_weigh_4 : decode prog_3_method_6_code 4 = .ok (.iconst 0, 1) := gq_2 db00a_26 eb_21
theorem d_X1_weigh_5 : decode prog_3_method_6_code 5 = .ok (.invokestatic 54, 3) := gq_3 db00a_26 eb_80
theorem d_X1_weigh_8 : decode prog_3_method_6_code 8 = .ok (.aload_n 0, 1) := gq_4 db00a_26 eb_0
theorem d_X1_weigh_9 : decode prog_3_method_6_code 9 = .ok (.getfield 48, 3) := gq_5 db00a_26 eb_128
theorem d_X1_weigh_12 : decode prog_3_method_6_code 12 = .ok (.iconst 0, 1) := gq_6 db00a_26 eb_21
theorem d_X1_weigh_13 : decode prog_3_method_6_code 13 = .ok (.invokestatic 54, 3) := gq_7 db00a_26 eb_80
theorem d_X1_weigh_16 : decode prog_3_method_6_code 16 = .ok (.iconst 0, 1) := gq_8 db00a_26 eb_21
theorem d_X1_weigh_17 : decode prog_3_method_6_code 17 = .ok (.istore_n 3, 1) := gq_9 db00a_26 eb_28
theorem d_X1_weigh_18 : decode prog_3_method_6_code 18 = .ok (.iload_n 3, 1) := gq_10 db00a_26 eb_29
theorem d_X1_weigh_19 : decode prog_3_method_6_code 19 = .ok (.aload_n 0, 1) := gq_11 db00a_26 eb_0
theorem d_X1_weigh_20 : decode prog_3_method_6_code 20 = .ok (.getfield 68, 3) := gq_12 db00a_26 eb_116
theorem d_X1_weigh_23 : decode prog_3_method_6_code 23 = .ok (.if_icmp .ge 153, 3) := gq_13 db00a_26 eb_129
theorem d_X1_weigh_26 : decode prog_3_method_6_code 26 = .ok (.aload_n 0, 1) := gq_14 db00a_26 eb_0
theorem d_X1_weigh_27 : decode prog_3_method_6_code 27 = .ok (.getfield 27, 3) := gq_15 db00a_26 eb_121
theorem d_X1_weigh_30 : decode prog_3_method_6_code 30 = .ok (.iload_n 3, 1) := gq_16 db00a_26 eb_29
theorem d_X1_weigh_31 : decode prog_3_method_6_code 31 = .ok (.iaload, 1) := gq_17 db00a_26 eb_37
theorem d_X1_weigh_32 : decode prog_3_method_6_code 32 = .ok (.bipush 8, 2) := gq_18 db00a_26 eb_94
theorem d_X1_weigh_34 : decode prog_3_method_6_code 34 = .ok (.ishr, 1) := gq_19 db00a_26 eb_56
theorem d_X1_weigh_35 : decode prog_3_method_6_code 35 = .ok (.iload_n 1, 1) := gq_20 db00a_26 eb_9
theorem d_X1_weigh_36 : decode prog_3_method_6_code 36 = .ok (.if_icmp .ne 134, 3) := gq_21 db00a_26 eb_130
theorem d_X1_weigh_39 : decode prog_3_method_6_code 39 = .ok (.aload_n 0, 1) := gq_22 db00a_26 eb_0
theorem d_X1_weigh_40 : decode prog_3_method_6_code 40 = .ok (.getfield 30, 3) := gq_23 db00a_26 eb_124
theorem db00a_27 : Pf_ prog_3_method_6_code [(43, [0x1d]), (44, [0x2e]), (45, [0x1c]), (46, [0xa3, 0x00, 0x7c]), (49, [0x2a]), (50, [0xb4, 0x00, 0x1b]), (53, [0x1d]), (54, [0x2e]), (55, [0x08]), (56, [0x7a]), (57, [0x10, 0x07]), (59, [0x7e]), (60, [0x36, 0x04]), (62, [0x04]), (63, [0x2a]), (64, [0xb4, 0x00, 0x1b]), (67, [0x1d]), (68, [0x2e]), (69, [0x04]), (70, [0x7a]), (71, [0x10, 0x0f]), (73, [0x7e]), (74, [0x78]), (75, [0x36, 0x05])] := pf_ok prog_3_method_6_code _ 43 (by decide +kernel)
theorem d_X1_weigh_43 : decode prog_3_method_6_code 43 = .ok (.iload_n 3, 1) := gq_0 db00a_27 eb_29
theorem d_X1_weigh_44 : decode prog_3_method_6_code 44 = .ok (.iaload, 1) := gq_1 db00a_27 eb_37
theorem d_X1_weigh_45 : decode prog_3_method_6_code 45 = .ok (.iload_n 2, 1) := gq_2 db00a_27 eb_13
theorem d_X1_weigh_46 : decode prog_3_method_6_code 46 = .ok (.if_icmp .gt 124, 3) := gq_3 db00a_27 eb_131
theorem d_X1_weigh_49 : decode prog_3_method_6_code 49 = .ok (.aload_n 0, 1) := gq_4 db00a_27 eb_0
theorem d_X1_weigh_50 : decode prog_3_method_6_code 50 = .ok (.getfield 27, 3) := gq_5 db00a_27 eb_121
theorem d_X1_weigh_53 : decode prog_3_method_6_code 53 = .ok (.iload_n 3, 1) := gq_6 db00a_27 eb_29
theorem d_X1_weigh_54 : decode prog_3_method_6_code 54 = .ok (.iaload, 1) := gq_7 db00a_27 eb_37
theorem d_X1_weigh_55 : decode prog_3_method_6_code 55 = .ok (.iconst 5, 1) := gq_8 db00a_27 eb_122
theorem d_X1_weigh_56 : decode prog_3_method_6_code 56 = .ok (.ishr, 1) := gq_9 db00a_27 eb_56
theorem d_X1_weigh_57 : decode prog_3_method_6_code 57 = .ok (.bipush 7, 2) := gq_10 db00a_27 eb_132
theorem d_X1_weigh_59 : decode prog_3_method_6_code 59 = .ok (.iand, 1) := gq_11 db00a_27 eb_55
theorem d_X1_weigh_60 : decode prog_3_method_6_code 60 = .ok (.istore 4, 2) := gq_12 db00a_27 eb_133
theorem d_X1_weigh_62 : decode prog_3_method_6_code 62 = .ok (.iconst 1, 1) := gq_13 db00a_27 eb_19
theorem d_X1_weigh_63 : decode prog_3_method_6_code 63 = .ok (.aload_n 0, 1) := gq_14 db00a_27 eb_0
theorem d_X1_weigh_64 : decode prog_3_method_6_code 64 = .ok (.getfield 27, 3) := gq_15 db00a_27 eb_121
theorem d_X1_weigh_67 : decode prog_3_method_6_code 67 = .ok (.iload_n 3, 1) := gq_16 db00a_27 eb_29
theorem d_X1_weigh_68 : decode prog_3_method_6_code 68 = .ok (.iaload, 1) := gq_17 db00a_27 eb_37
theorem d_X1_weigh_69 : decode prog_3_method_6_code 69 = .ok (.iconst 1, 1) := gq_18 db00a_27 eb_19
theorem d_X1_weigh_70 : decode prog_3_method_6_code 70 = .ok (.ishr, 1) := gq_19 db00a_27 eb_56
theorem d_X1_weigh_71 : decode prog_3_method_6_code 71 = .ok (.bipush 15, 2) := gq_20 db00a_27 eb_57
theorem d_X1_weigh_73 : decode prog_3_method_6_code 73 = .ok (.iand, 1) := gq_21 db00a_27 eb_55
theorem d_X1_weigh_74 : decode prog_3_method_6_code 74 = .ok (.ishl, 1) := gq_22 db00a_27 eb_11
theorem d_X1_weigh_75 : decode prog_3_method_6_code 75 = .ok (.istore 5, 2) := gq_23 db00a_27 eb_134
theorem db00a_28 : Pf_ prog_3_method_6_code [(77, [0x2a]), (78, [0xb4, 0x00, 0x1b]), (81, [0x1d]), (82, [0x2e]), (83, [0x04]), (84, [0x7e]), (85, [0x04]), (86, [0xa0, 0x00, 0x07]), (89, [0x04]), (90, [0xa7, 0x00, 0x04]), (93, [0x03]), (94, [0x36, 0x06]), (96, [0x2a]), (97, [0xb4, 0x00, 0x2d]), (100, [0x15, 0x04]), (102, [0x15, 0x06]), (104, [0x99, 0x00, 0x10]), (107, [0x2a]), (108, [0xb4, 0x00, 0x2d]), (111, [0x15, 0x04]), (113, [0x2e]), (114, [0x15, 0x05]), (116, [0x80]), (117, [0xa7, 0x00, 0x0f])] := pf_ok prog_3_method_6_code _ 77 (by decide +kernel)
theorem d_X1_weigh_77 : decode prog_3_method_6_code 77 = .ok (.aload_n 0, 1) := gq_0 db00a_28 eb_0
theorem d_X1_weigh_78 : decode prog_3_method_6_code 78 = .ok (.getfield 27, 3) := gq_1 db00a_28 eb_121
theorem d_X1_weigh_81 : decode prog_3_method_6_code 81 = .ok (.iload_n 3, 1) := gq_2 db00a_28 eb_29
theorem d_X1_weigh_82 : decode prog_3_method_6_code 82 = .ok (.iaload, 1) := gq_3 db00a_28 eb_37
theorem d_X1_weigh_83 : decode prog_3_method_6_code 83 = .ok (.iconst 1, 1) := gq_4 db00a_28 eb_19
theorem d_X1_weigh_84 : decode prog_3_method_6_code 84 = .ok (.iand, 1) := gq_5 db00a_28 eb_55
theorem d_X1_weigh_85 : decode prog_3_method_6_code 85 = .ok (.iconst 1, 1) := gq_6 db00a_28 eb_19
theorem d_X1_weigh_86 : decode prog_3_method_6_code 86 = .ok (.if_icmp .ne 7, 3) := gq_7 db00a_28 eb_135
theorem d_X1_weigh_89 : decode prog_3_method_6_code 89 = .ok (.iconst 1, 1) := gq_8 db00a_28 eb_19
theorem d_X1_weigh_90 : decode prog_3_method_6_code 90 = .ok (.goto 4, 3) := gq_9 db00a_28 eb_20
theorem d_X1_weigh_93 : decode prog_3_method_6_code 93 = .ok (.iconst 0, 1) := gq_10 db00a_28 eb_21
theorem d_X1_weigh_94 : decode prog_3_method_6_code 94 = .ok (.istore 6, 2) := gq_11 db00a_28 eb_58
theorem d_X1_weigh_96 : decode prog_3_method_6_code 96 = .ok (.aload_n 0, 1) := gq_12 db00a_28 eb_0
theorem d_X1_weigh_97 : decode prog_3_method_6_code 97 = .ok (.getfield 45, 3) := gq_13 db00a_28 eb_127
theorem d_X1_weigh_100 : decode prog_3_method_6_code 100 = .ok (.iload 4, 2) := gq_14 db00a_28 eb_76
theorem d_X1_weigh_102 : decode prog_3_method_6_code 102 = .ok (.iload 6, 2) := gq_15 db00a_28 eb_75
theorem d_X1_weigh_104 : decode prog_3_method_6_code 104 = .ok (.ifCond .eq 16, 3) := gq_16 db00a_28 eb_136
theorem d_X1_weigh_107 : decode prog_3_method_6_code 107 = .ok (.aload_n 0, 1) := gq_17 db00a_28 eb_0
theorem d_X1_weigh_108 : decode prog_3_method_6_code 108 = .ok (.getfield 45, 3) := gq_18 db00a_28 eb_127
theorem d_X1_weigh_111 : decode prog_3_method_6_code 111 = .ok (.iload 4, 2) := gq_19 db00a_28 eb_76
theorem d_X1_weigh_113 : decode prog_3_method_6_code 113 = .ok (.iaload, 1) := gq_20 db00a_28 eb_37
theorem d_X1_weigh_114 : decode prog_3_method_6_code 114 = .ok (.iload 5, 2) := gq_21 db00a_28 eb_125
theorem d_X1_weigh_116 : decode prog_3_method_6_code 116 = .ok (.ior, 1) := gq_22 db00a_28 eb_12
theorem d_X1_weigh_117 : decode prog_3_method_6_code 117 = .ok (.goto 15, 3) := gq_23 db00a_28 eb_137
theorem d_X1_weigh_130 : decode prog_3_method_6_code 130 = .ok (.ixor, 1) := by decide +kernel
theorem d_X1_weigh_154 : decode prog_3_method_6_code 154 = .ok (.ixor, 1) := by decide +kernel
theorem db00a_29 : Pf_ prog_3_method_6_code [(120, [0x2a]), (121, [0xb4, 0x00, 0x2d]), (124, [0x15, 0x04]), (126, [0x2e]), (127, [0x15, 0x05]), (129, [0x02]), (131, [0x7e]), (132, [0x4f]), (133, [0x2a]), (134, [0xb4, 0x00, 0x30]), (137, [0x15, 0x04]), (139, [0x15, 0x06]), (141, [0x99, 0x00, 0x12]), (144, [0x2a]), (145, [0xb4, 0x00, 0x30]), (148, [0x15, 0x04]), (150, [0x2e]), (151, [0x15, 0x05]), (153, [0x02]), (155, [0x7e]), (156, [0xa7, 0x00, 0x0d]), (159, [0x2a]), (160, [0xb4, 0x00, 0x30]), (163, [0x15, 0x04])] := pf_ok prog_3_method_6_code _ 120 (by decide +kernel)
theorem d_X1_weigh_120 : decode prog_3_method_6_code 120 = .ok (.aload_n 0, 1) := gq_0 db00a_29 eb_0
theorem d_X1_weigh_121 : decode prog_3_method_6_code 121 = .ok (.getfield 45, 3) := gq_1 db00a_29 eb_127
theorem d_X1_weigh_124 : decode prog_3_method_6_code 124 = .ok (.iload 4, 2) := gq_2 db00a_29 eb_76
theorem d_X1_weigh_126 : decode prog_3_method_6_code 126 = .ok (.iaload, 1) := gq_3 db00a_29 eb_37
theorem d_X1_weigh_127 : decode prog_3_method_6_code 127 = .ok (.iload 5, 2) := gq_4 db00a_29 eb_125
theorem d_X1_weigh_129 : decode prog_3_method_6_code 129 = .ok (.iconst (-1), 1) := gq_5 db00a_29 eb_26
theorem d_X1_weigh_131 : decode prog_3_method_6_code 131 = .ok (.iand, 1) := gq_6 db00a_29 eb_55
theorem d_X1_weigh_132 : decode prog_3_method_6_code 132 = .ok (.iastore, 1) := gq_7 db00a_29 eb_38
theorem d_X1_weigh_133 : decode prog_3_method_6_code 133 = .ok (.aload_n 0, 1) := gq_8 db00a_29 eb_0
theorem d_X1_weigh_134 : decode prog_3_method_6_code 134 = .ok (.getfield 48, 3) := gq_9 db00a_29 eb_128
theorem d_X1_weigh_137 : decode prog_3_method_6_code 137 = .ok (.iload 4, 2) := gq_10 db00a_29 eb_76
theorem d_X1_weigh_139 : decode prog_3_method_6_code 139 = .ok (.iload 6, 2) := gq_11 db00a_29 eb_75
theorem d_X1_weigh_141 : decode prog_3_method_6_code 141 = .ok (.ifCond .eq 18, 3) := gq_12 db00a_29 eb_138
theorem d_X1_weigh_144 : decode prog_3_method_6_code 144 = .ok (.aload_n 0, 1) := gq_13 db00a_29 eb_0
theorem d_X1_weigh_145 : decode prog_3_method_6_code 145 = .ok (.getfield 48, 3) := gq_14 db00a_29 eb_128
theorem d_X1_weigh_148 : decode prog_3_method_6_code 148 = .ok (.iload 4, 2) := gq_15 db00a_29 eb_76
theorem d_X1_weigh_150 : decode prog_3_method_6_code 150 = .ok (.iaload, 1) := gq_16 db00a_29 eb_37
theorem d_X1_weigh_151 : decode prog_3_method_6_code 151 = .ok (.iload 5, 2) := gq_17 db00a_29 eb_125
theorem d_X1_weigh_153 : decode prog_3_method_6_code 153 = .ok (.iconst (-1), 1) := gq_18 db00a_29 eb_26
theorem d_X1_weigh_155 : decode prog_3_method_6_code 155 = .ok (.iand, 1) := gq_19 db00a_29 eb_55
theorem d_X1_weigh_156 : decode prog_3_method_6_code 156 = .ok (.goto 13, 3) := gq_20 db00a_29 eb_139
theorem d_X1_weigh_159 : decode prog_3_method_6_code 159 = .ok (.aload_n 0, 1) := gq_21 db00a_29 eb_0
theorem d_X1_weigh_160 : decode prog_3_method_6_code 160 = .ok (.getfield 48, 3) := gq_22 db00a_29 eb_128
theorem d_X1_weigh_163 : decode prog_3_method_6_code 163 = .ok (.iload 4, 2) := gq_23 db00a_29 eb_76
theorem db00a_30 : Pf_ prog_3_method_6_code [(165, [0x2e]), (166, [0x15, 0x05]), (168, [0x80]), (169, [0x4f]), (170, [0x84, 0x03, 0x01]), (173, [0xa7, 0xff, 0x65]), (176, [0x2a]), (177, [0x1c]), (178, [0xb6, 0x00, 0x4b]), (181, [0x3e]), (182, [0x03]), (183, [0x36, 0x04]), (185, [0x15, 0x04]), (187, [0x10, 0x08]), (189, [0xa2, 0x00, 0x1f]), (192, [0x2a]), (193, [0xb4, 0x00, 0x2d]), (196, [0x15, 0x04]), (198, [0x5c]), (199, [0x2e]), (200, [0x1d]), (201, [0x7e]), (202, [0x4f]), (203, [0x2a])] := pf_ok prog_3_method_6_code _ 165 (by decide +kernel)
theorem d_X1_weigh_165 : decode prog_3_method_6_code 165 = .ok (.iaload, 1) := gq_0 db00a_30 eb_37
theorem d_X1_weigh_166 : decode prog_3_method_6_code 166 = .ok (.iload 5, 2) := gq_1 db00a_30 eb_125
theorem d_X1_weigh_168 : decode prog_3_method_6_code 168 = .ok (.ior, 1) := gq_2 db00a_30 eb_12
theorem d_X1_weigh_169 : decode prog_3_method_6_code 169 = .ok (.iastore, 1) := gq_3 db00a_30 eb_38
theorem d_X1_weigh_170 : decode prog_3_method_6_code 170 = .ok (.iinc 3 1, 3) := gq_4 db00a_30 eb_42
theorem d_X1_weigh_173 : decode prog_3_method_6_code 173 = .ok (.goto (-155), 3) := gq_5 db00a_30 eb_140
theorem d_X1_weigh_176 : decode prog_3_method_6_code 176 = .ok (.aload_n 0, 1) := gq_6 db00a_30 eb_0
theorem d_X1_weigh_177 : decode prog_3_method_6_code 177 = .ok (.iload_n 2, 1) := gq_7 db00a_30 eb_13
theorem d_X1_weigh_178 : decode prog_3_method_6_code 178 = .ok (.invokevirtual 75, 3) := gq_8 db00a_30 eb_141
theorem d_X1_weigh_181 : decode prog_3_method_6_code 181 = .ok (.istore_n 3, 1) := gq_9 db00a_30 eb_28
theorem d_X1_weigh_182 : decode prog_3_method_6_code 182 = .ok (.iconst 0, 1) := gq_10 db00a_30 eb_21
theorem d_X1_weigh_183 : decode prog_3_method_6_code 183 = .ok (.istore 4, 2) := gq_11 db00a_30 eb_133
theorem d_X1_weigh_185 : decode prog_3_method_6_code 185 = .ok (.iload 4, 2) := gq_12 db00a_30 eb_76
theorem d_X1_weigh_187 : decode prog_3_method_6_code 187 = .ok (.bipush 8, 2) := gq_13 db00a_30 eb_94
theorem d_X1_weigh_189 : decode prog_3_method_6_code 189 = .ok (.if_icmp .ge 31, 3) := gq_14 db00a_30 eb_142
theorem d_X1_weigh_192 : decode prog_3_method_6_code 192 = .ok (.aload_n 0, 1) := gq_15 db00a_30 eb_0
theorem d_X1_weigh_193 : decode prog_3_method_6_code 193 = .ok (.getfield 45, 3) := gq_16 db00a_30 eb_127
theorem d_X1_weigh_196 : decode prog_3_method_6_code 196 = .ok (.iload 4, 2) := gq_17 db00a_30 eb_76
theorem d_X1_weigh_198 : decode prog_3_method_6_code 198 = .ok (.dup2, 1) := gq_18 db00a_30 eb_143
theorem d_X1_weigh_199 : decode prog_3_method_6_code 199 = .ok (.iaload, 1) := gq_19 db00a_30 eb_37
theorem d_X1_weigh_200 : decode prog_3_method_6_code 200 = .ok (.iload_n 3, 1) := gq_20 db00a_30 eb_29
theorem d_X1_weigh_201 : decode prog_3_method_6_code 201 = .ok (.iand, 1) := gq_21 db00a_30 eb_55
theorem d_X1_weigh_202 : decode prog_3_method_6_code 202 = .ok (.iastore, 1) := gq_22 db00a_30 eb_38
theorem d_X1_weigh_203 : decode prog_3_method_6_code 203 = .ok (.aload_n 0, 1) := gq_23 db00a_30 eb_0
theorem db00a_31 : Pf_ prog_3_method_6_code [(204, [0xb4, 0x00, 0x30]), (207, [0x15, 0x04]), (209, [0x5c]), (210, [0x2e]), (211, [0x1d]), (212, [0x7e]), (213, [0x4f]), (214, [0x84, 0x04, 0x01]), (217, [0xa7, 0xff, 0xe0]), (220, [0xb1])] := pf_ok prog_3_method_6_code _ 204 (by decide +kernel)
theorem d_X1_weigh_204 : decode prog_3_method_6_code 204 = .ok (.getfield 48, 3) := gq_0 db00a_31 eb_128
theorem d_X1_weigh_207 : decode prog_3_method_6_code 207 = .ok (.iload 4, 2) := gq_1 db00a_31 eb_76
theorem d_X1_weigh_209 : decode prog_3_method_6_code 209 = .ok (.dup2, 1) := gq_2 db00a_31 eb_143
theorem d_X1_weigh_210 : decode prog_3_method_6_code 210 = .ok (.iaload, 1) := gq_3 db00a_31 eb_37
theorem d_X1_weigh_211 : decode prog_3_method_6_code 211 = .ok (.iload_n 3, 1) := gq_4 db00a_31 eb_29
theorem d_X1_weigh_212 : decode prog_3_method_6_code 212 = .ok (.iand, 1) := gq_5 db00a_31 eb_55
theorem d_X1_weigh_213 : decode prog_3_method_6_code 213 = .ok (.iastore, 1) := gq_6 db00a_31 eb_38
theorem d_X1_weigh_214 : decode prog_3_method_6_code 214 = .ok (.iinc 4 1, 3) := gq_7 db00a_31 eb_144
theorem d_X1_weigh_217 : decode prog_3_method_6_code 217 = .ok (.goto (-32), 3) := gq_8 db00a_31 eb_145
theorem d_X1_weigh_220 : decode prog_3_method_6_code 220 = .ok (.return_, 1) := gq_9 db00a_31 eb_7
theorem db00a_32 : Pf_ prog_3_method_7_code [(0, [0x03]), (1, [0x3d]), (2, [0x03]), (3, [0x3e]), (4, [0x1d]), (5, [0x10, 0x10]), (7, [0xa2, 0x00, 0x23]), (10, [0x2a]), (11, [0xb4, 0x00, 0x21]), (14, [0x1d]), (15, [0x2e]), (16, [0x02]), (17, [0x9f, 0x00, 0x0d]), (20, [0x2a]), (21, [0xb4, 0x00, 0x21]), (24, [0x1d]), (25, [0x2e]), (26, [0x1b]), (27, [0xa4, 0x00, 0x09]), (30, [0x1c]), (31, [0x04]), (32, [0x1d]), (33, [0x78]), (34, [0x80])] := pf_ok prog_3_method_7_code _ 0 (by decide +kernel)
theorem d_X1_stillHeard_0 : decode prog_3_method_7_code 0 = .ok (.iconst 0, 1) := gq_0 db00a_32 eb_21
theorem d_X1_stillHeard_1 : decode prog_3_method_7_code 1 = .ok (.istore_n 2, 1) := gq_1 db00a_32 eb_27
theorem d_X1_stillHeard_2 : decode prog_3_method_7_code 2 = .ok (.iconst 0, 1) := gq_2 db00a_32 eb_21
theorem d_X1_stillHeard_3 : decode prog_3_method_7_code 3 = .ok (.istore_n 3, 1) := gq_3 db00a_32 eb_28
theorem d_X1_stillHeard_4 : decode prog_3_method_7_code 4 = .ok (.iload_n 3, 1) := gq_4 db00a_32 eb_29
theorem d_X1_stillHeard_5 : decode prog_3_method_7_code 5 = .ok (.bipush 16, 2) := gq_5 db00a_32 eb_99
theorem d_X1_stillHeard_7 : decode prog_3_method_7_code 7 = .ok (.if_icmp .ge 35, 3) := gq_6 db00a_32 eb_146
theorem d_X1_stillHeard_10 : decode prog_3_method_7_code 10 = .ok (.aload_n 0, 1) := gq_7 db00a_32 eb_0
theorem d_X1_stillHeard_11 : decode prog_3_method_7_code 11 = .ok (.getfield 33, 3) := gq_8 db00a_32 eb_109
theorem d_X1_stillHeard_14 : decode prog_3_method_7_code 14 = .ok (.iload_n 3, 1) := gq_9 db00a_32 eb_29
theorem d_X1_stillHeard_15 : decode prog_3_method_7_code 15 = .ok (.iaload, 1) := gq_10 db00a_32 eb_37
theorem d_X1_stillHeard_16 : decode prog_3_method_7_code 16 = .ok (.iconst (-1), 1) := gq_11 db00a_32 eb_26
theorem d_X1_stillHeard_17 : decode prog_3_method_7_code 17 = .ok (.if_icmp .eq 13, 3) := gq_12 db00a_32 eb_147
theorem d_X1_stillHeard_20 : decode prog_3_method_7_code 20 = .ok (.aload_n 0, 1) := gq_13 db00a_32 eb_0
theorem d_X1_stillHeard_21 : decode prog_3_method_7_code 21 = .ok (.getfield 33, 3) := gq_14 db00a_32 eb_109
theorem d_X1_stillHeard_24 : decode prog_3_method_7_code 24 = .ok (.iload_n 3, 1) := gq_15 db00a_32 eb_29
theorem d_X1_stillHeard_25 : decode prog_3_method_7_code 25 = .ok (.iaload, 1) := gq_16 db00a_32 eb_37
theorem d_X1_stillHeard_26 : decode prog_3_method_7_code 26 = .ok (.iload_n 1, 1) := gq_17 db00a_32 eb_9
theorem d_X1_stillHeard_27 : decode prog_3_method_7_code 27 = .ok (.if_icmp .le 9, 3) := gq_18 db00a_32 eb_148
theorem d_X1_stillHeard_30 : decode prog_3_method_7_code 30 = .ok (.iload_n 2, 1) := gq_19 db00a_32 eb_13
theorem d_X1_stillHeard_31 : decode prog_3_method_7_code 31 = .ok (.iconst 1, 1) := gq_20 db00a_32 eb_19
theorem d_X1_stillHeard_32 : decode prog_3_method_7_code 32 = .ok (.iload_n 3, 1) := gq_21 db00a_32 eb_29
theorem d_X1_stillHeard_33 : decode prog_3_method_7_code 33 = .ok (.ishl, 1) := gq_22 db00a_32 eb_11
theorem d_X1_stillHeard_34 : decode prog_3_method_7_code 34 = .ok (.ior, 1) := gq_23 db00a_32 eb_12
theorem db00a_33 : Pf_ prog_3_method_7_code [(35, [0x3d]), (36, [0x84, 0x03, 0x01]), (39, [0xa7, 0xff, 0xdd]), (42, [0x1c]), (43, [0xac])] := pf_ok prog_3_method_7_code _ 35 (by decide +kernel)
theorem d_X1_stillHeard_35 : decode prog_3_method_7_code 35 = .ok (.istore_n 2, 1) := gq_0 db00a_33 eb_27
theorem d_X1_stillHeard_36 : decode prog_3_method_7_code 36 = .ok (.iinc 3 1, 3) := gq_1 db00a_33 eb_42
theorem d_X1_stillHeard_39 : decode prog_3_method_7_code 39 = .ok (.goto (-35), 3) := gq_2 db00a_33 eb_149
theorem d_X1_stillHeard_42 : decode prog_3_method_7_code 42 = .ok (.iload_n 2, 1) := gq_3 db00a_33 eb_13
theorem d_X1_stillHeard_43 : decode prog_3_method_7_code 43 = .ok (.ireturn, 1) := gq_4 db00a_33 eb_15
theorem db00a_34 : Pf_ prog_3_method_8_code [(0, [0x1b]), (1, [0x03]), (2, [0x10, 0x07]), (4, [0xb8, 0x00, 0x47]), (7, [0x9a, 0x00, 0x05]), (10, [0x02]), (11, [0xac]), (12, [0x2a]), (13, [0xb4, 0x00, 0x2d]), (16, [0x1b]), (17, [0x2e]), (18, [0xb8, 0x00, 0x4f]), (21, [0x3d]), (22, [0x2a]), (23, [0xb4, 0x00, 0x30]), (26, [0x1b]), (27, [0x2e]), (28, [0xb8, 0x00, 0x4f]), (31, [0x3e]), (32, [0x1c]), (33, [0x9e, 0x00, 0x09]), (36, [0x1d]), (37, [0x9e, 0x00, 0x05]), (40, [0x06])] := pf_ok prog_3_method_8_code _ 0 (by decide +kernel)
theorem d_X1_verdictOn_0 : decode prog_3_method_8_code 0 = .ok (.iload_n 1, 1) := gq_0 db00a_34 eb_9
theorem d_X1_verdictOn_1 : decode prog_3_method_8_code 1 = .ok (.iconst 0, 1) := gq_1 db00a_34 eb_21
theorem d_X1_verdictOn_2 : decode prog_3_method_8_code 2 = .ok (.bipush 7, 2) := gq_2 db00a_34 eb_132
theorem d_X1_verdictOn_4 : decode prog_3_method_8_code 4 = .ok (.invokestatic 71, 3) := gq_3 db00a_34 eb_118
theorem d_X1_verdictOn_7 : decode prog_3_method_8_code 7 = .ok (.ifCond .ne 5, 3) := gq_4 db00a_34 eb_150
theorem d_X1_verdictOn_10 : decode prog_3_method_8_code 10 = .ok (.iconst (-1), 1) := gq_5 db00a_34 eb_26
theorem d_X1_verdictOn_11 : decode prog_3_method_8_code 11 = .ok (.ireturn, 1) := gq_6 db00a_34 eb_15
theorem d_X1_verdictOn_12 : decode prog_3_method_8_code 12 = .ok (.aload_n 0, 1) := gq_7 db00a_34 eb_0
theorem d_X1_verdictOn_13 : decode prog_3_method_8_code 13 = .ok (.getfield 45, 3) := gq_8 db00a_34 eb_127
theorem d_X1_verdictOn_16 : decode prog_3_method_8_code 16 = .ok (.iload_n 1, 1) := gq_9 db00a_34 eb_9
theorem d_X1_verdictOn_17 : decode prog_3_method_8_code 17 = .ok (.iaload, 1) := gq_10 db00a_34 eb_37
theorem d_X1_verdictOn_18 : decode prog_3_method_8_code 18 = .ok (.invokestatic 79, 3) := gq_11 db00a_34 eb_151
theorem d_X1_verdictOn_21 : decode prog_3_method_8_code 21 = .ok (.istore_n 2, 1) := gq_12 db00a_34 eb_27
theorem d_X1_verdictOn_22 : decode prog_3_method_8_code 22 = .ok (.aload_n 0, 1) := gq_13 db00a_34 eb_0
theorem d_X1_verdictOn_23 : decode prog_3_method_8_code 23 = .ok (.getfield 48, 3) := gq_14 db00a_34 eb_128
theorem d_X1_verdictOn_26 : decode prog_3_method_8_code 26 = .ok (.iload_n 1, 1) := gq_15 db00a_34 eb_9
theorem d_X1_verdictOn_27 : decode prog_3_method_8_code 27 = .ok (.iaload, 1) := gq_16 db00a_34 eb_37
theorem d_X1_verdictOn_28 : decode prog_3_method_8_code 28 = .ok (.invokestatic 79, 3) := gq_17 db00a_34 eb_151
theorem d_X1_verdictOn_31 : decode prog_3_method_8_code 31 = .ok (.istore_n 3, 1) := gq_18 db00a_34 eb_28
theorem d_X1_verdictOn_32 : decode prog_3_method_8_code 32 = .ok (.iload_n 2, 1) := gq_19 db00a_34 eb_13
theorem d_X1_verdictOn_33 : decode prog_3_method_8_code 33 = .ok (.ifCond .le 9, 3) := gq_20 db00a_34 eb_152
theorem d_X1_verdictOn_36 : decode prog_3_method_8_code 36 = .ok (.iload_n 3, 1) := gq_21 db00a_34 eb_29
theorem d_X1_verdictOn_37 : decode prog_3_method_8_code 37 = .ok (.ifCond .le 5, 3) := gq_22 db00a_34 eb_153
theorem d_X1_verdictOn_40 : decode prog_3_method_8_code 40 = .ok (.iconst 3, 1) := gq_23 db00a_34 eb_54
theorem db00a_35 : Pf_ prog_3_method_8_code [(41, [0xac]), (42, [0x1c]), (43, [0x2a]), (44, [0xb4, 0x00, 0x18]), (47, [0x1b]), (48, [0x2e]), (49, [0xa1, 0x00, 0x07]), (52, [0x04]), (53, [0xa7, 0x00, 0x12]), (56, [0x1d]), (57, [0x2a]), (58, [0xb4, 0x00, 0x18]), (61, [0x1b]), (62, [0x2e]), (63, [0xa1, 0x00, 0x07]), (66, [0x05]), (67, [0xa7, 0x00, 0x04]), (70, [0x03]), (71, [0xac])] := pf_ok prog_3_method_8_code _ 41 (by decide +kernel)
theorem d_X1_verdictOn_41 : decode prog_3_method_8_code 41 = .ok (.ireturn, 1) := gq_0 db00a_35 eb_15
theorem d_X1_verdictOn_42 : decode prog_3_method_8_code 42 = .ok (.iload_n 2, 1) := gq_1 db00a_35 eb_13
theorem d_X1_verdictOn_43 : decode prog_3_method_8_code 43 = .ok (.aload_n 0, 1) := gq_2 db00a_35 eb_0
theorem d_X1_verdictOn_44 : decode prog_3_method_8_code 44 = .ok (.getfield 24, 3) := gq_3 db00a_35 eb_108
theorem d_X1_verdictOn_47 : decode prog_3_method_8_code 47 = .ok (.iload_n 1, 1) := gq_4 db00a_35 eb_9
theorem d_X1_verdictOn_48 : decode prog_3_method_8_code 48 = .ok (.iaload, 1) := gq_5 db00a_35 eb_37
theorem d_X1_verdictOn_49 : decode prog_3_method_8_code 49 = .ok (.if_icmp .lt 7, 3) := gq_6 db00a_35 eb_154
theorem d_X1_verdictOn_52 : decode prog_3_method_8_code 52 = .ok (.iconst 1, 1) := gq_7 db00a_35 eb_19
theorem d_X1_verdictOn_53 : decode prog_3_method_8_code 53 = .ok (.goto 18, 3) := gq_8 db00a_35 eb_155
theorem d_X1_verdictOn_56 : decode prog_3_method_8_code 56 = .ok (.iload_n 3, 1) := gq_9 db00a_35 eb_29
theorem d_X1_verdictOn_57 : decode prog_3_method_8_code 57 = .ok (.aload_n 0, 1) := gq_10 db00a_35 eb_0
theorem d_X1_verdictOn_58 : decode prog_3_method_8_code 58 = .ok (.getfield 24, 3) := gq_11 db00a_35 eb_108
theorem d_X1_verdictOn_61 : decode prog_3_method_8_code 61 = .ok (.iload_n 1, 1) := gq_12 db00a_35 eb_9
theorem d_X1_verdictOn_62 : decode prog_3_method_8_code 62 = .ok (.iaload, 1) := gq_13 db00a_35 eb_37
theorem d_X1_verdictOn_63 : decode prog_3_method_8_code 63 = .ok (.if_icmp .lt 7, 3) := gq_14 db00a_35 eb_154
theorem d_X1_verdictOn_66 : decode prog_3_method_8_code 66 = .ok (.iconst 2, 1) := gq_15 db00a_35 eb_10
theorem d_X1_verdictOn_67 : decode prog_3_method_8_code 67 = .ok (.goto 4, 3) := gq_16 db00a_35 eb_20
theorem d_X1_verdictOn_70 : decode prog_3_method_8_code 70 = .ok (.iconst 0, 1) := gq_17 db00a_35 eb_21
theorem d_X1_verdictOn_71 : decode prog_3_method_8_code 71 = .ok (.ireturn, 1) := gq_18 db00a_35 eb_15
theorem db00a_36 : Pf_ prog_3_method_9_code [(0, [0x03]), (1, [0x3d]), (2, [0x03]), (3, [0x3e]), (4, [0x1d]), (5, [0x10, 0x08]), (7, [0xa2, 0x00, 0x18]), (10, [0x2a]), (11, [0x1d]), (12, [0xb6, 0x00, 0x54]), (15, [0x1b]), (16, [0xa0, 0x00, 0x09]), (19, [0x1c]), (20, [0x04]), (21, [0x1d]), (22, [0x78]), (23, [0x80]), (24, [0x3d]), (25, [0x84, 0x03, 0x01]), (28, [0xa7, 0xff, 0xe8]), (31, [0x1c]), (32, [0xac])] := pf_ok prog_3_method_9_code _ 0 (by decide +kernel)
theorem d_X1_factsThatAre_0 : decode prog_3_method_9_code 0 = .ok (.iconst 0, 1) := gq_0 db00a_36 eb_21
theorem d_X1_factsThatAre_1 : decode prog_3_method_9_code 1 = .ok (.istore_n 2, 1) := gq_1 db00a_36 eb_27
theorem d_X1_factsThatAre_2 : decode prog_3_method_9_code 2 = .ok (.iconst 0, 1) := gq_2 db00a_36 eb_21
theorem d_X1_factsThatAre_3 : decode prog_3_method_9_code 3 = .ok (.istore_n 3, 1) := gq_3 db00a_36 eb_28
theorem d_X1_factsThatAre_4 : decode prog_3_method_9_code 4 = .ok (.iload_n 3, 1) := gq_4 db00a_36 eb_29
theorem d_X1_factsThatAre_5 : decode prog_3_method_9_code 5 = .ok (.bipush 8, 2) := gq_5 db00a_36 eb_94
theorem d_X1_factsThatAre_7 : decode prog_3_method_9_code 7 = .ok (.if_icmp .ge 24, 3) := gq_6 db00a_36 eb_156
theorem d_X1_factsThatAre_10 : decode prog_3_method_9_code 10 = .ok (.aload_n 0, 1) := gq_7 db00a_36 eb_0
theorem d_X1_factsThatAre_11 : decode prog_3_method_9_code 11 = .ok (.iload_n 3, 1) := gq_8 db00a_36 eb_29
theorem d_X1_factsThatAre_12 : decode prog_3_method_9_code 12 = .ok (.invokevirtual 84, 3) := gq_9 db00a_36 eb_157
theorem d_X1_factsThatAre_15 : decode prog_3_method_9_code 15 = .ok (.iload_n 1, 1) := gq_10 db00a_36 eb_9
theorem d_X1_factsThatAre_16 : decode prog_3_method_9_code 16 = .ok (.if_icmp .ne 9, 3) := gq_11 db00a_36 eb_158
theorem d_X1_factsThatAre_19 : decode prog_3_method_9_code 19 = .ok (.iload_n 2, 1) := gq_12 db00a_36 eb_13
theorem d_X1_factsThatAre_20 : decode prog_3_method_9_code 20 = .ok (.iconst 1, 1) := gq_13 db00a_36 eb_19
theorem d_X1_factsThatAre_21 : decode prog_3_method_9_code 21 = .ok (.iload_n 3, 1) := gq_14 db00a_36 eb_29
theorem d_X1_factsThatAre_22 : decode prog_3_method_9_code 22 = .ok (.ishl, 1) := gq_15 db00a_36 eb_11
theorem d_X1_factsThatAre_23 : decode prog_3_method_9_code 23 = .ok (.ior, 1) := gq_16 db00a_36 eb_12
theorem d_X1_factsThatAre_24 : decode prog_3_method_9_code 24 = .ok (.istore_n 2, 1) := gq_17 db00a_36 eb_27
theorem d_X1_factsThatAre_25 : decode prog_3_method_9_code 25 = .ok (.iinc 3 1, 3) := gq_18 db00a_36 eb_42
theorem d_X1_factsThatAre_28 : decode prog_3_method_9_code 28 = .ok (.goto (-24), 3) := gq_19 db00a_36 eb_159
theorem d_X1_factsThatAre_31 : decode prog_3_method_9_code 31 = .ok (.iload_n 2, 1) := gq_20 db00a_36 eb_13
theorem d_X1_factsThatAre_32 : decode prog_3_method_9_code 32 = .ok (.ireturn, 1) := gq_21 db00a_36 eb_15
theorem db00a_37 : Pf_ prog_3_method_10_code [(0, [0x2a]), (1, [0x1b]), (2, [0xb6, 0x00, 0x40]), (5, [0x99, 0x00, 0x25]), (8, [0x2a]), (9, [0xb4, 0x00, 0x0b]), (12, [0x1b]), (13, [0x2e]), (14, [0x03]), (15, [0x2a]), (16, [0xb4, 0x00, 0x15]), (19, [0xbe]), (20, [0x04]), (21, [0x64]), (22, [0xb8, 0x00, 0x47]), (25, [0x99, 0x00, 0x11]), (28, [0x2a]), (29, [0xb4, 0x00, 0x15]), (32, [0x2a]), (33, [0xb4, 0x00, 0x0b]), (36, [0x1b]), (37, [0x2e]), (38, [0x2e]), (39, [0xa7, 0x00, 0x04])] := pf_ok prog_3_method_10_code _ 0 (by decide +kernel)
theorem d_X1_needsOf_0 : decode prog_3_method_10_code 0 = .ok (.aload_n 0, 1) := gq_0 db00a_37 eb_0
theorem d_X1_needsOf_1 : decode prog_3_method_10_code 1 = .ok (.iload_n 1, 1) := gq_1 db00a_37 eb_9
theorem d_X1_needsOf_2 : decode prog_3_method_10_code 2 = .ok (.invokevirtual 64, 3) := gq_2 db00a_37 eb_111
theorem d_X1_needsOf_5 : decode prog_3_method_10_code 5 = .ok (.ifCond .eq 37, 3) := gq_3 db00a_37 eb_160
theorem d_X1_needsOf_8 : decode prog_3_method_10_code 8 = .ok (.aload_n 0, 1) := gq_4 db00a_37 eb_0
theorem d_X1_needsOf_9 : decode prog_3_method_10_code 9 = .ok (.getfield 11, 3) := gq_5 db00a_37 eb_32
theorem d_X1_needsOf_12 : decode prog_3_method_10_code 12 = .ok (.iload_n 1, 1) := gq_6 db00a_37 eb_9
theorem d_X1_needsOf_13 : decode prog_3_method_10_code 13 = .ok (.iaload, 1) := gq_7 db00a_37 eb_37
theorem d_X1_needsOf_14 : decode prog_3_method_10_code 14 = .ok (.iconst 0, 1) := gq_8 db00a_37 eb_21
theorem d_X1_needsOf_15 : decode prog_3_method_10_code 15 = .ok (.aload_n 0, 1) := gq_9 db00a_37 eb_0
theorem d_X1_needsOf_16 : decode prog_3_method_10_code 16 = .ok (.getfield 21, 3) := gq_10 db00a_37 eb_17
theorem d_X1_needsOf_19 : decode prog_3_method_10_code 19 = .ok (.arraylength, 1) := gq_11 db00a_37 eb_52
theorem d_X1_needsOf_20 : decode prog_3_method_10_code 20 = .ok (.iconst 1, 1) := gq_12 db00a_37 eb_19
theorem d_X1_needsOf_21 : decode prog_3_method_10_code 21 = .ok (.isub, 1) := gq_13 db00a_37 eb_48
theorem d_X1_needsOf_22 : decode prog_3_method_10_code 22 = .ok (.invokestatic 71, 3) := gq_14 db00a_37 eb_118
theorem d_X1_needsOf_25 : decode prog_3_method_10_code 25 = .ok (.ifCond .eq 17, 3) := gq_15 db00a_37 eb_112
theorem d_X1_needsOf_28 : decode prog_3_method_10_code 28 = .ok (.aload_n 0, 1) := gq_16 db00a_37 eb_0
theorem d_X1_needsOf_29 : decode prog_3_method_10_code 29 = .ok (.getfield 21, 3) := gq_17 db00a_37 eb_17
theorem d_X1_needsOf_32 : decode prog_3_method_10_code 32 = .ok (.aload_n 0, 1) := gq_18 db00a_37 eb_0
theorem d_X1_needsOf_33 : decode prog_3_method_10_code 33 = .ok (.getfield 11, 3) := gq_19 db00a_37 eb_32
theorem d_X1_needsOf_36 : decode prog_3_method_10_code 36 = .ok (.iload_n 1, 1) := gq_20 db00a_37 eb_9
theorem d_X1_needsOf_37 : decode prog_3_method_10_code 37 = .ok (.iaload, 1) := gq_21 db00a_37 eb_37
theorem d_X1_needsOf_38 : decode prog_3_method_10_code 38 = .ok (.iaload, 1) := gq_22 db00a_37 eb_37
theorem d_X1_needsOf_39 : decode prog_3_method_10_code 39 = .ok (.goto 4, 3) := gq_23 db00a_37 eb_20
theorem db00a_38 : Pf_ prog_3_method_10_code [(42, [0x03]), (43, [0xac])] := pf_ok prog_3_method_10_code _ 42 (by decide +kernel)
theorem d_X1_needsOf_42 : decode prog_3_method_10_code 42 = .ok (.iconst 0, 1) := gq_0 db00a_38 eb_21
theorem d_X1_needsOf_43 : decode prog_3_method_10_code 43 = .ok (.ireturn, 1) := gq_1 db00a_38 eb_15
theorem d_X1_lacks_11 : decode prog_3_method_11_code 11 = .ok (.ixor, 1) := by decide +kernel
theorem db00a_39 : Pf_ prog_3_method_11_code [(0, [0x2a]), (1, [0x1b]), (2, [0xb6, 0x00, 0x57]), (5, [0x2a]), (6, [0x04]), (7, [0xb6, 0x00, 0x5a]), (10, [0x02]), (12, [0x7e]), (13, [0xac])] := pf_ok prog_3_method_11_code _ 0 (by decide +kernel)
theorem d_X1_lacks_0 : decode prog_3_method_11_code 0 = .ok (.aload_n 0, 1) := gq_0 db00a_39 eb_0
theorem d_X1_lacks_1 : decode prog_3_method_11_code 1 = .ok (.iload_n 1, 1) := gq_1 db00a_39 eb_9
theorem d_X1_lacks_2 : decode prog_3_method_11_code 2 = .ok (.invokevirtual 87, 3) := gq_2 db00a_39 eb_161
theorem d_X1_lacks_5 : decode prog_3_method_11_code 5 = .ok (.aload_n 0, 1) := gq_3 db00a_39 eb_0
theorem d_X1_lacks_6 : decode prog_3_method_11_code 6 = .ok (.iconst 1, 1) := gq_4 db00a_39 eb_19
theorem d_X1_lacks_7 : decode prog_3_method_11_code 7 = .ok (.invokevirtual 90, 3) := gq_5 db00a_39 eb_162
theorem d_X1_lacks_10 : decode prog_3_method_11_code 10 = .ok (.iconst (-1), 1) := gq_6 db00a_39 eb_26
theorem d_X1_lacks_12 : decode prog_3_method_11_code 12 = .ok (.iand, 1) := gq_7 db00a_39 eb_55
theorem d_X1_lacks_13 : decode prog_3_method_11_code 13 = .ok (.ireturn, 1) := gq_8 db00a_39 eb_15
theorem db00a_40 : Pf_ prog_3_method_12_code [(0, [0x2a]), (1, [0x1b]), (2, [0xb6, 0x00, 0x57]), (5, [0x2a]), (6, [0x05]), (7, [0xb6, 0x00, 0x5a]), (10, [0x7e]), (11, [0x99, 0x00, 0x05]), (14, [0x05]), (15, [0xac]), (16, [0x2a]), (17, [0x1b]), (18, [0xb6, 0x00, 0x5d]), (21, [0x9a, 0x00, 0x07]), (24, [0x04]), (25, [0xa7, 0x00, 0x04]), (28, [0x03]), (29, [0xac])] := pf_ok prog_3_method_12_code _ 0 (by decide +kernel)
theorem d_X1_standing_0 : decode prog_3_method_12_code 0 = .ok (.aload_n 0, 1) := gq_0 db00a_40 eb_0
theorem d_X1_standing_1 : decode prog_3_method_12_code 1 = .ok (.iload_n 1, 1) := gq_1 db00a_40 eb_9
theorem d_X1_standing_2 : decode prog_3_method_12_code 2 = .ok (.invokevirtual 87, 3) := gq_2 db00a_40 eb_161
theorem d_X1_standing_5 : decode prog_3_method_12_code 5 = .ok (.aload_n 0, 1) := gq_3 db00a_40 eb_0
theorem d_X1_standing_6 : decode prog_3_method_12_code 6 = .ok (.iconst 2, 1) := gq_4 db00a_40 eb_10
theorem d_X1_standing_7 : decode prog_3_method_12_code 7 = .ok (.invokevirtual 90, 3) := gq_5 db00a_40 eb_162
theorem d_X1_standing_10 : decode prog_3_method_12_code 10 = .ok (.iand, 1) := gq_6 db00a_40 eb_55
theorem d_X1_standing_11 : decode prog_3_method_12_code 11 = .ok (.ifCond .eq 5, 3) := gq_7 db00a_40 eb_25
theorem d_X1_standing_14 : decode prog_3_method_12_code 14 = .ok (.iconst 2, 1) := gq_8 db00a_40 eb_10
theorem d_X1_standing_15 : decode prog_3_method_12_code 15 = .ok (.ireturn, 1) := gq_9 db00a_40 eb_15
theorem d_X1_standing_16 : decode prog_3_method_12_code 16 = .ok (.aload_n 0, 1) := gq_10 db00a_40 eb_0
theorem d_X1_standing_17 : decode prog_3_method_12_code 17 = .ok (.iload_n 1, 1) := gq_11 db00a_40 eb_9
theorem d_X1_standing_18 : decode prog_3_method_12_code 18 = .ok (.invokevirtual 93, 3) := gq_12 db00a_40 eb_163
theorem d_X1_standing_21 : decode prog_3_method_12_code 21 = .ok (.ifCond .ne 7, 3) := gq_13 db00a_40 eb_164
theorem d_X1_standing_24 : decode prog_3_method_12_code 24 = .ok (.iconst 1, 1) := gq_14 db00a_40 eb_19
theorem d_X1_standing_25 : decode prog_3_method_12_code 25 = .ok (.goto 4, 3) := gq_15 db00a_40 eb_20
theorem d_X1_standing_28 : decode prog_3_method_12_code 28 = .ok (.iconst 0, 1) := gq_16 db00a_40 eb_21
theorem d_X1_standing_29 : decode prog_3_method_12_code 29 = .ok (.ireturn, 1) := gq_17 db00a_40 eb_15
theorem d_X1_tell_17 : decode prog_3_method_13_code 17 = .ok (.tableswitch 70 0 4 #[35, 41, 47, 54, 61], 35) := by decide +kernel
theorem db00a_41 : Pf_ prog_3_method_13_code [(0, [0x2a]), (1, [0x1b]), (2, [0xb6, 0x00, 0x40]), (5, [0x9a, 0x00, 0x05]), (8, [0x02]), (9, [0xac]), (10, [0x2a]), (11, [0x1b]), (12, [0x1c]), (13, [0xb6, 0x00, 0x60]), (16, [0x1d]), (52, [0x2a]), (53, [0x1b]), (54, [0xb6, 0x00, 0x64]), (57, [0xac]), (58, [0x2a]), (59, [0x1b]), (60, [0xb6, 0x00, 0x5d]), (63, [0xac]), (64, [0x2a]), (65, [0xb4, 0x00, 0x0b]), (68, [0x1b]), (69, [0x2e]), (70, [0xac])] := pf_ok prog_3_method_13_code _ 0 (by decide +kernel)
theorem d_X1_tell_0 : decode prog_3_method_13_code 0 = .ok (.aload_n 0, 1) := gq_0 db00a_41 eb_0
theorem d_X1_tell_1 : decode prog_3_method_13_code 1 = .ok (.iload_n 1, 1) := gq_1 db00a_41 eb_9
theorem d_X1_tell_2 : decode prog_3_method_13_code 2 = .ok (.invokevirtual 64, 3) := gq_2 db00a_41 eb_111
theorem d_X1_tell_5 : decode prog_3_method_13_code 5 = .ok (.ifCond .ne 5, 3) := gq_3 db00a_41 eb_150
theorem d_X1_tell_8 : decode prog_3_method_13_code 8 = .ok (.iconst (-1), 1) := gq_4 db00a_41 eb_26
theorem d_X1_tell_9 : decode prog_3_method_13_code 9 = .ok (.ireturn, 1) := gq_5 db00a_41 eb_15
theorem d_X1_tell_10 : decode prog_3_method_13_code 10 = .ok (.aload_n 0, 1) := gq_6 db00a_41 eb_0
theorem d_X1_tell_11 : decode prog_3_method_13_code 11 = .ok (.iload_n 1, 1) := gq_7 db00a_41 eb_9
theorem d_X1_tell_12 : decode prog_3_method_13_code 12 = .ok (.iload_n 2, 1) := gq_8 db00a_41 eb_13
theorem d_X1_tell_13 : decode prog_3_method_13_code 13 = .ok (.invokevirtual 96, 3) := gq_9 db00a_41 eb_165
theorem d_X1_tell_16 : decode prog_3_method_13_code 16 = .ok (.iload_n 3, 1) := gq_10 db00a_41 eb_29
theorem d_X1_tell_52 : decode prog_3_method_13_code 52 = .ok (.aload_n 0, 1) := gq_11 db00a_41 eb_0
theorem d_X1_tell_53 : decode prog_3_method_13_code 53 = .ok (.iload_n 1, 1) := gq_12 db00a_41 eb_9
theorem d_X1_tell_54 : decode prog_3_method_13_code 54 = .ok (.invokevirtual 100, 3) := gq_13 db00a_41 eb_166
theorem d_X1_tell_57 : decode prog_3_method_13_code 57 = .ok (.ireturn, 1) := gq_14 db00a_41 eb_15
theorem d_X1_tell_58 : decode prog_3_method_13_code 58 = .ok (.aload_n 0, 1) := gq_15 db00a_41 eb_0
theorem d_X1_tell_59 : decode prog_3_method_13_code 59 = .ok (.iload_n 1, 1) := gq_16 db00a_41 eb_9
theorem d_X1_tell_60 : decode prog_3_method_13_code 60 = .ok (.invokevirtual 93, 3) := gq_17 db00a_41 eb_163
theorem d_X1_tell_63 : decode prog_3_method_13_code 63 = .ok (.ireturn, 1) := gq_18 db00a_41 eb_15
theorem d_X1_tell_64 : decode prog_3_method_13_code 64 = .ok (.aload_n 0, 1) := gq_19 db00a_41 eb_0
theorem d_X1_tell_65 : decode prog_3_method_13_code 65 = .ok (.getfield 11, 3) := gq_20 db00a_41 eb_32
theorem d_X1_tell_68 : decode prog_3_method_13_code 68 = .ok (.iload_n 1, 1) := gq_21 db00a_41 eb_9
theorem d_X1_tell_69 : decode prog_3_method_13_code 69 = .ok (.iaload, 1) := gq_22 db00a_41 eb_37
theorem d_X1_tell_70 : decode prog_3_method_13_code 70 = .ok (.ireturn, 1) := gq_23 db00a_41 eb_15
theorem db00a_42 : Pf_ prog_3_method_13_code [(71, [0x2a]), (72, [0xb4, 0x00, 0x0f]), (75, [0x1b]), (76, [0x2e]), (77, [0xac]), (78, [0x2a]), (79, [0x1b]), (80, [0x1c]), (81, [0x03]), (82, [0x03]), (83, [0xb6, 0x00, 0x67]), (86, [0xac]), (87, [0x02]), (88, [0xac])] := pf_ok prog_3_method_13_code _ 71 (by decide +kernel)
theorem d_X1_tell_71 : decode prog_3_method_13_code 71 = .ok (.aload_n 0, 1) := gq_0 db00a_42 eb_0
theorem d_X1_tell_72 : decode prog_3_method_13_code 72 = .ok (.getfield 15, 3) := gq_1 db00a_42 eb_44
theorem d_X1_tell_75 : decode prog_3_method_13_code 75 = .ok (.iload_n 1, 1) := gq_2 db00a_42 eb_9
theorem d_X1_tell_76 : decode prog_3_method_13_code 76 = .ok (.iaload, 1) := gq_3 db00a_42 eb_37
theorem d_X1_tell_77 : decode prog_3_method_13_code 77 = .ok (.ireturn, 1) := gq_4 db00a_42 eb_15
theorem d_X1_tell_78 : decode prog_3_method_13_code 78 = .ok (.aload_n 0, 1) := gq_5 db00a_42 eb_0
theorem d_X1_tell_79 : decode prog_3_method_13_code 79 = .ok (.iload_n 1, 1) := gq_6 db00a_42 eb_9
theorem d_X1_tell_80 : decode prog_3_method_13_code 80 = .ok (.iload_n 2, 1) := gq_7 db00a_42 eb_13
theorem d_X1_tell_81 : decode prog_3_method_13_code 81 = .ok (.iconst 0, 1) := gq_8 db00a_42 eb_21
theorem d_X1_tell_82 : decode prog_3_method_13_code 82 = .ok (.iconst 0, 1) := gq_9 db00a_42 eb_21
theorem d_X1_tell_83 : decode prog_3_method_13_code 83 = .ok (.invokevirtual 103, 3) := gq_10 db00a_42 eb_167
theorem d_X1_tell_86 : decode prog_3_method_13_code 86 = .ok (.ireturn, 1) := gq_11 db00a_42 eb_15
theorem d_X1_tell_87 : decode prog_3_method_13_code 87 = .ok (.iconst (-1), 1) := gq_12 db00a_42 eb_26
theorem d_X1_tell_88 : decode prog_3_method_13_code 88 = .ok (.ireturn, 1) := gq_13 db00a_42 eb_15
theorem db00a_43 : Pf_ prog_3_method_14_code [(0, [0x1b]), (1, [0x03]), (2, [0x10, 0x0f]), (4, [0xb8, 0x00, 0x47]), (7, [0x99, 0x00, 0x0d]), (10, [0x2a]), (11, [0xb4, 0x00, 0x21]), (14, [0x1b]), (15, [0x2e]), (16, [0x02]), (17, [0x9f, 0x00, 0x05]), (20, [0x02]), (21, [0xac]), (22, [0x03]), (23, [0x3e]), (24, [0x1d]), (25, [0x2a]), (26, [0xb4, 0x00, 0x3c]), (29, [0xa2, 0x00, 0x15]), (32, [0x2a]), (33, [0xb4, 0x00, 0x33]), (36, [0x1d]), (37, [0x2a]), (38, [0x1d])] := pf_ok prog_3_method_14_code _ 0 (by decide +kernel)
theorem d_X1_strike_0 : decode prog_3_method_14_code 0 = .ok (.iload_n 1, 1) := gq_0 db00a_43 eb_9
theorem d_X1_strike_1 : decode prog_3_method_14_code 1 = .ok (.iconst 0, 1) := gq_1 db00a_43 eb_21
theorem d_X1_strike_2 : decode prog_3_method_14_code 2 = .ok (.bipush 15, 2) := gq_2 db00a_43 eb_57
theorem d_X1_strike_4 : decode prog_3_method_14_code 4 = .ok (.invokestatic 71, 3) := gq_3 db00a_43 eb_118
theorem d_X1_strike_7 : decode prog_3_method_14_code 7 = .ok (.ifCond .eq 13, 3) := gq_4 db00a_43 eb_119
theorem d_X1_strike_10 : decode prog_3_method_14_code 10 = .ok (.aload_n 0, 1) := gq_5 db00a_43 eb_0
theorem d_X1_strike_11 : decode prog_3_method_14_code 11 = .ok (.getfield 33, 3) := gq_6 db00a_43 eb_109
theorem d_X1_strike_14 : decode prog_3_method_14_code 14 = .ok (.iload_n 1, 1) := gq_7 db00a_43 eb_9
theorem d_X1_strike_15 : decode prog_3_method_14_code 15 = .ok (.iaload, 1) := gq_8 db00a_43 eb_37
theorem d_X1_strike_16 : decode prog_3_method_14_code 16 = .ok (.iconst (-1), 1) := gq_9 db00a_43 eb_26
theorem d_X1_strike_17 : decode prog_3_method_14_code 17 = .ok (.if_icmp .eq 5, 3) := gq_10 db00a_43 eb_120
theorem d_X1_strike_20 : decode prog_3_method_14_code 20 = .ok (.iconst (-1), 1) := gq_11 db00a_43 eb_26
theorem d_X1_strike_21 : decode prog_3_method_14_code 21 = .ok (.ireturn, 1) := gq_12 db00a_43 eb_15
theorem d_X1_strike_22 : decode prog_3_method_14_code 22 = .ok (.iconst 0, 1) := gq_13 db00a_43 eb_21
theorem d_X1_strike_23 : decode prog_3_method_14_code 23 = .ok (.istore_n 3, 1) := gq_14 db00a_43 eb_28
theorem d_X1_strike_24 : decode prog_3_method_14_code 24 = .ok (.iload_n 3, 1) := gq_15 db00a_43 eb_29
theorem d_X1_strike_25 : decode prog_3_method_14_code 25 = .ok (.aload_n 0, 1) := gq_16 db00a_43 eb_0
theorem d_X1_strike_26 : decode prog_3_method_14_code 26 = .ok (.getfield 60, 3) := gq_17 db00a_43 eb_110
theorem d_X1_strike_29 : decode prog_3_method_14_code 29 = .ok (.if_icmp .ge 21, 3) := gq_18 db00a_43 eb_168
theorem d_X1_strike_32 : decode prog_3_method_14_code 32 = .ok (.aload_n 0, 1) := gq_19 db00a_43 eb_0
theorem d_X1_strike_33 : decode prog_3_method_14_code 33 = .ok (.getfield 51, 3) := gq_20 db00a_43 eb_169
theorem d_X1_strike_36 : decode prog_3_method_14_code 36 = .ok (.iload_n 3, 1) := gq_21 db00a_43 eb_29
theorem d_X1_strike_37 : decode prog_3_method_14_code 37 = .ok (.aload_n 0, 1) := gq_22 db00a_43 eb_0
theorem d_X1_strike_38 : decode prog_3_method_14_code 38 = .ok (.iload_n 3, 1) := gq_23 db00a_43 eb_29
theorem db00a_44 : Pf_ prog_3_method_14_code [(39, [0x1c]), (40, [0xb6, 0x00, 0x6b]), (43, [0x4f]), (44, [0x84, 0x03, 0x01]), (47, [0xa7, 0xff, 0xe9]), (50, [0x2a]), (51, [0xb4, 0x00, 0x21]), (54, [0x1b]), (55, [0x1c]), (56, [0x4f]), (57, [0x03]), (58, [0x3e]), (59, [0x03]), (60, [0x36, 0x04]), (62, [0x15, 0x04]), (64, [0x2a]), (65, [0xb4, 0x00, 0x3c]), (68, [0xa2, 0x00, 0x1d]), (71, [0x2a]), (72, [0xb4, 0x00, 0x33]), (75, [0x15, 0x04]), (77, [0x2e]), (78, [0x2a]), (79, [0x15, 0x04])] := pf_ok prog_3_method_14_code _ 39 (by decide +kernel)
theorem d_X1_strike_39 : decode prog_3_method_14_code 39 = .ok (.iload_n 2, 1) := gq_0 db00a_44 eb_13
theorem d_X1_strike_40 : decode prog_3_method_14_code 40 = .ok (.invokevirtual 107, 3) := gq_1 db00a_44 eb_170
theorem d_X1_strike_43 : decode prog_3_method_14_code 43 = .ok (.iastore, 1) := gq_2 db00a_44 eb_38
theorem d_X1_strike_44 : decode prog_3_method_14_code 44 = .ok (.iinc 3 1, 3) := gq_3 db00a_44 eb_42
theorem d_X1_strike_47 : decode prog_3_method_14_code 47 = .ok (.goto (-23), 3) := gq_4 db00a_44 eb_171
theorem d_X1_strike_50 : decode prog_3_method_14_code 50 = .ok (.aload_n 0, 1) := gq_5 db00a_44 eb_0
theorem d_X1_strike_51 : decode prog_3_method_14_code 51 = .ok (.getfield 33, 3) := gq_6 db00a_44 eb_109
theorem d_X1_strike_54 : decode prog_3_method_14_code 54 = .ok (.iload_n 1, 1) := gq_7 db00a_44 eb_9
theorem d_X1_strike_55 : decode prog_3_method_14_code 55 = .ok (.iload_n 2, 1) := gq_8 db00a_44 eb_13
theorem d_X1_strike_56 : decode prog_3_method_14_code 56 = .ok (.iastore, 1) := gq_9 db00a_44 eb_38
theorem d_X1_strike_57 : decode prog_3_method_14_code 57 = .ok (.iconst 0, 1) := gq_10 db00a_44 eb_21
theorem d_X1_strike_58 : decode prog_3_method_14_code 58 = .ok (.istore_n 3, 1) := gq_11 db00a_44 eb_28
theorem d_X1_strike_59 : decode prog_3_method_14_code 59 = .ok (.iconst 0, 1) := gq_12 db00a_44 eb_21
theorem d_X1_strike_60 : decode prog_3_method_14_code 60 = .ok (.istore 4, 2) := gq_13 db00a_44 eb_133
theorem d_X1_strike_62 : decode prog_3_method_14_code 62 = .ok (.iload 4, 2) := gq_14 db00a_44 eb_76
theorem d_X1_strike_64 : decode prog_3_method_14_code 64 = .ok (.aload_n 0, 1) := gq_15 db00a_44 eb_0
theorem d_X1_strike_65 : decode prog_3_method_14_code 65 = .ok (.getfield 60, 3) := gq_16 db00a_44 eb_110
theorem d_X1_strike_68 : decode prog_3_method_14_code 68 = .ok (.if_icmp .ge 29, 3) := gq_17 db00a_44 eb_172
theorem d_X1_strike_71 : decode prog_3_method_14_code 71 = .ok (.aload_n 0, 1) := gq_18 db00a_44 eb_0
theorem d_X1_strike_72 : decode prog_3_method_14_code 72 = .ok (.getfield 51, 3) := gq_19 db00a_44 eb_169
theorem d_X1_strike_75 : decode prog_3_method_14_code 75 = .ok (.iload 4, 2) := gq_20 db00a_44 eb_76
theorem d_X1_strike_77 : decode prog_3_method_14_code 77 = .ok (.iaload, 1) := gq_21 db00a_44 eb_37
theorem d_X1_strike_78 : decode prog_3_method_14_code 78 = .ok (.aload_n 0, 1) := gq_22 db00a_44 eb_0
theorem d_X1_strike_79 : decode prog_3_method_14_code 79 = .ok (.iload 4, 2) := gq_23 db00a_44 eb_76
theorem db00a_45 : Pf_ prog_3_method_14_code [(81, [0x1c]), (82, [0xb6, 0x00, 0x6b]), (85, [0x9f, 0x00, 0x06]), (88, [0x84, 0x03, 0x01]), (91, [0x84, 0x04, 0x01]), (94, [0xa7, 0xff, 0xe0]), (97, [0x1d]), (98, [0xac])] := pf_ok prog_3_method_14_code _ 81 (by decide +kernel)
theorem d_X1_strike_81 : decode prog_3_method_14_code 81 = .ok (.iload_n 2, 1) := gq_0 db00a_45 eb_13
theorem d_X1_strike_82 : decode prog_3_method_14_code 82 = .ok (.invokevirtual 107, 3) := gq_1 db00a_45 eb_170
theorem d_X1_strike_85 : decode prog_3_method_14_code 85 = .ok (.if_icmp .eq 6, 3) := gq_2 db00a_45 eb_173
theorem d_X1_strike_88 : decode prog_3_method_14_code 88 = .ok (.iinc 3 1, 3) := gq_3 db00a_45 eb_42
theorem d_X1_strike_91 : decode prog_3_method_14_code 91 = .ok (.iinc 4 1, 3) := gq_4 db00a_45 eb_144
theorem d_X1_strike_94 : decode prog_3_method_14_code 94 = .ok (.goto (-32), 3) := gq_5 db00a_45 eb_145
theorem d_X1_strike_97 : decode prog_3_method_14_code 97 = .ok (.iload_n 3, 1) := gq_6 db00a_45 eb_29
theorem d_X1_strike_98 : decode prog_3_method_14_code 98 = .ok (.ireturn, 1) := gq_7 db00a_45 eb_15
theorem db00a_46 : Pf_ prog_3_method_15_code [(0, [0x2a]), (1, [0x1b]), (2, [0x1c]), (3, [0xb6, 0x00, 0x60]), (6, [0x2a]), (7, [0x1b]), (8, [0xb6, 0x00, 0x64]), (11, [0x10, 0x08]), (13, [0x78]), (14, [0x2a]), (15, [0x1b]), (16, [0xb6, 0x00, 0x5d]), (19, [0x80]), (20, [0xac])] := pf_ok prog_3_method_15_code _ 0 (by decide +kernel)
theorem d_X1_wholeStanding_0 : decode prog_3_method_15_code 0 = .ok (.aload_n 0, 1) := gq_0 db00a_46 eb_0
theorem d_X1_wholeStanding_1 : decode prog_3_method_15_code 1 = .ok (.iload_n 1, 1) := gq_1 db00a_46 eb_9
theorem d_X1_wholeStanding_2 : decode prog_3_method_15_code 2 = .ok (.iload_n 2, 1) := gq_2 db00a_46 eb_13
theorem d_X1_wholeStanding_3 : decode prog_3_method_15_code 3 = .ok (.invokevirtual 96, 3) := gq_3 db00a_46 eb_165
theorem d_X1_wholeStanding_6 : decode prog_3_method_15_code 6 = .ok (.aload_n 0, 1) := gq_4 db00a_46 eb_0
theorem d_X1_wholeStanding_7 : decode prog_3_method_15_code 7 = .ok (.iload_n 1, 1) := gq_5 db00a_46 eb_9
theorem d_X1_wholeStanding_8 : decode prog_3_method_15_code 8 = .ok (.invokevirtual 100, 3) := gq_6 db00a_46 eb_166
theorem d_X1_wholeStanding_11 : decode prog_3_method_15_code 11 = .ok (.bipush 8, 2) := gq_7 db00a_46 eb_94
theorem d_X1_wholeStanding_13 : decode prog_3_method_15_code 13 = .ok (.ishl, 1) := gq_8 db00a_46 eb_11
theorem d_X1_wholeStanding_14 : decode prog_3_method_15_code 14 = .ok (.aload_n 0, 1) := gq_9 db00a_46 eb_0
theorem d_X1_wholeStanding_15 : decode prog_3_method_15_code 15 = .ok (.iload_n 1, 1) := gq_10 db00a_46 eb_9
theorem d_X1_wholeStanding_16 : decode prog_3_method_15_code 16 = .ok (.invokevirtual 93, 3) := gq_11 db00a_46 eb_163
theorem d_X1_wholeStanding_19 : decode prog_3_method_15_code 19 = .ok (.ior, 1) := gq_12 db00a_46 eb_12
theorem d_X1_wholeStanding_20 : decode prog_3_method_15_code 20 = .ok (.ireturn, 1) := gq_13 db00a_46 eb_15
theorem db00a_47 : Pf_ prog_3_method_16_code [(0, [0x2a]), (1, [0x1b]), (2, [0xb6, 0x00, 0x40]), (5, [0x99, 0x00, 0x0e]), (8, [0x2a]), (9, [0xb4, 0x00, 0x12]), (12, [0x1b]), (13, [0x2e]), (14, [0x10, 0x06]), (16, [0xa1, 0x00, 0x05]), (19, [0x02]), (20, [0xac]), (21, [0x1b]), (22, [0x10, 0x06]), (24, [0x68]), (25, [0x2a]), (26, [0xb4, 0x00, 0x12]), (29, [0x1b]), (30, [0x2e]), (31, [0x60]), (32, [0x36, 0x05]), (34, [0x2a]), (35, [0xb4, 0x00, 0x24]), (38, [0x15, 0x05])] := pf_ok prog_3_method_16_code _ 0 (by decide +kernel)
theorem d_X1_addStory_0 : decode prog_3_method_16_code 0 = .ok (.aload_n 0, 1) := gq_0 db00a_47 eb_0
theorem d_X1_addStory_1 : decode prog_3_method_16_code 1 = .ok (.iload_n 1, 1) := gq_1 db00a_47 eb_9
theorem d_X1_addStory_2 : decode prog_3_method_16_code 2 = .ok (.invokevirtual 64, 3) := gq_2 db00a_47 eb_111
theorem d_X1_addStory_5 : decode prog_3_method_16_code 5 = .ok (.ifCond .eq 14, 3) := gq_3 db00a_47 eb_174
theorem d_X1_addStory_8 : decode prog_3_method_16_code 8 = .ok (.aload_n 0, 1) := gq_4 db00a_47 eb_0
theorem d_X1_addStory_9 : decode prog_3_method_16_code 9 = .ok (.getfield 18, 3) := gq_5 db00a_47 eb_45
theorem d_X1_addStory_12 : decode prog_3_method_16_code 12 = .ok (.iload_n 1, 1) := gq_6 db00a_47 eb_9
theorem d_X1_addStory_13 : decode prog_3_method_16_code 13 = .ok (.iaload, 1) := gq_7 db00a_47 eb_37
theorem d_X1_addStory_14 : decode prog_3_method_16_code 14 = .ok (.bipush 6, 2) := gq_8 db00a_47 eb_14
theorem d_X1_addStory_16 : decode prog_3_method_16_code 16 = .ok (.if_icmp .lt 5, 3) := gq_9 db00a_47 eb_114
theorem d_X1_addStory_19 : decode prog_3_method_16_code 19 = .ok (.iconst (-1), 1) := gq_10 db00a_47 eb_26
theorem d_X1_addStory_20 : decode prog_3_method_16_code 20 = .ok (.ireturn, 1) := gq_11 db00a_47 eb_15
theorem d_X1_addStory_21 : decode prog_3_method_16_code 21 = .ok (.iload_n 1, 1) := gq_12 db00a_47 eb_9
theorem d_X1_addStory_22 : decode prog_3_method_16_code 22 = .ok (.bipush 6, 2) := gq_13 db00a_47 eb_14
theorem d_X1_addStory_24 : decode prog_3_method_16_code 24 = .ok (.imul, 1) := gq_14 db00a_47 eb_34
theorem d_X1_addStory_25 : decode prog_3_method_16_code 25 = .ok (.aload_n 0, 1) := gq_15 db00a_47 eb_0
theorem d_X1_addStory_26 : decode prog_3_method_16_code 26 = .ok (.getfield 18, 3) := gq_16 db00a_47 eb_45
theorem d_X1_addStory_29 : decode prog_3_method_16_code 29 = .ok (.iload_n 1, 1) := gq_17 db00a_47 eb_9
theorem d_X1_addStory_30 : decode prog_3_method_16_code 30 = .ok (.iaload, 1) := gq_18 db00a_47 eb_37
theorem d_X1_addStory_31 : decode prog_3_method_16_code 31 = .ok (.iadd, 1) := gq_19 db00a_47 eb_35
theorem d_X1_addStory_32 : decode prog_3_method_16_code 32 = .ok (.istore 5, 2) := gq_20 db00a_47 eb_134
theorem d_X1_addStory_34 : decode prog_3_method_16_code 34 = .ok (.aload_n 0, 1) := gq_21 db00a_47 eb_0
theorem d_X1_addStory_35 : decode prog_3_method_16_code 35 = .ok (.getfield 36, 3) := gq_22 db00a_47 eb_175
theorem d_X1_addStory_38 : decode prog_3_method_16_code 38 = .ok (.iload 5, 2) := gq_23 db00a_47 eb_125
theorem db00a_48 : Pf_ prog_3_method_16_code [(40, [0x1c]), (41, [0x4f]), (42, [0x2a]), (43, [0xb4, 0x00, 0x27]), (46, [0x15, 0x05]), (48, [0x1d]), (49, [0x4f]), (50, [0x2a]), (51, [0xb4, 0x00, 0x2a]), (54, [0x15, 0x05]), (56, [0x15, 0x04]), (58, [0x4f]), (59, [0x2a]), (60, [0xb4, 0x00, 0x12]), (63, [0x1b]), (64, [0x5c]), (65, [0x2e]), (66, [0x04]), (67, [0x60]), (68, [0x4f]), (69, [0x2a]), (70, [0xb4, 0x00, 0x12]), (73, [0x1b]), (74, [0x2e])] := pf_ok prog_3_method_16_code _ 40 (by decide +kernel)
theorem d_X1_addStory_40 : decode prog_3_method_16_code 40 = .ok (.iload_n 2, 1) := gq_0 db00a_48 eb_13
theorem d_X1_addStory_41 : decode prog_3_method_16_code 41 = .ok (.iastore, 1) := gq_1 db00a_48 eb_38
theorem d_X1_addStory_42 : decode prog_3_method_16_code 42 = .ok (.aload_n 0, 1) := gq_2 db00a_48 eb_0
theorem d_X1_addStory_43 : decode prog_3_method_16_code 43 = .ok (.getfield 39, 3) := gq_3 db00a_48 eb_176
theorem d_X1_addStory_46 : decode prog_3_method_16_code 46 = .ok (.iload 5, 2) := gq_4 db00a_48 eb_125
theorem d_X1_addStory_48 : decode prog_3_method_16_code 48 = .ok (.iload_n 3, 1) := gq_5 db00a_48 eb_29
theorem d_X1_addStory_49 : decode prog_3_method_16_code 49 = .ok (.iastore, 1) := gq_6 db00a_48 eb_38
theorem d_X1_addStory_50 : decode prog_3_method_16_code 50 = .ok (.aload_n 0, 1) := gq_7 db00a_48 eb_0
theorem d_X1_addStory_51 : decode prog_3_method_16_code 51 = .ok (.getfield 42, 3) := gq_8 db00a_48 eb_177
theorem d_X1_addStory_54 : decode prog_3_method_16_code 54 = .ok (.iload 5, 2) := gq_9 db00a_48 eb_125
theorem d_X1_addStory_56 : decode prog_3_method_16_code 56 = .ok (.iload 4, 2) := gq_10 db00a_48 eb_76
theorem d_X1_addStory_58 : decode prog_3_method_16_code 58 = .ok (.iastore, 1) := gq_11 db00a_48 eb_38
theorem d_X1_addStory_59 : decode prog_3_method_16_code 59 = .ok (.aload_n 0, 1) := gq_12 db00a_48 eb_0
theorem d_X1_addStory_60 : decode prog_3_method_16_code 60 = .ok (.getfield 18, 3) := gq_13 db00a_48 eb_45
theorem d_X1_addStory_63 : decode prog_3_method_16_code 63 = .ok (.iload_n 1, 1) := gq_14 db00a_48 eb_9
theorem d_X1_addStory_64 : decode prog_3_method_16_code 64 = .ok (.dup2, 1) := gq_15 db00a_48 eb_143
theorem d_X1_addStory_65 : decode prog_3_method_16_code 65 = .ok (.iaload, 1) := gq_16 db00a_48 eb_37
theorem d_X1_addStory_66 : decode prog_3_method_16_code 66 = .ok (.iconst 1, 1) := gq_17 db00a_48 eb_19
theorem d_X1_addStory_67 : decode prog_3_method_16_code 67 = .ok (.iadd, 1) := gq_18 db00a_48 eb_35
theorem d_X1_addStory_68 : decode prog_3_method_16_code 68 = .ok (.iastore, 1) := gq_19 db00a_48 eb_38
theorem d_X1_addStory_69 : decode prog_3_method_16_code 69 = .ok (.aload_n 0, 1) := gq_20 db00a_48 eb_0
theorem d_X1_addStory_70 : decode prog_3_method_16_code 70 = .ok (.getfield 18, 3) := gq_21 db00a_48 eb_45
theorem d_X1_addStory_73 : decode prog_3_method_16_code 73 = .ok (.iload_n 1, 1) := gq_22 db00a_48 eb_9
theorem d_X1_addStory_74 : decode prog_3_method_16_code 74 = .ok (.iaload, 1) := gq_23 db00a_48 eb_37
theorem db00a_49 : Pf_ prog_3_method_16_code [(75, [0x04]), (76, [0x64]), (77, [0xac])] := pf_ok prog_3_method_16_code _ 75 (by decide +kernel)
theorem d_X1_addStory_75 : decode prog_3_method_16_code 75 = .ok (.iconst 1, 1) := gq_0 db00a_49 eb_19
theorem d_X1_addStory_76 : decode prog_3_method_16_code 76 = .ok (.isub, 1) := gq_1 db00a_49 eb_48
theorem d_X1_addStory_77 : decode prog_3_method_16_code 77 = .ok (.ireturn, 1) := gq_2 db00a_49 eb_15
theorem db00a_50 : Pf_ prog_3_method_17_code [(0, [0x2a]), (1, [0x05]), (2, [0xb6, 0x00, 0x5a]), (5, [0x36, 0x05]), (7, [0x2a]), (8, [0x04]), (9, [0xb6, 0x00, 0x5a]), (12, [0x36, 0x06]), (14, [0x03]), (15, [0x36, 0x07]), (17, [0x03]), (18, [0x36, 0x08]), (20, [0x15, 0x08]), (22, [0x2a]), (23, [0xb4, 0x00, 0x12]), (26, [0x1b]), (27, [0x2e]), (28, [0xa2, 0x00, 0x66]), (31, [0x1b]), (32, [0x10, 0x06]), (34, [0x68]), (35, [0x15, 0x08]), (37, [0x60]), (38, [0x36, 0x09])] := pf_ok prog_3_method_17_code _ 0 (by decide +kernel)
theorem d_X1_countStories_0 : decode prog_3_method_17_code 0 = .ok (.aload_n 0, 1) := gq_0 db00a_50 eb_0
theorem d_X1_countStories_1 : decode prog_3_method_17_code 1 = .ok (.iconst 2, 1) := gq_1 db00a_50 eb_10
theorem d_X1_countStories_2 : decode prog_3_method_17_code 2 = .ok (.invokevirtual 90, 3) := gq_2 db00a_50 eb_162
theorem d_X1_countStories_5 : decode prog_3_method_17_code 5 = .ok (.istore 5, 2) := gq_3 db00a_50 eb_134
theorem d_X1_countStories_7 : decode prog_3_method_17_code 7 = .ok (.aload_n 0, 1) := gq_4 db00a_50 eb_0
theorem d_X1_countStories_8 : decode prog_3_method_17_code 8 = .ok (.iconst 1, 1) := gq_5 db00a_50 eb_19
theorem d_X1_countStories_9 : decode prog_3_method_17_code 9 = .ok (.invokevirtual 90, 3) := gq_6 db00a_50 eb_162
theorem d_X1_countStories_12 : decode prog_3_method_17_code 12 = .ok (.istore 6, 2) := gq_7 db00a_50 eb_58
theorem d_X1_countStories_14 : decode prog_3_method_17_code 14 = .ok (.iconst 0, 1) := gq_8 db00a_50 eb_21
theorem d_X1_countStories_15 : decode prog_3_method_17_code 15 = .ok (.istore 7, 2) := gq_9 db00a_50 eb_59
theorem d_X1_countStories_17 : decode prog_3_method_17_code 17 = .ok (.iconst 0, 1) := gq_10 db00a_50 eb_21
theorem d_X1_countStories_18 : decode prog_3_method_17_code 18 = .ok (.istore 8, 2) := gq_11 db00a_50 eb_61
theorem d_X1_countStories_20 : decode prog_3_method_17_code 20 = .ok (.iload 8, 2) := gq_12 db00a_50 eb_64
theorem d_X1_countStories_22 : decode prog_3_method_17_code 22 = .ok (.aload_n 0, 1) := gq_13 db00a_50 eb_0
theorem d_X1_countStories_23 : decode prog_3_method_17_code 23 = .ok (.getfield 18, 3) := gq_14 db00a_50 eb_45
theorem d_X1_countStories_26 : decode prog_3_method_17_code 26 = .ok (.iload_n 1, 1) := gq_15 db00a_50 eb_9
theorem d_X1_countStories_27 : decode prog_3_method_17_code 27 = .ok (.iaload, 1) := gq_16 db00a_50 eb_37
theorem d_X1_countStories_28 : decode prog_3_method_17_code 28 = .ok (.if_icmp .ge 102, 3) := gq_17 db00a_50 eb_178
theorem d_X1_countStories_31 : decode prog_3_method_17_code 31 = .ok (.iload_n 1, 1) := gq_18 db00a_50 eb_9
theorem d_X1_countStories_32 : decode prog_3_method_17_code 32 = .ok (.bipush 6, 2) := gq_19 db00a_50 eb_14
theorem d_X1_countStories_34 : decode prog_3_method_17_code 34 = .ok (.imul, 1) := gq_20 db00a_50 eb_34
theorem d_X1_countStories_35 : decode prog_3_method_17_code 35 = .ok (.iload 8, 2) := gq_21 db00a_50 eb_64
theorem d_X1_countStories_37 : decode prog_3_method_17_code 37 = .ok (.iadd, 1) := gq_22 db00a_50 eb_35
theorem d_X1_countStories_38 : decode prog_3_method_17_code 38 = .ok (.istore 9, 2) := gq_23 db00a_50 eb_62
theorem db00a_51 : Pf_ prog_3_method_17_code [(40, [0x2a]), (41, [0xb4, 0x00, 0x24]), (44, [0x15, 0x09]), (46, [0x2e]), (47, [0x15, 0x05]), (49, [0x7e]), (50, [0x9a, 0x00, 0x14]), (53, [0x2a]), (54, [0xb4, 0x00, 0x27]), (57, [0x15, 0x09]), (59, [0x2e]), (60, [0x15, 0x06]), (62, [0x7e]), (63, [0x9a, 0x00, 0x07]), (66, [0x04]), (67, [0xa7, 0x00, 0x04]), (70, [0x03]), (71, [0x36, 0x0a]), (73, [0x15, 0x04]), (75, [0x99, 0x00, 0x0d]), (78, [0x2a]), (79, [0xb4, 0x00, 0x24]), (82, [0x15, 0x09]), (84, [0x2e])] := pf_ok prog_3_method_17_code _ 40 (by decide +kernel)
theorem d_X1_countStories_40 : decode prog_3_method_17_code 40 = .ok (.aload_n 0, 1) := gq_0 db00a_51 eb_0
theorem d_X1_countStories_41 : decode prog_3_method_17_code 41 = .ok (.getfield 36, 3) := gq_1 db00a_51 eb_175
theorem d_X1_countStories_44 : decode prog_3_method_17_code 44 = .ok (.iload 9, 2) := gq_2 db00a_51 eb_63
theorem d_X1_countStories_46 : decode prog_3_method_17_code 46 = .ok (.iaload, 1) := gq_3 db00a_51 eb_37
theorem d_X1_countStories_47 : decode prog_3_method_17_code 47 = .ok (.iload 5, 2) := gq_4 db00a_51 eb_125
theorem d_X1_countStories_49 : decode prog_3_method_17_code 49 = .ok (.iand, 1) := gq_5 db00a_51 eb_55
theorem d_X1_countStories_50 : decode prog_3_method_17_code 50 = .ok (.ifCond .ne 20, 3) := gq_6 db00a_51 eb_179
theorem d_X1_countStories_53 : decode prog_3_method_17_code 53 = .ok (.aload_n 0, 1) := gq_7 db00a_51 eb_0
theorem d_X1_countStories_54 : decode prog_3_method_17_code 54 = .ok (.getfield 39, 3) := gq_8 db00a_51 eb_176
theorem d_X1_countStories_57 : decode prog_3_method_17_code 57 = .ok (.iload 9, 2) := gq_9 db00a_51 eb_63
theorem d_X1_countStories_59 : decode prog_3_method_17_code 59 = .ok (.iaload, 1) := gq_10 db00a_51 eb_37
theorem d_X1_countStories_60 : decode prog_3_method_17_code 60 = .ok (.iload 6, 2) := gq_11 db00a_51 eb_75
theorem d_X1_countStories_62 : decode prog_3_method_17_code 62 = .ok (.iand, 1) := gq_12 db00a_51 eb_55
theorem d_X1_countStories_63 : decode prog_3_method_17_code 63 = .ok (.ifCond .ne 7, 3) := gq_13 db00a_51 eb_164
theorem d_X1_countStories_66 : decode prog_3_method_17_code 66 = .ok (.iconst 1, 1) := gq_14 db00a_51 eb_19
theorem d_X1_countStories_67 : decode prog_3_method_17_code 67 = .ok (.goto 4, 3) := gq_15 db00a_51 eb_20
theorem d_X1_countStories_70 : decode prog_3_method_17_code 70 = .ok (.iconst 0, 1) := gq_16 db00a_51 eb_21
theorem d_X1_countStories_71 : decode prog_3_method_17_code 71 = .ok (.istore 10, 2) := gq_17 db00a_51 eb_67
theorem d_X1_countStories_73 : decode prog_3_method_17_code 73 = .ok (.iload 4, 2) := gq_18 db00a_51 eb_76
theorem d_X1_countStories_75 : decode prog_3_method_17_code 75 = .ok (.ifCond .eq 13, 3) := gq_19 db00a_51 eb_119
theorem d_X1_countStories_78 : decode prog_3_method_17_code 78 = .ok (.aload_n 0, 1) := gq_20 db00a_51 eb_0
theorem d_X1_countStories_79 : decode prog_3_method_17_code 79 = .ok (.getfield 36, 3) := gq_21 db00a_51 eb_175
theorem d_X1_countStories_82 : decode prog_3_method_17_code 82 = .ok (.iload 9, 2) := gq_22 db00a_51 eb_63
theorem d_X1_countStories_84 : decode prog_3_method_17_code 84 = .ok (.iaload, 1) := gq_23 db00a_51 eb_37
theorem db00a_52 : Pf_ prog_3_method_17_code [(85, [0xa7, 0x00, 0x0a]), (88, [0x2a]), (89, [0xb4, 0x00, 0x27]), (92, [0x15, 0x09]), (94, [0x2e]), (95, [0x36, 0x0b]), (97, [0x2a]), (98, [0xb4, 0x00, 0x2a]), (101, [0x15, 0x09]), (103, [0x2e]), (104, [0x1c]), (105, [0xa3, 0x00, 0x13]), (108, [0x15, 0x0a]), (110, [0x99, 0x00, 0x0e]), (113, [0x15, 0x0b]), (115, [0x1d]), (116, [0x7e]), (117, [0x1d]), (118, [0xa0, 0x00, 0x06]), (121, [0x84, 0x07, 0x01]), (124, [0x84, 0x08, 0x01]), (127, [0xa7, 0xff, 0x95]), (130, [0x15, 0x07]), (132, [0xac])] := pf_ok prog_3_method_17_code _ 85 (by decide +kernel)
theorem d_X1_countStories_85 : decode prog_3_method_17_code 85 = .ok (.goto 10, 3) := gq_0 db00a_52 eb_180
theorem d_X1_countStories_88 : decode prog_3_method_17_code 88 = .ok (.aload_n 0, 1) := gq_1 db00a_52 eb_0
theorem d_X1_countStories_89 : decode prog_3_method_17_code 89 = .ok (.getfield 39, 3) := gq_2 db00a_52 eb_176
theorem d_X1_countStories_92 : decode prog_3_method_17_code 92 = .ok (.iload 9, 2) := gq_3 db00a_52 eb_63
theorem d_X1_countStories_94 : decode prog_3_method_17_code 94 = .ok (.iaload, 1) := gq_4 db00a_52 eb_37
theorem d_X1_countStories_95 : decode prog_3_method_17_code 95 = .ok (.istore 11, 2) := gq_5 db00a_52 eb_69
theorem d_X1_countStories_97 : decode prog_3_method_17_code 97 = .ok (.aload_n 0, 1) := gq_6 db00a_52 eb_0
theorem d_X1_countStories_98 : decode prog_3_method_17_code 98 = .ok (.getfield 42, 3) := gq_7 db00a_52 eb_177
theorem d_X1_countStories_101 : decode prog_3_method_17_code 101 = .ok (.iload 9, 2) := gq_8 db00a_52 eb_63
theorem d_X1_countStories_103 : decode prog_3_method_17_code 103 = .ok (.iaload, 1) := gq_9 db00a_52 eb_37
theorem d_X1_countStories_104 : decode prog_3_method_17_code 104 = .ok (.iload_n 2, 1) := gq_10 db00a_52 eb_13
theorem d_X1_countStories_105 : decode prog_3_method_17_code 105 = .ok (.if_icmp .gt 19, 3) := gq_11 db00a_52 eb_181
theorem d_X1_countStories_108 : decode prog_3_method_17_code 108 = .ok (.iload 10, 2) := gq_12 db00a_52 eb_68
theorem d_X1_countStories_110 : decode prog_3_method_17_code 110 = .ok (.ifCond .eq 14, 3) := gq_13 db00a_52 eb_174
theorem d_X1_countStories_113 : decode prog_3_method_17_code 113 = .ok (.iload 11, 2) := gq_14 db00a_52 eb_70
theorem d_X1_countStories_115 : decode prog_3_method_17_code 115 = .ok (.iload_n 3, 1) := gq_15 db00a_52 eb_29
theorem d_X1_countStories_116 : decode prog_3_method_17_code 116 = .ok (.iand, 1) := gq_16 db00a_52 eb_55
theorem d_X1_countStories_117 : decode prog_3_method_17_code 117 = .ok (.iload_n 3, 1) := gq_17 db00a_52 eb_29
theorem d_X1_countStories_118 : decode prog_3_method_17_code 118 = .ok (.if_icmp .ne 6, 3) := gq_18 db00a_52 eb_40
theorem d_X1_countStories_121 : decode prog_3_method_17_code 121 = .ok (.iinc 7 1, 3) := gq_19 db00a_52 eb_182
theorem d_X1_countStories_124 : decode prog_3_method_17_code 124 = .ok (.iinc 8 1, 3) := gq_20 db00a_52 eb_183
theorem d_X1_countStories_127 : decode prog_3_method_17_code 127 = .ok (.goto (-107), 3) := gq_21 db00a_52 eb_184
theorem d_X1_countStories_130 : decode prog_3_method_17_code 130 = .ok (.iload 7, 2) := gq_22 db00a_52 eb_73
theorem d_X1_countStories_132 : decode prog_3_method_17_code 132 = .ok (.ireturn, 1) := gq_23 db00a_52 eb_15
theorem db00a_53 : Pf_ prog_3_method_18_code [(0, [0x2a]), (1, [0x1b]), (2, [0xb6, 0x00, 0x40]), (5, [0x9a, 0x00, 0x05]), (8, [0x02]), (9, [0xac]), (10, [0x2a]), (11, [0x1b]), (12, [0x1c]), (13, [0xb6, 0x00, 0x60]), (16, [0x02]), (17, [0x3e]), (18, [0x03]), (19, [0x36, 0x04]), (21, [0x03]), (22, [0x36, 0x05]), (24, [0x03]), (25, [0x36, 0x06]), (27, [0x15, 0x06]), (29, [0x10, 0x08]), (31, [0xa2, 0x00, 0x6e]), (34, [0x2a]), (35, [0x15, 0x06]), (37, [0xb6, 0x00, 0x54])] := pf_ok prog_3_method_18_code _ 0 (by decide +kernel)
theorem d_X1_bestParting_0 : decode prog_3_method_18_code 0 = .ok (.aload_n 0, 1) := gq_0 db00a_53 eb_0
theorem d_X1_bestParting_1 : decode prog_3_method_18_code 1 = .ok (.iload_n 1, 1) := gq_1 db00a_53 eb_9
theorem d_X1_bestParting_2 : decode prog_3_method_18_code 2 = .ok (.invokevirtual 64, 3) := gq_2 db00a_53 eb_111
theorem d_X1_bestParting_5 : decode prog_3_method_18_code 5 = .ok (.ifCond .ne 5, 3) := gq_3 db00a_53 eb_150
theorem d_X1_bestParting_8 : decode prog_3_method_18_code 8 = .ok (.iconst (-1), 1) := gq_4 db00a_53 eb_26
theorem d_X1_bestParting_9 : decode prog_3_method_18_code 9 = .ok (.ireturn, 1) := gq_5 db00a_53 eb_15
theorem d_X1_bestParting_10 : decode prog_3_method_18_code 10 = .ok (.aload_n 0, 1) := gq_6 db00a_53 eb_0
theorem d_X1_bestParting_11 : decode prog_3_method_18_code 11 = .ok (.iload_n 1, 1) := gq_7 db00a_53 eb_9
theorem d_X1_bestParting_12 : decode prog_3_method_18_code 12 = .ok (.iload_n 2, 1) := gq_8 db00a_53 eb_13
theorem d_X1_bestParting_13 : decode prog_3_method_18_code 13 = .ok (.invokevirtual 96, 3) := gq_9 db00a_53 eb_165
theorem d_X1_bestParting_16 : decode prog_3_method_18_code 16 = .ok (.iconst (-1), 1) := gq_10 db00a_53 eb_26
theorem d_X1_bestParting_17 : decode prog_3_method_18_code 17 = .ok (.istore_n 3, 1) := gq_11 db00a_53 eb_28
theorem d_X1_bestParting_18 : decode prog_3_method_18_code 18 = .ok (.iconst 0, 1) := gq_12 db00a_53 eb_21
theorem d_X1_bestParting_19 : decode prog_3_method_18_code 19 = .ok (.istore 4, 2) := gq_13 db00a_53 eb_133
theorem d_X1_bestParting_21 : decode prog_3_method_18_code 21 = .ok (.iconst 0, 1) := gq_14 db00a_53 eb_21
theorem d_X1_bestParting_22 : decode prog_3_method_18_code 22 = .ok (.istore 5, 2) := gq_15 db00a_53 eb_134
theorem d_X1_bestParting_24 : decode prog_3_method_18_code 24 = .ok (.iconst 0, 1) := gq_16 db00a_53 eb_21
theorem d_X1_bestParting_25 : decode prog_3_method_18_code 25 = .ok (.istore 6, 2) := gq_17 db00a_53 eb_58
theorem d_X1_bestParting_27 : decode prog_3_method_18_code 27 = .ok (.iload 6, 2) := gq_18 db00a_53 eb_75
theorem d_X1_bestParting_29 : decode prog_3_method_18_code 29 = .ok (.bipush 8, 2) := gq_19 db00a_53 eb_94
theorem d_X1_bestParting_31 : decode prog_3_method_18_code 31 = .ok (.if_icmp .ge 110, 3) := gq_20 db00a_53 eb_185
theorem d_X1_bestParting_34 : decode prog_3_method_18_code 34 = .ok (.aload_n 0, 1) := gq_21 db00a_53 eb_0
theorem d_X1_bestParting_35 : decode prog_3_method_18_code 35 = .ok (.iload 6, 2) := gq_22 db00a_53 eb_75
theorem d_X1_bestParting_37 : decode prog_3_method_18_code 37 = .ok (.invokevirtual 84, 3) := gq_23 db00a_53 eb_157
theorem db00a_54 : Pf_ prog_3_method_18_code [(40, [0x36, 0x07]), (42, [0x15, 0x07]), (44, [0x04]), (45, [0x9f, 0x00, 0x5a]), (48, [0x15, 0x07]), (50, [0x05]), (51, [0xa0, 0x00, 0x06]), (54, [0xa7, 0x00, 0x51]), (57, [0x2a]), (58, [0x1b]), (59, [0x1c]), (60, [0x04]), (61, [0x15, 0x06]), (63, [0x78]), (64, [0x04]), (65, [0xb6, 0x00, 0x67]), (68, [0x36, 0x08]), (70, [0x2a]), (71, [0x1b]), (72, [0x1c]), (73, [0x04]), (74, [0x15, 0x06]), (76, [0x78]), (77, [0x03])] := pf_ok prog_3_method_18_code _ 40 (by decide +kernel)
theorem d_X1_bestParting_40 : decode prog_3_method_18_code 40 = .ok (.istore 7, 2) := gq_0 db00a_54 eb_59
theorem d_X1_bestParting_42 : decode prog_3_method_18_code 42 = .ok (.iload 7, 2) := gq_1 db00a_54 eb_73
theorem d_X1_bestParting_44 : decode prog_3_method_18_code 44 = .ok (.iconst 1, 1) := gq_2 db00a_54 eb_19
theorem d_X1_bestParting_45 : decode prog_3_method_18_code 45 = .ok (.if_icmp .eq 90, 3) := gq_3 db00a_54 eb_186
theorem d_X1_bestParting_48 : decode prog_3_method_18_code 48 = .ok (.iload 7, 2) := gq_4 db00a_54 eb_73
theorem d_X1_bestParting_50 : decode prog_3_method_18_code 50 = .ok (.iconst 2, 1) := gq_5 db00a_54 eb_10
theorem d_X1_bestParting_51 : decode prog_3_method_18_code 51 = .ok (.if_icmp .ne 6, 3) := gq_6 db00a_54 eb_40
theorem d_X1_bestParting_54 : decode prog_3_method_18_code 54 = .ok (.goto 81, 3) := gq_7 db00a_54 eb_187
theorem d_X1_bestParting_57 : decode prog_3_method_18_code 57 = .ok (.aload_n 0, 1) := gq_8 db00a_54 eb_0
theorem d_X1_bestParting_58 : decode prog_3_method_18_code 58 = .ok (.iload_n 1, 1) := gq_9 db00a_54 eb_9
theorem d_X1_bestParting_59 : decode prog_3_method_18_code 59 = .ok (.iload_n 2, 1) := gq_10 db00a_54 eb_13
theorem d_X1_bestParting_60 : decode prog_3_method_18_code 60 = .ok (.iconst 1, 1) := gq_11 db00a_54 eb_19
theorem d_X1_bestParting_61 : decode prog_3_method_18_code 61 = .ok (.iload 6, 2) := gq_12 db00a_54 eb_75
theorem d_X1_bestParting_63 : decode prog_3_method_18_code 63 = .ok (.ishl, 1) := gq_13 db00a_54 eb_11
theorem d_X1_bestParting_64 : decode prog_3_method_18_code 64 = .ok (.iconst 1, 1) := gq_14 db00a_54 eb_19
theorem d_X1_bestParting_65 : decode prog_3_method_18_code 65 = .ok (.invokevirtual 103, 3) := gq_15 db00a_54 eb_167
theorem d_X1_bestParting_68 : decode prog_3_method_18_code 68 = .ok (.istore 8, 2) := gq_16 db00a_54 eb_61
theorem d_X1_bestParting_70 : decode prog_3_method_18_code 70 = .ok (.aload_n 0, 1) := gq_17 db00a_54 eb_0
theorem d_X1_bestParting_71 : decode prog_3_method_18_code 71 = .ok (.iload_n 1, 1) := gq_18 db00a_54 eb_9
theorem d_X1_bestParting_72 : decode prog_3_method_18_code 72 = .ok (.iload_n 2, 1) := gq_19 db00a_54 eb_13
theorem d_X1_bestParting_73 : decode prog_3_method_18_code 73 = .ok (.iconst 1, 1) := gq_20 db00a_54 eb_19
theorem d_X1_bestParting_74 : decode prog_3_method_18_code 74 = .ok (.iload 6, 2) := gq_21 db00a_54 eb_75
theorem d_X1_bestParting_76 : decode prog_3_method_18_code 76 = .ok (.ishl, 1) := gq_22 db00a_54 eb_11
theorem d_X1_bestParting_77 : decode prog_3_method_18_code 77 = .ok (.iconst 0, 1) := gq_23 db00a_54 eb_21
theorem db00a_55 : Pf_ prog_3_method_18_code [(78, [0xb6, 0x00, 0x67]), (81, [0x36, 0x09]), (83, [0x15, 0x08]), (85, [0x15, 0x09]), (87, [0xb8, 0x00, 0x6f]), (90, [0x36, 0x0a]), (92, [0x15, 0x0a]), (94, [0x15, 0x04]), (96, [0xa3, 0x00, 0x19]), (99, [0x15, 0x0a]), (101, [0x9e, 0x00, 0x22]), (104, [0x15, 0x0a]), (106, [0x15, 0x04]), (108, [0xa0, 0x00, 0x1b]), (111, [0x15, 0x08]), (113, [0x15, 0x09]), (115, [0x60]), (116, [0x15, 0x05]), (118, [0xa4, 0x00, 0x11]), (121, [0x15, 0x06]), (123, [0x3e]), (124, [0x15, 0x0a]), (126, [0x36, 0x04]), (128, [0x15, 0x08])] := pf_ok prog_3_method_18_code _ 78 (by decide +kernel)
theorem d_X1_bestParting_78 : decode prog_3_method_18_code 78 = .ok (.invokevirtual 103, 3) := gq_0 db00a_55 eb_167
theorem d_X1_bestParting_81 : decode prog_3_method_18_code 81 = .ok (.istore 9, 2) := gq_1 db00a_55 eb_62
theorem d_X1_bestParting_83 : decode prog_3_method_18_code 83 = .ok (.iload 8, 2) := gq_2 db00a_55 eb_64
theorem d_X1_bestParting_85 : decode prog_3_method_18_code 85 = .ok (.iload 9, 2) := gq_3 db00a_55 eb_63
theorem d_X1_bestParting_87 : decode prog_3_method_18_code 87 = .ok (.invokestatic 111, 3) := gq_4 db00a_55 eb_188
theorem d_X1_bestParting_90 : decode prog_3_method_18_code 90 = .ok (.istore 10, 2) := gq_5 db00a_55 eb_67
theorem d_X1_bestParting_92 : decode prog_3_method_18_code 92 = .ok (.iload 10, 2) := gq_6 db00a_55 eb_68
theorem d_X1_bestParting_94 : decode prog_3_method_18_code 94 = .ok (.iload 4, 2) := gq_7 db00a_55 eb_76
theorem d_X1_bestParting_96 : decode prog_3_method_18_code 96 = .ok (.if_icmp .gt 25, 3) := gq_8 db00a_55 eb_189
theorem d_X1_bestParting_99 : decode prog_3_method_18_code 99 = .ok (.iload 10, 2) := gq_9 db00a_55 eb_68
theorem d_X1_bestParting_101 : decode prog_3_method_18_code 101 = .ok (.ifCond .le 34, 3) := gq_10 db00a_55 eb_190
theorem d_X1_bestParting_104 : decode prog_3_method_18_code 104 = .ok (.iload 10, 2) := gq_11 db00a_55 eb_68
theorem d_X1_bestParting_106 : decode prog_3_method_18_code 106 = .ok (.iload 4, 2) := gq_12 db00a_55 eb_76
theorem d_X1_bestParting_108 : decode prog_3_method_18_code 108 = .ok (.if_icmp .ne 27, 3) := gq_13 db00a_55 eb_191
theorem d_X1_bestParting_111 : decode prog_3_method_18_code 111 = .ok (.iload 8, 2) := gq_14 db00a_55 eb_64
theorem d_X1_bestParting_113 : decode prog_3_method_18_code 113 = .ok (.iload 9, 2) := gq_15 db00a_55 eb_63
theorem d_X1_bestParting_115 : decode prog_3_method_18_code 115 = .ok (.iadd, 1) := gq_16 db00a_55 eb_35
theorem d_X1_bestParting_116 : decode prog_3_method_18_code 116 = .ok (.iload 5, 2) := gq_17 db00a_55 eb_125
theorem d_X1_bestParting_118 : decode prog_3_method_18_code 118 = .ok (.if_icmp .le 17, 3) := gq_18 db00a_55 eb_192
theorem d_X1_bestParting_121 : decode prog_3_method_18_code 121 = .ok (.iload 6, 2) := gq_19 db00a_55 eb_75
theorem d_X1_bestParting_123 : decode prog_3_method_18_code 123 = .ok (.istore_n 3, 1) := gq_20 db00a_55 eb_28
theorem d_X1_bestParting_124 : decode prog_3_method_18_code 124 = .ok (.iload 10, 2) := gq_21 db00a_55 eb_68
theorem d_X1_bestParting_126 : decode prog_3_method_18_code 126 = .ok (.istore 4, 2) := gq_22 db00a_55 eb_133
theorem d_X1_bestParting_128 : decode prog_3_method_18_code 128 = .ok (.iload 8, 2) := gq_23 db00a_55 eb_64
theorem db00a_56 : Pf_ prog_3_method_18_code [(130, [0x15, 0x09]), (132, [0x60]), (133, [0x36, 0x05]), (135, [0x84, 0x06, 0x01]), (138, [0xa7, 0xff, 0x91]), (141, [0x1d]), (142, [0xac])] := pf_ok prog_3_method_18_code _ 130 (by decide +kernel)
theorem d_X1_bestParting_130 : decode prog_3_method_18_code 130 = .ok (.iload 9, 2) := gq_0 db00a_56 eb_63
theorem d_X1_bestParting_132 : decode prog_3_method_18_code 132 = .ok (.iadd, 1) := gq_1 db00a_56 eb_35
theorem d_X1_bestParting_133 : decode prog_3_method_18_code 133 = .ok (.istore 5, 2) := gq_2 db00a_56 eb_134
theorem d_X1_bestParting_135 : decode prog_3_method_18_code 135 = .ok (.iinc 6 1, 3) := gq_3 db00a_56 eb_72
theorem d_X1_bestParting_138 : decode prog_3_method_18_code 138 = .ok (.goto (-111), 3) := gq_4 db00a_56 eb_193
theorem d_X1_bestParting_141 : decode prog_3_method_18_code 141 = .ok (.iload_n 3, 1) := gq_5 db00a_56 eb_29
theorem d_X1_bestParting_142 : decode prog_3_method_18_code 142 = .ok (.ireturn, 1) := gq_6 db00a_56 eb_15
theorem db00a_57 : Pf_ prog_4_method_1_code [(0, [0x2a]), (1, [0xb7, 0x00, 0x03]), (4, [0x2a]), (5, [0x03]), (6, [0xb5, 0x00, 0x09]), (9, [0x2a]), (10, [0x02]), (11, [0xb5, 0x00, 0x0f]), (14, [0x2a]), (15, [0x02]), (16, [0xb5, 0x00, 0x12]), (19, [0x2a]), (20, [0x02]), (21, [0xb5, 0x00, 0x15]), (24, [0x2a]), (25, [0x1b]), (26, [0xb5, 0x00, 0x18]), (29, [0x2a]), (30, [0x1c]), (31, [0xb5, 0x00, 0x1b]), (34, [0x2a]), (35, [0x1d]), (36, [0xb5, 0x00, 0x1e]), (39, [0x2a])] := pf_ok prog_4_method_1_code _ 0 (by decide +kernel)
theorem d_X2_init_0 : decode prog_4_method_1_code 0 = .ok (.aload_n 0, 1) := gq_0 db00a_57 eb_0
theorem d_X2_init_1 : decode prog_4_method_1_code 1 = .ok (.invokespecial 3, 3) := gq_1 db00a_57 eb_1
theorem d_X2_init_4 : decode prog_4_method_1_code 4 = .ok (.aload_n 0, 1) := gq_2 db00a_57 eb_0
theorem d_X2_init_5 : decode prog_4_method_1_code 5 = .ok (.iconst 0, 1) := gq_3 db00a_57 eb_21
theorem d_X2_init_6 : decode prog_4_method_1_code 6 = .ok (.putfield 9, 3) := gq_4 db00a_57 eb_194
theorem d_X2_init_9 : decode prog_4_method_1_code 9 = .ok (.aload_n 0, 1) := gq_5 db00a_57 eb_0
theorem d_X2_init_10 : decode prog_4_method_1_code 10 = .ok (.iconst (-1), 1) := gq_6 db00a_57 eb_26
theorem d_X2_init_11 : decode prog_4_method_1_code 11 = .ok (.putfield 15, 3) := gq_7 db00a_57 eb_5
theorem d_X2_init_14 : decode prog_4_method_1_code 14 = .ok (.aload_n 0, 1) := gq_8 db00a_57 eb_0
theorem d_X2_init_15 : decode prog_4_method_1_code 15 = .ok (.iconst (-1), 1) := gq_9 db00a_57 eb_26
theorem d_X2_init_16 : decode prog_4_method_1_code 16 = .ok (.putfield 18, 3) := gq_10 db00a_57 eb_6
theorem d_X2_init_19 : decode prog_4_method_1_code 19 = .ok (.aload_n 0, 1) := gq_11 db00a_57 eb_0
theorem d_X2_init_20 : decode prog_4_method_1_code 20 = .ok (.iconst (-1), 1) := gq_12 db00a_57 eb_26
theorem d_X2_init_21 : decode prog_4_method_1_code 21 = .ok (.putfield 21, 3) := gq_13 db00a_57 eb_47
theorem d_X2_init_24 : decode prog_4_method_1_code 24 = .ok (.aload_n 0, 1) := gq_14 db00a_57 eb_0
theorem d_X2_init_25 : decode prog_4_method_1_code 25 = .ok (.iload_n 1, 1) := gq_15 db00a_57 eb_9
theorem d_X2_init_26 : decode prog_4_method_1_code 26 = .ok (.putfield 24, 3) := gq_16 db00a_57 eb_95
theorem d_X2_init_29 : decode prog_4_method_1_code 29 = .ok (.aload_n 0, 1) := gq_17 db00a_57 eb_0
theorem d_X2_init_30 : decode prog_4_method_1_code 30 = .ok (.iload_n 2, 1) := gq_18 db00a_57 eb_13
theorem d_X2_init_31 : decode prog_4_method_1_code 31 = .ok (.putfield 27, 3) := gq_19 db00a_57 eb_97
theorem d_X2_init_34 : decode prog_4_method_1_code 34 = .ok (.aload_n 0, 1) := gq_20 db00a_57 eb_0
theorem d_X2_init_35 : decode prog_4_method_1_code 35 = .ok (.iload_n 3, 1) := gq_21 db00a_57 eb_29
theorem d_X2_init_36 : decode prog_4_method_1_code 36 = .ok (.putfield 30, 3) := gq_22 db00a_57 eb_98
theorem d_X2_init_39 : decode prog_4_method_1_code 39 = .ok (.aload_n 0, 1) := gq_23 db00a_57 eb_0
theorem db00a_58 : Pf_ prog_4_method_1_code [(40, [0x15, 0x04]), (42, [0xb5, 0x00, 0x21]), (45, [0xb1])] := pf_ok prog_4_method_1_code _ 40 (by decide +kernel)
theorem d_X2_init_40 : decode prog_4_method_1_code 40 = .ok (.iload 4, 2) := gq_0 db00a_58 eb_76
theorem d_X2_init_42 : decode prog_4_method_1_code 42 = .ok (.putfield 33, 3) := gq_1 db00a_58 eb_100
theorem d_X2_init_45 : decode prog_4_method_1_code 45 = .ok (.return_, 1) := gq_2 db00a_58 eb_7
theorem db00a_59 : Pf_ prog_4_method_2_code [(0, [0x2a]), (1, [0xb4, 0x00, 0x24]), (4, [0x2a]), (5, [0xb4, 0x00, 0x27]), (8, [0x64]), (9, [0xac])] := pf_ok prog_4_method_2_code _ 0 (by decide +kernel)
theorem d_X2_openPoints_0 : decode prog_4_method_2_code 0 = .ok (.aload_n 0, 1) := gq_0 db00a_59 eb_0
theorem d_X2_openPoints_1 : decode prog_4_method_2_code 1 = .ok (.getfield 36, 3) := gq_1 db00a_59 eb_175
theorem d_X2_openPoints_4 : decode prog_4_method_2_code 4 = .ok (.aload_n 0, 1) := gq_2 db00a_59 eb_0
theorem d_X2_openPoints_5 : decode prog_4_method_2_code 5 = .ok (.getfield 39, 3) := gq_3 db00a_59 eb_176
theorem d_X2_openPoints_8 : decode prog_4_method_2_code 8 = .ok (.isub, 1) := gq_4 db00a_59 eb_48
theorem d_X2_openPoints_9 : decode prog_4_method_2_code 9 = .ok (.ireturn, 1) := gq_5 db00a_59 eb_15
theorem d_X3_init_7 : decode prog_5_method_1_code 7 = .ok (.newarray .int, 2) := by decide +kernel
theorem d_X3_init_15 : decode prog_5_method_1_code 15 = .ok (.newarray .int, 2) := by decide +kernel
theorem d_X3_init_33 : decode prog_5_method_1_code 33 = .ok (.newarray .int, 2) := by decide +kernel
theorem d_X3_init_42 : decode prog_5_method_1_code 42 = .ok (.newarray .int, 2) := by decide +kernel
theorem d_X3_init_51 : decode prog_5_method_1_code 51 = .ok (.newarray .boolean, 2) := by decide +kernel
theorem db00a_60 : Pf_ prog_5_method_1_code [(0, [0x2a]), (1, [0xb7, 0x00, 0x05]), (4, [0x2a]), (5, [0x10, 0x08]), (9, [0xb5, 0x00, 0x0b]), (12, [0x2a]), (13, [0x10, 0x08]), (17, [0xb5, 0x00, 0x0f]), (20, [0x2a]), (21, [0x06]), (22, [0xb5, 0x00, 0x12]), (25, [0x2a]), (26, [0x04]), (27, [0xb5, 0x00, 0x16]), (30, [0x2a]), (31, [0x10, 0x40]), (35, [0xb5, 0x00, 0x1a]), (38, [0x2a]), (39, [0x11, 0x09, 0x00]), (44, [0xb5, 0x00, 0x1d]), (47, [0x2a]), (48, [0x11, 0x09, 0x00]), (53, [0xb5, 0x00, 0x20]), (56, [0x2a])] := pf_ok prog_5_method_1_code _ 0 (by decide +kernel)
theorem d_X3_init_0 : decode prog_5_method_1_code 0 = .ok (.aload_n 0, 1) := gq_0 db00a_60 eb_0
theorem d_X3_init_1 : decode prog_5_method_1_code 1 = .ok (.invokespecial 5, 3) := gq_1 db00a_60 eb_195
theorem d_X3_init_4 : decode prog_5_method_1_code 4 = .ok (.aload_n 0, 1) := gq_2 db00a_60 eb_0
theorem d_X3_init_5 : decode prog_5_method_1_code 5 = .ok (.bipush 8, 2) := gq_3 db00a_60 eb_94
theorem d_X3_init_9 : decode prog_5_method_1_code 9 = .ok (.putfield 11, 3) := gq_4 db00a_60 eb_3
theorem d_X3_init_12 : decode prog_5_method_1_code 12 = .ok (.aload_n 0, 1) := gq_5 db00a_60 eb_0
theorem d_X3_init_13 : decode prog_5_method_1_code 13 = .ok (.bipush 8, 2) := gq_6 db00a_60 eb_94
theorem d_X3_init_17 : decode prog_5_method_1_code 17 = .ok (.putfield 15, 3) := gq_7 db00a_60 eb_5
theorem d_X3_init_20 : decode prog_5_method_1_code 20 = .ok (.aload_n 0, 1) := gq_8 db00a_60 eb_0
theorem d_X3_init_21 : decode prog_5_method_1_code 21 = .ok (.iconst 3, 1) := gq_9 db00a_60 eb_54
theorem d_X3_init_22 : decode prog_5_method_1_code 22 = .ok (.putfield 18, 3) := gq_10 db00a_60 eb_6
theorem d_X3_init_25 : decode prog_5_method_1_code 25 = .ok (.aload_n 0, 1) := gq_11 db00a_60 eb_0
theorem d_X3_init_26 : decode prog_5_method_1_code 26 = .ok (.iconst 1, 1) := gq_12 db00a_60 eb_19
theorem d_X3_init_27 : decode prog_5_method_1_code 27 = .ok (.putfield 22, 3) := gq_13 db00a_60 eb_196
theorem d_X3_init_30 : decode prog_5_method_1_code 30 = .ok (.aload_n 0, 1) := gq_14 db00a_60 eb_0
theorem d_X3_init_31 : decode prog_5_method_1_code 31 = .ok (.bipush 64, 2) := gq_15 db00a_60 eb_197
theorem d_X3_init_35 : decode prog_5_method_1_code 35 = .ok (.putfield 26, 3) := gq_16 db00a_60 eb_198
theorem d_X3_init_38 : decode prog_5_method_1_code 38 = .ok (.aload_n 0, 1) := gq_17 db00a_60 eb_0
theorem d_X3_init_39 : decode prog_5_method_1_code 39 = .ok (.sipush 2304, 3) := gq_18 db00a_60 eb_199
theorem d_X3_init_44 : decode prog_5_method_1_code 44 = .ok (.putfield 29, 3) := gq_19 db00a_60 eb_200
theorem d_X3_init_47 : decode prog_5_method_1_code 47 = .ok (.aload_n 0, 1) := gq_20 db00a_60 eb_0
theorem d_X3_init_48 : decode prog_5_method_1_code 48 = .ok (.sipush 2304, 3) := gq_21 db00a_60 eb_199
theorem d_X3_init_53 : decode prog_5_method_1_code 53 = .ok (.putfield 32, 3) := gq_22 db00a_60 eb_201
theorem d_X3_init_56 : decode prog_5_method_1_code 56 = .ok (.aload_n 0, 1) := gq_23 db00a_60 eb_0
theorem d_X3_init_59 : decode prog_5_method_1_code 59 = .ok (.newarray .int, 2) := by decide +kernel
theorem d_X3_init_67 : decode prog_5_method_1_code 67 = .ok (.newarray .int, 2) := by decide +kernel
theorem db00a_61 : Pf_ prog_5_method_1_code [(57, [0x10, 0x08]), (61, [0xb5, 0x00, 0x24]), (64, [0x2a]), (65, [0x10, 0x08]), (69, [0xb5, 0x00, 0x27]), (72, [0xb1])] := pf_ok prog_5_method_1_code _ 57 (by decide +kernel)
theorem d_X3_init_57 : decode prog_5_method_1_code 57 = .ok (.bipush 8, 2) := gq_0 db00a_61 eb_94
theorem d_X3_init_61 : decode prog_5_method_1_code 61 = .ok (.putfield 36, 3) := gq_1 db00a_61 eb_102
theorem d_X3_init_64 : decode prog_5_method_1_code 64 = .ok (.aload_n 0, 1) := gq_2 db00a_61 eb_0
theorem d_X3_init_65 : decode prog_5_method_1_code 65 = .ok (.bipush 8, 2) := gq_3 db00a_61 eb_94
theorem d_X3_init_69 : decode prog_5_method_1_code 69 = .ok (.putfield 39, 3) := gq_4 db00a_61 eb_103
theorem d_X3_init_72 : decode prog_5_method_1_code 72 = .ok (.return_, 1) := gq_5 db00a_61 eb_7
theorem db00a_62 : Pf_ prog_5_method_2_code [(0, [0x1b]), (1, [0x99, 0x00, 0x0a]), (4, [0x2a]), (5, [0xb4, 0x00, 0x2a]), (8, [0xa7, 0x00, 0x07]), (11, [0x2a]), (12, [0xb4, 0x00, 0x2d]), (15, [0x3e]), (16, [0x1d]), (17, [0x10, 0x08]), (19, [0xa1, 0x00, 0x05]), (22, [0x02]), (23, [0xac]), (24, [0x2a]), (25, [0x04]), (26, [0xb5, 0x00, 0x16]), (29, [0x1b]), (30, [0x99, 0x00, 0x17]), (33, [0x2a]), (34, [0xb4, 0x00, 0x0b]), (37, [0x1d]), (38, [0x1c]), (39, [0x4f]), (40, [0x2a])] := pf_ok prog_5_method_2_code _ 0 (by decide +kernel)
theorem d_X3_add_0 : decode prog_5_method_2_code 0 = .ok (.iload_n 1, 1) := gq_0 db00a_62 eb_9
theorem d_X3_add_1 : decode prog_5_method_2_code 1 = .ok (.ifCond .eq 10, 3) := gq_1 db00a_62 eb_202
theorem d_X3_add_4 : decode prog_5_method_2_code 4 = .ok (.aload_n 0, 1) := gq_2 db00a_62 eb_0
theorem d_X3_add_5 : decode prog_5_method_2_code 5 = .ok (.getfield 42, 3) := gq_3 db00a_62 eb_177
theorem d_X3_add_8 : decode prog_5_method_2_code 8 = .ok (.goto 7, 3) := gq_4 db00a_62 eb_203
theorem d_X3_add_11 : decode prog_5_method_2_code 11 = .ok (.aload_n 0, 1) := gq_5 db00a_62 eb_0
theorem d_X3_add_12 : decode prog_5_method_2_code 12 = .ok (.getfield 45, 3) := gq_6 db00a_62 eb_127
theorem d_X3_add_15 : decode prog_5_method_2_code 15 = .ok (.istore_n 3, 1) := gq_7 db00a_62 eb_28
theorem d_X3_add_16 : decode prog_5_method_2_code 16 = .ok (.iload_n 3, 1) := gq_8 db00a_62 eb_29
theorem d_X3_add_17 : decode prog_5_method_2_code 17 = .ok (.bipush 8, 2) := gq_9 db00a_62 eb_94
theorem d_X3_add_19 : decode prog_5_method_2_code 19 = .ok (.if_icmp .lt 5, 3) := gq_10 db00a_62 eb_114
theorem d_X3_add_22 : decode prog_5_method_2_code 22 = .ok (.iconst (-1), 1) := gq_11 db00a_62 eb_26
theorem d_X3_add_23 : decode prog_5_method_2_code 23 = .ok (.ireturn, 1) := gq_12 db00a_62 eb_15
theorem d_X3_add_24 : decode prog_5_method_2_code 24 = .ok (.aload_n 0, 1) := gq_13 db00a_62 eb_0
theorem d_X3_add_25 : decode prog_5_method_2_code 25 = .ok (.iconst 1, 1) := gq_14 db00a_62 eb_19
theorem d_X3_add_26 : decode prog_5_method_2_code 26 = .ok (.putfield 22, 3) := gq_15 db00a_62 eb_196
theorem d_X3_add_29 : decode prog_5_method_2_code 29 = .ok (.iload_n 1, 1) := gq_16 db00a_62 eb_9
theorem d_X3_add_30 : decode prog_5_method_2_code 30 = .ok (.ifCond .eq 23, 3) := gq_17 db00a_62 eb_204
theorem d_X3_add_33 : decode prog_5_method_2_code 33 = .ok (.aload_n 0, 1) := gq_18 db00a_62 eb_0
theorem d_X3_add_34 : decode prog_5_method_2_code 34 = .ok (.getfield 11, 3) := gq_19 db00a_62 eb_32
theorem d_X3_add_37 : decode prog_5_method_2_code 37 = .ok (.iload_n 3, 1) := gq_20 db00a_62 eb_29
theorem d_X3_add_38 : decode prog_5_method_2_code 38 = .ok (.iload_n 2, 1) := gq_21 db00a_62 eb_13
theorem d_X3_add_39 : decode prog_5_method_2_code 39 = .ok (.iastore, 1) := gq_22 db00a_62 eb_38
theorem d_X3_add_40 : decode prog_5_method_2_code 40 = .ok (.aload_n 0, 1) := gq_23 db00a_62 eb_0
theorem db00a_63 : Pf_ prog_5_method_2_code [(41, [0x59]), (42, [0xb4, 0x00, 0x2a]), (45, [0x04]), (46, [0x60]), (47, [0xb5, 0x00, 0x2a]), (50, [0xa7, 0x00, 0x14]), (53, [0x2a]), (54, [0xb4, 0x00, 0x0f]), (57, [0x1d]), (58, [0x1c]), (59, [0x4f]), (60, [0x2a]), (61, [0x59]), (62, [0xb4, 0x00, 0x2d]), (65, [0x04]), (66, [0x60]), (67, [0xb5, 0x00, 0x2d]), (70, [0x1d]), (71, [0xac])] := pf_ok prog_5_method_2_code _ 41 (by decide +kernel)
theorem d_X3_add_41 : decode prog_5_method_2_code 41 = .ok (.dup, 1) := gq_0 db00a_63 eb_46
theorem d_X3_add_42 : decode prog_5_method_2_code 42 = .ok (.getfield 42, 3) := gq_1 db00a_63 eb_177
theorem d_X3_add_45 : decode prog_5_method_2_code 45 = .ok (.iconst 1, 1) := gq_2 db00a_63 eb_19
theorem d_X3_add_46 : decode prog_5_method_2_code 46 = .ok (.iadd, 1) := gq_3 db00a_63 eb_35
theorem d_X3_add_47 : decode prog_5_method_2_code 47 = .ok (.putfield 42, 3) := gq_4 db00a_63 eb_104
theorem d_X3_add_50 : decode prog_5_method_2_code 50 = .ok (.goto 20, 3) := gq_5 db00a_63 eb_205
theorem d_X3_add_53 : decode prog_5_method_2_code 53 = .ok (.aload_n 0, 1) := gq_6 db00a_63 eb_0
theorem d_X3_add_54 : decode prog_5_method_2_code 54 = .ok (.getfield 15, 3) := gq_7 db00a_63 eb_44
theorem d_X3_add_57 : decode prog_5_method_2_code 57 = .ok (.iload_n 3, 1) := gq_8 db00a_63 eb_29
theorem d_X3_add_58 : decode prog_5_method_2_code 58 = .ok (.iload_n 2, 1) := gq_9 db00a_63 eb_13
theorem d_X3_add_59 : decode prog_5_method_2_code 59 = .ok (.iastore, 1) := gq_10 db00a_63 eb_38
theorem d_X3_add_60 : decode prog_5_method_2_code 60 = .ok (.aload_n 0, 1) := gq_11 db00a_63 eb_0
theorem d_X3_add_61 : decode prog_5_method_2_code 61 = .ok (.dup, 1) := gq_12 db00a_63 eb_46
theorem d_X3_add_62 : decode prog_5_method_2_code 62 = .ok (.getfield 45, 3) := gq_13 db00a_63 eb_127
theorem d_X3_add_65 : decode prog_5_method_2_code 65 = .ok (.iconst 1, 1) := gq_14 db00a_63 eb_19
theorem d_X3_add_66 : decode prog_5_method_2_code 66 = .ok (.iadd, 1) := gq_15 db00a_63 eb_35
theorem d_X3_add_67 : decode prog_5_method_2_code 67 = .ok (.putfield 45, 3) := gq_16 db00a_63 eb_105
theorem d_X3_add_70 : decode prog_5_method_2_code 70 = .ok (.iload_n 3, 1) := gq_17 db00a_63 eb_29
theorem d_X3_add_71 : decode prog_5_method_2_code 71 = .ok (.ireturn, 1) := gq_18 db00a_63 eb_15
theorem db00a_64 : Pf_ prog_5_method_3_code [(0, [0x2a]), (1, [0x1b]), (2, [0xb5, 0x00, 0x12]), (5, [0x2a]), (6, [0x04]), (7, [0xb5, 0x00, 0x16]), (10, [0x04]), (11, [0xac])] := pf_ok prog_5_method_3_code _ 0 (by decide +kernel)
theorem d_X3_setLeast_0 : decode prog_5_method_3_code 0 = .ok (.aload_n 0, 1) := gq_0 db00a_64 eb_0
theorem d_X3_setLeast_1 : decode prog_5_method_3_code 1 = .ok (.iload_n 1, 1) := gq_1 db00a_64 eb_9
theorem d_X3_setLeast_2 : decode prog_5_method_3_code 2 = .ok (.putfield 18, 3) := gq_2 db00a_64 eb_6
theorem d_X3_setLeast_5 : decode prog_5_method_3_code 5 = .ok (.aload_n 0, 1) := gq_3 db00a_64 eb_0
theorem d_X3_setLeast_6 : decode prog_5_method_3_code 6 = .ok (.iconst 1, 1) := gq_4 db00a_64 eb_19
theorem d_X3_setLeast_7 : decode prog_5_method_3_code 7 = .ok (.putfield 22, 3) := gq_5 db00a_64 eb_196
theorem d_X3_setLeast_10 : decode prog_5_method_3_code 10 = .ok (.iconst 1, 1) := gq_6 db00a_64 eb_19
theorem d_X3_setLeast_11 : decode prog_5_method_3_code 11 = .ok (.ireturn, 1) := gq_7 db00a_64 eb_15
theorem db00a_65 : Pf_ prog_5_method_4_code [(0, [0x1b]), (1, [0x9b, 0x00, 0x0f]), (4, [0x1b]), (5, [0x2a]), (6, [0xb4, 0x00, 0x2a]), (9, [0xa2, 0x00, 0x07]), (12, [0x04]), (13, [0xa7, 0x00, 0x04]), (16, [0x03]), (17, [0xac])] := pf_ok prog_5_method_4_code _ 0 (by decide +kernel)
theorem d_X3_hasLost_0 : decode prog_5_method_4_code 0 = .ok (.iload_n 1, 1) := gq_0 db00a_65 eb_9
theorem d_X3_hasLost_1 : decode prog_5_method_4_code 1 = .ok (.ifCond .lt 15, 3) := gq_1 db00a_65 eb_16
theorem d_X3_hasLost_4 : decode prog_5_method_4_code 4 = .ok (.iload_n 1, 1) := gq_2 db00a_65 eb_9
theorem d_X3_hasLost_5 : decode prog_5_method_4_code 5 = .ok (.aload_n 0, 1) := gq_3 db00a_65 eb_0
theorem d_X3_hasLost_6 : decode prog_5_method_4_code 6 = .ok (.getfield 42, 3) := gq_4 db00a_65 eb_177
theorem d_X3_hasLost_9 : decode prog_5_method_4_code 9 = .ok (.if_icmp .ge 7, 3) := gq_5 db00a_65 eb_18
theorem d_X3_hasLost_12 : decode prog_5_method_4_code 12 = .ok (.iconst 1, 1) := gq_6 db00a_65 eb_19
theorem d_X3_hasLost_13 : decode prog_5_method_4_code 13 = .ok (.goto 4, 3) := gq_7 db00a_65 eb_20
theorem d_X3_hasLost_16 : decode prog_5_method_4_code 16 = .ok (.iconst 0, 1) := gq_8 db00a_65 eb_21
theorem d_X3_hasLost_17 : decode prog_5_method_4_code 17 = .ok (.ireturn, 1) := gq_9 db00a_65 eb_15
theorem db00a_66 : Pf_ prog_5_method_5_code [(0, [0x2a]), (1, [0xb6, 0x00, 0x30]), (4, [0x2a]), (5, [0xb4, 0x00, 0x1d]), (8, [0x03]), (9, [0x2e]), (10, [0xac])] := pf_ok prog_5_method_5_code _ 0 (by decide +kernel)
theorem d_X3_bestSum_0 : decode prog_5_method_5_code 0 = .ok (.aload_n 0, 1) := gq_0 db00a_66 eb_0
theorem d_X3_bestSum_1 : decode prog_5_method_5_code 1 = .ok (.invokevirtual 48, 3) := gq_1 db00a_66 eb_206
theorem d_X3_bestSum_4 : decode prog_5_method_5_code 4 = .ok (.aload_n 0, 1) := gq_2 db00a_66 eb_0
theorem d_X3_bestSum_5 : decode prog_5_method_5_code 5 = .ok (.getfield 29, 3) := gq_3 db00a_66 eb_207
theorem d_X3_bestSum_8 : decode prog_5_method_5_code 8 = .ok (.iconst 0, 1) := gq_4 db00a_66 eb_21
theorem d_X3_bestSum_9 : decode prog_5_method_5_code 9 = .ok (.iaload, 1) := gq_5 db00a_66 eb_37
theorem d_X3_bestSum_10 : decode prog_5_method_5_code 10 = .ok (.ireturn, 1) := gq_6 db00a_66 eb_15
theorem db00a_67 : Pf_ prog_5_method_6_code [(0, [0x2a]), (1, [0xb6, 0x00, 0x30]), (4, [0x2a]), (5, [0x1b]), (6, [0xb6, 0x00, 0x33]), (9, [0x99, 0x00, 0x0c]), (12, [0x2a]), (13, [0xb4, 0x00, 0x27]), (16, [0x1b]), (17, [0x2e]), (18, [0xa7, 0x00, 0x04]), (21, [0x02]), (22, [0xac])] := pf_ok prog_5_method_6_code _ 0 (by decide +kernel)
theorem d_X3_firstOf_0 : decode prog_5_method_6_code 0 = .ok (.aload_n 0, 1) := gq_0 db00a_67 eb_0
theorem d_X3_firstOf_1 : decode prog_5_method_6_code 1 = .ok (.invokevirtual 48, 3) := gq_1 db00a_67 eb_206
theorem d_X3_firstOf_4 : decode prog_5_method_6_code 4 = .ok (.aload_n 0, 1) := gq_2 db00a_67 eb_0
theorem d_X3_firstOf_5 : decode prog_5_method_6_code 5 = .ok (.iload_n 1, 1) := gq_3 db00a_67 eb_9
theorem d_X3_firstOf_6 : decode prog_5_method_6_code 6 = .ok (.invokevirtual 51, 3) := gq_4 db00a_67 eb_208
theorem d_X3_firstOf_9 : decode prog_5_method_6_code 9 = .ok (.ifCond .eq 12, 3) := gq_5 db00a_67 eb_50
theorem d_X3_firstOf_12 : decode prog_5_method_6_code 12 = .ok (.aload_n 0, 1) := gq_6 db00a_67 eb_0
theorem d_X3_firstOf_13 : decode prog_5_method_6_code 13 = .ok (.getfield 39, 3) := gq_7 db00a_67 eb_176
theorem d_X3_firstOf_16 : decode prog_5_method_6_code 16 = .ok (.iload_n 1, 1) := gq_8 db00a_67 eb_9
theorem d_X3_firstOf_17 : decode prog_5_method_6_code 17 = .ok (.iaload, 1) := gq_9 db00a_67 eb_37
theorem d_X3_firstOf_18 : decode prog_5_method_6_code 18 = .ok (.goto 4, 3) := gq_10 db00a_67 eb_20
theorem d_X3_firstOf_21 : decode prog_5_method_6_code 21 = .ok (.iconst (-1), 1) := gq_11 db00a_67 eb_26
theorem d_X3_firstOf_22 : decode prog_5_method_6_code 22 = .ok (.ireturn, 1) := gq_12 db00a_67 eb_15
theorem db00a_68 : Pf_ prog_5_method_7_code [(0, [0x2a]), (1, [0xb6, 0x00, 0x30]), (4, [0x2a]), (5, [0x1b]), (6, [0xb6, 0x00, 0x33]), (9, [0x99, 0x00, 0x10]), (12, [0x2a]), (13, [0xb4, 0x00, 0x24]), (16, [0x1b]), (17, [0x2e]), (18, [0x11, 0xfe, 0xff]), (21, [0x7e]), (22, [0xa7, 0x00, 0x04]), (25, [0x02]), (26, [0xac])] := pf_ok prog_5_method_7_code _ 0 (by decide +kernel)
theorem d_X3_foundFor_0 : decode prog_5_method_7_code 0 = .ok (.aload_n 0, 1) := gq_0 db00a_68 eb_0
theorem d_X3_foundFor_1 : decode prog_5_method_7_code 1 = .ok (.invokevirtual 48, 3) := gq_1 db00a_68 eb_206
theorem d_X3_foundFor_4 : decode prog_5_method_7_code 4 = .ok (.aload_n 0, 1) := gq_2 db00a_68 eb_0
theorem d_X3_foundFor_5 : decode prog_5_method_7_code 5 = .ok (.iload_n 1, 1) := gq_3 db00a_68 eb_9
theorem d_X3_foundFor_6 : decode prog_5_method_7_code 6 = .ok (.invokevirtual 51, 3) := gq_4 db00a_68 eb_208
theorem d_X3_foundFor_9 : decode prog_5_method_7_code 9 = .ok (.ifCond .eq 16, 3) := gq_5 db00a_68 eb_136
theorem d_X3_foundFor_12 : decode prog_5_method_7_code 12 = .ok (.aload_n 0, 1) := gq_6 db00a_68 eb_0
theorem d_X3_foundFor_13 : decode prog_5_method_7_code 13 = .ok (.getfield 36, 3) := gq_7 db00a_68 eb_175
theorem d_X3_foundFor_16 : decode prog_5_method_7_code 16 = .ok (.iload_n 1, 1) := gq_8 db00a_68 eb_9
theorem d_X3_foundFor_17 : decode prog_5_method_7_code 17 = .ok (.iaload, 1) := gq_9 db00a_68 eb_37
theorem d_X3_foundFor_18 : decode prog_5_method_7_code 18 = .ok (.sipush (-257), 3) := gq_10 db00a_68 eb_209
theorem d_X3_foundFor_21 : decode prog_5_method_7_code 21 = .ok (.iand, 1) := gq_11 db00a_68 eb_55
theorem d_X3_foundFor_22 : decode prog_5_method_7_code 22 = .ok (.goto 4, 3) := gq_12 db00a_68 eb_20
theorem d_X3_foundFor_25 : decode prog_5_method_7_code 25 = .ok (.iconst (-1), 1) := gq_13 db00a_68 eb_26
theorem d_X3_foundFor_26 : decode prog_5_method_7_code 26 = .ok (.ireturn, 1) := gq_14 db00a_68 eb_15
theorem db00a_69 : Pf_ prog_5_method_8_code [(0, [0x2a]), (1, [0xb6, 0x00, 0x30]), (4, [0x2a]), (5, [0x1b]), (6, [0xb6, 0x00, 0x33]), (9, [0x99, 0x00, 0x14]), (12, [0x2a]), (13, [0xb4, 0x00, 0x24]), (16, [0x1b]), (17, [0x2e]), (18, [0xb8, 0x00, 0x37]), (21, [0x04]), (22, [0xa0, 0x00, 0x07]), (25, [0x04]), (26, [0xa7, 0x00, 0x04]), (29, [0x03]), (30, [0xac])] := pf_ok prog_5_method_8_code _ 0 (by decide +kernel)
theorem d_X3_isSure_0 : decode prog_5_method_8_code 0 = .ok (.aload_n 0, 1) := gq_0 db00a_69 eb_0
theorem d_X3_isSure_1 : decode prog_5_method_8_code 1 = .ok (.invokevirtual 48, 3) := gq_1 db00a_69 eb_206
theorem d_X3_isSure_4 : decode prog_5_method_8_code 4 = .ok (.aload_n 0, 1) := gq_2 db00a_69 eb_0
theorem d_X3_isSure_5 : decode prog_5_method_8_code 5 = .ok (.iload_n 1, 1) := gq_3 db00a_69 eb_9
theorem d_X3_isSure_6 : decode prog_5_method_8_code 6 = .ok (.invokevirtual 51, 3) := gq_4 db00a_69 eb_208
theorem d_X3_isSure_9 : decode prog_5_method_8_code 9 = .ok (.ifCond .eq 20, 3) := gq_5 db00a_69 eb_210
theorem d_X3_isSure_12 : decode prog_5_method_8_code 12 = .ok (.aload_n 0, 1) := gq_6 db00a_69 eb_0
theorem d_X3_isSure_13 : decode prog_5_method_8_code 13 = .ok (.getfield 36, 3) := gq_7 db00a_69 eb_175
theorem d_X3_isSure_16 : decode prog_5_method_8_code 16 = .ok (.iload_n 1, 1) := gq_8 db00a_69 eb_9
theorem d_X3_isSure_17 : decode prog_5_method_8_code 17 = .ok (.iaload, 1) := gq_9 db00a_69 eb_37
theorem d_X3_isSure_18 : decode prog_5_method_8_code 18 = .ok (.invokestatic 55, 3) := gq_10 db00a_69 eb_211
theorem d_X3_isSure_21 : decode prog_5_method_8_code 21 = .ok (.iconst 1, 1) := gq_11 db00a_69 eb_19
theorem d_X3_isSure_22 : decode prog_5_method_8_code 22 = .ok (.if_icmp .ne 7, 3) := gq_12 db00a_69 eb_135
theorem d_X3_isSure_25 : decode prog_5_method_8_code 25 = .ok (.iconst 1, 1) := gq_13 db00a_69 eb_19
theorem d_X3_isSure_26 : decode prog_5_method_8_code 26 = .ok (.goto 4, 3) := gq_14 db00a_69 eb_20
theorem d_X3_isSure_29 : decode prog_5_method_8_code 29 = .ok (.iconst 0, 1) := gq_15 db00a_69 eb_21
theorem d_X3_isSure_30 : decode prog_5_method_8_code 30 = .ok (.ireturn, 1) := gq_16 db00a_69 eb_15
theorem db00a_70 : Pf_ prog_5_method_9_code [(0, [0x2a]), (1, [0xb4, 0x00, 0x16]), (4, [0x99, 0x00, 0x18]), (7, [0x2a]), (8, [0xb6, 0x00, 0x3d]), (11, [0x2a]), (12, [0xb6, 0x00, 0x40]), (15, [0x2a]), (16, [0xb6, 0x00, 0x43]), (19, [0x2a]), (20, [0xb6, 0x00, 0x46]), (23, [0x2a]), (24, [0x03]), (25, [0xb5, 0x00, 0x16]), (28, [0xb1])] := pf_ok prog_5_method_9_code _ 0 (by decide +kernel)
theorem d_X3_solve_0 : decode prog_5_method_9_code 0 = .ok (.aload_n 0, 1) := gq_0 db00a_70 eb_0
theorem d_X3_solve_1 : decode prog_5_method_9_code 1 = .ok (.getfield 22, 3) := gq_1 db00a_70 eb_212
theorem d_X3_solve_4 : decode prog_5_method_9_code 4 = .ok (.ifCond .eq 24, 3) := gq_2 db00a_70 eb_213
theorem d_X3_solve_7 : decode prog_5_method_9_code 7 = .ok (.aload_n 0, 1) := gq_3 db00a_70 eb_0
theorem d_X3_solve_8 : decode prog_5_method_9_code 8 = .ok (.invokevirtual 61, 3) := gq_4 db00a_70 eb_214
theorem d_X3_solve_11 : decode prog_5_method_9_code 11 = .ok (.aload_n 0, 1) := gq_5 db00a_70 eb_0
theorem d_X3_solve_12 : decode prog_5_method_9_code 12 = .ok (.invokevirtual 64, 3) := gq_6 db00a_70 eb_111
theorem d_X3_solve_15 : decode prog_5_method_9_code 15 = .ok (.aload_n 0, 1) := gq_7 db00a_70 eb_0
theorem d_X3_solve_16 : decode prog_5_method_9_code 16 = .ok (.invokevirtual 67, 3) := gq_8 db00a_70 eb_215
theorem d_X3_solve_19 : decode prog_5_method_9_code 19 = .ok (.aload_n 0, 1) := gq_9 db00a_70 eb_0
theorem d_X3_solve_20 : decode prog_5_method_9_code 20 = .ok (.invokevirtual 70, 3) := gq_10 db00a_70 eb_216
theorem d_X3_solve_23 : decode prog_5_method_9_code 23 = .ok (.aload_n 0, 1) := gq_11 db00a_70 eb_0
theorem d_X3_solve_24 : decode prog_5_method_9_code 24 = .ok (.iconst 0, 1) := gq_12 db00a_70 eb_21
theorem d_X3_solve_25 : decode prog_5_method_9_code 25 = .ok (.putfield 22, 3) := gq_13 db00a_70 eb_196
theorem d_X3_solve_28 : decode prog_5_method_9_code 28 = .ok (.return_, 1) := gq_14 db00a_70 eb_7
theorem db00a_71 : Pf_ prog_5_method_10_code [(0, [0x03]), (1, [0x3d]), (2, [0x1a]), (3, [0x3e]), (4, [0x1b]), (5, [0x36, 0x04]), (7, [0x03]), (8, [0x36, 0x05]), (10, [0x15, 0x05]), (12, [0x08]), (13, [0xa2, 0x00, 0x24]), (16, [0x1d]), (17, [0x10, 0x0a]), (19, [0x70]), (20, [0x15, 0x04]), (22, [0x10, 0x0a]), (24, [0x70]), (25, [0xa0, 0x00, 0x06]), (28, [0x84, 0x02, 0x01]), (31, [0x1d]), (32, [0x10, 0x0a]), (34, [0x6c]), (35, [0x3e]), (36, [0x15, 0x04])] := pf_ok prog_5_method_10_code _ 0 (by decide +kernel)
theorem d_X3_alike_0 : decode prog_5_method_10_code 0 = .ok (.iconst 0, 1) := gq_0 db00a_71 eb_21
theorem d_X3_alike_1 : decode prog_5_method_10_code 1 = .ok (.istore_n 2, 1) := gq_1 db00a_71 eb_27
theorem d_X3_alike_2 : decode prog_5_method_10_code 2 = .ok (.iload_n 0, 1) := gq_2 db00a_71 eb_8
theorem d_X3_alike_3 : decode prog_5_method_10_code 3 = .ok (.istore_n 3, 1) := gq_3 db00a_71 eb_28
theorem d_X3_alike_4 : decode prog_5_method_10_code 4 = .ok (.iload_n 1, 1) := gq_4 db00a_71 eb_9
theorem d_X3_alike_5 : decode prog_5_method_10_code 5 = .ok (.istore 4, 2) := gq_5 db00a_71 eb_133
theorem d_X3_alike_7 : decode prog_5_method_10_code 7 = .ok (.iconst 0, 1) := gq_6 db00a_71 eb_21
theorem d_X3_alike_8 : decode prog_5_method_10_code 8 = .ok (.istore 5, 2) := gq_7 db00a_71 eb_134
theorem d_X3_alike_10 : decode prog_5_method_10_code 10 = .ok (.iload 5, 2) := gq_8 db00a_71 eb_125
theorem d_X3_alike_12 : decode prog_5_method_10_code 12 = .ok (.iconst 5, 1) := gq_9 db00a_71 eb_122
theorem d_X3_alike_13 : decode prog_5_method_10_code 13 = .ok (.if_icmp .ge 36, 3) := gq_10 db00a_71 eb_217
theorem d_X3_alike_16 : decode prog_5_method_10_code 16 = .ok (.iload_n 3, 1) := gq_11 db00a_71 eb_29
theorem d_X3_alike_17 : decode prog_5_method_10_code 17 = .ok (.bipush 10, 2) := gq_12 db00a_71 eb_93
theorem d_X3_alike_19 : decode prog_5_method_10_code 19 = .ok (.irem, 1) := gq_13 db00a_71 eb_218
theorem d_X3_alike_20 : decode prog_5_method_10_code 20 = .ok (.iload 4, 2) := gq_14 db00a_71 eb_76
theorem d_X3_alike_22 : decode prog_5_method_10_code 22 = .ok (.bipush 10, 2) := gq_15 db00a_71 eb_93
theorem d_X3_alike_24 : decode prog_5_method_10_code 24 = .ok (.irem, 1) := gq_16 db00a_71 eb_218
theorem d_X3_alike_25 : decode prog_5_method_10_code 25 = .ok (.if_icmp .ne 6, 3) := gq_17 db00a_71 eb_40
theorem d_X3_alike_28 : decode prog_5_method_10_code 28 = .ok (.iinc 2 1, 3) := gq_18 db00a_71 eb_41
theorem d_X3_alike_31 : decode prog_5_method_10_code 31 = .ok (.iload_n 3, 1) := gq_19 db00a_71 eb_29
theorem d_X3_alike_32 : decode prog_5_method_10_code 32 = .ok (.bipush 10, 2) := gq_20 db00a_71 eb_93
theorem d_X3_alike_34 : decode prog_5_method_10_code 34 = .ok (.idiv, 1) := gq_21 db00a_71 eb_219
theorem d_X3_alike_35 : decode prog_5_method_10_code 35 = .ok (.istore_n 3, 1) := gq_22 db00a_71 eb_28
theorem d_X3_alike_36 : decode prog_5_method_10_code 36 = .ok (.iload 4, 2) := gq_23 db00a_71 eb_76
theorem db00a_72 : Pf_ prog_5_method_10_code [(38, [0x10, 0x0a]), (40, [0x6c]), (41, [0x36, 0x04]), (43, [0x84, 0x05, 0x01]), (46, [0xa7, 0xff, 0xdc]), (49, [0x1c]), (50, [0xac])] := pf_ok prog_5_method_10_code _ 38 (by decide +kernel)
theorem d_X3_alike_38 : decode prog_5_method_10_code 38 = .ok (.bipush 10, 2) := gq_0 db00a_72 eb_93
theorem d_X3_alike_40 : decode prog_5_method_10_code 40 = .ok (.idiv, 1) := gq_1 db00a_72 eb_219
theorem d_X3_alike_41 : decode prog_5_method_10_code 41 = .ok (.istore 4, 2) := gq_2 db00a_72 eb_133
theorem d_X3_alike_43 : decode prog_5_method_10_code 43 = .ok (.iinc 5 1, 3) := gq_3 db00a_72 eb_220
theorem d_X3_alike_46 : decode prog_5_method_10_code 46 = .ok (.goto (-36), 3) := gq_4 db00a_72 eb_221
theorem d_X3_alike_49 : decode prog_5_method_10_code 49 = .ok (.iload_n 2, 1) := gq_5 db00a_72 eb_13
theorem d_X3_alike_50 : decode prog_5_method_10_code 50 = .ok (.ireturn, 1) := gq_6 db00a_72 eb_15
theorem db00a_73 : Pf_ prog_5_method_11_code [(0, [0x03]), (1, [0x3c]), (2, [0x1b]), (3, [0x2a]), (4, [0xb4, 0x00, 0x2a]), (7, [0xa2, 0x00, 0x41]), (10, [0x03]), (11, [0x3d]), (12, [0x1c]), (13, [0x2a]), (14, [0xb4, 0x00, 0x2d]), (17, [0xa2, 0x00, 0x31]), (20, [0x2a]), (21, [0xb4, 0x00, 0x0b]), (24, [0x1b]), (25, [0x2e]), (26, [0x2a]), (27, [0xb4, 0x00, 0x0f]), (30, [0x1c]), (31, [0x2e]), (32, [0xb8, 0x00, 0x49]), (35, [0x3e]), (36, [0x2a]), (37, [0xb4, 0x00, 0x1a])] := pf_ok prog_5_method_11_code _ 0 (by decide +kernel)
theorem d_X3_fillGains_0 : decode prog_5_method_11_code 0 = .ok (.iconst 0, 1) := gq_0 db00a_73 eb_21
theorem d_X3_fillGains_1 : decode prog_5_method_11_code 1 = .ok (.istore_n 1, 1) := gq_1 db00a_73 eb_222
theorem d_X3_fillGains_2 : decode prog_5_method_11_code 2 = .ok (.iload_n 1, 1) := gq_2 db00a_73 eb_9
theorem d_X3_fillGains_3 : decode prog_5_method_11_code 3 = .ok (.aload_n 0, 1) := gq_3 db00a_73 eb_0
theorem d_X3_fillGains_4 : decode prog_5_method_11_code 4 = .ok (.getfield 42, 3) := gq_4 db00a_73 eb_177
theorem d_X3_fillGains_7 : decode prog_5_method_11_code 7 = .ok (.if_icmp .ge 65, 3) := gq_5 db00a_73 eb_223
theorem d_X3_fillGains_10 : decode prog_5_method_11_code 10 = .ok (.iconst 0, 1) := gq_6 db00a_73 eb_21
theorem d_X3_fillGains_11 : decode prog_5_method_11_code 11 = .ok (.istore_n 2, 1) := gq_7 db00a_73 eb_27
theorem d_X3_fillGains_12 : decode prog_5_method_11_code 12 = .ok (.iload_n 2, 1) := gq_8 db00a_73 eb_13
theorem d_X3_fillGains_13 : decode prog_5_method_11_code 13 = .ok (.aload_n 0, 1) := gq_9 db00a_73 eb_0
theorem d_X3_fillGains_14 : decode prog_5_method_11_code 14 = .ok (.getfield 45, 3) := gq_10 db00a_73 eb_127
theorem d_X3_fillGains_17 : decode prog_5_method_11_code 17 = .ok (.if_icmp .ge 49, 3) := gq_11 db00a_73 eb_224
theorem d_X3_fillGains_20 : decode prog_5_method_11_code 20 = .ok (.aload_n 0, 1) := gq_12 db00a_73 eb_0
theorem d_X3_fillGains_21 : decode prog_5_method_11_code 21 = .ok (.getfield 11, 3) := gq_13 db00a_73 eb_32
theorem d_X3_fillGains_24 : decode prog_5_method_11_code 24 = .ok (.iload_n 1, 1) := gq_14 db00a_73 eb_9
theorem d_X3_fillGains_25 : decode prog_5_method_11_code 25 = .ok (.iaload, 1) := gq_15 db00a_73 eb_37
theorem d_X3_fillGains_26 : decode prog_5_method_11_code 26 = .ok (.aload_n 0, 1) := gq_16 db00a_73 eb_0
theorem d_X3_fillGains_27 : decode prog_5_method_11_code 27 = .ok (.getfield 15, 3) := gq_17 db00a_73 eb_44
theorem d_X3_fillGains_30 : decode prog_5_method_11_code 30 = .ok (.iload_n 2, 1) := gq_18 db00a_73 eb_13
theorem d_X3_fillGains_31 : decode prog_5_method_11_code 31 = .ok (.iaload, 1) := gq_19 db00a_73 eb_37
theorem d_X3_fillGains_32 : decode prog_5_method_11_code 32 = .ok (.invokestatic 73, 3) := gq_20 db00a_73 eb_225
theorem d_X3_fillGains_35 : decode prog_5_method_11_code 35 = .ok (.istore_n 3, 1) := gq_21 db00a_73 eb_28
theorem d_X3_fillGains_36 : decode prog_5_method_11_code 36 = .ok (.aload_n 0, 1) := gq_22 db00a_73 eb_0
theorem d_X3_fillGains_37 : decode prog_5_method_11_code 37 = .ok (.getfield 26, 3) := gq_23 db00a_73 eb_226
theorem db00a_74 : Pf_ prog_5_method_11_code [(40, [0x1b]), (41, [0x10, 0x08]), (43, [0x68]), (44, [0x1c]), (45, [0x60]), (46, [0x1d]), (47, [0x2a]), (48, [0xb4, 0x00, 0x12]), (51, [0xa1, 0x00, 0x07]), (54, [0x1d]), (55, [0xa7, 0x00, 0x04]), (58, [0x03]), (59, [0x4f]), (60, [0x84, 0x02, 0x01]), (63, [0xa7, 0xff, 0xcd]), (66, [0x84, 0x01, 0x01]), (69, [0xa7, 0xff, 0xbd]), (72, [0xb1])] := pf_ok prog_5_method_11_code _ 40 (by decide +kernel)
theorem d_X3_fillGains_40 : decode prog_5_method_11_code 40 = .ok (.iload_n 1, 1) := gq_0 db00a_74 eb_9
theorem d_X3_fillGains_41 : decode prog_5_method_11_code 41 = .ok (.bipush 8, 2) := gq_1 db00a_74 eb_94
theorem d_X3_fillGains_43 : decode prog_5_method_11_code 43 = .ok (.imul, 1) := gq_2 db00a_74 eb_34
theorem d_X3_fillGains_44 : decode prog_5_method_11_code 44 = .ok (.iload_n 2, 1) := gq_3 db00a_74 eb_13
theorem d_X3_fillGains_45 : decode prog_5_method_11_code 45 = .ok (.iadd, 1) := gq_4 db00a_74 eb_35
theorem d_X3_fillGains_46 : decode prog_5_method_11_code 46 = .ok (.iload_n 3, 1) := gq_5 db00a_74 eb_29
theorem d_X3_fillGains_47 : decode prog_5_method_11_code 47 = .ok (.aload_n 0, 1) := gq_6 db00a_74 eb_0
theorem d_X3_fillGains_48 : decode prog_5_method_11_code 48 = .ok (.getfield 18, 3) := gq_7 db00a_74 eb_45
theorem d_X3_fillGains_51 : decode prog_5_method_11_code 51 = .ok (.if_icmp .lt 7, 3) := gq_8 db00a_74 eb_154
theorem d_X3_fillGains_54 : decode prog_5_method_11_code 54 = .ok (.iload_n 3, 1) := gq_9 db00a_74 eb_29
theorem d_X3_fillGains_55 : decode prog_5_method_11_code 55 = .ok (.goto 4, 3) := gq_10 db00a_74 eb_20
theorem d_X3_fillGains_58 : decode prog_5_method_11_code 58 = .ok (.iconst 0, 1) := gq_11 db00a_74 eb_21
theorem d_X3_fillGains_59 : decode prog_5_method_11_code 59 = .ok (.iastore, 1) := gq_12 db00a_74 eb_38
theorem d_X3_fillGains_60 : decode prog_5_method_11_code 60 = .ok (.iinc 2 1, 3) := gq_13 db00a_74 eb_41
theorem d_X3_fillGains_63 : decode prog_5_method_11_code 63 = .ok (.goto (-51), 3) := gq_14 db00a_74 eb_227
theorem d_X3_fillGains_66 : decode prog_5_method_11_code 66 = .ok (.iinc 1 1, 3) := gq_15 db00a_74 eb_228
theorem d_X3_fillGains_69 : decode prog_5_method_11_code 69 = .ok (.goto (-67), 3) := gq_16 db00a_74 eb_229
theorem d_X3_fillGains_72 : decode prog_5_method_11_code 72 = .ok (.return_, 1) := gq_17 db00a_74 eb_7
theorem db00a_75 : Pf_ prog_5_method_12_code [(0, [0x1d]), (1, [0x1c]), (2, [0x7a]), (3, [0x04]), (4, [0x7e]), (5, [0x9a, 0x00, 0x15]), (8, [0x2a]), (9, [0xb4, 0x00, 0x1a]), (12, [0x1b]), (13, [0x10, 0x08]), (15, [0x68]), (16, [0x1c]), (17, [0x60]), (18, [0x2e]), (19, [0x9e, 0x00, 0x07]), (22, [0x04]), (23, [0xa7, 0x00, 0x04]), (26, [0x03]), (27, [0xac])] := pf_ok prog_5_method_12_code _ 0 (by decide +kernel)
theorem d_X3_canJoin_0 : decode prog_5_method_12_code 0 = .ok (.iload_n 3, 1) := gq_0 db00a_75 eb_29
theorem d_X3_canJoin_1 : decode prog_5_method_12_code 1 = .ok (.iload_n 2, 1) := gq_1 db00a_75 eb_13
theorem d_X3_canJoin_2 : decode prog_5_method_12_code 2 = .ok (.ishr, 1) := gq_2 db00a_75 eb_56
theorem d_X3_canJoin_3 : decode prog_5_method_12_code 3 = .ok (.iconst 1, 1) := gq_3 db00a_75 eb_19
theorem d_X3_canJoin_4 : decode prog_5_method_12_code 4 = .ok (.iand, 1) := gq_4 db00a_75 eb_55
theorem d_X3_canJoin_5 : decode prog_5_method_12_code 5 = .ok (.ifCond .ne 21, 3) := gq_5 db00a_75 eb_230
theorem d_X3_canJoin_8 : decode prog_5_method_12_code 8 = .ok (.aload_n 0, 1) := gq_6 db00a_75 eb_0
theorem d_X3_canJoin_9 : decode prog_5_method_12_code 9 = .ok (.getfield 26, 3) := gq_7 db00a_75 eb_226
theorem d_X3_canJoin_12 : decode prog_5_method_12_code 12 = .ok (.iload_n 1, 1) := gq_8 db00a_75 eb_9
theorem d_X3_canJoin_13 : decode prog_5_method_12_code 13 = .ok (.bipush 8, 2) := gq_9 db00a_75 eb_94
theorem d_X3_canJoin_15 : decode prog_5_method_12_code 15 = .ok (.imul, 1) := gq_10 db00a_75 eb_34
theorem d_X3_canJoin_16 : decode prog_5_method_12_code 16 = .ok (.iload_n 2, 1) := gq_11 db00a_75 eb_13
theorem d_X3_canJoin_17 : decode prog_5_method_12_code 17 = .ok (.iadd, 1) := gq_12 db00a_75 eb_35
theorem d_X3_canJoin_18 : decode prog_5_method_12_code 18 = .ok (.iaload, 1) := gq_13 db00a_75 eb_37
theorem d_X3_canJoin_19 : decode prog_5_method_12_code 19 = .ok (.ifCond .le 7, 3) := gq_14 db00a_75 eb_231
theorem d_X3_canJoin_22 : decode prog_5_method_12_code 22 = .ok (.iconst 1, 1) := gq_15 db00a_75 eb_19
theorem d_X3_canJoin_23 : decode prog_5_method_12_code 23 = .ok (.goto 4, 3) := gq_16 db00a_75 eb_20
theorem d_X3_canJoin_26 : decode prog_5_method_12_code 26 = .ok (.iconst 0, 1) := gq_17 db00a_75 eb_21
theorem d_X3_canJoin_27 : decode prog_5_method_12_code 27 = .ok (.ireturn, 1) := gq_18 db00a_75 eb_15
theorem db00a_76 : Pf_ prog_5_method_13_code [(0, [0x2a]), (1, [0xb4, 0x00, 0x1a]), (4, [0x1b]), (5, [0x10, 0x08]), (7, [0x68]), (8, [0x1c]), (9, [0x60]), (10, [0x2e]), (11, [0x2a]), (12, [0xb4, 0x00, 0x1d]), (15, [0x1b]), (16, [0x04]), (17, [0x60]), (18, [0x11, 0x01, 0x00]), (21, [0x68]), (22, [0x1d]), (23, [0x04]), (24, [0x1c]), (25, [0x78]), (26, [0x80]), (27, [0x60]), (28, [0x2e]), (29, [0x60]), (30, [0xac])] := pf_ok prog_5_method_13_code _ 0 (by decide +kernel)
theorem d_X3_sumWith_0 : decode prog_5_method_13_code 0 = .ok (.aload_n 0, 1) := gq_0 db00a_76 eb_0
theorem d_X3_sumWith_1 : decode prog_5_method_13_code 1 = .ok (.getfield 26, 3) := gq_1 db00a_76 eb_226
theorem d_X3_sumWith_4 : decode prog_5_method_13_code 4 = .ok (.iload_n 1, 1) := gq_2 db00a_76 eb_9
theorem d_X3_sumWith_5 : decode prog_5_method_13_code 5 = .ok (.bipush 8, 2) := gq_3 db00a_76 eb_94
theorem d_X3_sumWith_7 : decode prog_5_method_13_code 7 = .ok (.imul, 1) := gq_4 db00a_76 eb_34
theorem d_X3_sumWith_8 : decode prog_5_method_13_code 8 = .ok (.iload_n 2, 1) := gq_5 db00a_76 eb_13
theorem d_X3_sumWith_9 : decode prog_5_method_13_code 9 = .ok (.iadd, 1) := gq_6 db00a_76 eb_35
theorem d_X3_sumWith_10 : decode prog_5_method_13_code 10 = .ok (.iaload, 1) := gq_7 db00a_76 eb_37
theorem d_X3_sumWith_11 : decode prog_5_method_13_code 11 = .ok (.aload_n 0, 1) := gq_8 db00a_76 eb_0
theorem d_X3_sumWith_12 : decode prog_5_method_13_code 12 = .ok (.getfield 29, 3) := gq_9 db00a_76 eb_207
theorem d_X3_sumWith_15 : decode prog_5_method_13_code 15 = .ok (.iload_n 1, 1) := gq_10 db00a_76 eb_9
theorem d_X3_sumWith_16 : decode prog_5_method_13_code 16 = .ok (.iconst 1, 1) := gq_11 db00a_76 eb_19
theorem d_X3_sumWith_17 : decode prog_5_method_13_code 17 = .ok (.iadd, 1) := gq_12 db00a_76 eb_35
theorem d_X3_sumWith_18 : decode prog_5_method_13_code 18 = .ok (.sipush 256, 3) := gq_13 db00a_76 eb_232
theorem d_X3_sumWith_21 : decode prog_5_method_13_code 21 = .ok (.imul, 1) := gq_14 db00a_76 eb_34
theorem d_X3_sumWith_22 : decode prog_5_method_13_code 22 = .ok (.iload_n 3, 1) := gq_15 db00a_76 eb_29
theorem d_X3_sumWith_23 : decode prog_5_method_13_code 23 = .ok (.iconst 1, 1) := gq_16 db00a_76 eb_19
theorem d_X3_sumWith_24 : decode prog_5_method_13_code 24 = .ok (.iload_n 2, 1) := gq_17 db00a_76 eb_13
theorem d_X3_sumWith_25 : decode prog_5_method_13_code 25 = .ok (.ishl, 1) := gq_18 db00a_76 eb_11
theorem d_X3_sumWith_26 : decode prog_5_method_13_code 26 = .ok (.ior, 1) := gq_19 db00a_76 eb_12
theorem d_X3_sumWith_27 : decode prog_5_method_13_code 27 = .ok (.iadd, 1) := gq_20 db00a_76 eb_35
theorem d_X3_sumWith_28 : decode prog_5_method_13_code 28 = .ok (.iaload, 1) := gq_21 db00a_76 eb_37
theorem d_X3_sumWith_29 : decode prog_5_method_13_code 29 = .ok (.iadd, 1) := gq_22 db00a_76 eb_35
theorem d_X3_sumWith_30 : decode prog_5_method_13_code 30 = .ok (.ireturn, 1) := gq_23 db00a_76 eb_15
theorem db00a_77 : Pf_ prog_5_method_14_code [(0, [0x2a]), (1, [0xb4, 0x00, 0x1d]), (4, [0x03]), (5, [0xb8, 0x00, 0x4d]), (8, [0x04]), (9, [0x2a]), (10, [0xb4, 0x00, 0x2d]), (13, [0x78]), (14, [0x3c]), (15, [0x2a]), (16, [0xb4, 0x00, 0x2a]), (19, [0x04]), (20, [0x64]), (21, [0x3d]), (22, [0x1c]), (23, [0x9b, 0x00, 0x60]), (26, [0x03]), (27, [0x3e]), (28, [0x1d]), (29, [0x1b]), (30, [0xa2, 0x00, 0x53]), (33, [0x2a]), (34, [0xb4, 0x00, 0x1d]), (37, [0x1c])] := pf_ok prog_5_method_14_code _ 0 (by decide +kernel)
theorem d_X3_fillBest_0 : decode prog_5_method_14_code 0 = .ok (.aload_n 0, 1) := gq_0 db00a_77 eb_0
theorem d_X3_fillBest_1 : decode prog_5_method_14_code 1 = .ok (.getfield 29, 3) := gq_1 db00a_77 eb_207
theorem d_X3_fillBest_4 : decode prog_5_method_14_code 4 = .ok (.iconst 0, 1) := gq_2 db00a_77 eb_21
theorem d_X3_fillBest_5 : decode prog_5_method_14_code 5 = .ok (.invokestatic 77, 3) := gq_3 db00a_77 eb_233
theorem d_X3_fillBest_8 : decode prog_5_method_14_code 8 = .ok (.iconst 1, 1) := gq_4 db00a_77 eb_19
theorem d_X3_fillBest_9 : decode prog_5_method_14_code 9 = .ok (.aload_n 0, 1) := gq_5 db00a_77 eb_0
theorem d_X3_fillBest_10 : decode prog_5_method_14_code 10 = .ok (.getfield 45, 3) := gq_6 db00a_77 eb_127
theorem d_X3_fillBest_13 : decode prog_5_method_14_code 13 = .ok (.ishl, 1) := gq_7 db00a_77 eb_11
theorem d_X3_fillBest_14 : decode prog_5_method_14_code 14 = .ok (.istore_n 1, 1) := gq_8 db00a_77 eb_222
theorem d_X3_fillBest_15 : decode prog_5_method_14_code 15 = .ok (.aload_n 0, 1) := gq_9 db00a_77 eb_0
theorem d_X3_fillBest_16 : decode prog_5_method_14_code 16 = .ok (.getfield 42, 3) := gq_10 db00a_77 eb_177
theorem d_X3_fillBest_19 : decode prog_5_method_14_code 19 = .ok (.iconst 1, 1) := gq_11 db00a_77 eb_19
theorem d_X3_fillBest_20 : decode prog_5_method_14_code 20 = .ok (.isub, 1) := gq_12 db00a_77 eb_48
theorem d_X3_fillBest_21 : decode prog_5_method_14_code 21 = .ok (.istore_n 2, 1) := gq_13 db00a_77 eb_27
theorem d_X3_fillBest_22 : decode prog_5_method_14_code 22 = .ok (.iload_n 2, 1) := gq_14 db00a_77 eb_13
theorem d_X3_fillBest_23 : decode prog_5_method_14_code 23 = .ok (.ifCond .lt 96, 3) := gq_15 db00a_77 eb_234
theorem d_X3_fillBest_26 : decode prog_5_method_14_code 26 = .ok (.iconst 0, 1) := gq_16 db00a_77 eb_21
theorem d_X3_fillBest_27 : decode prog_5_method_14_code 27 = .ok (.istore_n 3, 1) := gq_17 db00a_77 eb_28
theorem d_X3_fillBest_28 : decode prog_5_method_14_code 28 = .ok (.iload_n 3, 1) := gq_18 db00a_77 eb_29
theorem d_X3_fillBest_29 : decode prog_5_method_14_code 29 = .ok (.iload_n 1, 1) := gq_19 db00a_77 eb_9
theorem d_X3_fillBest_30 : decode prog_5_method_14_code 30 = .ok (.if_icmp .ge 83, 3) := gq_20 db00a_77 eb_235
theorem d_X3_fillBest_33 : decode prog_5_method_14_code 33 = .ok (.aload_n 0, 1) := gq_21 db00a_77 eb_0
theorem d_X3_fillBest_34 : decode prog_5_method_14_code 34 = .ok (.getfield 29, 3) := gq_22 db00a_77 eb_207
theorem d_X3_fillBest_37 : decode prog_5_method_14_code 37 = .ok (.iload_n 2, 1) := gq_23 db00a_77 eb_13
theorem db00a_78 : Pf_ prog_5_method_14_code [(38, [0x04]), (39, [0x60]), (40, [0x11, 0x01, 0x00]), (43, [0x68]), (44, [0x1d]), (45, [0x60]), (46, [0x2e]), (47, [0x36, 0x04]), (49, [0x03]), (50, [0x36, 0x05]), (52, [0x15, 0x05]), (54, [0x2a]), (55, [0xb4, 0x00, 0x2d]), (58, [0xa2, 0x00, 0x23]), (61, [0x2a]), (62, [0x1c]), (63, [0x15, 0x05]), (65, [0x1d]), (66, [0xb6, 0x00, 0x53]), (69, [0x99, 0x00, 0x12]), (72, [0x15, 0x04]), (74, [0x2a]), (75, [0x1c]), (76, [0x15, 0x05])] := pf_ok prog_5_method_14_code _ 38 (by decide +kernel)
theorem d_X3_fillBest_38 : decode prog_5_method_14_code 38 = .ok (.iconst 1, 1) := gq_0 db00a_78 eb_19
theorem d_X3_fillBest_39 : decode prog_5_method_14_code 39 = .ok (.iadd, 1) := gq_1 db00a_78 eb_35
theorem d_X3_fillBest_40 : decode prog_5_method_14_code 40 = .ok (.sipush 256, 3) := gq_2 db00a_78 eb_232
theorem d_X3_fillBest_43 : decode prog_5_method_14_code 43 = .ok (.imul, 1) := gq_3 db00a_78 eb_34
theorem d_X3_fillBest_44 : decode prog_5_method_14_code 44 = .ok (.iload_n 3, 1) := gq_4 db00a_78 eb_29
theorem d_X3_fillBest_45 : decode prog_5_method_14_code 45 = .ok (.iadd, 1) := gq_5 db00a_78 eb_35
theorem d_X3_fillBest_46 : decode prog_5_method_14_code 46 = .ok (.iaload, 1) := gq_6 db00a_78 eb_37
theorem d_X3_fillBest_47 : decode prog_5_method_14_code 47 = .ok (.istore 4, 2) := gq_7 db00a_78 eb_133
theorem d_X3_fillBest_49 : decode prog_5_method_14_code 49 = .ok (.iconst 0, 1) := gq_8 db00a_78 eb_21
theorem d_X3_fillBest_50 : decode prog_5_method_14_code 50 = .ok (.istore 5, 2) := gq_9 db00a_78 eb_134
theorem d_X3_fillBest_52 : decode prog_5_method_14_code 52 = .ok (.iload 5, 2) := gq_10 db00a_78 eb_125
theorem d_X3_fillBest_54 : decode prog_5_method_14_code 54 = .ok (.aload_n 0, 1) := gq_11 db00a_78 eb_0
theorem d_X3_fillBest_55 : decode prog_5_method_14_code 55 = .ok (.getfield 45, 3) := gq_12 db00a_78 eb_127
theorem d_X3_fillBest_58 : decode prog_5_method_14_code 58 = .ok (.if_icmp .ge 35, 3) := gq_13 db00a_78 eb_146
theorem d_X3_fillBest_61 : decode prog_5_method_14_code 61 = .ok (.aload_n 0, 1) := gq_14 db00a_78 eb_0
theorem d_X3_fillBest_62 : decode prog_5_method_14_code 62 = .ok (.iload_n 2, 1) := gq_15 db00a_78 eb_13
theorem d_X3_fillBest_63 : decode prog_5_method_14_code 63 = .ok (.iload 5, 2) := gq_16 db00a_78 eb_125
theorem d_X3_fillBest_65 : decode prog_5_method_14_code 65 = .ok (.iload_n 3, 1) := gq_17 db00a_78 eb_29
theorem d_X3_fillBest_66 : decode prog_5_method_14_code 66 = .ok (.invokevirtual 83, 3) := gq_18 db00a_78 eb_236
theorem d_X3_fillBest_69 : decode prog_5_method_14_code 69 = .ok (.ifCond .eq 18, 3) := gq_19 db00a_78 eb_138
theorem d_X3_fillBest_72 : decode prog_5_method_14_code 72 = .ok (.iload 4, 2) := gq_20 db00a_78 eb_76
theorem d_X3_fillBest_74 : decode prog_5_method_14_code 74 = .ok (.aload_n 0, 1) := gq_21 db00a_78 eb_0
theorem d_X3_fillBest_75 : decode prog_5_method_14_code 75 = .ok (.iload_n 2, 1) := gq_22 db00a_78 eb_13
theorem d_X3_fillBest_76 : decode prog_5_method_14_code 76 = .ok (.iload 5, 2) := gq_23 db00a_78 eb_125
theorem db00a_79 : Pf_ prog_5_method_14_code [(78, [0x1d]), (79, [0xb6, 0x00, 0x57]), (82, [0xb8, 0x00, 0x5b]), (85, [0x36, 0x04]), (87, [0x84, 0x05, 0x01]), (90, [0xa7, 0xff, 0xda]), (93, [0x2a]), (94, [0xb4, 0x00, 0x1d]), (97, [0x1c]), (98, [0x11, 0x01, 0x00]), (101, [0x68]), (102, [0x1d]), (103, [0x60]), (104, [0x15, 0x04]), (106, [0x4f]), (107, [0x84, 0x03, 0x01]), (110, [0xa7, 0xff, 0xae]), (113, [0x84, 0x02, 0xff]), (116, [0xa7, 0xff, 0xa2]), (119, [0xb1])] := pf_ok prog_5_method_14_code _ 78 (by decide +kernel)
theorem d_X3_fillBest_78 : decode prog_5_method_14_code 78 = .ok (.iload_n 3, 1) := gq_0 db00a_79 eb_29
theorem d_X3_fillBest_79 : decode prog_5_method_14_code 79 = .ok (.invokevirtual 87, 3) := gq_1 db00a_79 eb_161
theorem d_X3_fillBest_82 : decode prog_5_method_14_code 82 = .ok (.invokestatic 91, 3) := gq_2 db00a_79 eb_237
theorem d_X3_fillBest_85 : decode prog_5_method_14_code 85 = .ok (.istore 4, 2) := gq_3 db00a_79 eb_133
theorem d_X3_fillBest_87 : decode prog_5_method_14_code 87 = .ok (.iinc 5 1, 3) := gq_4 db00a_79 eb_220
theorem d_X3_fillBest_90 : decode prog_5_method_14_code 90 = .ok (.goto (-38), 3) := gq_5 db00a_79 eb_238
theorem d_X3_fillBest_93 : decode prog_5_method_14_code 93 = .ok (.aload_n 0, 1) := gq_6 db00a_79 eb_0
theorem d_X3_fillBest_94 : decode prog_5_method_14_code 94 = .ok (.getfield 29, 3) := gq_7 db00a_79 eb_207
theorem d_X3_fillBest_97 : decode prog_5_method_14_code 97 = .ok (.iload_n 2, 1) := gq_8 db00a_79 eb_13
theorem d_X3_fillBest_98 : decode prog_5_method_14_code 98 = .ok (.sipush 256, 3) := gq_9 db00a_79 eb_232
theorem d_X3_fillBest_101 : decode prog_5_method_14_code 101 = .ok (.imul, 1) := gq_10 db00a_79 eb_34
theorem d_X3_fillBest_102 : decode prog_5_method_14_code 102 = .ok (.iload_n 3, 1) := gq_11 db00a_79 eb_29
theorem d_X3_fillBest_103 : decode prog_5_method_14_code 103 = .ok (.iadd, 1) := gq_12 db00a_79 eb_35
theorem d_X3_fillBest_104 : decode prog_5_method_14_code 104 = .ok (.iload 4, 2) := gq_13 db00a_79 eb_76
theorem d_X3_fillBest_106 : decode prog_5_method_14_code 106 = .ok (.iastore, 1) := gq_14 db00a_79 eb_38
theorem d_X3_fillBest_107 : decode prog_5_method_14_code 107 = .ok (.iinc 3 1, 3) := gq_15 db00a_79 eb_42
theorem d_X3_fillBest_110 : decode prog_5_method_14_code 110 = .ok (.goto (-82), 3) := gq_16 db00a_79 eb_239
theorem d_X3_fillBest_113 : decode prog_5_method_14_code 113 = .ok (.iinc 2 (-1), 3) := gq_17 db00a_79 eb_240
theorem d_X3_fillBest_116 : decode prog_5_method_14_code 116 = .ok (.goto (-94), 3) := gq_18 db00a_79 eb_241
theorem d_X3_fillBest_119 : decode prog_5_method_14_code 119 = .ok (.return_, 1) := gq_19 db00a_79 eb_7
theorem db00a_80 : Pf_ prog_5_method_15_code [(0, [0x03]), (1, [0x3c]), (2, [0x1b]), (3, [0x2a]), (4, [0xb4, 0x00, 0x20]), (7, [0xbe]), (8, [0xa2, 0x00, 0x10]), (11, [0x2a]), (12, [0xb4, 0x00, 0x20]), (15, [0x1b]), (16, [0x03]), (17, [0x54]), (18, [0x84, 0x01, 0x01]), (21, [0xa7, 0xff, 0xed]), (24, [0x2a]), (25, [0xb4, 0x00, 0x24]), (28, [0x03]), (29, [0xb8, 0x00, 0x4d]), (32, [0x2a]), (33, [0xb4, 0x00, 0x20]), (36, [0x03]), (37, [0x04]), (38, [0x54]), (39, [0x04])] := pf_ok prog_5_method_15_code _ 0 (by decide +kernel)
theorem d_X3_fillChoices_0 : decode prog_5_method_15_code 0 = .ok (.iconst 0, 1) := gq_0 db00a_80 eb_21
theorem d_X3_fillChoices_1 : decode prog_5_method_15_code 1 = .ok (.istore_n 1, 1) := gq_1 db00a_80 eb_222
theorem d_X3_fillChoices_2 : decode prog_5_method_15_code 2 = .ok (.iload_n 1, 1) := gq_2 db00a_80 eb_9
theorem d_X3_fillChoices_3 : decode prog_5_method_15_code 3 = .ok (.aload_n 0, 1) := gq_3 db00a_80 eb_0
theorem d_X3_fillChoices_4 : decode prog_5_method_15_code 4 = .ok (.getfield 32, 3) := gq_4 db00a_80 eb_242
theorem d_X3_fillChoices_7 : decode prog_5_method_15_code 7 = .ok (.arraylength, 1) := gq_5 db00a_80 eb_52
theorem d_X3_fillChoices_8 : decode prog_5_method_15_code 8 = .ok (.if_icmp .ge 16, 3) := gq_6 db00a_80 eb_243
theorem d_X3_fillChoices_11 : decode prog_5_method_15_code 11 = .ok (.aload_n 0, 1) := gq_7 db00a_80 eb_0
theorem d_X3_fillChoices_12 : decode prog_5_method_15_code 12 = .ok (.getfield 32, 3) := gq_8 db00a_80 eb_242
theorem d_X3_fillChoices_15 : decode prog_5_method_15_code 15 = .ok (.iload_n 1, 1) := gq_9 db00a_80 eb_9
theorem d_X3_fillChoices_16 : decode prog_5_method_15_code 16 = .ok (.iconst 0, 1) := gq_10 db00a_80 eb_21
theorem d_X3_fillChoices_17 : decode prog_5_method_15_code 17 = .ok (.bastore, 1) := gq_11 db00a_80 eb_244
theorem d_X3_fillChoices_18 : decode prog_5_method_15_code 18 = .ok (.iinc 1 1, 3) := gq_12 db00a_80 eb_228
theorem d_X3_fillChoices_21 : decode prog_5_method_15_code 21 = .ok (.goto (-19), 3) := gq_13 db00a_80 eb_245
theorem d_X3_fillChoices_24 : decode prog_5_method_15_code 24 = .ok (.aload_n 0, 1) := gq_14 db00a_80 eb_0
theorem d_X3_fillChoices_25 : decode prog_5_method_15_code 25 = .ok (.getfield 36, 3) := gq_15 db00a_80 eb_175
theorem d_X3_fillChoices_28 : decode prog_5_method_15_code 28 = .ok (.iconst 0, 1) := gq_16 db00a_80 eb_21
theorem d_X3_fillChoices_29 : decode prog_5_method_15_code 29 = .ok (.invokestatic 77, 3) := gq_17 db00a_80 eb_233
theorem d_X3_fillChoices_32 : decode prog_5_method_15_code 32 = .ok (.aload_n 0, 1) := gq_18 db00a_80 eb_0
theorem d_X3_fillChoices_33 : decode prog_5_method_15_code 33 = .ok (.getfield 32, 3) := gq_19 db00a_80 eb_242
theorem d_X3_fillChoices_36 : decode prog_5_method_15_code 36 = .ok (.iconst 0, 1) := gq_20 db00a_80 eb_21
theorem d_X3_fillChoices_37 : decode prog_5_method_15_code 37 = .ok (.iconst 1, 1) := gq_21 db00a_80 eb_19
theorem d_X3_fillChoices_38 : decode prog_5_method_15_code 38 = .ok (.bastore, 1) := gq_22 db00a_80 eb_244
theorem d_X3_fillChoices_39 : decode prog_5_method_15_code 39 = .ok (.iconst 1, 1) := gq_23 db00a_80 eb_19
theorem db00a_81 : Pf_ prog_5_method_15_code [(40, [0x2a]), (41, [0xb4, 0x00, 0x2d]), (44, [0x78]), (45, [0x3c]), (46, [0x03]), (47, [0x3d]), (48, [0x1c]), (49, [0x2a]), (50, [0xb4, 0x00, 0x2a]), (53, [0xa2, 0x00, 0x2b]), (56, [0x03]), (57, [0x3e]), (58, [0x1d]), (59, [0x1b]), (60, [0xa2, 0x00, 0x1e]), (63, [0x2a]), (64, [0xb4, 0x00, 0x20]), (67, [0x1c]), (68, [0x11, 0x01, 0x00]), (71, [0x68]), (72, [0x1d]), (73, [0x60]), (74, [0x33]), (75, [0x99, 0x00, 0x09])] := pf_ok prog_5_method_15_code _ 40 (by decide +kernel)
theorem d_X3_fillChoices_40 : decode prog_5_method_15_code 40 = .ok (.aload_n 0, 1) := gq_0 db00a_81 eb_0
theorem d_X3_fillChoices_41 : decode prog_5_method_15_code 41 = .ok (.getfield 45, 3) := gq_1 db00a_81 eb_127
theorem d_X3_fillChoices_44 : decode prog_5_method_15_code 44 = .ok (.ishl, 1) := gq_2 db00a_81 eb_11
theorem d_X3_fillChoices_45 : decode prog_5_method_15_code 45 = .ok (.istore_n 1, 1) := gq_3 db00a_81 eb_222
theorem d_X3_fillChoices_46 : decode prog_5_method_15_code 46 = .ok (.iconst 0, 1) := gq_4 db00a_81 eb_21
theorem d_X3_fillChoices_47 : decode prog_5_method_15_code 47 = .ok (.istore_n 2, 1) := gq_5 db00a_81 eb_27
theorem d_X3_fillChoices_48 : decode prog_5_method_15_code 48 = .ok (.iload_n 2, 1) := gq_6 db00a_81 eb_13
theorem d_X3_fillChoices_49 : decode prog_5_method_15_code 49 = .ok (.aload_n 0, 1) := gq_7 db00a_81 eb_0
theorem d_X3_fillChoices_50 : decode prog_5_method_15_code 50 = .ok (.getfield 42, 3) := gq_8 db00a_81 eb_177
theorem d_X3_fillChoices_53 : decode prog_5_method_15_code 53 = .ok (.if_icmp .ge 43, 3) := gq_9 db00a_81 eb_246
theorem d_X3_fillChoices_56 : decode prog_5_method_15_code 56 = .ok (.iconst 0, 1) := gq_10 db00a_81 eb_21
theorem d_X3_fillChoices_57 : decode prog_5_method_15_code 57 = .ok (.istore_n 3, 1) := gq_11 db00a_81 eb_28
theorem d_X3_fillChoices_58 : decode prog_5_method_15_code 58 = .ok (.iload_n 3, 1) := gq_12 db00a_81 eb_29
theorem d_X3_fillChoices_59 : decode prog_5_method_15_code 59 = .ok (.iload_n 1, 1) := gq_13 db00a_81 eb_9
theorem d_X3_fillChoices_60 : decode prog_5_method_15_code 60 = .ok (.if_icmp .ge 30, 3) := gq_14 db00a_81 eb_247
theorem d_X3_fillChoices_63 : decode prog_5_method_15_code 63 = .ok (.aload_n 0, 1) := gq_15 db00a_81 eb_0
theorem d_X3_fillChoices_64 : decode prog_5_method_15_code 64 = .ok (.getfield 32, 3) := gq_16 db00a_81 eb_242
theorem d_X3_fillChoices_67 : decode prog_5_method_15_code 67 = .ok (.iload_n 2, 1) := gq_17 db00a_81 eb_13
theorem d_X3_fillChoices_68 : decode prog_5_method_15_code 68 = .ok (.sipush 256, 3) := gq_18 db00a_81 eb_232
theorem d_X3_fillChoices_71 : decode prog_5_method_15_code 71 = .ok (.imul, 1) := gq_19 db00a_81 eb_34
theorem d_X3_fillChoices_72 : decode prog_5_method_15_code 72 = .ok (.iload_n 3, 1) := gq_20 db00a_81 eb_29
theorem d_X3_fillChoices_73 : decode prog_5_method_15_code 73 = .ok (.iadd, 1) := gq_21 db00a_81 eb_35
theorem d_X3_fillChoices_74 : decode prog_5_method_15_code 74 = .ok (.baload, 1) := gq_22 db00a_81 eb_248
theorem d_X3_fillChoices_75 : decode prog_5_method_15_code 75 = .ok (.ifCond .eq 9, 3) := gq_23 db00a_81 eb_249
theorem db00a_82 : Pf_ prog_5_method_15_code [(78, [0x2a]), (79, [0x1c]), (80, [0x1d]), (81, [0xb6, 0x00, 0x60]), (84, [0x84, 0x03, 0x01]), (87, [0xa7, 0xff, 0xe3]), (90, [0x84, 0x02, 0x01]), (93, [0xa7, 0xff, 0xd3]), (96, [0xb1])] := pf_ok prog_5_method_15_code _ 78 (by decide +kernel)
theorem d_X3_fillChoices_78 : decode prog_5_method_15_code 78 = .ok (.aload_n 0, 1) := gq_0 db00a_82 eb_0
theorem d_X3_fillChoices_79 : decode prog_5_method_15_code 79 = .ok (.iload_n 2, 1) := gq_1 db00a_82 eb_13
theorem d_X3_fillChoices_80 : decode prog_5_method_15_code 80 = .ok (.iload_n 3, 1) := gq_2 db00a_82 eb_29
theorem d_X3_fillChoices_81 : decode prog_5_method_15_code 81 = .ok (.invokevirtual 96, 3) := gq_3 db00a_82 eb_165
theorem d_X3_fillChoices_84 : decode prog_5_method_15_code 84 = .ok (.iinc 3 1, 3) := gq_4 db00a_82 eb_42
theorem d_X3_fillChoices_87 : decode prog_5_method_15_code 87 = .ok (.goto (-29), 3) := gq_5 db00a_82 eb_250
theorem d_X3_fillChoices_90 : decode prog_5_method_15_code 90 = .ok (.iinc 2 1, 3) := gq_6 db00a_82 eb_41
theorem d_X3_fillChoices_93 : decode prog_5_method_15_code 93 = .ok (.goto (-45), 3) := gq_7 db00a_82 eb_251
theorem d_X3_fillChoices_96 : decode prog_5_method_15_code 96 = .ok (.return_, 1) := gq_8 db00a_82 eb_7
theorem db00a_83 : Pf_ prog_5_method_16_code [(0, [0x2a]), (1, [0xb4, 0x00, 0x1d]), (4, [0x1b]), (5, [0x11, 0x01, 0x00]), (8, [0x68]), (9, [0x1c]), (10, [0x60]), (11, [0x2e]), (12, [0x3e]), (13, [0x2a]), (14, [0xb4, 0x00, 0x1d]), (17, [0x1b]), (18, [0x04]), (19, [0x60]), (20, [0x11, 0x01, 0x00]), (23, [0x68]), (24, [0x1c]), (25, [0x60]), (26, [0x2e]), (27, [0x1d]), (28, [0xa0, 0x00, 0x1e]), (31, [0x2a]), (32, [0xb4, 0x00, 0x24]), (35, [0x1b])] := pf_ok prog_5_method_16_code _ 0 (by decide +kernel)
theorem d_X3_spreadFrom_0 : decode prog_5_method_16_code 0 = .ok (.aload_n 0, 1) := gq_0 db00a_83 eb_0
theorem d_X3_spreadFrom_1 : decode prog_5_method_16_code 1 = .ok (.getfield 29, 3) := gq_1 db00a_83 eb_207
theorem d_X3_spreadFrom_4 : decode prog_5_method_16_code 4 = .ok (.iload_n 1, 1) := gq_2 db00a_83 eb_9
theorem d_X3_spreadFrom_5 : decode prog_5_method_16_code 5 = .ok (.sipush 256, 3) := gq_3 db00a_83 eb_232
theorem d_X3_spreadFrom_8 : decode prog_5_method_16_code 8 = .ok (.imul, 1) := gq_4 db00a_83 eb_34
theorem d_X3_spreadFrom_9 : decode prog_5_method_16_code 9 = .ok (.iload_n 2, 1) := gq_5 db00a_83 eb_13
theorem d_X3_spreadFrom_10 : decode prog_5_method_16_code 10 = .ok (.iadd, 1) := gq_6 db00a_83 eb_35
theorem d_X3_spreadFrom_11 : decode prog_5_method_16_code 11 = .ok (.iaload, 1) := gq_7 db00a_83 eb_37
theorem d_X3_spreadFrom_12 : decode prog_5_method_16_code 12 = .ok (.istore_n 3, 1) := gq_8 db00a_83 eb_28
theorem d_X3_spreadFrom_13 : decode prog_5_method_16_code 13 = .ok (.aload_n 0, 1) := gq_9 db00a_83 eb_0
theorem d_X3_spreadFrom_14 : decode prog_5_method_16_code 14 = .ok (.getfield 29, 3) := gq_10 db00a_83 eb_207
theorem d_X3_spreadFrom_17 : decode prog_5_method_16_code 17 = .ok (.iload_n 1, 1) := gq_11 db00a_83 eb_9
theorem d_X3_spreadFrom_18 : decode prog_5_method_16_code 18 = .ok (.iconst 1, 1) := gq_12 db00a_83 eb_19
theorem d_X3_spreadFrom_19 : decode prog_5_method_16_code 19 = .ok (.iadd, 1) := gq_13 db00a_83 eb_35
theorem d_X3_spreadFrom_20 : decode prog_5_method_16_code 20 = .ok (.sipush 256, 3) := gq_14 db00a_83 eb_232
theorem d_X3_spreadFrom_23 : decode prog_5_method_16_code 23 = .ok (.imul, 1) := gq_15 db00a_83 eb_34
theorem d_X3_spreadFrom_24 : decode prog_5_method_16_code 24 = .ok (.iload_n 2, 1) := gq_16 db00a_83 eb_13
theorem d_X3_spreadFrom_25 : decode prog_5_method_16_code 25 = .ok (.iadd, 1) := gq_17 db00a_83 eb_35
theorem d_X3_spreadFrom_26 : decode prog_5_method_16_code 26 = .ok (.iaload, 1) := gq_18 db00a_83 eb_37
theorem d_X3_spreadFrom_27 : decode prog_5_method_16_code 27 = .ok (.iload_n 3, 1) := gq_19 db00a_83 eb_29
theorem d_X3_spreadFrom_28 : decode prog_5_method_16_code 28 = .ok (.if_icmp .ne 30, 3) := gq_20 db00a_83 eb_252
theorem d_X3_spreadFrom_31 : decode prog_5_method_16_code 31 = .ok (.aload_n 0, 1) := gq_21 db00a_83 eb_0
theorem d_X3_spreadFrom_32 : decode prog_5_method_16_code 32 = .ok (.getfield 36, 3) := gq_22 db00a_83 eb_175
theorem d_X3_spreadFrom_35 : decode prog_5_method_16_code 35 = .ok (.iload_n 1, 1) := gq_23 db00a_83 eb_9
theorem db00a_84 : Pf_ prog_5_method_16_code [(36, [0x5c]), (37, [0x2e]), (38, [0x11, 0x01, 0x00]), (41, [0x80]), (42, [0x4f]), (43, [0x2a]), (44, [0xb4, 0x00, 0x20]), (47, [0x1b]), (48, [0x04]), (49, [0x60]), (50, [0x11, 0x01, 0x00]), (53, [0x68]), (54, [0x1c]), (55, [0x60]), (56, [0x04]), (57, [0x54]), (58, [0x03]), (59, [0x36, 0x04]), (61, [0x15, 0x04]), (63, [0x2a]), (64, [0xb4, 0x00, 0x2d]), (67, [0xa2, 0x00, 0x41]), (70, [0x2a]), (71, [0x1b])] := pf_ok prog_5_method_16_code _ 36 (by decide +kernel)
theorem d_X3_spreadFrom_36 : decode prog_5_method_16_code 36 = .ok (.dup2, 1) := gq_0 db00a_84 eb_143
theorem d_X3_spreadFrom_37 : decode prog_5_method_16_code 37 = .ok (.iaload, 1) := gq_1 db00a_84 eb_37
theorem d_X3_spreadFrom_38 : decode prog_5_method_16_code 38 = .ok (.sipush 256, 3) := gq_2 db00a_84 eb_232
theorem d_X3_spreadFrom_41 : decode prog_5_method_16_code 41 = .ok (.ior, 1) := gq_3 db00a_84 eb_12
theorem d_X3_spreadFrom_42 : decode prog_5_method_16_code 42 = .ok (.iastore, 1) := gq_4 db00a_84 eb_38
theorem d_X3_spreadFrom_43 : decode prog_5_method_16_code 43 = .ok (.aload_n 0, 1) := gq_5 db00a_84 eb_0
theorem d_X3_spreadFrom_44 : decode prog_5_method_16_code 44 = .ok (.getfield 32, 3) := gq_6 db00a_84 eb_242
theorem d_X3_spreadFrom_47 : decode prog_5_method_16_code 47 = .ok (.iload_n 1, 1) := gq_7 db00a_84 eb_9
theorem d_X3_spreadFrom_48 : decode prog_5_method_16_code 48 = .ok (.iconst 1, 1) := gq_8 db00a_84 eb_19
theorem d_X3_spreadFrom_49 : decode prog_5_method_16_code 49 = .ok (.iadd, 1) := gq_9 db00a_84 eb_35
theorem d_X3_spreadFrom_50 : decode prog_5_method_16_code 50 = .ok (.sipush 256, 3) := gq_10 db00a_84 eb_232
theorem d_X3_spreadFrom_53 : decode prog_5_method_16_code 53 = .ok (.imul, 1) := gq_11 db00a_84 eb_34
theorem d_X3_spreadFrom_54 : decode prog_5_method_16_code 54 = .ok (.iload_n 2, 1) := gq_12 db00a_84 eb_13
theorem d_X3_spreadFrom_55 : decode prog_5_method_16_code 55 = .ok (.iadd, 1) := gq_13 db00a_84 eb_35
theorem d_X3_spreadFrom_56 : decode prog_5_method_16_code 56 = .ok (.iconst 1, 1) := gq_14 db00a_84 eb_19
theorem d_X3_spreadFrom_57 : decode prog_5_method_16_code 57 = .ok (.bastore, 1) := gq_15 db00a_84 eb_244
theorem d_X3_spreadFrom_58 : decode prog_5_method_16_code 58 = .ok (.iconst 0, 1) := gq_16 db00a_84 eb_21
theorem d_X3_spreadFrom_59 : decode prog_5_method_16_code 59 = .ok (.istore 4, 2) := gq_17 db00a_84 eb_133
theorem d_X3_spreadFrom_61 : decode prog_5_method_16_code 61 = .ok (.iload 4, 2) := gq_18 db00a_84 eb_76
theorem d_X3_spreadFrom_63 : decode prog_5_method_16_code 63 = .ok (.aload_n 0, 1) := gq_19 db00a_84 eb_0
theorem d_X3_spreadFrom_64 : decode prog_5_method_16_code 64 = .ok (.getfield 45, 3) := gq_20 db00a_84 eb_127
theorem d_X3_spreadFrom_67 : decode prog_5_method_16_code 67 = .ok (.if_icmp .ge 65, 3) := gq_21 db00a_84 eb_223
theorem d_X3_spreadFrom_70 : decode prog_5_method_16_code 70 = .ok (.aload_n 0, 1) := gq_22 db00a_84 eb_0
theorem d_X3_spreadFrom_71 : decode prog_5_method_16_code 71 = .ok (.iload_n 1, 1) := gq_23 db00a_84 eb_9
theorem db00a_85 : Pf_ prog_5_method_16_code [(72, [0x15, 0x04]), (74, [0x1c]), (75, [0xb6, 0x00, 0x53]), (78, [0x99, 0x00, 0x30]), (81, [0x2a]), (82, [0x1b]), (83, [0x15, 0x04]), (85, [0x1c]), (86, [0xb6, 0x00, 0x57]), (89, [0x1d]), (90, [0xa0, 0x00, 0x24]), (93, [0x2a]), (94, [0xb4, 0x00, 0x24]), (97, [0x1b]), (98, [0x5c]), (99, [0x2e]), (100, [0x04]), (101, [0x15, 0x04]), (103, [0x78]), (104, [0x80]), (105, [0x4f]), (106, [0x2a]), (107, [0xb4, 0x00, 0x20]), (110, [0x1b])] := pf_ok prog_5_method_16_code _ 72 (by decide +kernel)
theorem d_X3_spreadFrom_72 : decode prog_5_method_16_code 72 = .ok (.iload 4, 2) := gq_0 db00a_85 eb_76
theorem d_X3_spreadFrom_74 : decode prog_5_method_16_code 74 = .ok (.iload_n 2, 1) := gq_1 db00a_85 eb_13
theorem d_X3_spreadFrom_75 : decode prog_5_method_16_code 75 = .ok (.invokevirtual 83, 3) := gq_2 db00a_85 eb_236
theorem d_X3_spreadFrom_78 : decode prog_5_method_16_code 78 = .ok (.ifCond .eq 48, 3) := gq_3 db00a_85 eb_253
theorem d_X3_spreadFrom_81 : decode prog_5_method_16_code 81 = .ok (.aload_n 0, 1) := gq_4 db00a_85 eb_0
theorem d_X3_spreadFrom_82 : decode prog_5_method_16_code 82 = .ok (.iload_n 1, 1) := gq_5 db00a_85 eb_9
theorem d_X3_spreadFrom_83 : decode prog_5_method_16_code 83 = .ok (.iload 4, 2) := gq_6 db00a_85 eb_76
theorem d_X3_spreadFrom_85 : decode prog_5_method_16_code 85 = .ok (.iload_n 2, 1) := gq_7 db00a_85 eb_13
theorem d_X3_spreadFrom_86 : decode prog_5_method_16_code 86 = .ok (.invokevirtual 87, 3) := gq_8 db00a_85 eb_161
theorem d_X3_spreadFrom_89 : decode prog_5_method_16_code 89 = .ok (.iload_n 3, 1) := gq_9 db00a_85 eb_29
theorem d_X3_spreadFrom_90 : decode prog_5_method_16_code 90 = .ok (.if_icmp .ne 36, 3) := gq_10 db00a_85 eb_254
theorem d_X3_spreadFrom_93 : decode prog_5_method_16_code 93 = .ok (.aload_n 0, 1) := gq_11 db00a_85 eb_0
theorem d_X3_spreadFrom_94 : decode prog_5_method_16_code 94 = .ok (.getfield 36, 3) := gq_12 db00a_85 eb_175
theorem d_X3_spreadFrom_97 : decode prog_5_method_16_code 97 = .ok (.iload_n 1, 1) := gq_13 db00a_85 eb_9
theorem d_X3_spreadFrom_98 : decode prog_5_method_16_code 98 = .ok (.dup2, 1) := gq_14 db00a_85 eb_143
theorem d_X3_spreadFrom_99 : decode prog_5_method_16_code 99 = .ok (.iaload, 1) := gq_15 db00a_85 eb_37
theorem d_X3_spreadFrom_100 : decode prog_5_method_16_code 100 = .ok (.iconst 1, 1) := gq_16 db00a_85 eb_19
theorem d_X3_spreadFrom_101 : decode prog_5_method_16_code 101 = .ok (.iload 4, 2) := gq_17 db00a_85 eb_76
theorem d_X3_spreadFrom_103 : decode prog_5_method_16_code 103 = .ok (.ishl, 1) := gq_18 db00a_85 eb_11
theorem d_X3_spreadFrom_104 : decode prog_5_method_16_code 104 = .ok (.ior, 1) := gq_19 db00a_85 eb_12
theorem d_X3_spreadFrom_105 : decode prog_5_method_16_code 105 = .ok (.iastore, 1) := gq_20 db00a_85 eb_38
theorem d_X3_spreadFrom_106 : decode prog_5_method_16_code 106 = .ok (.aload_n 0, 1) := gq_21 db00a_85 eb_0
theorem d_X3_spreadFrom_107 : decode prog_5_method_16_code 107 = .ok (.getfield 32, 3) := gq_22 db00a_85 eb_242
theorem d_X3_spreadFrom_110 : decode prog_5_method_16_code 110 = .ok (.iload_n 1, 1) := gq_23 db00a_85 eb_9
theorem db00a_86 : Pf_ prog_5_method_16_code [(111, [0x04]), (112, [0x60]), (113, [0x11, 0x01, 0x00]), (116, [0x68]), (117, [0x1c]), (118, [0x04]), (119, [0x15, 0x04]), (121, [0x78]), (122, [0x80]), (123, [0x60]), (124, [0x04]), (125, [0x54]), (126, [0x84, 0x04, 0x01]), (129, [0xa7, 0xff, 0xbc]), (132, [0xb1])] := pf_ok prog_5_method_16_code _ 111 (by decide +kernel)
theorem d_X3_spreadFrom_111 : decode prog_5_method_16_code 111 = .ok (.iconst 1, 1) := gq_0 db00a_86 eb_19
theorem d_X3_spreadFrom_112 : decode prog_5_method_16_code 112 = .ok (.iadd, 1) := gq_1 db00a_86 eb_35
theorem d_X3_spreadFrom_113 : decode prog_5_method_16_code 113 = .ok (.sipush 256, 3) := gq_2 db00a_86 eb_232
theorem d_X3_spreadFrom_116 : decode prog_5_method_16_code 116 = .ok (.imul, 1) := gq_3 db00a_86 eb_34
theorem d_X3_spreadFrom_117 : decode prog_5_method_16_code 117 = .ok (.iload_n 2, 1) := gq_4 db00a_86 eb_13
theorem d_X3_spreadFrom_118 : decode prog_5_method_16_code 118 = .ok (.iconst 1, 1) := gq_5 db00a_86 eb_19
theorem d_X3_spreadFrom_119 : decode prog_5_method_16_code 119 = .ok (.iload 4, 2) := gq_6 db00a_86 eb_76
theorem d_X3_spreadFrom_121 : decode prog_5_method_16_code 121 = .ok (.ishl, 1) := gq_7 db00a_86 eb_11
theorem d_X3_spreadFrom_122 : decode prog_5_method_16_code 122 = .ok (.ior, 1) := gq_8 db00a_86 eb_12
theorem d_X3_spreadFrom_123 : decode prog_5_method_16_code 123 = .ok (.iadd, 1) := gq_9 db00a_86 eb_35
theorem d_X3_spreadFrom_124 : decode prog_5_method_16_code 124 = .ok (.iconst 1, 1) := gq_10 db00a_86 eb_19
theorem d_X3_spreadFrom_125 : decode prog_5_method_16_code 125 = .ok (.bastore, 1) := gq_11 db00a_86 eb_244
theorem d_X3_spreadFrom_126 : decode prog_5_method_16_code 126 = .ok (.iinc 4 1, 3) := gq_12 db00a_86 eb_144
theorem d_X3_spreadFrom_129 : decode prog_5_method_16_code 129 = .ok (.goto (-68), 3) := gq_13 db00a_86 eb_255
theorem d_X3_spreadFrom_132 : decode prog_5_method_16_code 132 = .ok (.return_, 1) := gq_14 db00a_86 eb_7
theorem db00a_87 : Pf_ prog_5_method_17_code [(0, [0x03]), (1, [0x3c]), (2, [0x03]), (3, [0x3d]), (4, [0x1c]), (5, [0x2a]), (6, [0xb4, 0x00, 0x2a]), (9, [0xa2, 0x00, 0x66]), (12, [0x2a]), (13, [0xb4, 0x00, 0x27]), (16, [0x1c]), (17, [0x02]), (18, [0x4f]), (19, [0x03]), (20, [0x3e]), (21, [0x1d]), (22, [0x2a]), (23, [0xb4, 0x00, 0x2d]), (26, [0xa2, 0x00, 0x3a]), (29, [0x2a]), (30, [0xb4, 0x00, 0x27]), (33, [0x1c]), (34, [0x2e]), (35, [0x02])] := pf_ok prog_5_method_17_code _ 0 (by decide +kernel)
theorem d_X3_fillFirst_0 : decode prog_5_method_17_code 0 = .ok (.iconst 0, 1) := gq_0 db00a_87 eb_21
theorem d_X3_fillFirst_1 : decode prog_5_method_17_code 1 = .ok (.istore_n 1, 1) := gq_1 db00a_87 eb_222
theorem d_X3_fillFirst_2 : decode prog_5_method_17_code 2 = .ok (.iconst 0, 1) := gq_2 db00a_87 eb_21
theorem d_X3_fillFirst_3 : decode prog_5_method_17_code 3 = .ok (.istore_n 2, 1) := gq_3 db00a_87 eb_27
theorem d_X3_fillFirst_4 : decode prog_5_method_17_code 4 = .ok (.iload_n 2, 1) := gq_4 db00a_87 eb_13
theorem d_X3_fillFirst_5 : decode prog_5_method_17_code 5 = .ok (.aload_n 0, 1) := gq_5 db00a_87 eb_0
theorem d_X3_fillFirst_6 : decode prog_5_method_17_code 6 = .ok (.getfield 42, 3) := gq_6 db00a_87 eb_177
theorem d_X3_fillFirst_9 : decode prog_5_method_17_code 9 = .ok (.if_icmp .ge 102, 3) := gq_7 db00a_87 eb_178
theorem d_X3_fillFirst_12 : decode prog_5_method_17_code 12 = .ok (.aload_n 0, 1) := gq_8 db00a_87 eb_0
theorem d_X3_fillFirst_13 : decode prog_5_method_17_code 13 = .ok (.getfield 39, 3) := gq_9 db00a_87 eb_176
theorem d_X3_fillFirst_16 : decode prog_5_method_17_code 16 = .ok (.iload_n 2, 1) := gq_10 db00a_87 eb_13
theorem d_X3_fillFirst_17 : decode prog_5_method_17_code 17 = .ok (.iconst (-1), 1) := gq_11 db00a_87 eb_26
theorem d_X3_fillFirst_18 : decode prog_5_method_17_code 18 = .ok (.iastore, 1) := gq_12 db00a_87 eb_38
theorem d_X3_fillFirst_19 : decode prog_5_method_17_code 19 = .ok (.iconst 0, 1) := gq_13 db00a_87 eb_21
theorem d_X3_fillFirst_20 : decode prog_5_method_17_code 20 = .ok (.istore_n 3, 1) := gq_14 db00a_87 eb_28
theorem d_X3_fillFirst_21 : decode prog_5_method_17_code 21 = .ok (.iload_n 3, 1) := gq_15 db00a_87 eb_29
theorem d_X3_fillFirst_22 : decode prog_5_method_17_code 22 = .ok (.aload_n 0, 1) := gq_16 db00a_87 eb_0
theorem d_X3_fillFirst_23 : decode prog_5_method_17_code 23 = .ok (.getfield 45, 3) := gq_17 db00a_87 eb_127
theorem d_X3_fillFirst_26 : decode prog_5_method_17_code 26 = .ok (.if_icmp .ge 58, 3) := gq_18 db00a_87 eb_256
theorem d_X3_fillFirst_29 : decode prog_5_method_17_code 29 = .ok (.aload_n 0, 1) := gq_19 db00a_87 eb_0
theorem d_X3_fillFirst_30 : decode prog_5_method_17_code 30 = .ok (.getfield 39, 3) := gq_20 db00a_87 eb_176
theorem d_X3_fillFirst_33 : decode prog_5_method_17_code 33 = .ok (.iload_n 2, 1) := gq_21 db00a_87 eb_13
theorem d_X3_fillFirst_34 : decode prog_5_method_17_code 34 = .ok (.iaload, 1) := gq_22 db00a_87 eb_37
theorem d_X3_fillFirst_35 : decode prog_5_method_17_code 35 = .ok (.iconst (-1), 1) := gq_23 db00a_87 eb_26
theorem db00a_88 : Pf_ prog_5_method_17_code [(36, [0xa0, 0x00, 0x30]), (39, [0x2a]), (40, [0x1c]), (41, [0x1d]), (42, [0x1b]), (43, [0xb6, 0x00, 0x53]), (46, [0x99, 0x00, 0x20]), (49, [0x2a]), (50, [0x1c]), (51, [0x1d]), (52, [0x1b]), (53, [0xb6, 0x00, 0x57]), (56, [0x2a]), (57, [0xb4, 0x00, 0x1d]), (60, [0x1c]), (61, [0x11, 0x01, 0x00]), (64, [0x68]), (65, [0x1b]), (66, [0x60]), (67, [0x2e]), (68, [0xa0, 0x00, 0x0a]), (71, [0x2a]), (72, [0xb4, 0x00, 0x27]), (75, [0x1c])] := pf_ok prog_5_method_17_code _ 36 (by decide +kernel)
theorem d_X3_fillFirst_36 : decode prog_5_method_17_code 36 = .ok (.if_icmp .ne 48, 3) := gq_0 db00a_88 eb_257
theorem d_X3_fillFirst_39 : decode prog_5_method_17_code 39 = .ok (.aload_n 0, 1) := gq_1 db00a_88 eb_0
theorem d_X3_fillFirst_40 : decode prog_5_method_17_code 40 = .ok (.iload_n 2, 1) := gq_2 db00a_88 eb_13
theorem d_X3_fillFirst_41 : decode prog_5_method_17_code 41 = .ok (.iload_n 3, 1) := gq_3 db00a_88 eb_29
theorem d_X3_fillFirst_42 : decode prog_5_method_17_code 42 = .ok (.iload_n 1, 1) := gq_4 db00a_88 eb_9
theorem d_X3_fillFirst_43 : decode prog_5_method_17_code 43 = .ok (.invokevirtual 83, 3) := gq_5 db00a_88 eb_236
theorem d_X3_fillFirst_46 : decode prog_5_method_17_code 46 = .ok (.ifCond .eq 32, 3) := gq_6 db00a_88 eb_258
theorem d_X3_fillFirst_49 : decode prog_5_method_17_code 49 = .ok (.aload_n 0, 1) := gq_7 db00a_88 eb_0
theorem d_X3_fillFirst_50 : decode prog_5_method_17_code 50 = .ok (.iload_n 2, 1) := gq_8 db00a_88 eb_13
theorem d_X3_fillFirst_51 : decode prog_5_method_17_code 51 = .ok (.iload_n 3, 1) := gq_9 db00a_88 eb_29
theorem d_X3_fillFirst_52 : decode prog_5_method_17_code 52 = .ok (.iload_n 1, 1) := gq_10 db00a_88 eb_9
theorem d_X3_fillFirst_53 : decode prog_5_method_17_code 53 = .ok (.invokevirtual 87, 3) := gq_11 db00a_88 eb_161
theorem d_X3_fillFirst_56 : decode prog_5_method_17_code 56 = .ok (.aload_n 0, 1) := gq_12 db00a_88 eb_0
theorem d_X3_fillFirst_57 : decode prog_5_method_17_code 57 = .ok (.getfield 29, 3) := gq_13 db00a_88 eb_207
theorem d_X3_fillFirst_60 : decode prog_5_method_17_code 60 = .ok (.iload_n 2, 1) := gq_14 db00a_88 eb_13
theorem d_X3_fillFirst_61 : decode prog_5_method_17_code 61 = .ok (.sipush 256, 3) := gq_15 db00a_88 eb_232
theorem d_X3_fillFirst_64 : decode prog_5_method_17_code 64 = .ok (.imul, 1) := gq_16 db00a_88 eb_34
theorem d_X3_fillFirst_65 : decode prog_5_method_17_code 65 = .ok (.iload_n 1, 1) := gq_17 db00a_88 eb_9
theorem d_X3_fillFirst_66 : decode prog_5_method_17_code 66 = .ok (.iadd, 1) := gq_18 db00a_88 eb_35
theorem d_X3_fillFirst_67 : decode prog_5_method_17_code 67 = .ok (.iaload, 1) := gq_19 db00a_88 eb_37
theorem d_X3_fillFirst_68 : decode prog_5_method_17_code 68 = .ok (.if_icmp .ne 10, 3) := gq_20 db00a_88 eb_259
theorem d_X3_fillFirst_71 : decode prog_5_method_17_code 71 = .ok (.aload_n 0, 1) := gq_21 db00a_88 eb_0
theorem d_X3_fillFirst_72 : decode prog_5_method_17_code 72 = .ok (.getfield 39, 3) := gq_22 db00a_88 eb_176
theorem d_X3_fillFirst_75 : decode prog_5_method_17_code 75 = .ok (.iload_n 2, 1) := gq_23 db00a_88 eb_13
theorem db00a_89 : Pf_ prog_5_method_17_code [(76, [0x1d]), (77, [0x4f]), (78, [0x84, 0x03, 0x01]), (81, [0xa7, 0xff, 0xc4]), (84, [0x2a]), (85, [0xb4, 0x00, 0x27]), (88, [0x1c]), (89, [0x2e]), (90, [0x02]), (91, [0x9f, 0x00, 0x0e]), (94, [0x1b]), (95, [0x04]), (96, [0x2a]), (97, [0xb4, 0x00, 0x27]), (100, [0x1c]), (101, [0x2e]), (102, [0x78]), (103, [0x80]), (104, [0x3c]), (105, [0x84, 0x02, 0x01]), (108, [0xa7, 0xff, 0x98]), (111, [0xb1])] := pf_ok prog_5_method_17_code _ 76 (by decide +kernel)
theorem d_X3_fillFirst_76 : decode prog_5_method_17_code 76 = .ok (.iload_n 3, 1) := gq_0 db00a_89 eb_29
theorem d_X3_fillFirst_77 : decode prog_5_method_17_code 77 = .ok (.iastore, 1) := gq_1 db00a_89 eb_38
theorem d_X3_fillFirst_78 : decode prog_5_method_17_code 78 = .ok (.iinc 3 1, 3) := gq_2 db00a_89 eb_42
theorem d_X3_fillFirst_81 : decode prog_5_method_17_code 81 = .ok (.goto (-60), 3) := gq_3 db00a_89 eb_260
theorem d_X3_fillFirst_84 : decode prog_5_method_17_code 84 = .ok (.aload_n 0, 1) := gq_4 db00a_89 eb_0
theorem d_X3_fillFirst_85 : decode prog_5_method_17_code 85 = .ok (.getfield 39, 3) := gq_5 db00a_89 eb_176
theorem d_X3_fillFirst_88 : decode prog_5_method_17_code 88 = .ok (.iload_n 2, 1) := gq_6 db00a_89 eb_13
theorem d_X3_fillFirst_89 : decode prog_5_method_17_code 89 = .ok (.iaload, 1) := gq_7 db00a_89 eb_37
theorem d_X3_fillFirst_90 : decode prog_5_method_17_code 90 = .ok (.iconst (-1), 1) := gq_8 db00a_89 eb_26
theorem d_X3_fillFirst_91 : decode prog_5_method_17_code 91 = .ok (.if_icmp .eq 14, 3) := gq_9 db00a_89 eb_261
theorem d_X3_fillFirst_94 : decode prog_5_method_17_code 94 = .ok (.iload_n 1, 1) := gq_10 db00a_89 eb_9
theorem d_X3_fillFirst_95 : decode prog_5_method_17_code 95 = .ok (.iconst 1, 1) := gq_11 db00a_89 eb_19
theorem d_X3_fillFirst_96 : decode prog_5_method_17_code 96 = .ok (.aload_n 0, 1) := gq_12 db00a_89 eb_0
theorem d_X3_fillFirst_97 : decode prog_5_method_17_code 97 = .ok (.getfield 39, 3) := gq_13 db00a_89 eb_176
theorem d_X3_fillFirst_100 : decode prog_5_method_17_code 100 = .ok (.iload_n 2, 1) := gq_14 db00a_89 eb_13
theorem d_X3_fillFirst_101 : decode prog_5_method_17_code 101 = .ok (.iaload, 1) := gq_15 db00a_89 eb_37
theorem d_X3_fillFirst_102 : decode prog_5_method_17_code 102 = .ok (.ishl, 1) := gq_16 db00a_89 eb_11
theorem d_X3_fillFirst_103 : decode prog_5_method_17_code 103 = .ok (.ior, 1) := gq_17 db00a_89 eb_12
theorem d_X3_fillFirst_104 : decode prog_5_method_17_code 104 = .ok (.istore_n 1, 1) := gq_18 db00a_89 eb_222
theorem d_X3_fillFirst_105 : decode prog_5_method_17_code 105 = .ok (.iinc 2 1, 3) := gq_19 db00a_89 eb_41
theorem d_X3_fillFirst_108 : decode prog_5_method_17_code 108 = .ok (.goto (-104), 3) := gq_20 db00a_89 eb_262
theorem d_X3_fillFirst_111 : decode prog_5_method_17_code 111 = .ok (.return_, 1) := gq_21 db00a_89 eb_7
theorem d_X4_init_7 : decode prog_6_method_1_code 7 = .ok (.newarray .int, 2) := by decide +kernel
theorem d_X4_init_15 : decode prog_6_method_1_code 15 = .ok (.newarray .int, 2) := by decide +kernel
theorem d_X4_init_23 : decode prog_6_method_1_code 23 = .ok (.newarray .int, 2) := by decide +kernel
theorem d_X4_init_31 : decode prog_6_method_1_code 31 = .ok (.newarray .int, 2) := by decide +kernel
theorem d_X4_init_39 : decode prog_6_method_1_code 39 = .ok (.newarray .int, 2) := by decide +kernel
theorem d_X4_init_47 : decode prog_6_method_1_code 47 = .ok (.newarray .int, 2) := by decide +kernel
theorem d_X4_init_55 : decode prog_6_method_1_code 55 = .ok (.newarray .boolean, 2) := by decide +kernel
theorem db00a_90 : Pf_ prog_6_method_1_code [(0, [0x2a]), (1, [0xb7, 0x00, 0x03]), (4, [0x2a]), (5, [0x10, 0x50]), (9, [0xb5, 0x00, 0x0b]), (12, [0x2a]), (13, [0x10, 0x50]), (17, [0xb5, 0x00, 0x0f]), (20, [0x2a]), (21, [0x10, 0x50]), (25, [0xb5, 0x00, 0x12]), (28, [0x2a]), (29, [0x10, 0x50]), (33, [0xb5, 0x00, 0x15]), (36, [0x2a]), (37, [0x10, 0x50]), (41, [0xb5, 0x00, 0x18]), (44, [0x2a]), (45, [0x10, 0x50]), (49, [0xb5, 0x00, 0x1b]), (52, [0x2a]), (53, [0x10, 0x50]), (57, [0xb5, 0x00, 0x1e]), (60, [0x2a])] := pf_ok prog_6_method_1_code _ 0 (by decide +kernel)
theorem d_X4_init_0 : decode prog_6_method_1_code 0 = .ok (.aload_n 0, 1) := gq_0 db00a_90 eb_0
theorem d_X4_init_1 : decode prog_6_method_1_code 1 = .ok (.invokespecial 3, 3) := gq_1 db00a_90 eb_1
theorem d_X4_init_4 : decode prog_6_method_1_code 4 = .ok (.aload_n 0, 1) := gq_2 db00a_90 eb_0
theorem d_X4_init_5 : decode prog_6_method_1_code 5 = .ok (.bipush 80, 2) := gq_3 db00a_90 eb_263
theorem d_X4_init_9 : decode prog_6_method_1_code 9 = .ok (.putfield 11, 3) := gq_4 db00a_90 eb_3
theorem d_X4_init_12 : decode prog_6_method_1_code 12 = .ok (.aload_n 0, 1) := gq_5 db00a_90 eb_0
theorem d_X4_init_13 : decode prog_6_method_1_code 13 = .ok (.bipush 80, 2) := gq_6 db00a_90 eb_263
theorem d_X4_init_17 : decode prog_6_method_1_code 17 = .ok (.putfield 15, 3) := gq_7 db00a_90 eb_5
theorem d_X4_init_20 : decode prog_6_method_1_code 20 = .ok (.aload_n 0, 1) := gq_8 db00a_90 eb_0
theorem d_X4_init_21 : decode prog_6_method_1_code 21 = .ok (.bipush 80, 2) := gq_9 db00a_90 eb_263
theorem d_X4_init_25 : decode prog_6_method_1_code 25 = .ok (.putfield 18, 3) := gq_10 db00a_90 eb_6
theorem d_X4_init_28 : decode prog_6_method_1_code 28 = .ok (.aload_n 0, 1) := gq_11 db00a_90 eb_0
theorem d_X4_init_29 : decode prog_6_method_1_code 29 = .ok (.bipush 80, 2) := gq_12 db00a_90 eb_263
theorem d_X4_init_33 : decode prog_6_method_1_code 33 = .ok (.putfield 21, 3) := gq_13 db00a_90 eb_47
theorem d_X4_init_36 : decode prog_6_method_1_code 36 = .ok (.aload_n 0, 1) := gq_14 db00a_90 eb_0
theorem d_X4_init_37 : decode prog_6_method_1_code 37 = .ok (.bipush 80, 2) := gq_15 db00a_90 eb_263
theorem d_X4_init_41 : decode prog_6_method_1_code 41 = .ok (.putfield 24, 3) := gq_16 db00a_90 eb_95
theorem d_X4_init_44 : decode prog_6_method_1_code 44 = .ok (.aload_n 0, 1) := gq_17 db00a_90 eb_0
theorem d_X4_init_45 : decode prog_6_method_1_code 45 = .ok (.bipush 80, 2) := gq_18 db00a_90 eb_263
theorem d_X4_init_49 : decode prog_6_method_1_code 49 = .ok (.putfield 27, 3) := gq_19 db00a_90 eb_97
theorem d_X4_init_52 : decode prog_6_method_1_code 52 = .ok (.aload_n 0, 1) := gq_20 db00a_90 eb_0
theorem d_X4_init_53 : decode prog_6_method_1_code 53 = .ok (.bipush 80, 2) := gq_21 db00a_90 eb_263
theorem d_X4_init_57 : decode prog_6_method_1_code 57 = .ok (.putfield 30, 3) := gq_22 db00a_90 eb_98
theorem d_X4_init_60 : decode prog_6_method_1_code 60 = .ok (.aload_n 0, 1) := gq_23 db00a_90 eb_0
theorem d_X4_init_64 : decode prog_6_method_1_code 64 = .ok (.newarray .int, 2) := by decide +kernel
theorem d_X4_init_73 : decode prog_6_method_1_code 73 = .ok (.newarray .int, 2) := by decide +kernel
theorem d_X4_init_82 : decode prog_6_method_1_code 82 = .ok (.newarray .int, 2) := by decide +kernel
theorem d_X4_init_91 : decode prog_6_method_1_code 91 = .ok (.newarray .int, 2) := by decide +kernel
theorem d_X4_init_100 : decode prog_6_method_1_code 100 = .ok (.newarray .int, 2) := by decide +kernel
theorem d_X4_init_109 : decode prog_6_method_1_code 109 = .ok (.newarray .int, 2) := by decide +kernel
theorem d_X4_init_118 : decode prog_6_method_1_code 118 = .ok (.newarray .int, 2) := by decide +kernel
theorem db00a_91 : Pf_ prog_6_method_1_code [(61, [0x11, 0x01, 0x2c]), (66, [0xb5, 0x00, 0x22]), (69, [0x2a]), (70, [0x11, 0x01, 0x2c]), (75, [0xb5, 0x00, 0x25]), (78, [0x2a]), (79, [0x11, 0x01, 0x2c]), (84, [0xb5, 0x00, 0x28]), (87, [0x2a]), (88, [0x11, 0x01, 0x2c]), (93, [0xb5, 0x00, 0x2b]), (96, [0x2a]), (97, [0x11, 0x01, 0x2c]), (102, [0xb5, 0x00, 0x2e]), (105, [0x2a]), (106, [0x11, 0x01, 0x2c]), (111, [0xb5, 0x00, 0x31]), (114, [0x2a]), (115, [0x11, 0x0a, 0x8c]), (120, [0xb5, 0x00, 0x34]), (123, [0xb1])] := pf_ok prog_6_method_1_code _ 61 (by decide +kernel)
theorem d_X4_init_61 : decode prog_6_method_1_code 61 = .ok (.sipush 300, 3) := gq_0 db00a_91 eb_264
theorem d_X4_init_66 : decode prog_6_method_1_code 66 = .ok (.putfield 34, 3) := gq_1 db00a_91 eb_265
theorem d_X4_init_69 : decode prog_6_method_1_code 69 = .ok (.aload_n 0, 1) := gq_2 db00a_91 eb_0
theorem d_X4_init_70 : decode prog_6_method_1_code 70 = .ok (.sipush 300, 3) := gq_3 db00a_91 eb_264
theorem d_X4_init_75 : decode prog_6_method_1_code 75 = .ok (.putfield 37, 3) := gq_4 db00a_91 eb_266
theorem d_X4_init_78 : decode prog_6_method_1_code 78 = .ok (.aload_n 0, 1) := gq_5 db00a_91 eb_0
theorem d_X4_init_79 : decode prog_6_method_1_code 79 = .ok (.sipush 300, 3) := gq_6 db00a_91 eb_264
theorem d_X4_init_84 : decode prog_6_method_1_code 84 = .ok (.putfield 40, 3) := gq_7 db00a_91 eb_267
theorem d_X4_init_87 : decode prog_6_method_1_code 87 = .ok (.aload_n 0, 1) := gq_8 db00a_91 eb_0
theorem d_X4_init_88 : decode prog_6_method_1_code 88 = .ok (.sipush 300, 3) := gq_9 db00a_91 eb_264
theorem d_X4_init_93 : decode prog_6_method_1_code 93 = .ok (.putfield 43, 3) := gq_10 db00a_91 eb_268
theorem d_X4_init_96 : decode prog_6_method_1_code 96 = .ok (.aload_n 0, 1) := gq_11 db00a_91 eb_0
theorem d_X4_init_97 : decode prog_6_method_1_code 97 = .ok (.sipush 300, 3) := gq_12 db00a_91 eb_264
theorem d_X4_init_102 : decode prog_6_method_1_code 102 = .ok (.putfield 46, 3) := gq_13 db00a_91 eb_269
theorem d_X4_init_105 : decode prog_6_method_1_code 105 = .ok (.aload_n 0, 1) := gq_14 db00a_91 eb_0
theorem d_X4_init_106 : decode prog_6_method_1_code 106 = .ok (.sipush 300, 3) := gq_15 db00a_91 eb_264
theorem d_X4_init_111 : decode prog_6_method_1_code 111 = .ok (.putfield 49, 3) := gq_16 db00a_91 eb_270
theorem d_X4_init_114 : decode prog_6_method_1_code 114 = .ok (.aload_n 0, 1) := gq_17 db00a_91 eb_0
theorem d_X4_init_115 : decode prog_6_method_1_code 115 = .ok (.sipush 2700, 3) := gq_18 db00a_91 eb_271
theorem d_X4_init_120 : decode prog_6_method_1_code 120 = .ok (.putfield 52, 3) := gq_19 db00a_91 eb_272
theorem d_X4_init_123 : decode prog_6_method_1_code 123 = .ok (.return_, 1) := gq_20 db00a_91 eb_7
theorem db00a_92 : Pf_ prog_6_method_2_code [(0, [0x2a]), (1, [0xb4, 0x00, 0x37]), (4, [0x10, 0x50]), (6, [0xa1, 0x00, 0x05]), (9, [0x02]), (10, [0xac]), (11, [0x2a]), (12, [0xb4, 0x00, 0x0b]), (15, [0x2a]), (16, [0xb4, 0x00, 0x37]), (19, [0x1b]), (20, [0x4f]), (21, [0x2a]), (22, [0xb4, 0x00, 0x0f]), (25, [0x2a]), (26, [0xb4, 0x00, 0x37]), (29, [0x1c]), (30, [0x4f]), (31, [0x2a]), (32, [0xb4, 0x00, 0x12]), (35, [0x2a]), (36, [0xb4, 0x00, 0x37]), (39, [0x1d]), (40, [0x4f])] := pf_ok prog_6_method_2_code _ 0 (by decide +kernel)
theorem d_X4_addFind_0 : decode prog_6_method_2_code 0 = .ok (.aload_n 0, 1) := gq_0 db00a_92 eb_0
theorem d_X4_addFind_1 : decode prog_6_method_2_code 1 = .ok (.getfield 55, 3) := gq_1 db00a_92 eb_273
theorem d_X4_addFind_4 : decode prog_6_method_2_code 4 = .ok (.bipush 80, 2) := gq_2 db00a_92 eb_263
theorem d_X4_addFind_6 : decode prog_6_method_2_code 6 = .ok (.if_icmp .lt 5, 3) := gq_3 db00a_92 eb_114
theorem d_X4_addFind_9 : decode prog_6_method_2_code 9 = .ok (.iconst (-1), 1) := gq_4 db00a_92 eb_26
theorem d_X4_addFind_10 : decode prog_6_method_2_code 10 = .ok (.ireturn, 1) := gq_5 db00a_92 eb_15
theorem d_X4_addFind_11 : decode prog_6_method_2_code 11 = .ok (.aload_n 0, 1) := gq_6 db00a_92 eb_0
theorem d_X4_addFind_12 : decode prog_6_method_2_code 12 = .ok (.getfield 11, 3) := gq_7 db00a_92 eb_32
theorem d_X4_addFind_15 : decode prog_6_method_2_code 15 = .ok (.aload_n 0, 1) := gq_8 db00a_92 eb_0
theorem d_X4_addFind_16 : decode prog_6_method_2_code 16 = .ok (.getfield 55, 3) := gq_9 db00a_92 eb_273
theorem d_X4_addFind_19 : decode prog_6_method_2_code 19 = .ok (.iload_n 1, 1) := gq_10 db00a_92 eb_9
theorem d_X4_addFind_20 : decode prog_6_method_2_code 20 = .ok (.iastore, 1) := gq_11 db00a_92 eb_38
theorem d_X4_addFind_21 : decode prog_6_method_2_code 21 = .ok (.aload_n 0, 1) := gq_12 db00a_92 eb_0
theorem d_X4_addFind_22 : decode prog_6_method_2_code 22 = .ok (.getfield 15, 3) := gq_13 db00a_92 eb_44
theorem d_X4_addFind_25 : decode prog_6_method_2_code 25 = .ok (.aload_n 0, 1) := gq_14 db00a_92 eb_0
theorem d_X4_addFind_26 : decode prog_6_method_2_code 26 = .ok (.getfield 55, 3) := gq_15 db00a_92 eb_273
theorem d_X4_addFind_29 : decode prog_6_method_2_code 29 = .ok (.iload_n 2, 1) := gq_16 db00a_92 eb_13
theorem d_X4_addFind_30 : decode prog_6_method_2_code 30 = .ok (.iastore, 1) := gq_17 db00a_92 eb_38
theorem d_X4_addFind_31 : decode prog_6_method_2_code 31 = .ok (.aload_n 0, 1) := gq_18 db00a_92 eb_0
theorem d_X4_addFind_32 : decode prog_6_method_2_code 32 = .ok (.getfield 18, 3) := gq_19 db00a_92 eb_45
theorem d_X4_addFind_35 : decode prog_6_method_2_code 35 = .ok (.aload_n 0, 1) := gq_20 db00a_92 eb_0
theorem d_X4_addFind_36 : decode prog_6_method_2_code 36 = .ok (.getfield 55, 3) := gq_21 db00a_92 eb_273
theorem d_X4_addFind_39 : decode prog_6_method_2_code 39 = .ok (.iload_n 3, 1) := gq_22 db00a_92 eb_29
theorem d_X4_addFind_40 : decode prog_6_method_2_code 40 = .ok (.iastore, 1) := gq_23 db00a_92 eb_38
theorem db00a_93 : Pf_ prog_6_method_2_code [(41, [0x2a]), (42, [0xb4, 0x00, 0x15]), (45, [0x2a]), (46, [0xb4, 0x00, 0x37]), (49, [0x15, 0x04]), (51, [0x4f]), (52, [0x2a]), (53, [0xb4, 0x00, 0x18]), (56, [0x2a]), (57, [0xb4, 0x00, 0x37]), (60, [0x15, 0x05]), (62, [0x4f]), (63, [0x2a]), (64, [0x59]), (65, [0xb4, 0x00, 0x37]), (68, [0x04]), (69, [0x60]), (70, [0xb5, 0x00, 0x37]), (73, [0x2a]), (74, [0xb4, 0x00, 0x37]), (77, [0x04]), (78, [0x64]), (79, [0xac])] := pf_ok prog_6_method_2_code _ 41 (by decide +kernel)
theorem d_X4_addFind_41 : decode prog_6_method_2_code 41 = .ok (.aload_n 0, 1) := gq_0 db00a_93 eb_0
theorem d_X4_addFind_42 : decode prog_6_method_2_code 42 = .ok (.getfield 21, 3) := gq_1 db00a_93 eb_17
theorem d_X4_addFind_45 : decode prog_6_method_2_code 45 = .ok (.aload_n 0, 1) := gq_2 db00a_93 eb_0
theorem d_X4_addFind_46 : decode prog_6_method_2_code 46 = .ok (.getfield 55, 3) := gq_3 db00a_93 eb_273
theorem d_X4_addFind_49 : decode prog_6_method_2_code 49 = .ok (.iload 4, 2) := gq_4 db00a_93 eb_76
theorem d_X4_addFind_51 : decode prog_6_method_2_code 51 = .ok (.iastore, 1) := gq_5 db00a_93 eb_38
theorem d_X4_addFind_52 : decode prog_6_method_2_code 52 = .ok (.aload_n 0, 1) := gq_6 db00a_93 eb_0
theorem d_X4_addFind_53 : decode prog_6_method_2_code 53 = .ok (.getfield 24, 3) := gq_7 db00a_93 eb_108
theorem d_X4_addFind_56 : decode prog_6_method_2_code 56 = .ok (.aload_n 0, 1) := gq_8 db00a_93 eb_0
theorem d_X4_addFind_57 : decode prog_6_method_2_code 57 = .ok (.getfield 55, 3) := gq_9 db00a_93 eb_273
theorem d_X4_addFind_60 : decode prog_6_method_2_code 60 = .ok (.iload 5, 2) := gq_10 db00a_93 eb_125
theorem d_X4_addFind_62 : decode prog_6_method_2_code 62 = .ok (.iastore, 1) := gq_11 db00a_93 eb_38
theorem d_X4_addFind_63 : decode prog_6_method_2_code 63 = .ok (.aload_n 0, 1) := gq_12 db00a_93 eb_0
theorem d_X4_addFind_64 : decode prog_6_method_2_code 64 = .ok (.dup, 1) := gq_13 db00a_93 eb_46
theorem d_X4_addFind_65 : decode prog_6_method_2_code 65 = .ok (.getfield 55, 3) := gq_14 db00a_93 eb_273
theorem d_X4_addFind_68 : decode prog_6_method_2_code 68 = .ok (.iconst 1, 1) := gq_15 db00a_93 eb_19
theorem d_X4_addFind_69 : decode prog_6_method_2_code 69 = .ok (.iadd, 1) := gq_16 db00a_93 eb_35
theorem d_X4_addFind_70 : decode prog_6_method_2_code 70 = .ok (.putfield 55, 3) := gq_17 db00a_93 eb_274
theorem d_X4_addFind_73 : decode prog_6_method_2_code 73 = .ok (.aload_n 0, 1) := gq_18 db00a_93 eb_0
theorem d_X4_addFind_74 : decode prog_6_method_2_code 74 = .ok (.getfield 55, 3) := gq_19 db00a_93 eb_273
theorem d_X4_addFind_77 : decode prog_6_method_2_code 77 = .ok (.iconst 1, 1) := gq_20 db00a_93 eb_19
theorem d_X4_addFind_78 : decode prog_6_method_2_code 78 = .ok (.isub, 1) := gq_21 db00a_93 eb_48
theorem d_X4_addFind_79 : decode prog_6_method_2_code 79 = .ok (.ireturn, 1) := gq_22 db00a_93 eb_15
theorem db00a_94 : Pf_ prog_6_method_3_code [(0, [0x1b]), (1, [0x03]), (2, [0x2a]), (3, [0xb4, 0x00, 0x37]), (6, [0x04]), (7, [0x64]), (8, [0xb8, 0x00, 0x3b]), (11, [0x99, 0x00, 0x0c]), (14, [0x2a]), (15, [0xb4, 0x00, 0x0b]), (18, [0x1b]), (19, [0x2e]), (20, [0xa7, 0x00, 0x04]), (23, [0x03]), (24, [0xac])] := pf_ok prog_6_method_3_code _ 0 (by decide +kernel)
theorem d_X4_kindOf_0 : decode prog_6_method_3_code 0 = .ok (.iload_n 1, 1) := gq_0 db00a_94 eb_9
theorem d_X4_kindOf_1 : decode prog_6_method_3_code 1 = .ok (.iconst 0, 1) := gq_1 db00a_94 eb_21
theorem d_X4_kindOf_2 : decode prog_6_method_3_code 2 = .ok (.aload_n 0, 1) := gq_2 db00a_94 eb_0
theorem d_X4_kindOf_3 : decode prog_6_method_3_code 3 = .ok (.getfield 55, 3) := gq_3 db00a_94 eb_273
theorem d_X4_kindOf_6 : decode prog_6_method_3_code 6 = .ok (.iconst 1, 1) := gq_4 db00a_94 eb_19
theorem d_X4_kindOf_7 : decode prog_6_method_3_code 7 = .ok (.isub, 1) := gq_5 db00a_94 eb_48
theorem d_X4_kindOf_8 : decode prog_6_method_3_code 8 = .ok (.invokestatic 59, 3) := gq_6 db00a_94 eb_275
theorem d_X4_kindOf_11 : decode prog_6_method_3_code 11 = .ok (.ifCond .eq 12, 3) := gq_7 db00a_94 eb_50
theorem d_X4_kindOf_14 : decode prog_6_method_3_code 14 = .ok (.aload_n 0, 1) := gq_8 db00a_94 eb_0
theorem d_X4_kindOf_15 : decode prog_6_method_3_code 15 = .ok (.getfield 11, 3) := gq_9 db00a_94 eb_32
theorem d_X4_kindOf_18 : decode prog_6_method_3_code 18 = .ok (.iload_n 1, 1) := gq_10 db00a_94 eb_9
theorem d_X4_kindOf_19 : decode prog_6_method_3_code 19 = .ok (.iaload, 1) := gq_11 db00a_94 eb_37
theorem d_X4_kindOf_20 : decode prog_6_method_3_code 20 = .ok (.goto 4, 3) := gq_12 db00a_94 eb_20
theorem d_X4_kindOf_23 : decode prog_6_method_3_code 23 = .ok (.iconst 0, 1) := gq_13 db00a_94 eb_21
theorem d_X4_kindOf_24 : decode prog_6_method_3_code 24 = .ok (.ireturn, 1) := gq_14 db00a_94 eb_15
theorem db00a_95 : Pf_ prog_6_method_4_code [(0, [0x1b]), (1, [0x9b, 0x00, 0x0f]), (4, [0x1b]), (5, [0x2a]), (6, [0xb4, 0x00, 0x3f]), (9, [0xa2, 0x00, 0x07]), (12, [0x04]), (13, [0xa7, 0x00, 0x04]), (16, [0x03]), (17, [0xac])] := pf_ok prog_6_method_4_code _ 0 (by decide +kernel)
theorem d_X4_has_0 : decode prog_6_method_4_code 0 = .ok (.iload_n 1, 1) := gq_0 db00a_95 eb_9
theorem d_X4_has_1 : decode prog_6_method_4_code 1 = .ok (.ifCond .lt 15, 3) := gq_1 db00a_95 eb_16
theorem d_X4_has_4 : decode prog_6_method_4_code 4 = .ok (.iload_n 1, 1) := gq_2 db00a_95 eb_9
theorem d_X4_has_5 : decode prog_6_method_4_code 5 = .ok (.aload_n 0, 1) := gq_3 db00a_95 eb_0
theorem d_X4_has_6 : decode prog_6_method_4_code 6 = .ok (.getfield 63, 3) := gq_4 db00a_95 eb_276
theorem d_X4_has_9 : decode prog_6_method_4_code 9 = .ok (.if_icmp .ge 7, 3) := gq_5 db00a_95 eb_18
theorem d_X4_has_12 : decode prog_6_method_4_code 12 = .ok (.iconst 1, 1) := gq_6 db00a_95 eb_19
theorem d_X4_has_13 : decode prog_6_method_4_code 13 = .ok (.goto 4, 3) := gq_7 db00a_95 eb_20
theorem d_X4_has_16 : decode prog_6_method_4_code 16 = .ok (.iconst 0, 1) := gq_8 db00a_95 eb_21
theorem d_X4_has_17 : decode prog_6_method_4_code 17 = .ok (.ireturn, 1) := gq_9 db00a_95 eb_15
theorem db00a_96 : Pf_ prog_6_method_5_code [(0, [0x1b]), (1, [0x03]), (2, [0x2a]), (3, [0xb4, 0x00, 0x37]), (6, [0x04]), (7, [0x64]), (8, [0xb8, 0x00, 0x3b]), (11, [0x99, 0x00, 0x1a]), (14, [0x2a]), (15, [0xb4, 0x00, 0x3f]), (18, [0x11, 0x01, 0x2c]), (21, [0xa2, 0x00, 0x10]), (24, [0x2a]), (25, [0xb4, 0x00, 0x1e]), (28, [0x1b]), (29, [0x33]), (30, [0x9a, 0x00, 0x07]), (33, [0x04]), (34, [0xa7, 0x00, 0x04]), (37, [0x03]), (38, [0x36, 0x04]), (40, [0x15, 0x04]), (42, [0x99, 0x00, 0x24]), (45, [0x2a])] := pf_ok prog_6_method_5_code _ 0 (by decide +kernel)
theorem d_X4_canBeSeen_0 : decode prog_6_method_5_code 0 = .ok (.iload_n 1, 1) := gq_0 db00a_96 eb_9
theorem d_X4_canBeSeen_1 : decode prog_6_method_5_code 1 = .ok (.iconst 0, 1) := gq_1 db00a_96 eb_21
theorem d_X4_canBeSeen_2 : decode prog_6_method_5_code 2 = .ok (.aload_n 0, 1) := gq_2 db00a_96 eb_0
theorem d_X4_canBeSeen_3 : decode prog_6_method_5_code 3 = .ok (.getfield 55, 3) := gq_3 db00a_96 eb_273
theorem d_X4_canBeSeen_6 : decode prog_6_method_5_code 6 = .ok (.iconst 1, 1) := gq_4 db00a_96 eb_19
theorem d_X4_canBeSeen_7 : decode prog_6_method_5_code 7 = .ok (.isub, 1) := gq_5 db00a_96 eb_48
theorem d_X4_canBeSeen_8 : decode prog_6_method_5_code 8 = .ok (.invokestatic 59, 3) := gq_6 db00a_96 eb_275
theorem d_X4_canBeSeen_11 : decode prog_6_method_5_code 11 = .ok (.ifCond .eq 26, 3) := gq_7 db00a_96 eb_277
theorem d_X4_canBeSeen_14 : decode prog_6_method_5_code 14 = .ok (.aload_n 0, 1) := gq_8 db00a_96 eb_0
theorem d_X4_canBeSeen_15 : decode prog_6_method_5_code 15 = .ok (.getfield 63, 3) := gq_9 db00a_96 eb_276
theorem d_X4_canBeSeen_18 : decode prog_6_method_5_code 18 = .ok (.sipush 300, 3) := gq_10 db00a_96 eb_264
theorem d_X4_canBeSeen_21 : decode prog_6_method_5_code 21 = .ok (.if_icmp .ge 16, 3) := gq_11 db00a_96 eb_243
theorem d_X4_canBeSeen_24 : decode prog_6_method_5_code 24 = .ok (.aload_n 0, 1) := gq_12 db00a_96 eb_0
theorem d_X4_canBeSeen_25 : decode prog_6_method_5_code 25 = .ok (.getfield 30, 3) := gq_13 db00a_96 eb_124
theorem d_X4_canBeSeen_28 : decode prog_6_method_5_code 28 = .ok (.iload_n 1, 1) := gq_14 db00a_96 eb_9
theorem d_X4_canBeSeen_29 : decode prog_6_method_5_code 29 = .ok (.baload, 1) := gq_15 db00a_96 eb_248
theorem d_X4_canBeSeen_30 : decode prog_6_method_5_code 30 = .ok (.ifCond .ne 7, 3) := gq_16 db00a_96 eb_164
theorem d_X4_canBeSeen_33 : decode prog_6_method_5_code 33 = .ok (.iconst 1, 1) := gq_17 db00a_96 eb_19
theorem d_X4_canBeSeen_34 : decode prog_6_method_5_code 34 = .ok (.goto 4, 3) := gq_18 db00a_96 eb_20
theorem d_X4_canBeSeen_37 : decode prog_6_method_5_code 37 = .ok (.iconst 0, 1) := gq_19 db00a_96 eb_21
theorem d_X4_canBeSeen_38 : decode prog_6_method_5_code 38 = .ok (.istore 4, 2) := gq_20 db00a_96 eb_133
theorem d_X4_canBeSeen_40 : decode prog_6_method_5_code 40 = .ok (.iload 4, 2) := gq_21 db00a_96 eb_76
theorem d_X4_canBeSeen_42 : decode prog_6_method_5_code 42 = .ok (.ifCond .eq 36, 3) := gq_22 db00a_96 eb_278
theorem d_X4_canBeSeen_45 : decode prog_6_method_5_code 45 = .ok (.aload_n 0, 1) := gq_23 db00a_96 eb_0
theorem db00a_97 : Pf_ prog_6_method_5_code [(46, [0xb4, 0x00, 0x0f]), (49, [0x1b]), (50, [0x2e]), (51, [0x1c]), (52, [0xa0, 0x00, 0x1a]), (55, [0x1d]), (56, [0x2a]), (57, [0xb4, 0x00, 0x12]), (60, [0x1b]), (61, [0x2e]), (62, [0x2a]), (63, [0xb4, 0x00, 0x15]), (66, [0x1b]), (67, [0x2e]), (68, [0xb8, 0x00, 0x3b]), (71, [0x99, 0x00, 0x07]), (74, [0x04]), (75, [0xa7, 0x00, 0x04]), (78, [0x03]), (79, [0xac])] := pf_ok prog_6_method_5_code _ 46 (by decide +kernel)
theorem d_X4_canBeSeen_46 : decode prog_6_method_5_code 46 = .ok (.getfield 15, 3) := gq_0 db00a_97 eb_44
theorem d_X4_canBeSeen_49 : decode prog_6_method_5_code 49 = .ok (.iload_n 1, 1) := gq_1 db00a_97 eb_9
theorem d_X4_canBeSeen_50 : decode prog_6_method_5_code 50 = .ok (.iaload, 1) := gq_2 db00a_97 eb_37
theorem d_X4_canBeSeen_51 : decode prog_6_method_5_code 51 = .ok (.iload_n 2, 1) := gq_3 db00a_97 eb_13
theorem d_X4_canBeSeen_52 : decode prog_6_method_5_code 52 = .ok (.if_icmp .ne 26, 3) := gq_4 db00a_97 eb_279
theorem d_X4_canBeSeen_55 : decode prog_6_method_5_code 55 = .ok (.iload_n 3, 1) := gq_5 db00a_97 eb_29
theorem d_X4_canBeSeen_56 : decode prog_6_method_5_code 56 = .ok (.aload_n 0, 1) := gq_6 db00a_97 eb_0
theorem d_X4_canBeSeen_57 : decode prog_6_method_5_code 57 = .ok (.getfield 18, 3) := gq_7 db00a_97 eb_45
theorem d_X4_canBeSeen_60 : decode prog_6_method_5_code 60 = .ok (.iload_n 1, 1) := gq_8 db00a_97 eb_9
theorem d_X4_canBeSeen_61 : decode prog_6_method_5_code 61 = .ok (.iaload, 1) := gq_9 db00a_97 eb_37
theorem d_X4_canBeSeen_62 : decode prog_6_method_5_code 62 = .ok (.aload_n 0, 1) := gq_10 db00a_97 eb_0
theorem d_X4_canBeSeen_63 : decode prog_6_method_5_code 63 = .ok (.getfield 21, 3) := gq_11 db00a_97 eb_17
theorem d_X4_canBeSeen_66 : decode prog_6_method_5_code 66 = .ok (.iload_n 1, 1) := gq_12 db00a_97 eb_9
theorem d_X4_canBeSeen_67 : decode prog_6_method_5_code 67 = .ok (.iaload, 1) := gq_13 db00a_97 eb_37
theorem d_X4_canBeSeen_68 : decode prog_6_method_5_code 68 = .ok (.invokestatic 59, 3) := gq_14 db00a_97 eb_275
theorem d_X4_canBeSeen_71 : decode prog_6_method_5_code 71 = .ok (.ifCond .eq 7, 3) := gq_15 db00a_97 eb_123
theorem d_X4_canBeSeen_74 : decode prog_6_method_5_code 74 = .ok (.iconst 1, 1) := gq_16 db00a_97 eb_19
theorem d_X4_canBeSeen_75 : decode prog_6_method_5_code 75 = .ok (.goto 4, 3) := gq_17 db00a_97 eb_20
theorem d_X4_canBeSeen_78 : decode prog_6_method_5_code 78 = .ok (.iconst 0, 1) := gq_18 db00a_97 eb_21
theorem d_X4_canBeSeen_79 : decode prog_6_method_5_code 79 = .ok (.ireturn, 1) := gq_19 db00a_97 eb_15
theorem db00a_98 : Pf_ prog_6_method_6_code [(0, [0x2a]), (1, [0xb4, 0x00, 0x3f]), (4, [0x11, 0x01, 0x2c]), (7, [0xa2, 0x00, 0x11]), (10, [0x1c]), (11, [0x03]), (12, [0x2a]), (13, [0xb4, 0x00, 0x37]), (16, [0x04]), (17, [0x64]), (18, [0xb8, 0x00, 0x3b]), (21, [0x9a, 0x00, 0x05]), (24, [0x02]), (25, [0xac]), (26, [0x2a]), (27, [0xb4, 0x00, 0x3f]), (30, [0x36, 0x04]), (32, [0x2a]), (33, [0xb4, 0x00, 0x22]), (36, [0x15, 0x04]), (38, [0x1b]), (39, [0x4f]), (40, [0x2a]), (41, [0xb4, 0x00, 0x25])] := pf_ok prog_6_method_6_code _ 0 (by decide +kernel)
theorem d_X4_write_0 : decode prog_6_method_6_code 0 = .ok (.aload_n 0, 1) := gq_0 db00a_98 eb_0
theorem d_X4_write_1 : decode prog_6_method_6_code 1 = .ok (.getfield 63, 3) := gq_1 db00a_98 eb_276
theorem d_X4_write_4 : decode prog_6_method_6_code 4 = .ok (.sipush 300, 3) := gq_2 db00a_98 eb_264
theorem d_X4_write_7 : decode prog_6_method_6_code 7 = .ok (.if_icmp .ge 17, 3) := gq_3 db00a_98 eb_280
theorem d_X4_write_10 : decode prog_6_method_6_code 10 = .ok (.iload_n 2, 1) := gq_4 db00a_98 eb_13
theorem d_X4_write_11 : decode prog_6_method_6_code 11 = .ok (.iconst 0, 1) := gq_5 db00a_98 eb_21
theorem d_X4_write_12 : decode prog_6_method_6_code 12 = .ok (.aload_n 0, 1) := gq_6 db00a_98 eb_0
theorem d_X4_write_13 : decode prog_6_method_6_code 13 = .ok (.getfield 55, 3) := gq_7 db00a_98 eb_273
theorem d_X4_write_16 : decode prog_6_method_6_code 16 = .ok (.iconst 1, 1) := gq_8 db00a_98 eb_19
theorem d_X4_write_17 : decode prog_6_method_6_code 17 = .ok (.isub, 1) := gq_9 db00a_98 eb_48
theorem d_X4_write_18 : decode prog_6_method_6_code 18 = .ok (.invokestatic 59, 3) := gq_10 db00a_98 eb_275
theorem d_X4_write_21 : decode prog_6_method_6_code 21 = .ok (.ifCond .ne 5, 3) := gq_11 db00a_98 eb_150
theorem d_X4_write_24 : decode prog_6_method_6_code 24 = .ok (.iconst (-1), 1) := gq_12 db00a_98 eb_26
theorem d_X4_write_25 : decode prog_6_method_6_code 25 = .ok (.ireturn, 1) := gq_13 db00a_98 eb_15
theorem d_X4_write_26 : decode prog_6_method_6_code 26 = .ok (.aload_n 0, 1) := gq_14 db00a_98 eb_0
theorem d_X4_write_27 : decode prog_6_method_6_code 27 = .ok (.getfield 63, 3) := gq_15 db00a_98 eb_276
theorem d_X4_write_30 : decode prog_6_method_6_code 30 = .ok (.istore 4, 2) := gq_16 db00a_98 eb_133
theorem d_X4_write_32 : decode prog_6_method_6_code 32 = .ok (.aload_n 0, 1) := gq_17 db00a_98 eb_0
theorem d_X4_write_33 : decode prog_6_method_6_code 33 = .ok (.getfield 34, 3) := gq_18 db00a_98 eb_36
theorem d_X4_write_36 : decode prog_6_method_6_code 36 = .ok (.iload 4, 2) := gq_19 db00a_98 eb_76
theorem d_X4_write_38 : decode prog_6_method_6_code 38 = .ok (.iload_n 1, 1) := gq_20 db00a_98 eb_9
theorem d_X4_write_39 : decode prog_6_method_6_code 39 = .ok (.iastore, 1) := gq_21 db00a_98 eb_38
theorem d_X4_write_40 : decode prog_6_method_6_code 40 = .ok (.aload_n 0, 1) := gq_22 db00a_98 eb_0
theorem d_X4_write_41 : decode prog_6_method_6_code 41 = .ok (.getfield 37, 3) := gq_23 db00a_98 eb_281
theorem db00a_99 : Pf_ prog_6_method_6_code [(44, [0x15, 0x04]), (46, [0x1c]), (47, [0x4f]), (48, [0x2a]), (49, [0xb4, 0x00, 0x28]), (52, [0x15, 0x04]), (54, [0x1d]), (55, [0x4f]), (56, [0x2a]), (57, [0xb4, 0x00, 0x2b]), (60, [0x15, 0x04]), (62, [0x03]), (63, [0x4f]), (64, [0x2a]), (65, [0xb4, 0x00, 0x2e]), (68, [0x15, 0x04]), (70, [0x02]), (71, [0x4f]), (72, [0x2a]), (73, [0xb4, 0x00, 0x31]), (76, [0x15, 0x04]), (78, [0x02]), (79, [0x4f]), (80, [0x2a])] := pf_ok prog_6_method_6_code _ 44 (by decide +kernel)
theorem d_X4_write_44 : decode prog_6_method_6_code 44 = .ok (.iload 4, 2) := gq_0 db00a_99 eb_76
theorem d_X4_write_46 : decode prog_6_method_6_code 46 = .ok (.iload_n 2, 1) := gq_1 db00a_99 eb_13
theorem d_X4_write_47 : decode prog_6_method_6_code 47 = .ok (.iastore, 1) := gq_2 db00a_99 eb_38
theorem d_X4_write_48 : decode prog_6_method_6_code 48 = .ok (.aload_n 0, 1) := gq_3 db00a_99 eb_0
theorem d_X4_write_49 : decode prog_6_method_6_code 49 = .ok (.getfield 40, 3) := gq_4 db00a_99 eb_282
theorem d_X4_write_52 : decode prog_6_method_6_code 52 = .ok (.iload 4, 2) := gq_5 db00a_99 eb_76
theorem d_X4_write_54 : decode prog_6_method_6_code 54 = .ok (.iload_n 3, 1) := gq_6 db00a_99 eb_29
theorem d_X4_write_55 : decode prog_6_method_6_code 55 = .ok (.iastore, 1) := gq_7 db00a_99 eb_38
theorem d_X4_write_56 : decode prog_6_method_6_code 56 = .ok (.aload_n 0, 1) := gq_8 db00a_99 eb_0
theorem d_X4_write_57 : decode prog_6_method_6_code 57 = .ok (.getfield 43, 3) := gq_9 db00a_99 eb_283
theorem d_X4_write_60 : decode prog_6_method_6_code 60 = .ok (.iload 4, 2) := gq_10 db00a_99 eb_76
theorem d_X4_write_62 : decode prog_6_method_6_code 62 = .ok (.iconst 0, 1) := gq_11 db00a_99 eb_21
theorem d_X4_write_63 : decode prog_6_method_6_code 63 = .ok (.iastore, 1) := gq_12 db00a_99 eb_38
theorem d_X4_write_64 : decode prog_6_method_6_code 64 = .ok (.aload_n 0, 1) := gq_13 db00a_99 eb_0
theorem d_X4_write_65 : decode prog_6_method_6_code 65 = .ok (.getfield 46, 3) := gq_14 db00a_99 eb_284
theorem d_X4_write_68 : decode prog_6_method_6_code 68 = .ok (.iload 4, 2) := gq_15 db00a_99 eb_76
theorem d_X4_write_70 : decode prog_6_method_6_code 70 = .ok (.iconst (-1), 1) := gq_16 db00a_99 eb_26
theorem d_X4_write_71 : decode prog_6_method_6_code 71 = .ok (.iastore, 1) := gq_17 db00a_99 eb_38
theorem d_X4_write_72 : decode prog_6_method_6_code 72 = .ok (.aload_n 0, 1) := gq_18 db00a_99 eb_0
theorem d_X4_write_73 : decode prog_6_method_6_code 73 = .ok (.getfield 49, 3) := gq_19 db00a_99 eb_285
theorem d_X4_write_76 : decode prog_6_method_6_code 76 = .ok (.iload 4, 2) := gq_20 db00a_99 eb_76
theorem d_X4_write_78 : decode prog_6_method_6_code 78 = .ok (.iconst (-1), 1) := gq_21 db00a_99 eb_26
theorem d_X4_write_79 : decode prog_6_method_6_code 79 = .ok (.iastore, 1) := gq_22 db00a_99 eb_38
theorem d_X4_write_80 : decode prog_6_method_6_code 80 = .ok (.aload_n 0, 1) := gq_23 db00a_99 eb_0
theorem db00a_100 : Pf_ prog_6_method_6_code [(81, [0x59]), (82, [0xb4, 0x00, 0x3f]), (85, [0x04]), (86, [0x60]), (87, [0xb5, 0x00, 0x3f]), (90, [0x15, 0x04]), (92, [0x10, 0x09]), (94, [0x68]), (95, [0x36, 0x05]), (97, [0x2a]), (98, [0xb4, 0x00, 0x34]), (101, [0x15, 0x05]), (103, [0x2a]), (104, [0xb4, 0x00, 0x0b]), (107, [0x1c]), (108, [0x2e]), (109, [0x4f]), (110, [0x2a]), (111, [0xb4, 0x00, 0x34]), (114, [0x15, 0x05]), (116, [0x04]), (117, [0x60]), (118, [0x2a]), (119, [0xb4, 0x00, 0x18])] := pf_ok prog_6_method_6_code _ 81 (by decide +kernel)
theorem d_X4_write_81 : decode prog_6_method_6_code 81 = .ok (.dup, 1) := gq_0 db00a_100 eb_46
theorem d_X4_write_82 : decode prog_6_method_6_code 82 = .ok (.getfield 63, 3) := gq_1 db00a_100 eb_276
theorem d_X4_write_85 : decode prog_6_method_6_code 85 = .ok (.iconst 1, 1) := gq_2 db00a_100 eb_19
theorem d_X4_write_86 : decode prog_6_method_6_code 86 = .ok (.iadd, 1) := gq_3 db00a_100 eb_35
theorem d_X4_write_87 : decode prog_6_method_6_code 87 = .ok (.putfield 63, 3) := gq_4 db00a_100 eb_286
theorem d_X4_write_90 : decode prog_6_method_6_code 90 = .ok (.iload 4, 2) := gq_5 db00a_100 eb_76
theorem d_X4_write_92 : decode prog_6_method_6_code 92 = .ok (.bipush 9, 2) := gq_6 db00a_100 eb_287
theorem d_X4_write_94 : decode prog_6_method_6_code 94 = .ok (.imul, 1) := gq_7 db00a_100 eb_34
theorem d_X4_write_95 : decode prog_6_method_6_code 95 = .ok (.istore 5, 2) := gq_8 db00a_100 eb_134
theorem d_X4_write_97 : decode prog_6_method_6_code 97 = .ok (.aload_n 0, 1) := gq_9 db00a_100 eb_0
theorem d_X4_write_98 : decode prog_6_method_6_code 98 = .ok (.getfield 52, 3) := gq_10 db00a_100 eb_288
theorem d_X4_write_101 : decode prog_6_method_6_code 101 = .ok (.iload 5, 2) := gq_11 db00a_100 eb_125
theorem d_X4_write_103 : decode prog_6_method_6_code 103 = .ok (.aload_n 0, 1) := gq_12 db00a_100 eb_0
theorem d_X4_write_104 : decode prog_6_method_6_code 104 = .ok (.getfield 11, 3) := gq_13 db00a_100 eb_32
theorem d_X4_write_107 : decode prog_6_method_6_code 107 = .ok (.iload_n 2, 1) := gq_14 db00a_100 eb_13
theorem d_X4_write_108 : decode prog_6_method_6_code 108 = .ok (.iaload, 1) := gq_15 db00a_100 eb_37
theorem d_X4_write_109 : decode prog_6_method_6_code 109 = .ok (.iastore, 1) := gq_16 db00a_100 eb_38
theorem d_X4_write_110 : decode prog_6_method_6_code 110 = .ok (.aload_n 0, 1) := gq_17 db00a_100 eb_0
theorem d_X4_write_111 : decode prog_6_method_6_code 111 = .ok (.getfield 52, 3) := gq_18 db00a_100 eb_288
theorem d_X4_write_114 : decode prog_6_method_6_code 114 = .ok (.iload 5, 2) := gq_19 db00a_100 eb_125
theorem d_X4_write_116 : decode prog_6_method_6_code 116 = .ok (.iconst 1, 1) := gq_20 db00a_100 eb_19
theorem d_X4_write_117 : decode prog_6_method_6_code 117 = .ok (.iadd, 1) := gq_21 db00a_100 eb_35
theorem d_X4_write_118 : decode prog_6_method_6_code 118 = .ok (.aload_n 0, 1) := gq_22 db00a_100 eb_0
theorem d_X4_write_119 : decode prog_6_method_6_code 119 = .ok (.getfield 24, 3) := gq_23 db00a_100 eb_108
theorem db00a_101 : Pf_ prog_6_method_6_code [(122, [0x1c]), (123, [0x2e]), (124, [0x4f]), (125, [0x2a]), (126, [0xb4, 0x00, 0x34]), (129, [0x15, 0x05]), (131, [0x05]), (132, [0x60]), (133, [0x2a]), (134, [0xb4, 0x00, 0x0f]), (137, [0x1c]), (138, [0x2e]), (139, [0x4f]), (140, [0x2a]), (141, [0xb4, 0x00, 0x34]), (144, [0x15, 0x05]), (146, [0x06]), (147, [0x60]), (148, [0x1d]), (149, [0x11, 0x05, 0xa0]), (152, [0x70]), (153, [0x10, 0x3c]), (155, [0x6c]), (156, [0x4f])] := pf_ok prog_6_method_6_code _ 122 (by decide +kernel)
theorem d_X4_write_122 : decode prog_6_method_6_code 122 = .ok (.iload_n 2, 1) := gq_0 db00a_101 eb_13
theorem d_X4_write_123 : decode prog_6_method_6_code 123 = .ok (.iaload, 1) := gq_1 db00a_101 eb_37
theorem d_X4_write_124 : decode prog_6_method_6_code 124 = .ok (.iastore, 1) := gq_2 db00a_101 eb_38
theorem d_X4_write_125 : decode prog_6_method_6_code 125 = .ok (.aload_n 0, 1) := gq_3 db00a_101 eb_0
theorem d_X4_write_126 : decode prog_6_method_6_code 126 = .ok (.getfield 52, 3) := gq_4 db00a_101 eb_288
theorem d_X4_write_129 : decode prog_6_method_6_code 129 = .ok (.iload 5, 2) := gq_5 db00a_101 eb_125
theorem d_X4_write_131 : decode prog_6_method_6_code 131 = .ok (.iconst 2, 1) := gq_6 db00a_101 eb_10
theorem d_X4_write_132 : decode prog_6_method_6_code 132 = .ok (.iadd, 1) := gq_7 db00a_101 eb_35
theorem d_X4_write_133 : decode prog_6_method_6_code 133 = .ok (.aload_n 0, 1) := gq_8 db00a_101 eb_0
theorem d_X4_write_134 : decode prog_6_method_6_code 134 = .ok (.getfield 15, 3) := gq_9 db00a_101 eb_44
theorem d_X4_write_137 : decode prog_6_method_6_code 137 = .ok (.iload_n 2, 1) := gq_10 db00a_101 eb_13
theorem d_X4_write_138 : decode prog_6_method_6_code 138 = .ok (.iaload, 1) := gq_11 db00a_101 eb_37
theorem d_X4_write_139 : decode prog_6_method_6_code 139 = .ok (.iastore, 1) := gq_12 db00a_101 eb_38
theorem d_X4_write_140 : decode prog_6_method_6_code 140 = .ok (.aload_n 0, 1) := gq_13 db00a_101 eb_0
theorem d_X4_write_141 : decode prog_6_method_6_code 141 = .ok (.getfield 52, 3) := gq_14 db00a_101 eb_288
theorem d_X4_write_144 : decode prog_6_method_6_code 144 = .ok (.iload 5, 2) := gq_15 db00a_101 eb_125
theorem d_X4_write_146 : decode prog_6_method_6_code 146 = .ok (.iconst 3, 1) := gq_16 db00a_101 eb_54
theorem d_X4_write_147 : decode prog_6_method_6_code 147 = .ok (.iadd, 1) := gq_17 db00a_101 eb_35
theorem d_X4_write_148 : decode prog_6_method_6_code 148 = .ok (.iload_n 3, 1) := gq_18 db00a_101 eb_29
theorem d_X4_write_149 : decode prog_6_method_6_code 149 = .ok (.sipush 1440, 3) := gq_19 db00a_101 eb_289
theorem d_X4_write_152 : decode prog_6_method_6_code 152 = .ok (.irem, 1) := gq_20 db00a_101 eb_218
theorem d_X4_write_153 : decode prog_6_method_6_code 153 = .ok (.bipush 60, 2) := gq_21 db00a_101 eb_290
theorem d_X4_write_155 : decode prog_6_method_6_code 155 = .ok (.idiv, 1) := gq_22 db00a_101 eb_219
theorem d_X4_write_156 : decode prog_6_method_6_code 156 = .ok (.iastore, 1) := gq_23 db00a_101 eb_38
theorem db00a_102 : Pf_ prog_6_method_6_code [(157, [0x2a]), (158, [0xb4, 0x00, 0x34]), (161, [0x15, 0x05]), (163, [0x07]), (164, [0x60]), (165, [0x1d]), (166, [0x11, 0x05, 0xa0]), (169, [0x6c]), (170, [0x4f]), (171, [0x2a]), (172, [0xb4, 0x00, 0x34]), (175, [0x15, 0x05]), (177, [0x10, 0x07]), (179, [0x60]), (180, [0x2a]), (181, [0xb4, 0x00, 0x1b]), (184, [0x1c]), (185, [0x2e]), (186, [0x4f]), (187, [0x2a]), (188, [0xb4, 0x00, 0x34]), (191, [0x15, 0x05]), (193, [0x10, 0x08]), (195, [0x60])] := pf_ok prog_6_method_6_code _ 157 (by decide +kernel)
theorem d_X4_write_157 : decode prog_6_method_6_code 157 = .ok (.aload_n 0, 1) := gq_0 db00a_102 eb_0
theorem d_X4_write_158 : decode prog_6_method_6_code 158 = .ok (.getfield 52, 3) := gq_1 db00a_102 eb_288
theorem d_X4_write_161 : decode prog_6_method_6_code 161 = .ok (.iload 5, 2) := gq_2 db00a_102 eb_125
theorem d_X4_write_163 : decode prog_6_method_6_code 163 = .ok (.iconst 4, 1) := gq_3 db00a_102 eb_291
theorem d_X4_write_164 : decode prog_6_method_6_code 164 = .ok (.iadd, 1) := gq_4 db00a_102 eb_35
theorem d_X4_write_165 : decode prog_6_method_6_code 165 = .ok (.iload_n 3, 1) := gq_5 db00a_102 eb_29
theorem d_X4_write_166 : decode prog_6_method_6_code 166 = .ok (.sipush 1440, 3) := gq_6 db00a_102 eb_289
theorem d_X4_write_169 : decode prog_6_method_6_code 169 = .ok (.idiv, 1) := gq_7 db00a_102 eb_219
theorem d_X4_write_170 : decode prog_6_method_6_code 170 = .ok (.iastore, 1) := gq_8 db00a_102 eb_38
theorem d_X4_write_171 : decode prog_6_method_6_code 171 = .ok (.aload_n 0, 1) := gq_9 db00a_102 eb_0
theorem d_X4_write_172 : decode prog_6_method_6_code 172 = .ok (.getfield 52, 3) := gq_10 db00a_102 eb_288
theorem d_X4_write_175 : decode prog_6_method_6_code 175 = .ok (.iload 5, 2) := gq_11 db00a_102 eb_125
theorem d_X4_write_177 : decode prog_6_method_6_code 177 = .ok (.bipush 7, 2) := gq_12 db00a_102 eb_132
theorem d_X4_write_179 : decode prog_6_method_6_code 179 = .ok (.iadd, 1) := gq_13 db00a_102 eb_35
theorem d_X4_write_180 : decode prog_6_method_6_code 180 = .ok (.aload_n 0, 1) := gq_14 db00a_102 eb_0
theorem d_X4_write_181 : decode prog_6_method_6_code 181 = .ok (.getfield 27, 3) := gq_15 db00a_102 eb_121
theorem d_X4_write_184 : decode prog_6_method_6_code 184 = .ok (.iload_n 2, 1) := gq_16 db00a_102 eb_13
theorem d_X4_write_185 : decode prog_6_method_6_code 185 = .ok (.iaload, 1) := gq_17 db00a_102 eb_37
theorem d_X4_write_186 : decode prog_6_method_6_code 186 = .ok (.iastore, 1) := gq_18 db00a_102 eb_38
theorem d_X4_write_187 : decode prog_6_method_6_code 187 = .ok (.aload_n 0, 1) := gq_19 db00a_102 eb_0
theorem d_X4_write_188 : decode prog_6_method_6_code 188 = .ok (.getfield 52, 3) := gq_20 db00a_102 eb_288
theorem d_X4_write_191 : decode prog_6_method_6_code 191 = .ok (.iload 5, 2) := gq_21 db00a_102 eb_125
theorem d_X4_write_193 : decode prog_6_method_6_code 193 = .ok (.bipush 8, 2) := gq_22 db00a_102 eb_94
theorem d_X4_write_195 : decode prog_6_method_6_code 195 = .ok (.iadd, 1) := gq_23 db00a_102 eb_35
theorem db00a_103 : Pf_ prog_6_method_6_code [(196, [0x1d]), (197, [0x2a]), (198, [0xb4, 0x00, 0x12]), (201, [0x1c]), (202, [0x2e]), (203, [0x64]), (204, [0x4f]), (205, [0x2a]), (206, [0xb4, 0x00, 0x1b]), (209, [0x1c]), (210, [0x5c]), (211, [0x2e]), (212, [0x04]), (213, [0x60]), (214, [0x4f]), (215, [0x15, 0x04]), (217, [0xac])] := pf_ok prog_6_method_6_code _ 196 (by decide +kernel)
theorem d_X4_write_196 : decode prog_6_method_6_code 196 = .ok (.iload_n 3, 1) := gq_0 db00a_103 eb_29
theorem d_X4_write_197 : decode prog_6_method_6_code 197 = .ok (.aload_n 0, 1) := gq_1 db00a_103 eb_0
theorem d_X4_write_198 : decode prog_6_method_6_code 198 = .ok (.getfield 18, 3) := gq_2 db00a_103 eb_45
theorem d_X4_write_201 : decode prog_6_method_6_code 201 = .ok (.iload_n 2, 1) := gq_3 db00a_103 eb_13
theorem d_X4_write_202 : decode prog_6_method_6_code 202 = .ok (.iaload, 1) := gq_4 db00a_103 eb_37
theorem d_X4_write_203 : decode prog_6_method_6_code 203 = .ok (.isub, 1) := gq_5 db00a_103 eb_48
theorem d_X4_write_204 : decode prog_6_method_6_code 204 = .ok (.iastore, 1) := gq_6 db00a_103 eb_38
theorem d_X4_write_205 : decode prog_6_method_6_code 205 = .ok (.aload_n 0, 1) := gq_7 db00a_103 eb_0
theorem d_X4_write_206 : decode prog_6_method_6_code 206 = .ok (.getfield 27, 3) := gq_8 db00a_103 eb_121
theorem d_X4_write_209 : decode prog_6_method_6_code 209 = .ok (.iload_n 2, 1) := gq_9 db00a_103 eb_13
theorem d_X4_write_210 : decode prog_6_method_6_code 210 = .ok (.dup2, 1) := gq_10 db00a_103 eb_143
theorem d_X4_write_211 : decode prog_6_method_6_code 211 = .ok (.iaload, 1) := gq_11 db00a_103 eb_37
theorem d_X4_write_212 : decode prog_6_method_6_code 212 = .ok (.iconst 1, 1) := gq_12 db00a_103 eb_19
theorem d_X4_write_213 : decode prog_6_method_6_code 213 = .ok (.iadd, 1) := gq_13 db00a_103 eb_35
theorem d_X4_write_214 : decode prog_6_method_6_code 214 = .ok (.iastore, 1) := gq_14 db00a_103 eb_38
theorem d_X4_write_215 : decode prog_6_method_6_code 215 = .ok (.iload 4, 2) := gq_15 db00a_103 eb_76
theorem d_X4_write_217 : decode prog_6_method_6_code 217 = .ok (.ireturn, 1) := gq_16 db00a_103 eb_15
theorem db00a_104 : Pf_ prog_6_method_7_code [(0, [0x2a]), (1, [0x1b]), (2, [0xb6, 0x00, 0x42]), (5, [0x99, 0x00, 0x19]), (8, [0x1c]), (9, [0x03]), (10, [0x10, 0x08]), (12, [0xb8, 0x00, 0x3b]), (15, [0x99, 0x00, 0x0f]), (18, [0x2a]), (19, [0xb4, 0x00, 0x34]), (22, [0x1b]), (23, [0x10, 0x09]), (25, [0x68]), (26, [0x1c]), (27, [0x60]), (28, [0x1d]), (29, [0x4f]), (30, [0xb1])] := pf_ok prog_6_method_7_code _ 0 (by decide +kernel)
theorem d_X4_setLetter_0 : decode prog_6_method_7_code 0 = .ok (.aload_n 0, 1) := gq_0 db00a_104 eb_0
theorem d_X4_setLetter_1 : decode prog_6_method_7_code 1 = .ok (.iload_n 1, 1) := gq_1 db00a_104 eb_9
theorem d_X4_setLetter_2 : decode prog_6_method_7_code 2 = .ok (.invokevirtual 66, 3) := gq_2 db00a_104 eb_292
theorem d_X4_setLetter_5 : decode prog_6_method_7_code 5 = .ok (.ifCond .eq 25, 3) := gq_3 db00a_104 eb_293
theorem d_X4_setLetter_8 : decode prog_6_method_7_code 8 = .ok (.iload_n 2, 1) := gq_4 db00a_104 eb_13
theorem d_X4_setLetter_9 : decode prog_6_method_7_code 9 = .ok (.iconst 0, 1) := gq_5 db00a_104 eb_21
theorem d_X4_setLetter_10 : decode prog_6_method_7_code 10 = .ok (.bipush 8, 2) := gq_6 db00a_104 eb_94
theorem d_X4_setLetter_12 : decode prog_6_method_7_code 12 = .ok (.invokestatic 59, 3) := gq_7 db00a_104 eb_275
theorem d_X4_setLetter_15 : decode prog_6_method_7_code 15 = .ok (.ifCond .eq 15, 3) := gq_8 db00a_104 eb_294
theorem d_X4_setLetter_18 : decode prog_6_method_7_code 18 = .ok (.aload_n 0, 1) := gq_9 db00a_104 eb_0
theorem d_X4_setLetter_19 : decode prog_6_method_7_code 19 = .ok (.getfield 52, 3) := gq_10 db00a_104 eb_288
theorem d_X4_setLetter_22 : decode prog_6_method_7_code 22 = .ok (.iload_n 1, 1) := gq_11 db00a_104 eb_9
theorem d_X4_setLetter_23 : decode prog_6_method_7_code 23 = .ok (.bipush 9, 2) := gq_12 db00a_104 eb_287
theorem d_X4_setLetter_25 : decode prog_6_method_7_code 25 = .ok (.imul, 1) := gq_13 db00a_104 eb_34
theorem d_X4_setLetter_26 : decode prog_6_method_7_code 26 = .ok (.iload_n 2, 1) := gq_14 db00a_104 eb_13
theorem d_X4_setLetter_27 : decode prog_6_method_7_code 27 = .ok (.iadd, 1) := gq_15 db00a_104 eb_35
theorem d_X4_setLetter_28 : decode prog_6_method_7_code 28 = .ok (.iload_n 3, 1) := gq_16 db00a_104 eb_29
theorem d_X4_setLetter_29 : decode prog_6_method_7_code 29 = .ok (.iastore, 1) := gq_17 db00a_104 eb_38
theorem d_X4_setLetter_30 : decode prog_6_method_7_code 30 = .ok (.return_, 1) := gq_18 db00a_104 eb_7
theorem db00a_105 : Pf_ prog_6_method_8_code [(0, [0x2a]), (1, [0x1b]), (2, [0xb6, 0x00, 0x42]), (5, [0x9a, 0x00, 0x04]), (8, [0xb1]), (9, [0x2a]), (10, [0xb4, 0x00, 0x2b]), (13, [0x1b]), (14, [0x1c]), (15, [0x4f]), (16, [0x2a]), (17, [0xb4, 0x00, 0x2e]), (20, [0x1b]), (21, [0x1d]), (22, [0x4f]), (23, [0x1c]), (24, [0x04]), (25, [0xa4, 0x00, 0x18]), (28, [0x15, 0x04]), (30, [0x02]), (31, [0x9f, 0x00, 0x12]), (34, [0x2a]), (35, [0xb4, 0x00, 0x31]), (38, [0x1b])] := pf_ok prog_6_method_8_code _ 0 (by decide +kernel)
theorem d_X4_settle_0 : decode prog_6_method_8_code 0 = .ok (.aload_n 0, 1) := gq_0 db00a_105 eb_0
theorem d_X4_settle_1 : decode prog_6_method_8_code 1 = .ok (.iload_n 1, 1) := gq_1 db00a_105 eb_9
theorem d_X4_settle_2 : decode prog_6_method_8_code 2 = .ok (.invokevirtual 66, 3) := gq_2 db00a_105 eb_292
theorem d_X4_settle_5 : decode prog_6_method_8_code 5 = .ok (.ifCond .ne 4, 3) := gq_3 db00a_105 eb_295
theorem d_X4_settle_8 : decode prog_6_method_8_code 8 = .ok (.return_, 1) := gq_4 db00a_105 eb_7
theorem d_X4_settle_9 : decode prog_6_method_8_code 9 = .ok (.aload_n 0, 1) := gq_5 db00a_105 eb_0
theorem d_X4_settle_10 : decode prog_6_method_8_code 10 = .ok (.getfield 43, 3) := gq_6 db00a_105 eb_283
theorem d_X4_settle_13 : decode prog_6_method_8_code 13 = .ok (.iload_n 1, 1) := gq_7 db00a_105 eb_9
theorem d_X4_settle_14 : decode prog_6_method_8_code 14 = .ok (.iload_n 2, 1) := gq_8 db00a_105 eb_13
theorem d_X4_settle_15 : decode prog_6_method_8_code 15 = .ok (.iastore, 1) := gq_9 db00a_105 eb_38
theorem d_X4_settle_16 : decode prog_6_method_8_code 16 = .ok (.aload_n 0, 1) := gq_10 db00a_105 eb_0
theorem d_X4_settle_17 : decode prog_6_method_8_code 17 = .ok (.getfield 46, 3) := gq_11 db00a_105 eb_284
theorem d_X4_settle_20 : decode prog_6_method_8_code 20 = .ok (.iload_n 1, 1) := gq_12 db00a_105 eb_9
theorem d_X4_settle_21 : decode prog_6_method_8_code 21 = .ok (.iload_n 3, 1) := gq_13 db00a_105 eb_29
theorem d_X4_settle_22 : decode prog_6_method_8_code 22 = .ok (.iastore, 1) := gq_14 db00a_105 eb_38
theorem d_X4_settle_23 : decode prog_6_method_8_code 23 = .ok (.iload_n 2, 1) := gq_15 db00a_105 eb_13
theorem d_X4_settle_24 : decode prog_6_method_8_code 24 = .ok (.iconst 1, 1) := gq_16 db00a_105 eb_19
theorem d_X4_settle_25 : decode prog_6_method_8_code 25 = .ok (.if_icmp .le 24, 3) := gq_17 db00a_105 eb_296
theorem d_X4_settle_28 : decode prog_6_method_8_code 28 = .ok (.iload 4, 2) := gq_18 db00a_105 eb_76
theorem d_X4_settle_30 : decode prog_6_method_8_code 30 = .ok (.iconst (-1), 1) := gq_19 db00a_105 eb_26
theorem d_X4_settle_31 : decode prog_6_method_8_code 31 = .ok (.if_icmp .eq 18, 3) := gq_20 db00a_105 eb_297
theorem d_X4_settle_34 : decode prog_6_method_8_code 34 = .ok (.aload_n 0, 1) := gq_21 db00a_105 eb_0
theorem d_X4_settle_35 : decode prog_6_method_8_code 35 = .ok (.getfield 49, 3) := gq_22 db00a_105 eb_285
theorem d_X4_settle_38 : decode prog_6_method_8_code 38 = .ok (.iload_n 1, 1) := gq_23 db00a_105 eb_9
theorem db00a_106 : Pf_ prog_6_method_8_code [(39, [0x2a]), (40, [0xb4, 0x00, 0x28]), (43, [0x1b]), (44, [0x2e]), (45, [0x15, 0x04]), (47, [0x60]), (48, [0x4f]), (49, [0x1c]), (50, [0x06]), (51, [0xa0, 0x00, 0x19]), (54, [0x2a]), (55, [0xb4, 0x00, 0x1e]), (58, [0x2a]), (59, [0xb4, 0x00, 0x25]), (62, [0x1b]), (63, [0x2e]), (64, [0x04]), (65, [0x54]), (66, [0x2a]), (67, [0x59]), (68, [0xb4, 0x00, 0x46]), (71, [0x04]), (72, [0x60]), (73, [0xb5, 0x00, 0x46])] := pf_ok prog_6_method_8_code _ 39 (by decide +kernel)
theorem d_X4_settle_39 : decode prog_6_method_8_code 39 = .ok (.aload_n 0, 1) := gq_0 db00a_106 eb_0
theorem d_X4_settle_40 : decode prog_6_method_8_code 40 = .ok (.getfield 40, 3) := gq_1 db00a_106 eb_282
theorem d_X4_settle_43 : decode prog_6_method_8_code 43 = .ok (.iload_n 1, 1) := gq_2 db00a_106 eb_9
theorem d_X4_settle_44 : decode prog_6_method_8_code 44 = .ok (.iaload, 1) := gq_3 db00a_106 eb_37
theorem d_X4_settle_45 : decode prog_6_method_8_code 45 = .ok (.iload 4, 2) := gq_4 db00a_106 eb_76
theorem d_X4_settle_47 : decode prog_6_method_8_code 47 = .ok (.iadd, 1) := gq_5 db00a_106 eb_35
theorem d_X4_settle_48 : decode prog_6_method_8_code 48 = .ok (.iastore, 1) := gq_6 db00a_106 eb_38
theorem d_X4_settle_49 : decode prog_6_method_8_code 49 = .ok (.iload_n 2, 1) := gq_7 db00a_106 eb_13
theorem d_X4_settle_50 : decode prog_6_method_8_code 50 = .ok (.iconst 3, 1) := gq_8 db00a_106 eb_54
theorem d_X4_settle_51 : decode prog_6_method_8_code 51 = .ok (.if_icmp .ne 25, 3) := gq_9 db00a_106 eb_71
theorem d_X4_settle_54 : decode prog_6_method_8_code 54 = .ok (.aload_n 0, 1) := gq_10 db00a_106 eb_0
theorem d_X4_settle_55 : decode prog_6_method_8_code 55 = .ok (.getfield 30, 3) := gq_11 db00a_106 eb_124
theorem d_X4_settle_58 : decode prog_6_method_8_code 58 = .ok (.aload_n 0, 1) := gq_12 db00a_106 eb_0
theorem d_X4_settle_59 : decode prog_6_method_8_code 59 = .ok (.getfield 37, 3) := gq_13 db00a_106 eb_281
theorem d_X4_settle_62 : decode prog_6_method_8_code 62 = .ok (.iload_n 1, 1) := gq_14 db00a_106 eb_9
theorem d_X4_settle_63 : decode prog_6_method_8_code 63 = .ok (.iaload, 1) := gq_15 db00a_106 eb_37
theorem d_X4_settle_64 : decode prog_6_method_8_code 64 = .ok (.iconst 1, 1) := gq_16 db00a_106 eb_19
theorem d_X4_settle_65 : decode prog_6_method_8_code 65 = .ok (.bastore, 1) := gq_17 db00a_106 eb_244
theorem d_X4_settle_66 : decode prog_6_method_8_code 66 = .ok (.aload_n 0, 1) := gq_18 db00a_106 eb_0
theorem d_X4_settle_67 : decode prog_6_method_8_code 67 = .ok (.dup, 1) := gq_19 db00a_106 eb_46
theorem d_X4_settle_68 : decode prog_6_method_8_code 68 = .ok (.getfield 70, 3) := gq_20 db00a_106 eb_298
theorem d_X4_settle_71 : decode prog_6_method_8_code 71 = .ok (.iconst 1, 1) := gq_21 db00a_106 eb_19
theorem d_X4_settle_72 : decode prog_6_method_8_code 72 = .ok (.iadd, 1) := gq_22 db00a_106 eb_35
theorem d_X4_settle_73 : decode prog_6_method_8_code 73 = .ok (.putfield 70, 3) := gq_23 db00a_106 eb_299
theorem db00a_107 : Pf_ prog_6_method_8_code [(76, [0xb1])] := pf_ok prog_6_method_8_code _ 76 (by decide +kernel)
theorem d_X4_settle_76 : decode prog_6_method_8_code 76 = .ok (.return_, 1) := gq_0 db00a_107 eb_7
theorem db00a_108 : Pf_ prog_6_method_9_code [(0, [0x03]), (1, [0x3e]), (2, [0x1d]), (3, [0x2a]), (4, [0xb4, 0x00, 0x3f]), (7, [0xa2, 0x00, 0x2e]), (10, [0x2a]), (11, [0xb4, 0x00, 0x22]), (14, [0x1d]), (15, [0x2e]), (16, [0x1b]), (17, [0xa0, 0x00, 0x1e]), (20, [0x2a]), (21, [0xb4, 0x00, 0x2b]), (24, [0x1d]), (25, [0x2e]), (26, [0x04]), (27, [0xa0, 0x00, 0x14]), (30, [0x2a]), (31, [0xb4, 0x00, 0x31]), (34, [0x1d]), (35, [0x2e]), (36, [0x02]), (37, [0xa0, 0x00, 0x0a])] := pf_ok prog_6_method_9_code _ 0 (by decide +kernel)
theorem d_X4_tellNoted_0 : decode prog_6_method_9_code 0 = .ok (.iconst 0, 1) := gq_0 db00a_108 eb_21
theorem d_X4_tellNoted_1 : decode prog_6_method_9_code 1 = .ok (.istore_n 3, 1) := gq_1 db00a_108 eb_28
theorem d_X4_tellNoted_2 : decode prog_6_method_9_code 2 = .ok (.iload_n 3, 1) := gq_2 db00a_108 eb_29
theorem d_X4_tellNoted_3 : decode prog_6_method_9_code 3 = .ok (.aload_n 0, 1) := gq_3 db00a_108 eb_0
theorem d_X4_tellNoted_4 : decode prog_6_method_9_code 4 = .ok (.getfield 63, 3) := gq_4 db00a_108 eb_276
theorem d_X4_tellNoted_7 : decode prog_6_method_9_code 7 = .ok (.if_icmp .ge 46, 3) := gq_5 db00a_108 eb_31
theorem d_X4_tellNoted_10 : decode prog_6_method_9_code 10 = .ok (.aload_n 0, 1) := gq_6 db00a_108 eb_0
theorem d_X4_tellNoted_11 : decode prog_6_method_9_code 11 = .ok (.getfield 34, 3) := gq_7 db00a_108 eb_36
theorem d_X4_tellNoted_14 : decode prog_6_method_9_code 14 = .ok (.iload_n 3, 1) := gq_8 db00a_108 eb_29
theorem d_X4_tellNoted_15 : decode prog_6_method_9_code 15 = .ok (.iaload, 1) := gq_9 db00a_108 eb_37
theorem d_X4_tellNoted_16 : decode prog_6_method_9_code 16 = .ok (.iload_n 1, 1) := gq_10 db00a_108 eb_9
theorem d_X4_tellNoted_17 : decode prog_6_method_9_code 17 = .ok (.if_icmp .ne 30, 3) := gq_11 db00a_108 eb_252
theorem d_X4_tellNoted_20 : decode prog_6_method_9_code 20 = .ok (.aload_n 0, 1) := gq_12 db00a_108 eb_0
theorem d_X4_tellNoted_21 : decode prog_6_method_9_code 21 = .ok (.getfield 43, 3) := gq_13 db00a_108 eb_283
theorem d_X4_tellNoted_24 : decode prog_6_method_9_code 24 = .ok (.iload_n 3, 1) := gq_14 db00a_108 eb_29
theorem d_X4_tellNoted_25 : decode prog_6_method_9_code 25 = .ok (.iaload, 1) := gq_15 db00a_108 eb_37
theorem d_X4_tellNoted_26 : decode prog_6_method_9_code 26 = .ok (.iconst 1, 1) := gq_16 db00a_108 eb_19
theorem d_X4_tellNoted_27 : decode prog_6_method_9_code 27 = .ok (.if_icmp .ne 20, 3) := gq_17 db00a_108 eb_300
theorem d_X4_tellNoted_30 : decode prog_6_method_9_code 30 = .ok (.aload_n 0, 1) := gq_18 db00a_108 eb_0
theorem d_X4_tellNoted_31 : decode prog_6_method_9_code 31 = .ok (.getfield 49, 3) := gq_19 db00a_108 eb_285
theorem d_X4_tellNoted_34 : decode prog_6_method_9_code 34 = .ok (.iload_n 3, 1) := gq_20 db00a_108 eb_29
theorem d_X4_tellNoted_35 : decode prog_6_method_9_code 35 = .ok (.iaload, 1) := gq_21 db00a_108 eb_37
theorem d_X4_tellNoted_36 : decode prog_6_method_9_code 36 = .ok (.iconst (-1), 1) := gq_22 db00a_108 eb_26
theorem d_X4_tellNoted_37 : decode prog_6_method_9_code 37 = .ok (.if_icmp .ne 10, 3) := gq_23 db00a_108 eb_259
theorem db00a_109 : Pf_ prog_6_method_9_code [(40, [0x2a]), (41, [0xb4, 0x00, 0x31]), (44, [0x1d]), (45, [0x1c])] := pf_ok prog_6_method_9_code _ 40 (by decide +kernel)
theorem d_X4_tellNoted_40 : decode prog_6_method_9_code 40 = .ok (.aload_n 0, 1) := gq_0 db00a_109 eb_0
theorem d_X4_tellNoted_41 : decode prog_6_method_9_code 41 = .ok (.getfield 49, 3) := gq_1 db00a_109 eb_285
theorem d_X4_tellNoted_44 : decode prog_6_method_9_code 44 = .ok (.iload_n 3, 1) := gq_2 db00a_109 eb_29
theorem d_X4_tellNoted_45 : decode prog_6_method_9_code 45 = .ok (.iload_n 2, 1) := gq_3 db00a_109 eb_13
