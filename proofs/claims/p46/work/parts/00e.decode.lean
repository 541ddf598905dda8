theorem db00e_0 : Pf_ prog_14_method_5_code [(30, [0xb4, 0x01, 0x4b]), (33, [0x10, 0x28]), (35, [0xa0, 0x00, 0x05]), (38, [0x02]), (39, [0xac]), (40, [0x2a]), (41, [0xb4, 0x00, 0x09]), (44, [0x2a]), (45, [0xb4, 0x01, 0x4b]), (48, [0x1b]), (49, [0x4f]), (50, [0x2a]), (51, [0xb4, 0x00, 0x0d]), (54, [0x2a]), (55, [0xb4, 0x01, 0x4b]), (58, [0x1c]), (59, [0x4f]), (60, [0x2a]), (61, [0xb4, 0x00, 0x10]), (64, [0x2a]), (65, [0xb4, 0x01, 0x4b]), (68, [0x1d]), (69, [0x4f]), (70, [0x2a])] := pf_ok prog_14_method_5_code _ 30 (by decide +kernel)
theorem d_X12_path_30 : decode prog_14_method_5_code 30 = .ok (.getfield 331, 3) := gq_0 db00e_0 eb_915
theorem d_X12_path_33 : decode prog_14_method_5_code 33 = .ok (.bipush 40, 2) := gq_1 db00e_0 eb_314
theorem d_X12_path_35 : decode prog_14_method_5_code 35 = .ok (.if_icmp .ne 5, 3) := gq_2 db00e_0 eb_479
theorem d_X12_path_38 : decode prog_14_method_5_code 38 = .ok (.iconst (-1), 1) := gq_3 db00e_0 eb_26
theorem d_X12_path_39 : decode prog_14_method_5_code 39 = .ok (.ireturn, 1) := gq_4 db00e_0 eb_15
theorem d_X12_path_40 : decode prog_14_method_5_code 40 = .ok (.aload_n 0, 1) := gq_5 db00e_0 eb_0
theorem d_X12_path_41 : decode prog_14_method_5_code 41 = .ok (.getfield 9, 3) := gq_6 db00e_0 eb_544
theorem d_X12_path_44 : decode prog_14_method_5_code 44 = .ok (.aload_n 0, 1) := gq_7 db00e_0 eb_0
theorem d_X12_path_45 : decode prog_14_method_5_code 45 = .ok (.getfield 331, 3) := gq_8 db00e_0 eb_915
theorem d_X12_path_48 : decode prog_14_method_5_code 48 = .ok (.iload_n 1, 1) := gq_9 db00e_0 eb_9
theorem d_X12_path_49 : decode prog_14_method_5_code 49 = .ok (.iastore, 1) := gq_10 db00e_0 eb_38
theorem d_X12_path_50 : decode prog_14_method_5_code 50 = .ok (.aload_n 0, 1) := gq_11 db00e_0 eb_0
theorem d_X12_path_51 : decode prog_14_method_5_code 51 = .ok (.getfield 13, 3) := gq_12 db00e_0 eb_916
theorem d_X12_path_54 : decode prog_14_method_5_code 54 = .ok (.aload_n 0, 1) := gq_13 db00e_0 eb_0
theorem d_X12_path_55 : decode prog_14_method_5_code 55 = .ok (.getfield 331, 3) := gq_14 db00e_0 eb_915
theorem d_X12_path_58 : decode prog_14_method_5_code 58 = .ok (.iload_n 2, 1) := gq_15 db00e_0 eb_13
theorem d_X12_path_59 : decode prog_14_method_5_code 59 = .ok (.iastore, 1) := gq_16 db00e_0 eb_38
theorem d_X12_path_60 : decode prog_14_method_5_code 60 = .ok (.aload_n 0, 1) := gq_17 db00e_0 eb_0
theorem d_X12_path_61 : decode prog_14_method_5_code 61 = .ok (.getfield 16, 3) := gq_18 db00e_0 eb_917
theorem d_X12_path_64 : decode prog_14_method_5_code 64 = .ok (.aload_n 0, 1) := gq_19 db00e_0 eb_0
theorem d_X12_path_65 : decode prog_14_method_5_code 65 = .ok (.getfield 331, 3) := gq_20 db00e_0 eb_915
theorem d_X12_path_68 : decode prog_14_method_5_code 68 = .ok (.iload_n 3, 1) := gq_21 db00e_0 eb_29
theorem d_X12_path_69 : decode prog_14_method_5_code 69 = .ok (.iastore, 1) := gq_22 db00e_0 eb_38
theorem d_X12_path_70 : decode prog_14_method_5_code 70 = .ok (.aload_n 0, 1) := gq_23 db00e_0 eb_0
theorem db00e_1 : Pf_ prog_14_method_5_code [(71, [0x59]), (72, [0xb4, 0x01, 0x4b]), (75, [0x04]), (76, [0x60]), (77, [0xb5, 0x01, 0x4b]), (80, [0x2a]), (81, [0xb4, 0x01, 0x4b]), (84, [0x04]), (85, [0x64]), (86, [0xac])] := pf_ok prog_14_method_5_code _ 71 (by decide +kernel)
theorem d_X12_path_71 : decode prog_14_method_5_code 71 = .ok (.dup, 1) := gq_0 db00e_1 eb_46
theorem d_X12_path_72 : decode prog_14_method_5_code 72 = .ok (.getfield 331, 3) := gq_1 db00e_1 eb_915
theorem d_X12_path_75 : decode prog_14_method_5_code 75 = .ok (.iconst 1, 1) := gq_2 db00e_1 eb_19
theorem d_X12_path_76 : decode prog_14_method_5_code 76 = .ok (.iadd, 1) := gq_3 db00e_1 eb_35
theorem d_X12_path_77 : decode prog_14_method_5_code 77 = .ok (.putfield 331, 3) := gq_4 db00e_1 eb_918
theorem d_X12_path_80 : decode prog_14_method_5_code 80 = .ok (.aload_n 0, 1) := gq_5 db00e_1 eb_0
theorem d_X12_path_81 : decode prog_14_method_5_code 81 = .ok (.getfield 331, 3) := gq_6 db00e_1 eb_915
theorem d_X12_path_84 : decode prog_14_method_5_code 84 = .ok (.iconst 1, 1) := gq_7 db00e_1 eb_19
theorem d_X12_path_85 : decode prog_14_method_5_code 85 = .ok (.isub, 1) := gq_8 db00e_1 eb_48
theorem d_X12_path_86 : decode prog_14_method_5_code 86 = .ok (.ireturn, 1) := gq_9 db00e_1 eb_15
theorem db00e_2 : Pf_ prog_14_method_6_code [(0, [0x03]), (1, [0x3e]), (2, [0x1d]), (3, [0x10, 0x10]), (5, [0xa2, 0x00, 0x1b]), (8, [0x2a]), (9, [0xb4, 0x00, 0x13]), (12, [0x1d]), (13, [0x1d]), (14, [0x1b]), (15, [0xa0, 0x00, 0x07]), (18, [0x03]), (19, [0xa7, 0x00, 0x06]), (22, [0x13, 0x01, 0x4e]), (25, [0x4f]), (26, [0x84, 0x03, 0x01]), (29, [0xa7, 0xff, 0xe5]), (32, [0x04]), (33, [0x3e]), (34, [0x1d]), (35, [0x99, 0x00, 0x8e]), (38, [0x03]), (39, [0x3e]), (40, [0x03])] := pf_ok prog_14_method_6_code _ 0 (by decide +kernel)
theorem d_X12_walkOf_0 : decode prog_14_method_6_code 0 = .ok (.iconst 0, 1) := gq_0 db00e_2 eb_21
theorem d_X12_walkOf_1 : decode prog_14_method_6_code 1 = .ok (.istore_n 3, 1) := gq_1 db00e_2 eb_28
theorem d_X12_walkOf_2 : decode prog_14_method_6_code 2 = .ok (.iload_n 3, 1) := gq_2 db00e_2 eb_29
theorem d_X12_walkOf_3 : decode prog_14_method_6_code 3 = .ok (.bipush 16, 2) := gq_3 db00e_2 eb_99
theorem d_X12_walkOf_5 : decode prog_14_method_6_code 5 = .ok (.if_icmp .ge 27, 3) := gq_4 db00e_2 eb_336
theorem d_X12_walkOf_8 : decode prog_14_method_6_code 8 = .ok (.aload_n 0, 1) := gq_5 db00e_2 eb_0
theorem d_X12_walkOf_9 : decode prog_14_method_6_code 9 = .ok (.getfield 19, 3) := gq_6 db00e_2 eb_614
theorem d_X12_walkOf_12 : decode prog_14_method_6_code 12 = .ok (.iload_n 3, 1) := gq_7 db00e_2 eb_29
theorem d_X12_walkOf_13 : decode prog_14_method_6_code 13 = .ok (.iload_n 3, 1) := gq_8 db00e_2 eb_29
theorem d_X12_walkOf_14 : decode prog_14_method_6_code 14 = .ok (.iload_n 1, 1) := gq_9 db00e_2 eb_9
theorem d_X12_walkOf_15 : decode prog_14_method_6_code 15 = .ok (.if_icmp .ne 7, 3) := gq_10 db00e_2 eb_135
theorem d_X12_walkOf_18 : decode prog_14_method_6_code 18 = .ok (.iconst 0, 1) := gq_11 db00e_2 eb_21
theorem d_X12_walkOf_19 : decode prog_14_method_6_code 19 = .ok (.goto 6, 3) := gq_12 db00e_2 eb_719
theorem d_X12_walkOf_22 : decode prog_14_method_6_code 22 = .ok (.ldc_w 334, 3) := gq_13 db00e_2 eb_919
theorem d_X12_walkOf_25 : decode prog_14_method_6_code 25 = .ok (.iastore, 1) := gq_14 db00e_2 eb_38
theorem d_X12_walkOf_26 : decode prog_14_method_6_code 26 = .ok (.iinc 3 1, 3) := gq_15 db00e_2 eb_42
theorem d_X12_walkOf_29 : decode prog_14_method_6_code 29 = .ok (.goto (-27), 3) := gq_16 db00e_2 eb_680
theorem d_X12_walkOf_32 : decode prog_14_method_6_code 32 = .ok (.iconst 1, 1) := gq_17 db00e_2 eb_19
theorem d_X12_walkOf_33 : decode prog_14_method_6_code 33 = .ok (.istore_n 3, 1) := gq_18 db00e_2 eb_28
theorem d_X12_walkOf_34 : decode prog_14_method_6_code 34 = .ok (.iload_n 3, 1) := gq_19 db00e_2 eb_29
theorem d_X12_walkOf_35 : decode prog_14_method_6_code 35 = .ok (.ifCond .eq 142, 3) := gq_20 db00e_2 eb_920
theorem d_X12_walkOf_38 : decode prog_14_method_6_code 38 = .ok (.iconst 0, 1) := gq_21 db00e_2 eb_21
theorem d_X12_walkOf_39 : decode prog_14_method_6_code 39 = .ok (.istore_n 3, 1) := gq_22 db00e_2 eb_28
theorem d_X12_walkOf_40 : decode prog_14_method_6_code 40 = .ok (.iconst 0, 1) := gq_23 db00e_2 eb_21
theorem db00e_3 : Pf_ prog_14_method_6_code [(41, [0x36, 0x04]), (43, [0x15, 0x04]), (45, [0x2a]), (46, [0xb4, 0x01, 0x4b]), (49, [0xa2, 0x00, 0x7d]), (52, [0x2a]), (53, [0xb4, 0x00, 0x09]), (56, [0x15, 0x04]), (58, [0x2e]), (59, [0x36, 0x05]), (61, [0x2a]), (62, [0xb4, 0x00, 0x0d]), (65, [0x15, 0x04]), (67, [0x2e]), (68, [0x36, 0x06]), (70, [0x2a]), (71, [0xb4, 0x00, 0x13]), (74, [0x15, 0x05]), (76, [0x2e]), (77, [0x2a]), (78, [0xb4, 0x00, 0x10]), (81, [0x15, 0x04]), (83, [0x2e]), (84, [0x60])] := pf_ok prog_14_method_6_code _ 41 (by decide +kernel)
theorem d_X12_walkOf_41 : decode prog_14_method_6_code 41 = .ok (.istore 4, 2) := gq_0 db00e_3 eb_133
theorem d_X12_walkOf_43 : decode prog_14_method_6_code 43 = .ok (.iload 4, 2) := gq_1 db00e_3 eb_76
theorem d_X12_walkOf_45 : decode prog_14_method_6_code 45 = .ok (.aload_n 0, 1) := gq_2 db00e_3 eb_0
theorem d_X12_walkOf_46 : decode prog_14_method_6_code 46 = .ok (.getfield 331, 3) := gq_3 db00e_3 eb_915
theorem d_X12_walkOf_49 : decode prog_14_method_6_code 49 = .ok (.if_icmp .ge 125, 3) := gq_4 db00e_3 eb_921
theorem d_X12_walkOf_52 : decode prog_14_method_6_code 52 = .ok (.aload_n 0, 1) := gq_5 db00e_3 eb_0
theorem d_X12_walkOf_53 : decode prog_14_method_6_code 53 = .ok (.getfield 9, 3) := gq_6 db00e_3 eb_544
theorem d_X12_walkOf_56 : decode prog_14_method_6_code 56 = .ok (.iload 4, 2) := gq_7 db00e_3 eb_76
theorem d_X12_walkOf_58 : decode prog_14_method_6_code 58 = .ok (.iaload, 1) := gq_8 db00e_3 eb_37
theorem d_X12_walkOf_59 : decode prog_14_method_6_code 59 = .ok (.istore 5, 2) := gq_9 db00e_3 eb_134
theorem d_X12_walkOf_61 : decode prog_14_method_6_code 61 = .ok (.aload_n 0, 1) := gq_10 db00e_3 eb_0
theorem d_X12_walkOf_62 : decode prog_14_method_6_code 62 = .ok (.getfield 13, 3) := gq_11 db00e_3 eb_916
theorem d_X12_walkOf_65 : decode prog_14_method_6_code 65 = .ok (.iload 4, 2) := gq_12 db00e_3 eb_76
theorem d_X12_walkOf_67 : decode prog_14_method_6_code 67 = .ok (.iaload, 1) := gq_13 db00e_3 eb_37
theorem d_X12_walkOf_68 : decode prog_14_method_6_code 68 = .ok (.istore 6, 2) := gq_14 db00e_3 eb_58
theorem d_X12_walkOf_70 : decode prog_14_method_6_code 70 = .ok (.aload_n 0, 1) := gq_15 db00e_3 eb_0
theorem d_X12_walkOf_71 : decode prog_14_method_6_code 71 = .ok (.getfield 19, 3) := gq_16 db00e_3 eb_614
theorem d_X12_walkOf_74 : decode prog_14_method_6_code 74 = .ok (.iload 5, 2) := gq_17 db00e_3 eb_125
theorem d_X12_walkOf_76 : decode prog_14_method_6_code 76 = .ok (.iaload, 1) := gq_18 db00e_3 eb_37
theorem d_X12_walkOf_77 : decode prog_14_method_6_code 77 = .ok (.aload_n 0, 1) := gq_19 db00e_3 eb_0
theorem d_X12_walkOf_78 : decode prog_14_method_6_code 78 = .ok (.getfield 16, 3) := gq_20 db00e_3 eb_917
theorem d_X12_walkOf_81 : decode prog_14_method_6_code 81 = .ok (.iload 4, 2) := gq_21 db00e_3 eb_76
theorem d_X12_walkOf_83 : decode prog_14_method_6_code 83 = .ok (.iaload, 1) := gq_22 db00e_3 eb_37
theorem d_X12_walkOf_84 : decode prog_14_method_6_code 84 = .ok (.iadd, 1) := gq_23 db00e_3 eb_35
theorem db00e_4 : Pf_ prog_14_method_6_code [(85, [0x2a]), (86, [0xb4, 0x00, 0x13]), (89, [0x15, 0x06]), (91, [0x2e]), (92, [0xa2, 0x00, 0x1b]), (95, [0x2a]), (96, [0xb4, 0x00, 0x13]), (99, [0x15, 0x06]), (101, [0x2a]), (102, [0xb4, 0x00, 0x13]), (105, [0x15, 0x05]), (107, [0x2e]), (108, [0x2a]), (109, [0xb4, 0x00, 0x10]), (112, [0x15, 0x04]), (114, [0x2e]), (115, [0x60]), (116, [0x4f]), (117, [0x04]), (118, [0x3e]), (119, [0x2a]), (120, [0xb4, 0x00, 0x13]), (123, [0x15, 0x06]), (125, [0x2e])] := pf_ok prog_14_method_6_code _ 85 (by decide +kernel)
theorem d_X12_walkOf_85 : decode prog_14_method_6_code 85 = .ok (.aload_n 0, 1) := gq_0 db00e_4 eb_0
theorem d_X12_walkOf_86 : decode prog_14_method_6_code 86 = .ok (.getfield 19, 3) := gq_1 db00e_4 eb_614
theorem d_X12_walkOf_89 : decode prog_14_method_6_code 89 = .ok (.iload 6, 2) := gq_2 db00e_4 eb_75
theorem d_X12_walkOf_91 : decode prog_14_method_6_code 91 = .ok (.iaload, 1) := gq_3 db00e_4 eb_37
theorem d_X12_walkOf_92 : decode prog_14_method_6_code 92 = .ok (.if_icmp .ge 27, 3) := gq_4 db00e_4 eb_336
theorem d_X12_walkOf_95 : decode prog_14_method_6_code 95 = .ok (.aload_n 0, 1) := gq_5 db00e_4 eb_0
theorem d_X12_walkOf_96 : decode prog_14_method_6_code 96 = .ok (.getfield 19, 3) := gq_6 db00e_4 eb_614
theorem d_X12_walkOf_99 : decode prog_14_method_6_code 99 = .ok (.iload 6, 2) := gq_7 db00e_4 eb_75
theorem d_X12_walkOf_101 : decode prog_14_method_6_code 101 = .ok (.aload_n 0, 1) := gq_8 db00e_4 eb_0
theorem d_X12_walkOf_102 : decode prog_14_method_6_code 102 = .ok (.getfield 19, 3) := gq_9 db00e_4 eb_614
theorem d_X12_walkOf_105 : decode prog_14_method_6_code 105 = .ok (.iload 5, 2) := gq_10 db00e_4 eb_125
theorem d_X12_walkOf_107 : decode prog_14_method_6_code 107 = .ok (.iaload, 1) := gq_11 db00e_4 eb_37
theorem d_X12_walkOf_108 : decode prog_14_method_6_code 108 = .ok (.aload_n 0, 1) := gq_12 db00e_4 eb_0
theorem d_X12_walkOf_109 : decode prog_14_method_6_code 109 = .ok (.getfield 16, 3) := gq_13 db00e_4 eb_917
theorem d_X12_walkOf_112 : decode prog_14_method_6_code 112 = .ok (.iload 4, 2) := gq_14 db00e_4 eb_76
theorem d_X12_walkOf_114 : decode prog_14_method_6_code 114 = .ok (.iaload, 1) := gq_15 db00e_4 eb_37
theorem d_X12_walkOf_115 : decode prog_14_method_6_code 115 = .ok (.iadd, 1) := gq_16 db00e_4 eb_35
theorem d_X12_walkOf_116 : decode prog_14_method_6_code 116 = .ok (.iastore, 1) := gq_17 db00e_4 eb_38
theorem d_X12_walkOf_117 : decode prog_14_method_6_code 117 = .ok (.iconst 1, 1) := gq_18 db00e_4 eb_19
theorem d_X12_walkOf_118 : decode prog_14_method_6_code 118 = .ok (.istore_n 3, 1) := gq_19 db00e_4 eb_28
theorem d_X12_walkOf_119 : decode prog_14_method_6_code 119 = .ok (.aload_n 0, 1) := gq_20 db00e_4 eb_0
theorem d_X12_walkOf_120 : decode prog_14_method_6_code 120 = .ok (.getfield 19, 3) := gq_21 db00e_4 eb_614
theorem d_X12_walkOf_123 : decode prog_14_method_6_code 123 = .ok (.iload 6, 2) := gq_22 db00e_4 eb_75
theorem d_X12_walkOf_125 : decode prog_14_method_6_code 125 = .ok (.iaload, 1) := gq_23 db00e_4 eb_37
theorem db00e_5 : Pf_ prog_14_method_6_code [(126, [0x2a]), (127, [0xb4, 0x00, 0x10]), (130, [0x15, 0x04]), (132, [0x2e]), (133, [0x60]), (134, [0x2a]), (135, [0xb4, 0x00, 0x13]), (138, [0x15, 0x05]), (140, [0x2e]), (141, [0xa2, 0x00, 0x1b]), (144, [0x2a]), (145, [0xb4, 0x00, 0x13]), (148, [0x15, 0x05]), (150, [0x2a]), (151, [0xb4, 0x00, 0x13]), (154, [0x15, 0x06]), (156, [0x2e]), (157, [0x2a]), (158, [0xb4, 0x00, 0x10]), (161, [0x15, 0x04]), (163, [0x2e]), (164, [0x60]), (165, [0x4f]), (166, [0x04])] := pf_ok prog_14_method_6_code _ 126 (by decide +kernel)
theorem d_X12_walkOf_126 : decode prog_14_method_6_code 126 = .ok (.aload_n 0, 1) := gq_0 db00e_5 eb_0
theorem d_X12_walkOf_127 : decode prog_14_method_6_code 127 = .ok (.getfield 16, 3) := gq_1 db00e_5 eb_917
theorem d_X12_walkOf_130 : decode prog_14_method_6_code 130 = .ok (.iload 4, 2) := gq_2 db00e_5 eb_76
theorem d_X12_walkOf_132 : decode prog_14_method_6_code 132 = .ok (.iaload, 1) := gq_3 db00e_5 eb_37
theorem d_X12_walkOf_133 : decode prog_14_method_6_code 133 = .ok (.iadd, 1) := gq_4 db00e_5 eb_35
theorem d_X12_walkOf_134 : decode prog_14_method_6_code 134 = .ok (.aload_n 0, 1) := gq_5 db00e_5 eb_0
theorem d_X12_walkOf_135 : decode prog_14_method_6_code 135 = .ok (.getfield 19, 3) := gq_6 db00e_5 eb_614
theorem d_X12_walkOf_138 : decode prog_14_method_6_code 138 = .ok (.iload 5, 2) := gq_7 db00e_5 eb_125
theorem d_X12_walkOf_140 : decode prog_14_method_6_code 140 = .ok (.iaload, 1) := gq_8 db00e_5 eb_37
theorem d_X12_walkOf_141 : decode prog_14_method_6_code 141 = .ok (.if_icmp .ge 27, 3) := gq_9 db00e_5 eb_336
theorem d_X12_walkOf_144 : decode prog_14_method_6_code 144 = .ok (.aload_n 0, 1) := gq_10 db00e_5 eb_0
theorem d_X12_walkOf_145 : decode prog_14_method_6_code 145 = .ok (.getfield 19, 3) := gq_11 db00e_5 eb_614
theorem d_X12_walkOf_148 : decode prog_14_method_6_code 148 = .ok (.iload 5, 2) := gq_12 db00e_5 eb_125
theorem d_X12_walkOf_150 : decode prog_14_method_6_code 150 = .ok (.aload_n 0, 1) := gq_13 db00e_5 eb_0
theorem d_X12_walkOf_151 : decode prog_14_method_6_code 151 = .ok (.getfield 19, 3) := gq_14 db00e_5 eb_614
theorem d_X12_walkOf_154 : decode prog_14_method_6_code 154 = .ok (.iload 6, 2) := gq_15 db00e_5 eb_75
theorem d_X12_walkOf_156 : decode prog_14_method_6_code 156 = .ok (.iaload, 1) := gq_16 db00e_5 eb_37
theorem d_X12_walkOf_157 : decode prog_14_method_6_code 157 = .ok (.aload_n 0, 1) := gq_17 db00e_5 eb_0
theorem d_X12_walkOf_158 : decode prog_14_method_6_code 158 = .ok (.getfield 16, 3) := gq_18 db00e_5 eb_917
theorem d_X12_walkOf_161 : decode prog_14_method_6_code 161 = .ok (.iload 4, 2) := gq_19 db00e_5 eb_76
theorem d_X12_walkOf_163 : decode prog_14_method_6_code 163 = .ok (.iaload, 1) := gq_20 db00e_5 eb_37
theorem d_X12_walkOf_164 : decode prog_14_method_6_code 164 = .ok (.iadd, 1) := gq_21 db00e_5 eb_35
theorem d_X12_walkOf_165 : decode prog_14_method_6_code 165 = .ok (.iastore, 1) := gq_22 db00e_5 eb_38
theorem d_X12_walkOf_166 : decode prog_14_method_6_code 166 = .ok (.iconst 1, 1) := gq_23 db00e_5 eb_19
theorem db00e_6 : Pf_ prog_14_method_6_code [(167, [0x3e]), (168, [0x84, 0x04, 0x01]), (171, [0xa7, 0xff, 0x80]), (174, [0xa7, 0xff, 0x74]), (177, [0x2a]), (178, [0xb4, 0x00, 0x13]), (181, [0x1c]), (182, [0x2e]), (183, [0x13, 0x01, 0x4e]), (186, [0xa1, 0x00, 0x07]), (189, [0x02]), (190, [0xa7, 0x00, 0x09]), (193, [0x2a]), (194, [0xb4, 0x00, 0x13]), (197, [0x1c]), (198, [0x2e]), (199, [0xac])] := pf_ok prog_14_method_6_code _ 167 (by decide +kernel)
theorem d_X12_walkOf_167 : decode prog_14_method_6_code 167 = .ok (.istore_n 3, 1) := gq_0 db00e_6 eb_28
theorem d_X12_walkOf_168 : decode prog_14_method_6_code 168 = .ok (.iinc 4 1, 3) := gq_1 db00e_6 eb_144
theorem d_X12_walkOf_171 : decode prog_14_method_6_code 171 = .ok (.goto (-128), 3) := gq_2 db00e_6 eb_922
theorem d_X12_walkOf_174 : decode prog_14_method_6_code 174 = .ok (.goto (-140), 3) := gq_3 db00e_6 eb_923
theorem d_X12_walkOf_177 : decode prog_14_method_6_code 177 = .ok (.aload_n 0, 1) := gq_4 db00e_6 eb_0
theorem d_X12_walkOf_178 : decode prog_14_method_6_code 178 = .ok (.getfield 19, 3) := gq_5 db00e_6 eb_614
theorem d_X12_walkOf_181 : decode prog_14_method_6_code 181 = .ok (.iload_n 2, 1) := gq_6 db00e_6 eb_13
theorem d_X12_walkOf_182 : decode prog_14_method_6_code 182 = .ok (.iaload, 1) := gq_7 db00e_6 eb_37
theorem d_X12_walkOf_183 : decode prog_14_method_6_code 183 = .ok (.ldc_w 334, 3) := gq_8 db00e_6 eb_919
theorem d_X12_walkOf_186 : decode prog_14_method_6_code 186 = .ok (.if_icmp .lt 7, 3) := gq_9 db00e_6 eb_154
theorem d_X12_walkOf_189 : decode prog_14_method_6_code 189 = .ok (.iconst (-1), 1) := gq_10 db00e_6 eb_26
theorem d_X12_walkOf_190 : decode prog_14_method_6_code 190 = .ok (.goto 9, 3) := gq_11 db00e_6 eb_924
theorem d_X12_walkOf_193 : decode prog_14_method_6_code 193 = .ok (.aload_n 0, 1) := gq_12 db00e_6 eb_0
theorem d_X12_walkOf_194 : decode prog_14_method_6_code 194 = .ok (.getfield 19, 3) := gq_13 db00e_6 eb_614
theorem d_X12_walkOf_197 : decode prog_14_method_6_code 197 = .ok (.iload_n 2, 1) := gq_14 db00e_6 eb_13
theorem d_X12_walkOf_198 : decode prog_14_method_6_code 198 = .ok (.iaload, 1) := gq_15 db00e_6 eb_37
theorem d_X12_walkOf_199 : decode prog_14_method_6_code 199 = .ok (.ireturn, 1) := gq_16 db00e_6 eb_15
theorem db00e_7 : Pf_ prog_14_method_7_code [(0, [0x1b]), (1, [0xb8, 0x01, 0x47]), (4, [0x99, 0x00, 0x13]), (7, [0x1c]), (8, [0xb8, 0x01, 0x47]), (11, [0x99, 0x00, 0x0c]), (14, [0x2a]), (15, [0x1b]), (16, [0x1c]), (17, [0xb6, 0x01, 0x4f]), (20, [0xa7, 0x00, 0x04]), (23, [0x02]), (24, [0xac])] := pf_ok prog_14_method_7_code _ 0 (by decide +kernel)
theorem d_X12_walk_0 : decode prog_14_method_7_code 0 = .ok (.iload_n 1, 1) := gq_0 db00e_7 eb_9
theorem d_X12_walk_1 : decode prog_14_method_7_code 1 = .ok (.invokestatic 327, 3) := gq_1 db00e_7 eb_914
theorem d_X12_walk_4 : decode prog_14_method_7_code 4 = .ok (.ifCond .eq 19, 3) := gq_2 db00e_7 eb_670
theorem d_X12_walk_7 : decode prog_14_method_7_code 7 = .ok (.iload_n 2, 1) := gq_3 db00e_7 eb_13
theorem d_X12_walk_8 : decode prog_14_method_7_code 8 = .ok (.invokestatic 327, 3) := gq_4 db00e_7 eb_914
theorem d_X12_walk_11 : decode prog_14_method_7_code 11 = .ok (.ifCond .eq 12, 3) := gq_5 db00e_7 eb_50
theorem d_X12_walk_14 : decode prog_14_method_7_code 14 = .ok (.aload_n 0, 1) := gq_6 db00e_7 eb_0
theorem d_X12_walk_15 : decode prog_14_method_7_code 15 = .ok (.iload_n 1, 1) := gq_7 db00e_7 eb_9
theorem d_X12_walk_16 : decode prog_14_method_7_code 16 = .ok (.iload_n 2, 1) := gq_8 db00e_7 eb_13
theorem d_X12_walk_17 : decode prog_14_method_7_code 17 = .ok (.invokevirtual 335, 3) := gq_9 db00e_7 eb_925
theorem d_X12_walk_20 : decode prog_14_method_7_code 20 = .ok (.goto 4, 3) := gq_10 db00e_7 eb_20
theorem d_X12_walk_23 : decode prog_14_method_7_code 23 = .ok (.iconst (-1), 1) := gq_11 db00e_7 eb_26
theorem d_X12_walk_24 : decode prog_14_method_7_code 24 = .ok (.ireturn, 1) := gq_12 db00e_7 eb_15
theorem db00e_8 : Pf_ prog_14_method_8_code [(0, [0x1b]), (1, [0x03]), (2, [0x2a]), (3, [0xb4, 0x01, 0x53]), (6, [0x04]), (7, [0x64]), (8, [0xb8, 0x01, 0x43]), (11, [0xac])] := pf_ok prog_14_method_8_code _ 0 (by decide +kernel)
theorem d_X12_isMan_0 : decode prog_14_method_8_code 0 = .ok (.iload_n 1, 1) := gq_0 db00e_8 eb_9
theorem d_X12_isMan_1 : decode prog_14_method_8_code 1 = .ok (.iconst 0, 1) := gq_1 db00e_8 eb_21
theorem d_X12_isMan_2 : decode prog_14_method_8_code 2 = .ok (.aload_n 0, 1) := gq_2 db00e_8 eb_0
theorem d_X12_isMan_3 : decode prog_14_method_8_code 3 = .ok (.getfield 339, 3) := gq_3 db00e_8 eb_926
theorem d_X12_isMan_6 : decode prog_14_method_8_code 6 = .ok (.iconst 1, 1) := gq_4 db00e_8 eb_19
theorem d_X12_isMan_7 : decode prog_14_method_8_code 7 = .ok (.isub, 1) := gq_5 db00e_8 eb_48
theorem d_X12_isMan_8 : decode prog_14_method_8_code 8 = .ok (.invokestatic 323, 3) := gq_6 db00e_8 eb_913
theorem d_X12_isMan_11 : decode prog_14_method_8_code 11 = .ok (.ireturn, 1) := gq_7 db00e_8 eb_15
theorem db00e_9 : Pf_ prog_14_method_9_code [(0, [0x1b]), (1, [0x04]), (2, [0x07]), (3, [0xb8, 0x01, 0x43]), (6, [0x99, 0x00, 0x1d]), (9, [0x1c]), (10, [0x03]), (11, [0x10, 0x28]), (13, [0xb8, 0x01, 0x43]), (16, [0x99, 0x00, 0x13]), (19, [0x1d]), (20, [0xb8, 0x01, 0x47]), (23, [0x99, 0x00, 0x0c]), (26, [0x2a]), (27, [0xb4, 0x01, 0x53]), (30, [0x10, 0x0c]), (32, [0xa0, 0x00, 0x05]), (35, [0x02]), (36, [0xac]), (37, [0x2a]), (38, [0xb4, 0x00, 0x16]), (41, [0x2a]), (42, [0xb4, 0x01, 0x53]), (45, [0x1b])] := pf_ok prog_14_method_9_code _ 0 (by decide +kernel)
theorem d_X12_constable_0 : decode prog_14_method_9_code 0 = .ok (.iload_n 1, 1) := gq_0 db00e_9 eb_9
theorem d_X12_constable_1 : decode prog_14_method_9_code 1 = .ok (.iconst 1, 1) := gq_1 db00e_9 eb_19
theorem d_X12_constable_2 : decode prog_14_method_9_code 2 = .ok (.iconst 4, 1) := gq_2 db00e_9 eb_291
theorem d_X12_constable_3 : decode prog_14_method_9_code 3 = .ok (.invokestatic 323, 3) := gq_3 db00e_9 eb_913
theorem d_X12_constable_6 : decode prog_14_method_9_code 6 = .ok (.ifCond .eq 29, 3) := gq_4 db00e_9 eb_927
theorem d_X12_constable_9 : decode prog_14_method_9_code 9 = .ok (.iload_n 2, 1) := gq_5 db00e_9 eb_13
theorem d_X12_constable_10 : decode prog_14_method_9_code 10 = .ok (.iconst 0, 1) := gq_6 db00e_9 eb_21
theorem d_X12_constable_11 : decode prog_14_method_9_code 11 = .ok (.bipush 40, 2) := gq_7 db00e_9 eb_314
theorem d_X12_constable_13 : decode prog_14_method_9_code 13 = .ok (.invokestatic 323, 3) := gq_8 db00e_9 eb_913
theorem d_X12_constable_16 : decode prog_14_method_9_code 16 = .ok (.ifCond .eq 19, 3) := gq_9 db00e_9 eb_670
theorem d_X12_constable_19 : decode prog_14_method_9_code 19 = .ok (.iload_n 3, 1) := gq_10 db00e_9 eb_29
theorem d_X12_constable_20 : decode prog_14_method_9_code 20 = .ok (.invokestatic 327, 3) := gq_11 db00e_9 eb_914
theorem d_X12_constable_23 : decode prog_14_method_9_code 23 = .ok (.ifCond .eq 12, 3) := gq_12 db00e_9 eb_50
theorem d_X12_constable_26 : decode prog_14_method_9_code 26 = .ok (.aload_n 0, 1) := gq_13 db00e_9 eb_0
theorem d_X12_constable_27 : decode prog_14_method_9_code 27 = .ok (.getfield 339, 3) := gq_14 db00e_9 eb_926
theorem d_X12_constable_30 : decode prog_14_method_9_code 30 = .ok (.bipush 12, 2) := gq_15 db00e_9 eb_4
theorem d_X12_constable_32 : decode prog_14_method_9_code 32 = .ok (.if_icmp .ne 5, 3) := gq_16 db00e_9 eb_479
theorem d_X12_constable_35 : decode prog_14_method_9_code 35 = .ok (.iconst (-1), 1) := gq_17 db00e_9 eb_26
theorem d_X12_constable_36 : decode prog_14_method_9_code 36 = .ok (.ireturn, 1) := gq_18 db00e_9 eb_15
theorem d_X12_constable_37 : decode prog_14_method_9_code 37 = .ok (.aload_n 0, 1) := gq_19 db00e_9 eb_0
theorem d_X12_constable_38 : decode prog_14_method_9_code 38 = .ok (.getfield 22, 3) := gq_20 db00e_9 eb_212
theorem d_X12_constable_41 : decode prog_14_method_9_code 41 = .ok (.aload_n 0, 1) := gq_21 db00e_9 eb_0
theorem d_X12_constable_42 : decode prog_14_method_9_code 42 = .ok (.getfield 339, 3) := gq_22 db00e_9 eb_926
theorem d_X12_constable_45 : decode prog_14_method_9_code 45 = .ok (.iload_n 1, 1) := gq_23 db00e_9 eb_9
theorem db00e_10 : Pf_ prog_14_method_9_code [(46, [0x4f]), (47, [0x2a]), (48, [0xb4, 0x00, 0x19]), (51, [0x2a]), (52, [0xb4, 0x01, 0x53]), (55, [0x1c]), (56, [0x4f]), (57, [0x2a]), (58, [0xb4, 0x00, 0x1c]), (61, [0x2a]), (62, [0xb4, 0x01, 0x53]), (65, [0x1d]), (66, [0x4f]), (67, [0x2a]), (68, [0xb4, 0x00, 0x1f]), (71, [0x2a]), (72, [0xb4, 0x01, 0x53]), (75, [0x2a]), (76, [0xb4, 0x01, 0x56]), (79, [0x4f]), (80, [0x2a]), (81, [0xb4, 0x00, 0x22]), (84, [0x2a]), (85, [0xb4, 0x01, 0x53])] := pf_ok prog_14_method_9_code _ 46 (by decide +kernel)
theorem d_X12_constable_46 : decode prog_14_method_9_code 46 = .ok (.iastore, 1) := gq_0 db00e_10 eb_38
theorem d_X12_constable_47 : decode prog_14_method_9_code 47 = .ok (.aload_n 0, 1) := gq_1 db00e_10 eb_0
theorem d_X12_constable_48 : decode prog_14_method_9_code 48 = .ok (.getfield 25, 3) := gq_2 db00e_10 eb_24
theorem d_X12_constable_51 : decode prog_14_method_9_code 51 = .ok (.aload_n 0, 1) := gq_3 db00e_10 eb_0
theorem d_X12_constable_52 : decode prog_14_method_9_code 52 = .ok (.getfield 339, 3) := gq_4 db00e_10 eb_926
theorem d_X12_constable_55 : decode prog_14_method_9_code 55 = .ok (.iload_n 2, 1) := gq_5 db00e_10 eb_13
theorem d_X12_constable_56 : decode prog_14_method_9_code 56 = .ok (.iastore, 1) := gq_6 db00e_10 eb_38
theorem d_X12_constable_57 : decode prog_14_method_9_code 57 = .ok (.aload_n 0, 1) := gq_7 db00e_10 eb_0
theorem d_X12_constable_58 : decode prog_14_method_9_code 58 = .ok (.getfield 28, 3) := gq_8 db00e_10 eb_361
theorem d_X12_constable_61 : decode prog_14_method_9_code 61 = .ok (.aload_n 0, 1) := gq_9 db00e_10 eb_0
theorem d_X12_constable_62 : decode prog_14_method_9_code 62 = .ok (.getfield 339, 3) := gq_10 db00e_10 eb_926
theorem d_X12_constable_65 : decode prog_14_method_9_code 65 = .ok (.iload_n 3, 1) := gq_11 db00e_10 eb_29
theorem d_X12_constable_66 : decode prog_14_method_9_code 66 = .ok (.iastore, 1) := gq_12 db00e_10 eb_38
theorem d_X12_constable_67 : decode prog_14_method_9_code 67 = .ok (.aload_n 0, 1) := gq_13 db00e_10 eb_0
theorem d_X12_constable_68 : decode prog_14_method_9_code 68 = .ok (.getfield 31, 3) := gq_14 db00e_10 eb_30
theorem d_X12_constable_71 : decode prog_14_method_9_code 71 = .ok (.aload_n 0, 1) := gq_15 db00e_10 eb_0
theorem d_X12_constable_72 : decode prog_14_method_9_code 72 = .ok (.getfield 339, 3) := gq_16 db00e_10 eb_926
theorem d_X12_constable_75 : decode prog_14_method_9_code 75 = .ok (.aload_n 0, 1) := gq_17 db00e_10 eb_0
theorem d_X12_constable_76 : decode prog_14_method_9_code 76 = .ok (.getfield 342, 3) := gq_18 db00e_10 eb_928
theorem d_X12_constable_79 : decode prog_14_method_9_code 79 = .ok (.iastore, 1) := gq_19 db00e_10 eb_38
theorem d_X12_constable_80 : decode prog_14_method_9_code 80 = .ok (.aload_n 0, 1) := gq_20 db00e_10 eb_0
theorem d_X12_constable_81 : decode prog_14_method_9_code 81 = .ok (.getfield 34, 3) := gq_21 db00e_10 eb_36
theorem d_X12_constable_84 : decode prog_14_method_9_code 84 = .ok (.aload_n 0, 1) := gq_22 db00e_10 eb_0
theorem d_X12_constable_85 : decode prog_14_method_9_code 85 = .ok (.getfield 339, 3) := gq_23 db00e_10 eb_926
theorem db00e_11 : Pf_ prog_14_method_9_code [(88, [0x03]), (89, [0x4f]), (90, [0x2a]), (91, [0xb4, 0x00, 0x25]), (94, [0x2a]), (95, [0xb4, 0x01, 0x53]), (98, [0x1d]), (99, [0x4f]), (100, [0x2a]), (101, [0xb4, 0x00, 0x28]), (104, [0x2a]), (105, [0xb4, 0x01, 0x53]), (108, [0x02]), (109, [0x4f]), (110, [0x2a]), (111, [0xb4, 0x00, 0x2b]), (114, [0x2a]), (115, [0xb4, 0x01, 0x53]), (118, [0x02]), (119, [0x4f]), (120, [0x2a]), (121, [0xb4, 0x00, 0x31]), (124, [0x2a]), (125, [0xb4, 0x01, 0x53])] := pf_ok prog_14_method_9_code _ 88 (by decide +kernel)
theorem d_X12_constable_88 : decode prog_14_method_9_code 88 = .ok (.iconst 0, 1) := gq_0 db00e_11 eb_21
theorem d_X12_constable_89 : decode prog_14_method_9_code 89 = .ok (.iastore, 1) := gq_1 db00e_11 eb_38
theorem d_X12_constable_90 : decode prog_14_method_9_code 90 = .ok (.aload_n 0, 1) := gq_2 db00e_11 eb_0
theorem d_X12_constable_91 : decode prog_14_method_9_code 91 = .ok (.getfield 37, 3) := gq_3 db00e_11 eb_281
theorem d_X12_constable_94 : decode prog_14_method_9_code 94 = .ok (.aload_n 0, 1) := gq_4 db00e_11 eb_0
theorem d_X12_constable_95 : decode prog_14_method_9_code 95 = .ok (.getfield 339, 3) := gq_5 db00e_11 eb_926
theorem d_X12_constable_98 : decode prog_14_method_9_code 98 = .ok (.iload_n 3, 1) := gq_6 db00e_11 eb_29
theorem d_X12_constable_99 : decode prog_14_method_9_code 99 = .ok (.iastore, 1) := gq_7 db00e_11 eb_38
theorem d_X12_constable_100 : decode prog_14_method_9_code 100 = .ok (.aload_n 0, 1) := gq_8 db00e_11 eb_0
theorem d_X12_constable_101 : decode prog_14_method_9_code 101 = .ok (.getfield 40, 3) := gq_9 db00e_11 eb_282
theorem d_X12_constable_104 : decode prog_14_method_9_code 104 = .ok (.aload_n 0, 1) := gq_10 db00e_11 eb_0
theorem d_X12_constable_105 : decode prog_14_method_9_code 105 = .ok (.getfield 339, 3) := gq_11 db00e_11 eb_926
theorem d_X12_constable_108 : decode prog_14_method_9_code 108 = .ok (.iconst (-1), 1) := gq_12 db00e_11 eb_26
theorem d_X12_constable_109 : decode prog_14_method_9_code 109 = .ok (.iastore, 1) := gq_13 db00e_11 eb_38
theorem d_X12_constable_110 : decode prog_14_method_9_code 110 = .ok (.aload_n 0, 1) := gq_14 db00e_11 eb_0
theorem d_X12_constable_111 : decode prog_14_method_9_code 111 = .ok (.getfield 43, 3) := gq_15 db00e_11 eb_283
theorem d_X12_constable_114 : decode prog_14_method_9_code 114 = .ok (.aload_n 0, 1) := gq_16 db00e_11 eb_0
theorem d_X12_constable_115 : decode prog_14_method_9_code 115 = .ok (.getfield 339, 3) := gq_17 db00e_11 eb_926
theorem d_X12_constable_118 : decode prog_14_method_9_code 118 = .ok (.iconst (-1), 1) := gq_18 db00e_11 eb_26
theorem d_X12_constable_119 : decode prog_14_method_9_code 119 = .ok (.iastore, 1) := gq_19 db00e_11 eb_38
theorem d_X12_constable_120 : decode prog_14_method_9_code 120 = .ok (.aload_n 0, 1) := gq_20 db00e_11 eb_0
theorem d_X12_constable_121 : decode prog_14_method_9_code 121 = .ok (.getfield 49, 3) := gq_21 db00e_11 eb_285
theorem d_X12_constable_124 : decode prog_14_method_9_code 124 = .ok (.aload_n 0, 1) := gq_22 db00e_11 eb_0
theorem d_X12_constable_125 : decode prog_14_method_9_code 125 = .ok (.getfield 339, 3) := gq_23 db00e_11 eb_926
theorem db00e_12 : Pf_ prog_14_method_9_code [(128, [0x02]), (129, [0x4f]), (130, [0x2a]), (131, [0xb4, 0x00, 0x37]), (134, [0x2a]), (135, [0xb4, 0x01, 0x53]), (138, [0x03]), (139, [0x4f]), (140, [0x2a]), (141, [0xb4, 0x00, 0x3a]), (144, [0x2a]), (145, [0xb4, 0x01, 0x53]), (148, [0x03]), (149, [0x4f]), (150, [0x2a]), (151, [0xb4, 0x00, 0x3d]), (154, [0x2a]), (155, [0xb4, 0x01, 0x53]), (158, [0x03]), (159, [0x4f]), (160, [0x2a]), (161, [0x59]), (162, [0xb4, 0x01, 0x53]), (165, [0x04])] := pf_ok prog_14_method_9_code _ 128 (by decide +kernel)
theorem d_X12_constable_128 : decode prog_14_method_9_code 128 = .ok (.iconst (-1), 1) := gq_0 db00e_12 eb_26
theorem d_X12_constable_129 : decode prog_14_method_9_code 129 = .ok (.iastore, 1) := gq_1 db00e_12 eb_38
theorem d_X12_constable_130 : decode prog_14_method_9_code 130 = .ok (.aload_n 0, 1) := gq_2 db00e_12 eb_0
theorem d_X12_constable_131 : decode prog_14_method_9_code 131 = .ok (.getfield 55, 3) := gq_3 db00e_12 eb_273
theorem d_X12_constable_134 : decode prog_14_method_9_code 134 = .ok (.aload_n 0, 1) := gq_4 db00e_12 eb_0
theorem d_X12_constable_135 : decode prog_14_method_9_code 135 = .ok (.getfield 339, 3) := gq_5 db00e_12 eb_926
theorem d_X12_constable_138 : decode prog_14_method_9_code 138 = .ok (.iconst 0, 1) := gq_6 db00e_12 eb_21
theorem d_X12_constable_139 : decode prog_14_method_9_code 139 = .ok (.iastore, 1) := gq_7 db00e_12 eb_38
theorem d_X12_constable_140 : decode prog_14_method_9_code 140 = .ok (.aload_n 0, 1) := gq_8 db00e_12 eb_0
theorem d_X12_constable_141 : decode prog_14_method_9_code 141 = .ok (.getfield 58, 3) := gq_9 db00e_12 eb_319
theorem d_X12_constable_144 : decode prog_14_method_9_code 144 = .ok (.aload_n 0, 1) := gq_10 db00e_12 eb_0
theorem d_X12_constable_145 : decode prog_14_method_9_code 145 = .ok (.getfield 339, 3) := gq_11 db00e_12 eb_926
theorem d_X12_constable_148 : decode prog_14_method_9_code 148 = .ok (.iconst 0, 1) := gq_12 db00e_12 eb_21
theorem d_X12_constable_149 : decode prog_14_method_9_code 149 = .ok (.iastore, 1) := gq_13 db00e_12 eb_38
theorem d_X12_constable_150 : decode prog_14_method_9_code 150 = .ok (.aload_n 0, 1) := gq_14 db00e_12 eb_0
theorem d_X12_constable_151 : decode prog_14_method_9_code 151 = .ok (.getfield 61, 3) := gq_15 db00e_12 eb_321
theorem d_X12_constable_154 : decode prog_14_method_9_code 154 = .ok (.aload_n 0, 1) := gq_16 db00e_12 eb_0
theorem d_X12_constable_155 : decode prog_14_method_9_code 155 = .ok (.getfield 339, 3) := gq_17 db00e_12 eb_926
theorem d_X12_constable_158 : decode prog_14_method_9_code 158 = .ok (.iconst 0, 1) := gq_18 db00e_12 eb_21
theorem d_X12_constable_159 : decode prog_14_method_9_code 159 = .ok (.iastore, 1) := gq_19 db00e_12 eb_38
theorem d_X12_constable_160 : decode prog_14_method_9_code 160 = .ok (.aload_n 0, 1) := gq_20 db00e_12 eb_0
theorem d_X12_constable_161 : decode prog_14_method_9_code 161 = .ok (.dup, 1) := gq_21 db00e_12 eb_46
theorem d_X12_constable_162 : decode prog_14_method_9_code 162 = .ok (.getfield 339, 3) := gq_22 db00e_12 eb_926
theorem d_X12_constable_165 : decode prog_14_method_9_code 165 = .ok (.iconst 1, 1) := gq_23 db00e_12 eb_19
theorem db00e_13 : Pf_ prog_14_method_9_code [(166, [0x60]), (167, [0xb5, 0x01, 0x53]), (170, [0x2a]), (171, [0xb4, 0x01, 0x53]), (174, [0x04]), (175, [0x64]), (176, [0xac])] := pf_ok prog_14_method_9_code _ 166 (by decide +kernel)
theorem d_X12_constable_166 : decode prog_14_method_9_code 166 = .ok (.iadd, 1) := gq_0 db00e_13 eb_35
theorem d_X12_constable_167 : decode prog_14_method_9_code 167 = .ok (.putfield 339, 3) := gq_1 db00e_13 eb_929
theorem d_X12_constable_170 : decode prog_14_method_9_code 170 = .ok (.aload_n 0, 1) := gq_2 db00e_13 eb_0
theorem d_X12_constable_171 : decode prog_14_method_9_code 171 = .ok (.getfield 339, 3) := gq_3 db00e_13 eb_926
theorem d_X12_constable_174 : decode prog_14_method_9_code 174 = .ok (.iconst 1, 1) := gq_4 db00e_13 eb_19
theorem d_X12_constable_175 : decode prog_14_method_9_code 175 = .ok (.isub, 1) := gq_5 db00e_13 eb_48
theorem d_X12_constable_176 : decode prog_14_method_9_code 176 = .ok (.ireturn, 1) := gq_6 db00e_13 eb_15
theorem db00e_14 : Pf_ prog_14_method_10_code [(0, [0x1b]), (1, [0x03]), (2, [0x2a]), (3, [0xb4, 0x01, 0x56]), (6, [0xb8, 0x01, 0x43]), (9, [0xac])] := pf_ok prog_14_method_10_code _ 0 (by decide +kernel)
theorem d_X12_isKnowing_0 : decode prog_14_method_10_code 0 = .ok (.iload_n 1, 1) := gq_0 db00e_14 eb_9
theorem d_X12_isKnowing_1 : decode prog_14_method_10_code 1 = .ok (.iconst 0, 1) := gq_1 db00e_14 eb_21
theorem d_X12_isKnowing_2 : decode prog_14_method_10_code 2 = .ok (.aload_n 0, 1) := gq_2 db00e_14 eb_0
theorem d_X12_isKnowing_3 : decode prog_14_method_10_code 3 = .ok (.getfield 342, 3) := gq_3 db00e_14 eb_928
theorem d_X12_isKnowing_6 : decode prog_14_method_10_code 6 = .ok (.invokestatic 323, 3) := gq_4 db00e_14 eb_913
theorem d_X12_isKnowing_9 : decode prog_14_method_10_code 9 = .ok (.ireturn, 1) := gq_5 db00e_14 eb_15
theorem db00e_15 : Pf_ prog_14_method_11_code [(0, [0x2a]), (1, [0x1b]), (2, [0xb6, 0x01, 0x59]), (5, [0x99, 0x00, 0x1f]), (8, [0x1c]), (9, [0x04]), (10, [0x07]), (11, [0xb8, 0x01, 0x43]), (14, [0x99, 0x00, 0x16]), (17, [0x1d]), (18, [0x03]), (19, [0x10, 0x1e]), (21, [0xb8, 0x01, 0x43]), (24, [0x99, 0x00, 0x0c]), (27, [0x2a]), (28, [0xb4, 0x01, 0x5c]), (31, [0x10, 0x28]), (33, [0xa0, 0x00, 0x05]), (36, [0x03]), (37, [0xac]), (38, [0x2a]), (39, [0xb4, 0x00, 0x4b]), (42, [0x2a]), (43, [0xb4, 0x01, 0x5c])] := pf_ok prog_14_method_11_code _ 0 (by decide +kernel)
theorem d_X12_rank_0 : decode prog_14_method_11_code 0 = .ok (.aload_n 0, 1) := gq_0 db00e_15 eb_0
theorem d_X12_rank_1 : decode prog_14_method_11_code 1 = .ok (.iload_n 1, 1) := gq_1 db00e_15 eb_9
theorem d_X12_rank_2 : decode prog_14_method_11_code 2 = .ok (.invokevirtual 345, 3) := gq_2 db00e_15 eb_930
theorem d_X12_rank_5 : decode prog_14_method_11_code 5 = .ok (.ifCond .eq 31, 3) := gq_3 db00e_15 eb_758
theorem d_X12_rank_8 : decode prog_14_method_11_code 8 = .ok (.iload_n 2, 1) := gq_4 db00e_15 eb_13
theorem d_X12_rank_9 : decode prog_14_method_11_code 9 = .ok (.iconst 1, 1) := gq_5 db00e_15 eb_19
theorem d_X12_rank_10 : decode prog_14_method_11_code 10 = .ok (.iconst 4, 1) := gq_6 db00e_15 eb_291
theorem d_X12_rank_11 : decode prog_14_method_11_code 11 = .ok (.invokestatic 323, 3) := gq_7 db00e_15 eb_913
theorem d_X12_rank_14 : decode prog_14_method_11_code 14 = .ok (.ifCond .eq 22, 3) := gq_8 db00e_15 eb_416
theorem d_X12_rank_17 : decode prog_14_method_11_code 17 = .ok (.iload_n 3, 1) := gq_9 db00e_15 eb_29
theorem d_X12_rank_18 : decode prog_14_method_11_code 18 = .ok (.iconst 0, 1) := gq_10 db00e_15 eb_21
theorem d_X12_rank_19 : decode prog_14_method_11_code 19 = .ok (.bipush 30, 2) := gq_11 db00e_15 eb_92
theorem d_X12_rank_21 : decode prog_14_method_11_code 21 = .ok (.invokestatic 323, 3) := gq_12 db00e_15 eb_913
theorem d_X12_rank_24 : decode prog_14_method_11_code 24 = .ok (.ifCond .eq 12, 3) := gq_13 db00e_15 eb_50
theorem d_X12_rank_27 : decode prog_14_method_11_code 27 = .ok (.aload_n 0, 1) := gq_14 db00e_15 eb_0
theorem d_X12_rank_28 : decode prog_14_method_11_code 28 = .ok (.getfield 348, 3) := gq_15 db00e_15 eb_931
theorem d_X12_rank_31 : decode prog_14_method_11_code 31 = .ok (.bipush 40, 2) := gq_16 db00e_15 eb_314
theorem d_X12_rank_33 : decode prog_14_method_11_code 33 = .ok (.if_icmp .ne 5, 3) := gq_17 db00e_15 eb_479
theorem d_X12_rank_36 : decode prog_14_method_11_code 36 = .ok (.iconst 0, 1) := gq_18 db00e_15 eb_21
theorem d_X12_rank_37 : decode prog_14_method_11_code 37 = .ok (.ireturn, 1) := gq_19 db00e_15 eb_15
theorem d_X12_rank_38 : decode prog_14_method_11_code 38 = .ok (.aload_n 0, 1) := gq_20 db00e_15 eb_0
theorem d_X12_rank_39 : decode prog_14_method_11_code 39 = .ok (.getfield 75, 3) := gq_21 db00e_15 eb_932
theorem d_X12_rank_42 : decode prog_14_method_11_code 42 = .ok (.aload_n 0, 1) := gq_22 db00e_15 eb_0
theorem d_X12_rank_43 : decode prog_14_method_11_code 43 = .ok (.getfield 348, 3) := gq_23 db00e_15 eb_931
theorem db00e_16 : Pf_ prog_14_method_11_code [(46, [0x1b]), (47, [0x4f]), (48, [0x2a]), (49, [0xb4, 0x00, 0x4e]), (52, [0x2a]), (53, [0xb4, 0x01, 0x5c]), (56, [0x1c]), (57, [0x4f]), (58, [0x2a]), (59, [0xb4, 0x00, 0x51]), (62, [0x2a]), (63, [0xb4, 0x01, 0x5c]), (66, [0x1d]), (67, [0x4f]), (68, [0x2a]), (69, [0xb4, 0x00, 0x54]), (72, [0x2a]), (73, [0xb4, 0x01, 0x5c]), (76, [0x2a]), (77, [0xb4, 0x01, 0x56]), (80, [0x4f]), (81, [0x2a]), (82, [0x59]), (83, [0xb4, 0x01, 0x5c])] := pf_ok prog_14_method_11_code _ 46 (by decide +kernel)
theorem d_X12_rank_46 : decode prog_14_method_11_code 46 = .ok (.iload_n 1, 1) := gq_0 db00e_16 eb_9
theorem d_X12_rank_47 : decode prog_14_method_11_code 47 = .ok (.iastore, 1) := gq_1 db00e_16 eb_38
theorem d_X12_rank_48 : decode prog_14_method_11_code 48 = .ok (.aload_n 0, 1) := gq_2 db00e_16 eb_0
theorem d_X12_rank_49 : decode prog_14_method_11_code 49 = .ok (.getfield 78, 3) := gq_3 db00e_16 eb_933
theorem d_X12_rank_52 : decode prog_14_method_11_code 52 = .ok (.aload_n 0, 1) := gq_4 db00e_16 eb_0
theorem d_X12_rank_53 : decode prog_14_method_11_code 53 = .ok (.getfield 348, 3) := gq_5 db00e_16 eb_931
theorem d_X12_rank_56 : decode prog_14_method_11_code 56 = .ok (.iload_n 2, 1) := gq_6 db00e_16 eb_13
theorem d_X12_rank_57 : decode prog_14_method_11_code 57 = .ok (.iastore, 1) := gq_7 db00e_16 eb_38
theorem d_X12_rank_58 : decode prog_14_method_11_code 58 = .ok (.aload_n 0, 1) := gq_8 db00e_16 eb_0
theorem d_X12_rank_59 : decode prog_14_method_11_code 59 = .ok (.getfield 81, 3) := gq_9 db00e_16 eb_934
theorem d_X12_rank_62 : decode prog_14_method_11_code 62 = .ok (.aload_n 0, 1) := gq_10 db00e_16 eb_0
theorem d_X12_rank_63 : decode prog_14_method_11_code 63 = .ok (.getfield 348, 3) := gq_11 db00e_16 eb_931
theorem d_X12_rank_66 : decode prog_14_method_11_code 66 = .ok (.iload_n 3, 1) := gq_12 db00e_16 eb_29
theorem d_X12_rank_67 : decode prog_14_method_11_code 67 = .ok (.iastore, 1) := gq_13 db00e_16 eb_38
theorem d_X12_rank_68 : decode prog_14_method_11_code 68 = .ok (.aload_n 0, 1) := gq_14 db00e_16 eb_0
theorem d_X12_rank_69 : decode prog_14_method_11_code 69 = .ok (.getfield 84, 3) := gq_15 db00e_16 eb_732
theorem d_X12_rank_72 : decode prog_14_method_11_code 72 = .ok (.aload_n 0, 1) := gq_16 db00e_16 eb_0
theorem d_X12_rank_73 : decode prog_14_method_11_code 73 = .ok (.getfield 348, 3) := gq_17 db00e_16 eb_931
theorem d_X12_rank_76 : decode prog_14_method_11_code 76 = .ok (.aload_n 0, 1) := gq_18 db00e_16 eb_0
theorem d_X12_rank_77 : decode prog_14_method_11_code 77 = .ok (.getfield 342, 3) := gq_19 db00e_16 eb_928
theorem d_X12_rank_80 : decode prog_14_method_11_code 80 = .ok (.iastore, 1) := gq_20 db00e_16 eb_38
theorem d_X12_rank_81 : decode prog_14_method_11_code 81 = .ok (.aload_n 0, 1) := gq_21 db00e_16 eb_0
theorem d_X12_rank_82 : decode prog_14_method_11_code 82 = .ok (.dup, 1) := gq_22 db00e_16 eb_46
theorem d_X12_rank_83 : decode prog_14_method_11_code 83 = .ok (.getfield 348, 3) := gq_23 db00e_16 eb_931
theorem db00e_17 : Pf_ prog_14_method_11_code [(86, [0x04]), (87, [0x60]), (88, [0xb5, 0x01, 0x5c]), (91, [0x04]), (92, [0xac])] := pf_ok prog_14_method_11_code _ 86 (by decide +kernel)
theorem d_X12_rank_86 : decode prog_14_method_11_code 86 = .ok (.iconst 1, 1) := gq_0 db00e_17 eb_19
theorem d_X12_rank_87 : decode prog_14_method_11_code 87 = .ok (.iadd, 1) := gq_1 db00e_17 eb_35
theorem d_X12_rank_88 : decode prog_14_method_11_code 88 = .ok (.putfield 348, 3) := gq_2 db00e_17 eb_935
theorem d_X12_rank_91 : decode prog_14_method_11_code 91 = .ok (.iconst 1, 1) := gq_3 db00e_17 eb_19
theorem d_X12_rank_92 : decode prog_14_method_11_code 92 = .ok (.ireturn, 1) := gq_4 db00e_17 eb_15
theorem db00e_18 : Pf_ prog_14_method_12_code [(0, [0x2a]), (1, [0xb4, 0x00, 0x16]), (4, [0x1b]), (5, [0x2e]), (6, [0x36, 0x04]), (8, [0x02]), (9, [0x36, 0x05]), (11, [0x03]), (12, [0x36, 0x06]), (14, [0x15, 0x06]), (16, [0x2a]), (17, [0xb4, 0x01, 0x5c]), (20, [0xa2, 0x00, 0x48]), (23, [0x2a]), (24, [0xb4, 0x00, 0x4b]), (27, [0x15, 0x06]), (29, [0x2e]), (30, [0x1b]), (31, [0xa0, 0x00, 0x37]), (34, [0x2a]), (35, [0xb4, 0x00, 0x54]), (38, [0x15, 0x06]), (40, [0x2e]), (41, [0x1d])] := pf_ok prog_14_method_12_code _ 0 (by decide +kernel)
theorem d_X12_rankOn_0 : decode prog_14_method_12_code 0 = .ok (.aload_n 0, 1) := gq_0 db00e_18 eb_0
theorem d_X12_rankOn_1 : decode prog_14_method_12_code 1 = .ok (.getfield 22, 3) := gq_1 db00e_18 eb_212
theorem d_X12_rankOn_4 : decode prog_14_method_12_code 4 = .ok (.iload_n 1, 1) := gq_2 db00e_18 eb_9
theorem d_X12_rankOn_5 : decode prog_14_method_12_code 5 = .ok (.iaload, 1) := gq_3 db00e_18 eb_37
theorem d_X12_rankOn_6 : decode prog_14_method_12_code 6 = .ok (.istore 4, 2) := gq_4 db00e_18 eb_133
theorem d_X12_rankOn_8 : decode prog_14_method_12_code 8 = .ok (.iconst (-1), 1) := gq_5 db00e_18 eb_26
theorem d_X12_rankOn_9 : decode prog_14_method_12_code 9 = .ok (.istore 5, 2) := gq_6 db00e_18 eb_134
theorem d_X12_rankOn_11 : decode prog_14_method_12_code 11 = .ok (.iconst 0, 1) := gq_7 db00e_18 eb_21
theorem d_X12_rankOn_12 : decode prog_14_method_12_code 12 = .ok (.istore 6, 2) := gq_8 db00e_18 eb_58
theorem d_X12_rankOn_14 : decode prog_14_method_12_code 14 = .ok (.iload 6, 2) := gq_9 db00e_18 eb_75
theorem d_X12_rankOn_16 : decode prog_14_method_12_code 16 = .ok (.aload_n 0, 1) := gq_10 db00e_18 eb_0
theorem d_X12_rankOn_17 : decode prog_14_method_12_code 17 = .ok (.getfield 348, 3) := gq_11 db00e_18 eb_931
theorem d_X12_rankOn_20 : decode prog_14_method_12_code 20 = .ok (.if_icmp .ge 72, 3) := gq_12 db00e_18 eb_308
theorem d_X12_rankOn_23 : decode prog_14_method_12_code 23 = .ok (.aload_n 0, 1) := gq_13 db00e_18 eb_0
theorem d_X12_rankOn_24 : decode prog_14_method_12_code 24 = .ok (.getfield 75, 3) := gq_14 db00e_18 eb_932
theorem d_X12_rankOn_27 : decode prog_14_method_12_code 27 = .ok (.iload 6, 2) := gq_15 db00e_18 eb_75
theorem d_X12_rankOn_29 : decode prog_14_method_12_code 29 = .ok (.iaload, 1) := gq_16 db00e_18 eb_37
theorem d_X12_rankOn_30 : decode prog_14_method_12_code 30 = .ok (.iload_n 1, 1) := gq_17 db00e_18 eb_9
theorem d_X12_rankOn_31 : decode prog_14_method_12_code 31 = .ok (.if_icmp .ne 55, 3) := gq_18 db00e_18 eb_309
theorem d_X12_rankOn_34 : decode prog_14_method_12_code 34 = .ok (.aload_n 0, 1) := gq_19 db00e_18 eb_0
theorem d_X12_rankOn_35 : decode prog_14_method_12_code 35 = .ok (.getfield 84, 3) := gq_20 db00e_18 eb_732
theorem d_X12_rankOn_38 : decode prog_14_method_12_code 38 = .ok (.iload 6, 2) := gq_21 db00e_18 eb_75
theorem d_X12_rankOn_40 : decode prog_14_method_12_code 40 = .ok (.iaload, 1) := gq_22 db00e_18 eb_37
theorem d_X12_rankOn_41 : decode prog_14_method_12_code 41 = .ok (.iload_n 3, 1) := gq_23 db00e_18 eb_29
theorem db00e_19 : Pf_ prog_14_method_12_code [(42, [0xa3, 0x00, 0x2c]), (45, [0x2a]), (46, [0xb4, 0x00, 0x51]), (49, [0x15, 0x06]), (51, [0x2e]), (52, [0x1c]), (53, [0xa3, 0x00, 0x21]), (56, [0x2a]), (57, [0xb4, 0x00, 0x51]), (60, [0x15, 0x06]), (62, [0x2e]), (63, [0x15, 0x05]), (65, [0xa1, 0x00, 0x15]), (68, [0x2a]), (69, [0xb4, 0x00, 0x4e]), (72, [0x15, 0x06]), (74, [0x2e]), (75, [0x36, 0x04]), (77, [0x2a]), (78, [0xb4, 0x00, 0x51]), (81, [0x15, 0x06]), (83, [0x2e]), (84, [0x36, 0x05]), (86, [0x84, 0x06, 0x01])] := pf_ok prog_14_method_12_code _ 42 (by decide +kernel)
theorem d_X12_rankOn_42 : decode prog_14_method_12_code 42 = .ok (.if_icmp .gt 44, 3) := gq_0 db00e_19 eb_936
theorem d_X12_rankOn_45 : decode prog_14_method_12_code 45 = .ok (.aload_n 0, 1) := gq_1 db00e_19 eb_0
theorem d_X12_rankOn_46 : decode prog_14_method_12_code 46 = .ok (.getfield 81, 3) := gq_2 db00e_19 eb_934
theorem d_X12_rankOn_49 : decode prog_14_method_12_code 49 = .ok (.iload 6, 2) := gq_3 db00e_19 eb_75
theorem d_X12_rankOn_51 : decode prog_14_method_12_code 51 = .ok (.iaload, 1) := gq_4 db00e_19 eb_37
theorem d_X12_rankOn_52 : decode prog_14_method_12_code 52 = .ok (.iload_n 2, 1) := gq_5 db00e_19 eb_13
theorem d_X12_rankOn_53 : decode prog_14_method_12_code 53 = .ok (.if_icmp .gt 33, 3) := gq_6 db00e_19 eb_397
theorem d_X12_rankOn_56 : decode prog_14_method_12_code 56 = .ok (.aload_n 0, 1) := gq_7 db00e_19 eb_0
theorem d_X12_rankOn_57 : decode prog_14_method_12_code 57 = .ok (.getfield 81, 3) := gq_8 db00e_19 eb_934
theorem d_X12_rankOn_60 : decode prog_14_method_12_code 60 = .ok (.iload 6, 2) := gq_9 db00e_19 eb_75
theorem d_X12_rankOn_62 : decode prog_14_method_12_code 62 = .ok (.iaload, 1) := gq_10 db00e_19 eb_37
theorem d_X12_rankOn_63 : decode prog_14_method_12_code 63 = .ok (.iload 5, 2) := gq_11 db00e_19 eb_125
theorem d_X12_rankOn_65 : decode prog_14_method_12_code 65 = .ok (.if_icmp .lt 21, 3) := gq_12 db00e_19 eb_937
theorem d_X12_rankOn_68 : decode prog_14_method_12_code 68 = .ok (.aload_n 0, 1) := gq_13 db00e_19 eb_0
theorem d_X12_rankOn_69 : decode prog_14_method_12_code 69 = .ok (.getfield 78, 3) := gq_14 db00e_19 eb_933
theorem d_X12_rankOn_72 : decode prog_14_method_12_code 72 = .ok (.iload 6, 2) := gq_15 db00e_19 eb_75
theorem d_X12_rankOn_74 : decode prog_14_method_12_code 74 = .ok (.iaload, 1) := gq_16 db00e_19 eb_37
theorem d_X12_rankOn_75 : decode prog_14_method_12_code 75 = .ok (.istore 4, 2) := gq_17 db00e_19 eb_133
theorem d_X12_rankOn_77 : decode prog_14_method_12_code 77 = .ok (.aload_n 0, 1) := gq_18 db00e_19 eb_0
theorem d_X12_rankOn_78 : decode prog_14_method_12_code 78 = .ok (.getfield 81, 3) := gq_19 db00e_19 eb_934
theorem d_X12_rankOn_81 : decode prog_14_method_12_code 81 = .ok (.iload 6, 2) := gq_20 db00e_19 eb_75
theorem d_X12_rankOn_83 : decode prog_14_method_12_code 83 = .ok (.iaload, 1) := gq_21 db00e_19 eb_37
theorem d_X12_rankOn_84 : decode prog_14_method_12_code 84 = .ok (.istore 5, 2) := gq_22 db00e_19 eb_134
theorem d_X12_rankOn_86 : decode prog_14_method_12_code 86 = .ok (.iinc 6 1, 3) := gq_23 db00e_19 eb_72
theorem db00e_20 : Pf_ prog_14_method_12_code [(89, [0xa7, 0xff, 0xb5]), (92, [0x15, 0x04]), (94, [0xac])] := pf_ok prog_14_method_12_code _ 89 (by decide +kernel)
theorem d_X12_rankOn_89 : decode prog_14_method_12_code 89 = .ok (.goto (-75), 3) := gq_0 db00e_20 eb_313
theorem d_X12_rankOn_92 : decode prog_14_method_12_code 92 = .ok (.iload 4, 2) := gq_1 db00e_20 eb_76
theorem d_X12_rankOn_94 : decode prog_14_method_12_code 94 = .ok (.ireturn, 1) := gq_2 db00e_20 eb_15
theorem db00e_21 : Pf_ prog_14_method_13_code [(0, [0x2a]), (1, [0x1b]), (2, [0xb6, 0x01, 0x59]), (5, [0x99, 0x00, 0x1f]), (8, [0x1c]), (9, [0x03]), (10, [0x10, 0x1e]), (12, [0xb8, 0x01, 0x43]), (15, [0x99, 0x00, 0x15]), (18, [0x2a]), (19, [0x1d]), (20, [0xb6, 0x01, 0x5f]), (23, [0x99, 0x00, 0x0d]), (26, [0x2a]), (27, [0x1b]), (28, [0x1c]), (29, [0x1d]), (30, [0xb6, 0x01, 0x62]), (33, [0xa7, 0x00, 0x04]), (36, [0x02]), (37, [0xac])] := pf_ok prog_14_method_13_code _ 0 (by decide +kernel)
theorem d_X12_ranked_0 : decode prog_14_method_13_code 0 = .ok (.aload_n 0, 1) := gq_0 db00e_21 eb_0
theorem d_X12_ranked_1 : decode prog_14_method_13_code 1 = .ok (.iload_n 1, 1) := gq_1 db00e_21 eb_9
theorem d_X12_ranked_2 : decode prog_14_method_13_code 2 = .ok (.invokevirtual 345, 3) := gq_2 db00e_21 eb_930
theorem d_X12_ranked_5 : decode prog_14_method_13_code 5 = .ok (.ifCond .eq 31, 3) := gq_3 db00e_21 eb_758
theorem d_X12_ranked_8 : decode prog_14_method_13_code 8 = .ok (.iload_n 2, 1) := gq_4 db00e_21 eb_13
theorem d_X12_ranked_9 : decode prog_14_method_13_code 9 = .ok (.iconst 0, 1) := gq_5 db00e_21 eb_21
theorem d_X12_ranked_10 : decode prog_14_method_13_code 10 = .ok (.bipush 30, 2) := gq_6 db00e_21 eb_92
theorem d_X12_ranked_12 : decode prog_14_method_13_code 12 = .ok (.invokestatic 323, 3) := gq_7 db00e_21 eb_913
theorem d_X12_ranked_15 : decode prog_14_method_13_code 15 = .ok (.ifCond .eq 21, 3) := gq_8 db00e_21 eb_326
theorem d_X12_ranked_18 : decode prog_14_method_13_code 18 = .ok (.aload_n 0, 1) := gq_9 db00e_21 eb_0
theorem d_X12_ranked_19 : decode prog_14_method_13_code 19 = .ok (.iload_n 3, 1) := gq_10 db00e_21 eb_29
theorem d_X12_ranked_20 : decode prog_14_method_13_code 20 = .ok (.invokevirtual 351, 3) := gq_11 db00e_21 eb_938
theorem d_X12_ranked_23 : decode prog_14_method_13_code 23 = .ok (.ifCond .eq 13, 3) := gq_12 db00e_21 eb_119
theorem d_X12_ranked_26 : decode prog_14_method_13_code 26 = .ok (.aload_n 0, 1) := gq_13 db00e_21 eb_0
theorem d_X12_ranked_27 : decode prog_14_method_13_code 27 = .ok (.iload_n 1, 1) := gq_14 db00e_21 eb_9
theorem d_X12_ranked_28 : decode prog_14_method_13_code 28 = .ok (.iload_n 2, 1) := gq_15 db00e_21 eb_13
theorem d_X12_ranked_29 : decode prog_14_method_13_code 29 = .ok (.iload_n 3, 1) := gq_16 db00e_21 eb_29
theorem d_X12_ranked_30 : decode prog_14_method_13_code 30 = .ok (.invokevirtual 354, 3) := gq_17 db00e_21 eb_939
theorem d_X12_ranked_33 : decode prog_14_method_13_code 33 = .ok (.goto 4, 3) := gq_18 db00e_21 eb_20
theorem d_X12_ranked_36 : decode prog_14_method_13_code 36 = .ok (.iconst (-1), 1) := gq_19 db00e_21 eb_26
theorem d_X12_ranked_37 : decode prog_14_method_13_code 37 = .ok (.ireturn, 1) := gq_20 db00e_21 eb_15
theorem db00e_22 : Pf_ prog_14_method_14_code [(0, [0x15, 0x05]), (2, [0x07]), (3, [0xa2, 0x00, 0x07]), (6, [0x1a]), (7, [0xa7, 0x00, 0x26]), (10, [0x15, 0x05]), (12, [0x10, 0x08]), (14, [0xa2, 0x00, 0x07]), (17, [0x1b]), (18, [0xa7, 0x00, 0x1b]), (21, [0x15, 0x05]), (23, [0x10, 0x0c]), (25, [0xa2, 0x00, 0x07]), (28, [0x1c]), (29, [0xa7, 0x00, 0x10]), (32, [0x15, 0x05]), (34, [0x10, 0x10]), (36, [0xa2, 0x00, 0x07]), (39, [0x1d]), (40, [0xa7, 0x00, 0x05]), (43, [0x15, 0x04]), (45, [0x36, 0x06]), (47, [0x15, 0x06]), (49, [0x10, 0x18])] := pf_ok prog_14_method_14_code _ 0 (by decide +kernel)
theorem d_X12_byteOf_0 : decode prog_14_method_14_code 0 = .ok (.iload 5, 2) := gq_0 db00e_22 eb_125
theorem d_X12_byteOf_2 : decode prog_14_method_14_code 2 = .ok (.iconst 4, 1) := gq_1 db00e_22 eb_291
theorem d_X12_byteOf_3 : decode prog_14_method_14_code 3 = .ok (.if_icmp .ge 7, 3) := gq_2 db00e_22 eb_18
theorem d_X12_byteOf_6 : decode prog_14_method_14_code 6 = .ok (.iload_n 0, 1) := gq_3 db00e_22 eb_8
theorem d_X12_byteOf_7 : decode prog_14_method_14_code 7 = .ok (.goto 38, 3) := gq_4 db00e_22 eb_940
theorem d_X12_byteOf_10 : decode prog_14_method_14_code 10 = .ok (.iload 5, 2) := gq_5 db00e_22 eb_125
theorem d_X12_byteOf_12 : decode prog_14_method_14_code 12 = .ok (.bipush 8, 2) := gq_6 db00e_22 eb_94
theorem d_X12_byteOf_14 : decode prog_14_method_14_code 14 = .ok (.if_icmp .ge 7, 3) := gq_7 db00e_22 eb_18
theorem d_X12_byteOf_17 : decode prog_14_method_14_code 17 = .ok (.iload_n 1, 1) := gq_8 db00e_22 eb_9
theorem d_X12_byteOf_18 : decode prog_14_method_14_code 18 = .ok (.goto 27, 3) := gq_9 db00e_22 eb_941
theorem d_X12_byteOf_21 : decode prog_14_method_14_code 21 = .ok (.iload 5, 2) := gq_10 db00e_22 eb_125
theorem d_X12_byteOf_23 : decode prog_14_method_14_code 23 = .ok (.bipush 12, 2) := gq_11 db00e_22 eb_4
theorem d_X12_byteOf_25 : decode prog_14_method_14_code 25 = .ok (.if_icmp .ge 7, 3) := gq_12 db00e_22 eb_18
theorem d_X12_byteOf_28 : decode prog_14_method_14_code 28 = .ok (.iload_n 2, 1) := gq_13 db00e_22 eb_13
theorem d_X12_byteOf_29 : decode prog_14_method_14_code 29 = .ok (.goto 16, 3) := gq_14 db00e_22 eb_527
theorem d_X12_byteOf_32 : decode prog_14_method_14_code 32 = .ok (.iload 5, 2) := gq_15 db00e_22 eb_125
theorem d_X12_byteOf_34 : decode prog_14_method_14_code 34 = .ok (.bipush 16, 2) := gq_16 db00e_22 eb_99
theorem d_X12_byteOf_36 : decode prog_14_method_14_code 36 = .ok (.if_icmp .ge 7, 3) := gq_17 db00e_22 eb_18
theorem d_X12_byteOf_39 : decode prog_14_method_14_code 39 = .ok (.iload_n 3, 1) := gq_18 db00e_22 eb_29
theorem d_X12_byteOf_40 : decode prog_14_method_14_code 40 = .ok (.goto 5, 3) := gq_19 db00e_22 eb_89
theorem d_X12_byteOf_43 : decode prog_14_method_14_code 43 = .ok (.iload 4, 2) := gq_20 db00e_22 eb_76
theorem d_X12_byteOf_45 : decode prog_14_method_14_code 45 = .ok (.istore 6, 2) := gq_21 db00e_22 eb_58
theorem d_X12_byteOf_47 : decode prog_14_method_14_code 47 = .ok (.iload 6, 2) := gq_22 db00e_22 eb_75
theorem d_X12_byteOf_49 : decode prog_14_method_14_code 49 = .ok (.bipush 24, 2) := gq_23 db00e_22 eb_441
theorem db00e_23 : Pf_ prog_14_method_14_code [(51, [0x10, 0x08]), (53, [0x15, 0x05]), (55, [0x07]), (56, [0x70]), (57, [0x68]), (58, [0x64]), (59, [0x7a]), (60, [0x11, 0x00, 0xff]), (63, [0x7e]), (64, [0xac])] := pf_ok prog_14_method_14_code _ 51 (by decide +kernel)
theorem d_X12_byteOf_51 : decode prog_14_method_14_code 51 = .ok (.bipush 8, 2) := gq_0 db00e_23 eb_94
theorem d_X12_byteOf_53 : decode prog_14_method_14_code 53 = .ok (.iload 5, 2) := gq_1 db00e_23 eb_125
theorem d_X12_byteOf_55 : decode prog_14_method_14_code 55 = .ok (.iconst 4, 1) := gq_2 db00e_23 eb_291
theorem d_X12_byteOf_56 : decode prog_14_method_14_code 56 = .ok (.irem, 1) := gq_3 db00e_23 eb_218
theorem d_X12_byteOf_57 : decode prog_14_method_14_code 57 = .ok (.imul, 1) := gq_4 db00e_23 eb_34
theorem d_X12_byteOf_58 : decode prog_14_method_14_code 58 = .ok (.isub, 1) := gq_5 db00e_23 eb_48
theorem d_X12_byteOf_59 : decode prog_14_method_14_code 59 = .ok (.ishr, 1) := gq_6 db00e_23 eb_56
theorem d_X12_byteOf_60 : decode prog_14_method_14_code 60 = .ok (.sipush 255, 3) := gq_7 db00e_23 eb_443
theorem d_X12_byteOf_63 : decode prog_14_method_14_code 63 = .ok (.iand, 1) := gq_8 db00e_23 eb_55
theorem d_X12_byteOf_64 : decode prog_14_method_14_code 64 = .ok (.ireturn, 1) := gq_9 db00e_23 eb_15
theorem db00e_24 : Pf_ prog_14_method_15_code [(0, [0x03]), (1, [0x36, 0x06]), (3, [0x03]), (4, [0x36, 0x07]), (6, [0x15, 0x07]), (8, [0x10, 0x14]), (10, [0xa2, 0x00, 0x22]), (13, [0x15, 0x06]), (15, [0x1b]), (16, [0x1c]), (17, [0x1d]), (18, [0x15, 0x04]), (20, [0x15, 0x05]), (22, [0x15, 0x07]), (24, [0xb8, 0x01, 0x66]), (27, [0x99, 0x00, 0x07]), (30, [0x04]), (31, [0xa7, 0x00, 0x04]), (34, [0x03]), (35, [0x60]), (36, [0x36, 0x06]), (38, [0x84, 0x07, 0x01]), (41, [0xa7, 0xff, 0xdd]), (44, [0x2a])] := pf_ok prog_14_method_15_code _ 0 (by decide +kernel)
theorem d_X12_feed_0 : decode prog_14_method_15_code 0 = .ok (.iconst 0, 1) := gq_0 db00e_24 eb_21
theorem d_X12_feed_1 : decode prog_14_method_15_code 1 = .ok (.istore 6, 2) := gq_1 db00e_24 eb_58
theorem d_X12_feed_3 : decode prog_14_method_15_code 3 = .ok (.iconst 0, 1) := gq_2 db00e_24 eb_21
theorem d_X12_feed_4 : decode prog_14_method_15_code 4 = .ok (.istore 7, 2) := gq_3 db00e_24 eb_59
theorem d_X12_feed_6 : decode prog_14_method_15_code 6 = .ok (.iload 7, 2) := gq_4 db00e_24 eb_73
theorem d_X12_feed_8 : decode prog_14_method_15_code 8 = .ok (.bipush 20, 2) := gq_5 db00e_24 eb_478
theorem d_X12_feed_10 : decode prog_14_method_15_code 10 = .ok (.if_icmp .ge 34, 3) := gq_6 db00e_24 eb_427
theorem d_X12_feed_13 : decode prog_14_method_15_code 13 = .ok (.iload 6, 2) := gq_7 db00e_24 eb_75
theorem d_X12_feed_15 : decode prog_14_method_15_code 15 = .ok (.iload_n 1, 1) := gq_8 db00e_24 eb_9
theorem d_X12_feed_16 : decode prog_14_method_15_code 16 = .ok (.iload_n 2, 1) := gq_9 db00e_24 eb_13
theorem d_X12_feed_17 : decode prog_14_method_15_code 17 = .ok (.iload_n 3, 1) := gq_10 db00e_24 eb_29
theorem d_X12_feed_18 : decode prog_14_method_15_code 18 = .ok (.iload 4, 2) := gq_11 db00e_24 eb_76
theorem d_X12_feed_20 : decode prog_14_method_15_code 20 = .ok (.iload 5, 2) := gq_12 db00e_24 eb_125
theorem d_X12_feed_22 : decode prog_14_method_15_code 22 = .ok (.iload 7, 2) := gq_13 db00e_24 eb_73
theorem d_X12_feed_24 : decode prog_14_method_15_code 24 = .ok (.invokestatic 358, 3) := gq_14 db00e_24 eb_942
theorem d_X12_feed_27 : decode prog_14_method_15_code 27 = .ok (.ifCond .eq 7, 3) := gq_15 db00e_24 eb_123
theorem d_X12_feed_30 : decode prog_14_method_15_code 30 = .ok (.iconst 1, 1) := gq_16 db00e_24 eb_19
theorem d_X12_feed_31 : decode prog_14_method_15_code 31 = .ok (.goto 4, 3) := gq_17 db00e_24 eb_20
theorem d_X12_feed_34 : decode prog_14_method_15_code 34 = .ok (.iconst 0, 1) := gq_18 db00e_24 eb_21
theorem d_X12_feed_35 : decode prog_14_method_15_code 35 = .ok (.iadd, 1) := gq_19 db00e_24 eb_35
theorem d_X12_feed_36 : decode prog_14_method_15_code 36 = .ok (.istore 6, 2) := gq_20 db00e_24 eb_58
theorem d_X12_feed_38 : decode prog_14_method_15_code 38 = .ok (.iinc 7 1, 3) := gq_21 db00e_24 eb_182
theorem d_X12_feed_41 : decode prog_14_method_15_code 41 = .ok (.goto (-35), 3) := gq_22 db00e_24 eb_149
theorem d_X12_feed_44 : decode prog_14_method_15_code 44 = .ok (.aload_n 0, 1) := gq_23 db00e_24 eb_0
theorem db00e_25 : Pf_ prog_14_method_15_code [(45, [0xb4, 0x01, 0x6a]), (48, [0x15, 0x06]), (50, [0x60]), (51, [0x11, 0x00, 0xa0]), (54, [0xa4, 0x00, 0x05]), (57, [0x02]), (58, [0xac]), (59, [0x03]), (60, [0x36, 0x07]), (62, [0x15, 0x07]), (64, [0x10, 0x14]), (66, [0xa2, 0x00, 0x31]), (69, [0x1b]), (70, [0x1c]), (71, [0x1d]), (72, [0x15, 0x04]), (74, [0x15, 0x05]), (76, [0x15, 0x07]), (78, [0xb8, 0x01, 0x66]), (81, [0x36, 0x08]), (83, [0x15, 0x08]), (85, [0x99, 0x00, 0x18]), (88, [0x2a]), (89, [0xb4, 0x00, 0x57])] := pf_ok prog_14_method_15_code _ 45 (by decide +kernel)
theorem d_X12_feed_45 : decode prog_14_method_15_code 45 = .ok (.getfield 362, 3) := gq_0 db00e_25 eb_943
theorem d_X12_feed_48 : decode prog_14_method_15_code 48 = .ok (.iload 6, 2) := gq_1 db00e_25 eb_75
theorem d_X12_feed_50 : decode prog_14_method_15_code 50 = .ok (.iadd, 1) := gq_2 db00e_25 eb_35
theorem d_X12_feed_51 : decode prog_14_method_15_code 51 = .ok (.sipush 160, 3) := gq_3 db00e_25 eb_434
theorem d_X12_feed_54 : decode prog_14_method_15_code 54 = .ok (.if_icmp .le 5, 3) := gq_4 db00e_25 eb_334
theorem d_X12_feed_57 : decode prog_14_method_15_code 57 = .ok (.iconst (-1), 1) := gq_5 db00e_25 eb_26
theorem d_X12_feed_58 : decode prog_14_method_15_code 58 = .ok (.ireturn, 1) := gq_6 db00e_25 eb_15
theorem d_X12_feed_59 : decode prog_14_method_15_code 59 = .ok (.iconst 0, 1) := gq_7 db00e_25 eb_21
theorem d_X12_feed_60 : decode prog_14_method_15_code 60 = .ok (.istore 7, 2) := gq_8 db00e_25 eb_59
theorem d_X12_feed_62 : decode prog_14_method_15_code 62 = .ok (.iload 7, 2) := gq_9 db00e_25 eb_73
theorem d_X12_feed_64 : decode prog_14_method_15_code 64 = .ok (.bipush 20, 2) := gq_10 db00e_25 eb_478
theorem d_X12_feed_66 : decode prog_14_method_15_code 66 = .ok (.if_icmp .ge 49, 3) := gq_11 db00e_25 eb_224
theorem d_X12_feed_69 : decode prog_14_method_15_code 69 = .ok (.iload_n 1, 1) := gq_12 db00e_25 eb_9
theorem d_X12_feed_70 : decode prog_14_method_15_code 70 = .ok (.iload_n 2, 1) := gq_13 db00e_25 eb_13
theorem d_X12_feed_71 : decode prog_14_method_15_code 71 = .ok (.iload_n 3, 1) := gq_14 db00e_25 eb_29
theorem d_X12_feed_72 : decode prog_14_method_15_code 72 = .ok (.iload 4, 2) := gq_15 db00e_25 eb_76
theorem d_X12_feed_74 : decode prog_14_method_15_code 74 = .ok (.iload 5, 2) := gq_16 db00e_25 eb_125
theorem d_X12_feed_76 : decode prog_14_method_15_code 76 = .ok (.iload 7, 2) := gq_17 db00e_25 eb_73
theorem d_X12_feed_78 : decode prog_14_method_15_code 78 = .ok (.invokestatic 358, 3) := gq_18 db00e_25 eb_942
theorem d_X12_feed_81 : decode prog_14_method_15_code 81 = .ok (.istore 8, 2) := gq_19 db00e_25 eb_61
theorem d_X12_feed_83 : decode prog_14_method_15_code 83 = .ok (.iload 8, 2) := gq_20 db00e_25 eb_64
theorem d_X12_feed_85 : decode prog_14_method_15_code 85 = .ok (.ifCond .eq 24, 3) := gq_21 db00e_25 eb_213
theorem d_X12_feed_88 : decode prog_14_method_15_code 88 = .ok (.aload_n 0, 1) := gq_22 db00e_25 eb_0
theorem d_X12_feed_89 : decode prog_14_method_15_code 89 = .ok (.getfield 87, 3) := gq_23 db00e_25 eb_944
theorem db00e_26 : Pf_ prog_14_method_15_code [(92, [0x2a]), (93, [0xb4, 0x01, 0x6a]), (96, [0x15, 0x08]), (98, [0x4f]), (99, [0x2a]), (100, [0x59]), (101, [0xb4, 0x01, 0x6a]), (104, [0x04]), (105, [0x60]), (106, [0xb5, 0x01, 0x6a]), (109, [0x84, 0x07, 0x01]), (112, [0xa7, 0xff, 0xce]), (115, [0x2a]), (116, [0xb4, 0x01, 0x6a]), (119, [0xac])] := pf_ok prog_14_method_15_code _ 92 (by decide +kernel)
theorem d_X12_feed_92 : decode prog_14_method_15_code 92 = .ok (.aload_n 0, 1) := gq_0 db00e_26 eb_0
theorem d_X12_feed_93 : decode prog_14_method_15_code 93 = .ok (.getfield 362, 3) := gq_1 db00e_26 eb_943
theorem d_X12_feed_96 : decode prog_14_method_15_code 96 = .ok (.iload 8, 2) := gq_2 db00e_26 eb_64
theorem d_X12_feed_98 : decode prog_14_method_15_code 98 = .ok (.iastore, 1) := gq_3 db00e_26 eb_38
theorem d_X12_feed_99 : decode prog_14_method_15_code 99 = .ok (.aload_n 0, 1) := gq_4 db00e_26 eb_0
theorem d_X12_feed_100 : decode prog_14_method_15_code 100 = .ok (.dup, 1) := gq_5 db00e_26 eb_46
theorem d_X12_feed_101 : decode prog_14_method_15_code 101 = .ok (.getfield 362, 3) := gq_6 db00e_26 eb_943
theorem d_X12_feed_104 : decode prog_14_method_15_code 104 = .ok (.iconst 1, 1) := gq_7 db00e_26 eb_19
theorem d_X12_feed_105 : decode prog_14_method_15_code 105 = .ok (.iadd, 1) := gq_8 db00e_26 eb_35
theorem d_X12_feed_106 : decode prog_14_method_15_code 106 = .ok (.putfield 362, 3) := gq_9 db00e_26 eb_945
theorem d_X12_feed_109 : decode prog_14_method_15_code 109 = .ok (.iinc 7 1, 3) := gq_10 db00e_26 eb_182
theorem d_X12_feed_112 : decode prog_14_method_15_code 112 = .ok (.goto (-50), 3) := gq_11 db00e_26 eb_946
theorem d_X12_feed_115 : decode prog_14_method_15_code 115 = .ok (.aload_n 0, 1) := gq_12 db00e_26 eb_0
theorem d_X12_feed_116 : decode prog_14_method_15_code 116 = .ok (.getfield 362, 3) := gq_13 db00e_26 eb_943
theorem d_X12_feed_119 : decode prog_14_method_15_code 119 = .ok (.ireturn, 1) := gq_14 db00e_26 eb_15
theorem db00e_27 : Pf_ prog_14_method_16_code [(0, [0x1b]), (1, [0x9b, 0x00, 0x0b]), (4, [0x1b]), (5, [0x2a]), (6, [0xb4, 0x01, 0x6a]), (9, [0xa4, 0x00, 0x05]), (12, [0x03]), (13, [0xac]), (14, [0x2a]), (15, [0x1b]), (16, [0xb5, 0x01, 0x6a]), (19, [0x04]), (20, [0xac])] := pf_ok prog_14_method_16_code _ 0 (by decide +kernel)
theorem d_X12_end_0 : decode prog_14_method_16_code 0 = .ok (.iload_n 1, 1) := gq_0 db00e_27 eb_9
theorem d_X12_end_1 : decode prog_14_method_16_code 1 = .ok (.ifCond .lt 11, 3) := gq_1 db00e_27 eb_947
theorem d_X12_end_4 : decode prog_14_method_16_code 4 = .ok (.iload_n 1, 1) := gq_2 db00e_27 eb_9
theorem d_X12_end_5 : decode prog_14_method_16_code 5 = .ok (.aload_n 0, 1) := gq_3 db00e_27 eb_0
theorem d_X12_end_6 : decode prog_14_method_16_code 6 = .ok (.getfield 362, 3) := gq_4 db00e_27 eb_943
theorem d_X12_end_9 : decode prog_14_method_16_code 9 = .ok (.if_icmp .le 5, 3) := gq_5 db00e_27 eb_334
theorem d_X12_end_12 : decode prog_14_method_16_code 12 = .ok (.iconst 0, 1) := gq_6 db00e_27 eb_21
theorem d_X12_end_13 : decode prog_14_method_16_code 13 = .ok (.ireturn, 1) := gq_7 db00e_27 eb_15
theorem d_X12_end_14 : decode prog_14_method_16_code 14 = .ok (.aload_n 0, 1) := gq_8 db00e_27 eb_0
theorem d_X12_end_15 : decode prog_14_method_16_code 15 = .ok (.iload_n 1, 1) := gq_9 db00e_27 eb_9
theorem d_X12_end_16 : decode prog_14_method_16_code 16 = .ok (.putfield 362, 3) := gq_10 db00e_27 eb_945
theorem d_X12_end_19 : decode prog_14_method_16_code 19 = .ok (.iconst 1, 1) := gq_11 db00e_27 eb_19
theorem d_X12_end_20 : decode prog_14_method_16_code 20 = .ok (.ireturn, 1) := gq_12 db00e_27 eb_15
theorem db00e_28 : Pf_ prog_14_method_17_code [(0, [0x2a]), (1, [0xb4, 0x01, 0x6d]), (4, [0x2a]), (5, [0xb4, 0x01, 0x6a]), (8, [0xa2, 0x00, 0x1e]), (11, [0x2a]), (12, [0xb4, 0x00, 0x57]), (15, [0x2a]), (16, [0xb4, 0x01, 0x6d]), (19, [0x2e]), (20, [0x10, 0x20]), (22, [0xa0, 0x00, 0x10]), (25, [0x2a]), (26, [0x59]), (27, [0xb4, 0x01, 0x6d]), (30, [0x04]), (31, [0x60]), (32, [0xb5, 0x01, 0x6d]), (35, [0xa7, 0xff, 0xdd]), (38, [0x2a]), (39, [0xb4, 0x01, 0x6d]), (42, [0x2a]), (43, [0xb4, 0x01, 0x6a]), (46, [0xa2, 0x00, 0x0f])] := pf_ok prog_14_method_17_code _ 0 (by decide +kernel)
theorem d_X12_look_0 : decode prog_14_method_17_code 0 = .ok (.aload_n 0, 1) := gq_0 db00e_28 eb_0
theorem d_X12_look_1 : decode prog_14_method_17_code 1 = .ok (.getfield 365, 3) := gq_1 db00e_28 eb_948
theorem d_X12_look_4 : decode prog_14_method_17_code 4 = .ok (.aload_n 0, 1) := gq_2 db00e_28 eb_0
theorem d_X12_look_5 : decode prog_14_method_17_code 5 = .ok (.getfield 362, 3) := gq_3 db00e_28 eb_943
theorem d_X12_look_8 : decode prog_14_method_17_code 8 = .ok (.if_icmp .ge 30, 3) := gq_4 db00e_28 eb_247
theorem d_X12_look_11 : decode prog_14_method_17_code 11 = .ok (.aload_n 0, 1) := gq_5 db00e_28 eb_0
theorem d_X12_look_12 : decode prog_14_method_17_code 12 = .ok (.getfield 87, 3) := gq_6 db00e_28 eb_944
theorem d_X12_look_15 : decode prog_14_method_17_code 15 = .ok (.aload_n 0, 1) := gq_7 db00e_28 eb_0
theorem d_X12_look_16 : decode prog_14_method_17_code 16 = .ok (.getfield 365, 3) := gq_8 db00e_28 eb_948
theorem d_X12_look_19 : decode prog_14_method_17_code 19 = .ok (.iaload, 1) := gq_9 db00e_28 eb_37
theorem d_X12_look_20 : decode prog_14_method_17_code 20 = .ok (.bipush 32, 2) := gq_10 db00e_28 eb_456
theorem d_X12_look_22 : decode prog_14_method_17_code 22 = .ok (.if_icmp .ne 16, 3) := gq_11 db00e_28 eb_79
theorem d_X12_look_25 : decode prog_14_method_17_code 25 = .ok (.aload_n 0, 1) := gq_12 db00e_28 eb_0
theorem d_X12_look_26 : decode prog_14_method_17_code 26 = .ok (.dup, 1) := gq_13 db00e_28 eb_46
theorem d_X12_look_27 : decode prog_14_method_17_code 27 = .ok (.getfield 365, 3) := gq_14 db00e_28 eb_948
theorem d_X12_look_30 : decode prog_14_method_17_code 30 = .ok (.iconst 1, 1) := gq_15 db00e_28 eb_19
theorem d_X12_look_31 : decode prog_14_method_17_code 31 = .ok (.iadd, 1) := gq_16 db00e_28 eb_35
theorem d_X12_look_32 : decode prog_14_method_17_code 32 = .ok (.putfield 365, 3) := gq_17 db00e_28 eb_949
theorem d_X12_look_35 : decode prog_14_method_17_code 35 = .ok (.goto (-35), 3) := gq_18 db00e_28 eb_149
theorem d_X12_look_38 : decode prog_14_method_17_code 38 = .ok (.aload_n 0, 1) := gq_19 db00e_28 eb_0
theorem d_X12_look_39 : decode prog_14_method_17_code 39 = .ok (.getfield 365, 3) := gq_20 db00e_28 eb_948
theorem d_X12_look_42 : decode prog_14_method_17_code 42 = .ok (.aload_n 0, 1) := gq_21 db00e_28 eb_0
theorem d_X12_look_43 : decode prog_14_method_17_code 43 = .ok (.getfield 362, 3) := gq_22 db00e_28 eb_943
theorem d_X12_look_46 : decode prog_14_method_17_code 46 = .ok (.if_icmp .ge 15, 3) := gq_23 db00e_28 eb_457
theorem db00e_29 : Pf_ prog_14_method_17_code [(49, [0x2a]), (50, [0xb4, 0x00, 0x57]), (53, [0x2a]), (54, [0xb4, 0x01, 0x6d]), (57, [0x2e]), (58, [0xa7, 0x00, 0x04]), (61, [0x02]), (62, [0xac])] := pf_ok prog_14_method_17_code _ 49 (by decide +kernel)
theorem d_X12_look_49 : decode prog_14_method_17_code 49 = .ok (.aload_n 0, 1) := gq_0 db00e_29 eb_0
theorem d_X12_look_50 : decode prog_14_method_17_code 50 = .ok (.getfield 87, 3) := gq_1 db00e_29 eb_944
theorem d_X12_look_53 : decode prog_14_method_17_code 53 = .ok (.aload_n 0, 1) := gq_2 db00e_29 eb_0
theorem d_X12_look_54 : decode prog_14_method_17_code 54 = .ok (.getfield 365, 3) := gq_3 db00e_29 eb_948
theorem d_X12_look_57 : decode prog_14_method_17_code 57 = .ok (.iaload, 1) := gq_4 db00e_29 eb_37
theorem d_X12_look_58 : decode prog_14_method_17_code 58 = .ok (.goto 4, 3) := gq_5 db00e_29 eb_20
theorem d_X12_look_61 : decode prog_14_method_17_code 61 = .ok (.iconst (-1), 1) := gq_6 db00e_29 eb_26
theorem d_X12_look_62 : decode prog_14_method_17_code 62 = .ok (.ireturn, 1) := gq_7 db00e_29 eb_15
theorem db00e_30 : Pf_ prog_14_method_18_code [(0, [0x2a]), (1, [0x2a]), (2, [0xb4, 0x01, 0x70]), (5, [0x02]), (6, [0xa0, 0x00, 0x0a]), (9, [0x2a]), (10, [0xb4, 0x01, 0x6d]), (13, [0xa7, 0x00, 0x07]), (16, [0x2a]), (17, [0xb4, 0x01, 0x70]), (20, [0xb5, 0x01, 0x70]), (23, [0xb1])] := pf_ok prog_14_method_18_code _ 0 (by decide +kernel)
theorem d_X12_bad_0 : decode prog_14_method_18_code 0 = .ok (.aload_n 0, 1) := gq_0 db00e_30 eb_0
theorem d_X12_bad_1 : decode prog_14_method_18_code 1 = .ok (.aload_n 0, 1) := gq_1 db00e_30 eb_0
theorem d_X12_bad_2 : decode prog_14_method_18_code 2 = .ok (.getfield 368, 3) := gq_2 db00e_30 eb_950
theorem d_X12_bad_5 : decode prog_14_method_18_code 5 = .ok (.iconst (-1), 1) := gq_3 db00e_30 eb_26
theorem d_X12_bad_6 : decode prog_14_method_18_code 6 = .ok (.if_icmp .ne 10, 3) := gq_4 db00e_30 eb_259
theorem d_X12_bad_9 : decode prog_14_method_18_code 9 = .ok (.aload_n 0, 1) := gq_5 db00e_30 eb_0
theorem d_X12_bad_10 : decode prog_14_method_18_code 10 = .ok (.getfield 365, 3) := gq_6 db00e_30 eb_948
theorem d_X12_bad_13 : decode prog_14_method_18_code 13 = .ok (.goto 7, 3) := gq_7 db00e_30 eb_203
theorem d_X12_bad_16 : decode prog_14_method_18_code 16 = .ok (.aload_n 0, 1) := gq_8 db00e_30 eb_0
theorem d_X12_bad_17 : decode prog_14_method_18_code 17 = .ok (.getfield 368, 3) := gq_9 db00e_30 eb_950
theorem d_X12_bad_20 : decode prog_14_method_18_code 20 = .ok (.putfield 368, 3) := gq_10 db00e_30 eb_951
theorem d_X12_bad_23 : decode prog_14_method_18_code 23 = .ok (.return_, 1) := gq_11 db00e_30 eb_7
theorem db00e_31 : Pf_ prog_14_method_19_code [(0, [0x2a]), (1, [0xb4, 0x00, 0x5a]), (4, [0x2a]), (5, [0xb4, 0x01, 0x73]), (8, [0x1b]), (9, [0x4f]), (10, [0x2a]), (11, [0x59]), (12, [0xb4, 0x01, 0x73]), (15, [0x04]), (16, [0x60]), (17, [0xb5, 0x01, 0x73]), (20, [0xb1])] := pf_ok prog_14_method_19_code _ 0 (by decide +kernel)
theorem d_X12_say_0 : decode prog_14_method_19_code 0 = .ok (.aload_n 0, 1) := gq_0 db00e_31 eb_0
theorem d_X12_say_1 : decode prog_14_method_19_code 1 = .ok (.getfield 90, 3) := gq_1 db00e_31 eb_952
theorem d_X12_say_4 : decode prog_14_method_19_code 4 = .ok (.aload_n 0, 1) := gq_2 db00e_31 eb_0
theorem d_X12_say_5 : decode prog_14_method_19_code 5 = .ok (.getfield 371, 3) := gq_3 db00e_31 eb_953
theorem d_X12_say_8 : decode prog_14_method_19_code 8 = .ok (.iload_n 1, 1) := gq_4 db00e_31 eb_9
theorem d_X12_say_9 : decode prog_14_method_19_code 9 = .ok (.iastore, 1) := gq_5 db00e_31 eb_38
theorem d_X12_say_10 : decode prog_14_method_19_code 10 = .ok (.aload_n 0, 1) := gq_6 db00e_31 eb_0
theorem d_X12_say_11 : decode prog_14_method_19_code 11 = .ok (.dup, 1) := gq_7 db00e_31 eb_46
theorem d_X12_say_12 : decode prog_14_method_19_code 12 = .ok (.getfield 371, 3) := gq_8 db00e_31 eb_953
theorem d_X12_say_15 : decode prog_14_method_19_code 15 = .ok (.iconst 1, 1) := gq_9 db00e_31 eb_19
theorem d_X12_say_16 : decode prog_14_method_19_code 16 = .ok (.iadd, 1) := gq_10 db00e_31 eb_35
theorem d_X12_say_17 : decode prog_14_method_19_code 17 = .ok (.putfield 371, 3) := gq_11 db00e_31 eb_954
theorem d_X12_say_20 : decode prog_14_method_19_code 20 = .ok (.return_, 1) := gq_12 db00e_31 eb_7
theorem db00e_32 : Pf_ prog_14_method_20_code [(0, [0x1a]), (1, [0x10, 0x30]), (3, [0xa1, 0x00, 0x0d]), (6, [0x1a]), (7, [0x10, 0x39]), (9, [0xa3, 0x00, 0x07]), (12, [0x04]), (13, [0xa7, 0x00, 0x04]), (16, [0x03]), (17, [0xac])] := pf_ok prog_14_method_20_code _ 0 (by decide +kernel)
theorem d_X12_isDigit_0 : decode prog_14_method_20_code 0 = .ok (.iload_n 0, 1) := gq_0 db00e_32 eb_8
theorem d_X12_isDigit_1 : decode prog_14_method_20_code 1 = .ok (.bipush 48, 2) := gq_1 db00e_32 eb_317
theorem d_X12_isDigit_3 : decode prog_14_method_20_code 3 = .ok (.if_icmp .lt 13, 3) := gq_2 db00e_32 eb_459
theorem d_X12_isDigit_6 : decode prog_14_method_20_code 6 = .ok (.iload_n 0, 1) := gq_3 db00e_32 eb_8
theorem d_X12_isDigit_7 : decode prog_14_method_20_code 7 = .ok (.bipush 57, 2) := gq_4 db00e_32 eb_460
theorem d_X12_isDigit_9 : decode prog_14_method_20_code 9 = .ok (.if_icmp .gt 7, 3) := gq_5 db00e_32 eb_113
theorem d_X12_isDigit_12 : decode prog_14_method_20_code 12 = .ok (.iconst 1, 1) := gq_6 db00e_32 eb_19
theorem d_X12_isDigit_13 : decode prog_14_method_20_code 13 = .ok (.goto 4, 3) := gq_7 db00e_32 eb_20
theorem d_X12_isDigit_16 : decode prog_14_method_20_code 16 = .ok (.iconst 0, 1) := gq_8 db00e_32 eb_21
theorem d_X12_isDigit_17 : decode prog_14_method_20_code 17 = .ok (.ireturn, 1) := gq_9 db00e_32 eb_15
theorem db00e_33 : Pf_ prog_14_method_21_code [(0, [0x2a]), (1, [0xb6, 0x01, 0x76]), (4, [0xb8, 0x01, 0x7a]), (7, [0x9a, 0x00, 0x09]), (10, [0x2a]), (11, [0xb6, 0x01, 0x7d]), (14, [0x02]), (15, [0xac]), (16, [0x03]), (17, [0x3c]), (18, [0x03]), (19, [0x3d]), (20, [0x2a]), (21, [0xb4, 0x01, 0x6d]), (24, [0x2a]), (25, [0xb4, 0x01, 0x6a]), (28, [0xa2, 0x00, 0x3f]), (31, [0x2a]), (32, [0xb4, 0x00, 0x57]), (35, [0x2a]), (36, [0xb4, 0x01, 0x6d]), (39, [0x2e]), (40, [0xb8, 0x01, 0x7a]), (43, [0x99, 0x00, 0x30])] := pf_ok prog_14_method_21_code _ 0 (by decide +kernel)
theorem d_X12_number_0 : decode prog_14_method_21_code 0 = .ok (.aload_n 0, 1) := gq_0 db00e_33 eb_0
theorem d_X12_number_1 : decode prog_14_method_21_code 1 = .ok (.invokevirtual 374, 3) := gq_1 db00e_33 eb_955
theorem d_X12_number_4 : decode prog_14_method_21_code 4 = .ok (.invokestatic 378, 3) := gq_2 db00e_33 eb_956
theorem d_X12_number_7 : decode prog_14_method_21_code 7 = .ok (.ifCond .ne 9, 3) := gq_3 db00e_33 eb_957
theorem d_X12_number_10 : decode prog_14_method_21_code 10 = .ok (.aload_n 0, 1) := gq_4 db00e_33 eb_0
theorem d_X12_number_11 : decode prog_14_method_21_code 11 = .ok (.invokevirtual 381, 3) := gq_5 db00e_33 eb_958
theorem d_X12_number_14 : decode prog_14_method_21_code 14 = .ok (.iconst (-1), 1) := gq_6 db00e_33 eb_26
theorem d_X12_number_15 : decode prog_14_method_21_code 15 = .ok (.ireturn, 1) := gq_7 db00e_33 eb_15
theorem d_X12_number_16 : decode prog_14_method_21_code 16 = .ok (.iconst 0, 1) := gq_8 db00e_33 eb_21
theorem d_X12_number_17 : decode prog_14_method_21_code 17 = .ok (.istore_n 1, 1) := gq_9 db00e_33 eb_222
theorem d_X12_number_18 : decode prog_14_method_21_code 18 = .ok (.iconst 0, 1) := gq_10 db00e_33 eb_21
theorem d_X12_number_19 : decode prog_14_method_21_code 19 = .ok (.istore_n 2, 1) := gq_11 db00e_33 eb_27
theorem d_X12_number_20 : decode prog_14_method_21_code 20 = .ok (.aload_n 0, 1) := gq_12 db00e_33 eb_0
theorem d_X12_number_21 : decode prog_14_method_21_code 21 = .ok (.getfield 365, 3) := gq_13 db00e_33 eb_948
theorem d_X12_number_24 : decode prog_14_method_21_code 24 = .ok (.aload_n 0, 1) := gq_14 db00e_33 eb_0
theorem d_X12_number_25 : decode prog_14_method_21_code 25 = .ok (.getfield 362, 3) := gq_15 db00e_33 eb_943
theorem d_X12_number_28 : decode prog_14_method_21_code 28 = .ok (.if_icmp .ge 63, 3) := gq_16 db00e_33 eb_784
theorem d_X12_number_31 : decode prog_14_method_21_code 31 = .ok (.aload_n 0, 1) := gq_17 db00e_33 eb_0
theorem d_X12_number_32 : decode prog_14_method_21_code 32 = .ok (.getfield 87, 3) := gq_18 db00e_33 eb_944
theorem d_X12_number_35 : decode prog_14_method_21_code 35 = .ok (.aload_n 0, 1) := gq_19 db00e_33 eb_0
theorem d_X12_number_36 : decode prog_14_method_21_code 36 = .ok (.getfield 365, 3) := gq_20 db00e_33 eb_948
theorem d_X12_number_39 : decode prog_14_method_21_code 39 = .ok (.iaload, 1) := gq_21 db00e_33 eb_37
theorem d_X12_number_40 : decode prog_14_method_21_code 40 = .ok (.invokestatic 378, 3) := gq_22 db00e_33 eb_956
theorem d_X12_number_43 : decode prog_14_method_21_code 43 = .ok (.ifCond .eq 48, 3) := gq_23 db00e_33 eb_253
theorem db00e_34 : Pf_ prog_14_method_21_code [(46, [0x1c]), (47, [0x07]), (48, [0xa0, 0x00, 0x09]), (51, [0x2a]), (52, [0xb6, 0x01, 0x7d]), (55, [0x02]), (56, [0xac]), (57, [0x10, 0x0a]), (59, [0x1b]), (60, [0x68]), (61, [0x2a]), (62, [0xb4, 0x00, 0x57]), (65, [0x2a]), (66, [0xb4, 0x01, 0x6d]), (69, [0x2e]), (70, [0x60]), (71, [0x10, 0x30]), (73, [0x64]), (74, [0x3c]), (75, [0x84, 0x02, 0x01]), (78, [0x2a]), (79, [0x59]), (80, [0xb4, 0x01, 0x6d]), (83, [0x04])] := pf_ok prog_14_method_21_code _ 46 (by decide +kernel)
theorem d_X12_number_46 : decode prog_14_method_21_code 46 = .ok (.iload_n 2, 1) := gq_0 db00e_34 eb_13
theorem d_X12_number_47 : decode prog_14_method_21_code 47 = .ok (.iconst 4, 1) := gq_1 db00e_34 eb_291
theorem d_X12_number_48 : decode prog_14_method_21_code 48 = .ok (.if_icmp .ne 9, 3) := gq_2 db00e_34 eb_158
theorem d_X12_number_51 : decode prog_14_method_21_code 51 = .ok (.aload_n 0, 1) := gq_3 db00e_34 eb_0
theorem d_X12_number_52 : decode prog_14_method_21_code 52 = .ok (.invokevirtual 381, 3) := gq_4 db00e_34 eb_958
theorem d_X12_number_55 : decode prog_14_method_21_code 55 = .ok (.iconst (-1), 1) := gq_5 db00e_34 eb_26
theorem d_X12_number_56 : decode prog_14_method_21_code 56 = .ok (.ireturn, 1) := gq_6 db00e_34 eb_15
theorem d_X12_number_57 : decode prog_14_method_21_code 57 = .ok (.bipush 10, 2) := gq_7 db00e_34 eb_93
theorem d_X12_number_59 : decode prog_14_method_21_code 59 = .ok (.iload_n 1, 1) := gq_8 db00e_34 eb_9
theorem d_X12_number_60 : decode prog_14_method_21_code 60 = .ok (.imul, 1) := gq_9 db00e_34 eb_34
theorem d_X12_number_61 : decode prog_14_method_21_code 61 = .ok (.aload_n 0, 1) := gq_10 db00e_34 eb_0
theorem d_X12_number_62 : decode prog_14_method_21_code 62 = .ok (.getfield 87, 3) := gq_11 db00e_34 eb_944
theorem d_X12_number_65 : decode prog_14_method_21_code 65 = .ok (.aload_n 0, 1) := gq_12 db00e_34 eb_0
theorem d_X12_number_66 : decode prog_14_method_21_code 66 = .ok (.getfield 365, 3) := gq_13 db00e_34 eb_948
theorem d_X12_number_69 : decode prog_14_method_21_code 69 = .ok (.iaload, 1) := gq_14 db00e_34 eb_37
theorem d_X12_number_70 : decode prog_14_method_21_code 70 = .ok (.iadd, 1) := gq_15 db00e_34 eb_35
theorem d_X12_number_71 : decode prog_14_method_21_code 71 = .ok (.bipush 48, 2) := gq_16 db00e_34 eb_317
theorem d_X12_number_73 : decode prog_14_method_21_code 73 = .ok (.isub, 1) := gq_17 db00e_34 eb_48
theorem d_X12_number_74 : decode prog_14_method_21_code 74 = .ok (.istore_n 1, 1) := gq_18 db00e_34 eb_222
theorem d_X12_number_75 : decode prog_14_method_21_code 75 = .ok (.iinc 2 1, 3) := gq_19 db00e_34 eb_41
theorem d_X12_number_78 : decode prog_14_method_21_code 78 = .ok (.aload_n 0, 1) := gq_20 db00e_34 eb_0
theorem d_X12_number_79 : decode prog_14_method_21_code 79 = .ok (.dup, 1) := gq_21 db00e_34 eb_46
theorem d_X12_number_80 : decode prog_14_method_21_code 80 = .ok (.getfield 365, 3) := gq_22 db00e_34 eb_948
theorem d_X12_number_83 : decode prog_14_method_21_code 83 = .ok (.iconst 1, 1) := gq_23 db00e_34 eb_19
theorem db00e_35 : Pf_ prog_14_method_21_code [(84, [0x60]), (85, [0xb5, 0x01, 0x6d]), (88, [0xa7, 0xff, 0xbc]), (91, [0x1b]), (92, [0xac])] := pf_ok prog_14_method_21_code _ 84 (by decide +kernel)
theorem d_X12_number_84 : decode prog_14_method_21_code 84 = .ok (.iadd, 1) := gq_0 db00e_35 eb_35
theorem d_X12_number_85 : decode prog_14_method_21_code 85 = .ok (.putfield 365, 3) := gq_1 db00e_35 eb_949
theorem d_X12_number_88 : decode prog_14_method_21_code 88 = .ok (.goto (-68), 3) := gq_2 db00e_35 eb_255
theorem d_X12_number_91 : decode prog_14_method_21_code 91 = .ok (.iload_n 1, 1) := gq_3 db00e_35 eb_9
theorem d_X12_number_92 : decode prog_14_method_21_code 92 = .ok (.ireturn, 1) := gq_4 db00e_35 eb_15
theorem db00e_36 : Pf_ prog_14_method_22_code [(0, [0x2a]), (1, [0xb6, 0x01, 0x80]), (4, [0x3e]), (5, [0x2a]), (6, [0xb4, 0x01, 0x70]), (9, [0x02]), (10, [0xa0, 0x00, 0x16]), (13, [0x1d]), (14, [0x1b]), (15, [0x1c]), (16, [0xb8, 0x01, 0x43]), (19, [0x9a, 0x00, 0x0d]), (22, [0x2a]), (23, [0x2a]), (24, [0xb4, 0x01, 0x6d]), (27, [0x04]), (28, [0x64]), (29, [0xb5, 0x01, 0x70]), (32, [0x1d]), (33, [0xac])] := pf_ok prog_14_method_22_code _ 0 (by decide +kernel)
theorem d_X12_within_0 : decode prog_14_method_22_code 0 = .ok (.aload_n 0, 1) := gq_0 db00e_36 eb_0
theorem d_X12_within_1 : decode prog_14_method_22_code 1 = .ok (.invokevirtual 384, 3) := gq_1 db00e_36 eb_959
theorem d_X12_within_4 : decode prog_14_method_22_code 4 = .ok (.istore_n 3, 1) := gq_2 db00e_36 eb_28
theorem d_X12_within_5 : decode prog_14_method_22_code 5 = .ok (.aload_n 0, 1) := gq_3 db00e_36 eb_0
theorem d_X12_within_6 : decode prog_14_method_22_code 6 = .ok (.getfield 368, 3) := gq_4 db00e_36 eb_950
theorem d_X12_within_9 : decode prog_14_method_22_code 9 = .ok (.iconst (-1), 1) := gq_5 db00e_36 eb_26
theorem d_X12_within_10 : decode prog_14_method_22_code 10 = .ok (.if_icmp .ne 22, 3) := gq_6 db00e_36 eb_420
theorem d_X12_within_13 : decode prog_14_method_22_code 13 = .ok (.iload_n 3, 1) := gq_7 db00e_36 eb_29
theorem d_X12_within_14 : decode prog_14_method_22_code 14 = .ok (.iload_n 1, 1) := gq_8 db00e_36 eb_9
theorem d_X12_within_15 : decode prog_14_method_22_code 15 = .ok (.iload_n 2, 1) := gq_9 db00e_36 eb_13
theorem d_X12_within_16 : decode prog_14_method_22_code 16 = .ok (.invokestatic 323, 3) := gq_10 db00e_36 eb_913
theorem d_X12_within_19 : decode prog_14_method_22_code 19 = .ok (.ifCond .ne 13, 3) := gq_11 db00e_36 eb_464
theorem d_X12_within_22 : decode prog_14_method_22_code 22 = .ok (.aload_n 0, 1) := gq_12 db00e_36 eb_0
theorem d_X12_within_23 : decode prog_14_method_22_code 23 = .ok (.aload_n 0, 1) := gq_13 db00e_36 eb_0
theorem d_X12_within_24 : decode prog_14_method_22_code 24 = .ok (.getfield 365, 3) := gq_14 db00e_36 eb_948
theorem d_X12_within_27 : decode prog_14_method_22_code 27 = .ok (.iconst 1, 1) := gq_15 db00e_36 eb_19
theorem d_X12_within_28 : decode prog_14_method_22_code 28 = .ok (.isub, 1) := gq_16 db00e_36 eb_48
theorem d_X12_within_29 : decode prog_14_method_22_code 29 = .ok (.putfield 368, 3) := gq_17 db00e_36 eb_951
theorem d_X12_within_32 : decode prog_14_method_22_code 32 = .ok (.iload_n 3, 1) := gq_18 db00e_36 eb_29
theorem d_X12_within_33 : decode prog_14_method_22_code 33 = .ok (.ireturn, 1) := gq_19 db00e_36 eb_15
theorem db00e_37 : Pf_ prog_14_method_23_code [(0, [0x2a]), (1, [0xb6, 0x01, 0x83]), (4, [0x2a]), (5, [0xb4, 0x01, 0x70]), (8, [0x02]), (9, [0xa0, 0x00, 0x1d]), (12, [0x2a]), (13, [0xb6, 0x01, 0x76]), (16, [0x10, 0x3b]), (18, [0xa0, 0x00, 0x14]), (21, [0x2a]), (22, [0x59]), (23, [0xb4, 0x01, 0x6d]), (26, [0x04]), (27, [0x60]), (28, [0xb5, 0x01, 0x6d]), (31, [0x2a]), (32, [0xb6, 0x01, 0x83]), (35, [0xa7, 0xff, 0xe1]), (38, [0xb1])] := pf_ok prog_14_method_23_code _ 0 (by decide +kernel)
theorem d_X12_stepsRead_0 : decode prog_14_method_23_code 0 = .ok (.aload_n 0, 1) := gq_0 db00e_37 eb_0
theorem d_X12_stepsRead_1 : decode prog_14_method_23_code 1 = .ok (.invokevirtual 387, 3) := gq_1 db00e_37 eb_740
theorem d_X12_stepsRead_4 : decode prog_14_method_23_code 4 = .ok (.aload_n 0, 1) := gq_2 db00e_37 eb_0
theorem d_X12_stepsRead_5 : decode prog_14_method_23_code 5 = .ok (.getfield 368, 3) := gq_3 db00e_37 eb_950
theorem d_X12_stepsRead_8 : decode prog_14_method_23_code 8 = .ok (.iconst (-1), 1) := gq_4 db00e_37 eb_26
theorem d_X12_stepsRead_9 : decode prog_14_method_23_code 9 = .ok (.if_icmp .ne 29, 3) := gq_5 db00e_37 eb_311
theorem d_X12_stepsRead_12 : decode prog_14_method_23_code 12 = .ok (.aload_n 0, 1) := gq_6 db00e_37 eb_0
theorem d_X12_stepsRead_13 : decode prog_14_method_23_code 13 = .ok (.invokevirtual 374, 3) := gq_7 db00e_37 eb_955
theorem d_X12_stepsRead_16 : decode prog_14_method_23_code 16 = .ok (.bipush 59, 2) := gq_8 db00e_37 eb_468
theorem d_X12_stepsRead_18 : decode prog_14_method_23_code 18 = .ok (.if_icmp .ne 20, 3) := gq_9 db00e_37 eb_300
theorem d_X12_stepsRead_21 : decode prog_14_method_23_code 21 = .ok (.aload_n 0, 1) := gq_10 db00e_37 eb_0
theorem d_X12_stepsRead_22 : decode prog_14_method_23_code 22 = .ok (.dup, 1) := gq_11 db00e_37 eb_46
theorem d_X12_stepsRead_23 : decode prog_14_method_23_code 23 = .ok (.getfield 365, 3) := gq_12 db00e_37 eb_948
theorem d_X12_stepsRead_26 : decode prog_14_method_23_code 26 = .ok (.iconst 1, 1) := gq_13 db00e_37 eb_19
theorem d_X12_stepsRead_27 : decode prog_14_method_23_code 27 = .ok (.iadd, 1) := gq_14 db00e_37 eb_35
theorem d_X12_stepsRead_28 : decode prog_14_method_23_code 28 = .ok (.putfield 365, 3) := gq_15 db00e_37 eb_949
theorem d_X12_stepsRead_31 : decode prog_14_method_23_code 31 = .ok (.aload_n 0, 1) := gq_16 db00e_37 eb_0
theorem d_X12_stepsRead_32 : decode prog_14_method_23_code 32 = .ok (.invokevirtual 387, 3) := gq_17 db00e_37 eb_740
theorem d_X12_stepsRead_35 : decode prog_14_method_23_code 35 = .ok (.goto (-31), 3) := gq_18 db00e_37 eb_403
theorem d_X12_stepsRead_38 : decode prog_14_method_23_code 38 = .ok (.return_, 1) := gq_19 db00e_37 eb_7
theorem db00e_38 : Pf_ prog_14_method_24_code [(0, [0x2a]), (1, [0xb6, 0x01, 0x76]), (4, [0x3c]), (5, [0x1b]), (6, [0x10, 0x67]), (8, [0xa0, 0x00, 0x20]), (11, [0x2a]), (12, [0x59]), (13, [0xb4, 0x01, 0x6d]), (16, [0x04]), (17, [0x60]), (18, [0xb5, 0x01, 0x6d]), (21, [0x2a]), (22, [0x03]), (23, [0xb6, 0x01, 0x86]), (26, [0x2a]), (27, [0x2a]), (28, [0x03]), (29, [0x10, 0x0f]), (31, [0xb6, 0x01, 0x8a]), (34, [0xb6, 0x01, 0x86]), (37, [0xa7, 0x00, 0xe9]), (40, [0x1b]), (41, [0x10, 0x77])] := pf_ok prog_14_method_24_code _ 0 (by decide +kernel)
theorem d_X12_stepRead_0 : decode prog_14_method_24_code 0 = .ok (.aload_n 0, 1) := gq_0 db00e_38 eb_0
theorem d_X12_stepRead_1 : decode prog_14_method_24_code 1 = .ok (.invokevirtual 374, 3) := gq_1 db00e_38 eb_955
theorem d_X12_stepRead_4 : decode prog_14_method_24_code 4 = .ok (.istore_n 1, 1) := gq_2 db00e_38 eb_222
theorem d_X12_stepRead_5 : decode prog_14_method_24_code 5 = .ok (.iload_n 1, 1) := gq_3 db00e_38 eb_9
theorem d_X12_stepRead_6 : decode prog_14_method_24_code 6 = .ok (.bipush 103, 2) := gq_4 db00e_38 eb_960
theorem d_X12_stepRead_8 : decode prog_14_method_24_code 8 = .ok (.if_icmp .ne 32, 3) := gq_5 db00e_38 eb_961
theorem d_X12_stepRead_11 : decode prog_14_method_24_code 11 = .ok (.aload_n 0, 1) := gq_6 db00e_38 eb_0
theorem d_X12_stepRead_12 : decode prog_14_method_24_code 12 = .ok (.dup, 1) := gq_7 db00e_38 eb_46
theorem d_X12_stepRead_13 : decode prog_14_method_24_code 13 = .ok (.getfield 365, 3) := gq_8 db00e_38 eb_948
theorem d_X12_stepRead_16 : decode prog_14_method_24_code 16 = .ok (.iconst 1, 1) := gq_9 db00e_38 eb_19
theorem d_X12_stepRead_17 : decode prog_14_method_24_code 17 = .ok (.iadd, 1) := gq_10 db00e_38 eb_35
theorem d_X12_stepRead_18 : decode prog_14_method_24_code 18 = .ok (.putfield 365, 3) := gq_11 db00e_38 eb_949
theorem d_X12_stepRead_21 : decode prog_14_method_24_code 21 = .ok (.aload_n 0, 1) := gq_12 db00e_38 eb_0
theorem d_X12_stepRead_22 : decode prog_14_method_24_code 22 = .ok (.iconst 0, 1) := gq_13 db00e_38 eb_21
theorem d_X12_stepRead_23 : decode prog_14_method_24_code 23 = .ok (.invokevirtual 390, 3) := gq_14 db00e_38 eb_962
theorem d_X12_stepRead_26 : decode prog_14_method_24_code 26 = .ok (.aload_n 0, 1) := gq_15 db00e_38 eb_0
theorem d_X12_stepRead_27 : decode prog_14_method_24_code 27 = .ok (.aload_n 0, 1) := gq_16 db00e_38 eb_0
theorem d_X12_stepRead_28 : decode prog_14_method_24_code 28 = .ok (.iconst 0, 1) := gq_17 db00e_38 eb_21
theorem d_X12_stepRead_29 : decode prog_14_method_24_code 29 = .ok (.bipush 15, 2) := gq_18 db00e_38 eb_57
theorem d_X12_stepRead_31 : decode prog_14_method_24_code 31 = .ok (.invokevirtual 394, 3) := gq_19 db00e_38 eb_963
theorem d_X12_stepRead_34 : decode prog_14_method_24_code 34 = .ok (.invokevirtual 390, 3) := gq_20 db00e_38 eb_962
theorem d_X12_stepRead_37 : decode prog_14_method_24_code 37 = .ok (.goto 233, 3) := gq_21 db00e_38 eb_964
theorem d_X12_stepRead_40 : decode prog_14_method_24_code 40 = .ok (.iload_n 1, 1) := gq_22 db00e_38 eb_9
theorem d_X12_stepRead_41 : decode prog_14_method_24_code 41 = .ok (.bipush 119, 2) := gq_23 db00e_38 eb_965
theorem db00e_39 : Pf_ prog_14_method_24_code [(43, [0xa0, 0x00, 0x21]), (46, [0x2a]), (47, [0x59]), (48, [0xb4, 0x01, 0x6d]), (51, [0x04]), (52, [0x60]), (53, [0xb5, 0x01, 0x6d]), (56, [0x2a]), (57, [0x04]), (58, [0xb6, 0x01, 0x86]), (61, [0x2a]), (62, [0x2a]), (63, [0x04]), (64, [0x11, 0x00, 0xf0]), (67, [0xb6, 0x01, 0x8a]), (70, [0xb6, 0x01, 0x86]), (73, [0xa7, 0x00, 0xc5]), (76, [0x1b]), (77, [0x10, 0x70]), (79, [0xa0, 0x00, 0x34]), (82, [0x2a]), (83, [0x59]), (84, [0xb4, 0x01, 0x6d]), (87, [0x04])] := pf_ok prog_14_method_24_code _ 43 (by decide +kernel)
theorem d_X12_stepRead_43 : decode prog_14_method_24_code 43 = .ok (.if_icmp .ne 33, 3) := gq_0 db00e_39 eb_518
theorem d_X12_stepRead_46 : decode prog_14_method_24_code 46 = .ok (.aload_n 0, 1) := gq_1 db00e_39 eb_0
theorem d_X12_stepRead_47 : decode prog_14_method_24_code 47 = .ok (.dup, 1) := gq_2 db00e_39 eb_46
theorem d_X12_stepRead_48 : decode prog_14_method_24_code 48 = .ok (.getfield 365, 3) := gq_3 db00e_39 eb_948
theorem d_X12_stepRead_51 : decode prog_14_method_24_code 51 = .ok (.iconst 1, 1) := gq_4 db00e_39 eb_19
theorem d_X12_stepRead_52 : decode prog_14_method_24_code 52 = .ok (.iadd, 1) := gq_5 db00e_39 eb_35
theorem d_X12_stepRead_53 : decode prog_14_method_24_code 53 = .ok (.putfield 365, 3) := gq_6 db00e_39 eb_949
theorem d_X12_stepRead_56 : decode prog_14_method_24_code 56 = .ok (.aload_n 0, 1) := gq_7 db00e_39 eb_0
theorem d_X12_stepRead_57 : decode prog_14_method_24_code 57 = .ok (.iconst 1, 1) := gq_8 db00e_39 eb_19
theorem d_X12_stepRead_58 : decode prog_14_method_24_code 58 = .ok (.invokevirtual 390, 3) := gq_9 db00e_39 eb_962
theorem d_X12_stepRead_61 : decode prog_14_method_24_code 61 = .ok (.aload_n 0, 1) := gq_10 db00e_39 eb_0
theorem d_X12_stepRead_62 : decode prog_14_method_24_code 62 = .ok (.aload_n 0, 1) := gq_11 db00e_39 eb_0
theorem d_X12_stepRead_63 : decode prog_14_method_24_code 63 = .ok (.iconst 1, 1) := gq_12 db00e_39 eb_19
theorem d_X12_stepRead_64 : decode prog_14_method_24_code 64 = .ok (.sipush 240, 3) := gq_13 db00e_39 eb_471
theorem d_X12_stepRead_67 : decode prog_14_method_24_code 67 = .ok (.invokevirtual 394, 3) := gq_14 db00e_39 eb_963
theorem d_X12_stepRead_70 : decode prog_14_method_24_code 70 = .ok (.invokevirtual 390, 3) := gq_15 db00e_39 eb_962
theorem d_X12_stepRead_73 : decode prog_14_method_24_code 73 = .ok (.goto 197, 3) := gq_16 db00e_39 eb_966
theorem d_X12_stepRead_76 : decode prog_14_method_24_code 76 = .ok (.iload_n 1, 1) := gq_17 db00e_39 eb_9
theorem d_X12_stepRead_77 : decode prog_14_method_24_code 77 = .ok (.bipush 112, 2) := gq_18 db00e_39 eb_967
theorem d_X12_stepRead_79 : decode prog_14_method_24_code 79 = .ok (.if_icmp .ne 52, 3) := gq_19 db00e_39 eb_968
theorem d_X12_stepRead_82 : decode prog_14_method_24_code 82 = .ok (.aload_n 0, 1) := gq_20 db00e_39 eb_0
theorem d_X12_stepRead_83 : decode prog_14_method_24_code 83 = .ok (.dup, 1) := gq_21 db00e_39 eb_46
theorem d_X12_stepRead_84 : decode prog_14_method_24_code 84 = .ok (.getfield 365, 3) := gq_22 db00e_39 eb_948
theorem d_X12_stepRead_87 : decode prog_14_method_24_code 87 = .ok (.iconst 1, 1) := gq_23 db00e_39 eb_19
theorem db00e_40 : Pf_ prog_14_method_24_code [(88, [0x60]), (89, [0xb5, 0x01, 0x6d]), (92, [0x2a]), (93, [0x05]), (94, [0xb6, 0x01, 0x86]), (97, [0x2a]), (98, [0x2a]), (99, [0x03]), (100, [0x10, 0x0f]), (102, [0xb6, 0x01, 0x8a]), (105, [0xb6, 0x01, 0x86]), (108, [0x2a]), (109, [0xb4, 0x01, 0x70]), (112, [0x02]), (113, [0xa0, 0x00, 0x9d]), (116, [0x2a]), (117, [0x2a]), (118, [0x03]), (119, [0x11, 0x05, 0xa0]), (122, [0xb6, 0x01, 0x8a]), (125, [0xb6, 0x01, 0x86]), (128, [0xa7, 0x00, 0x8e]), (131, [0x1b]), (132, [0x10, 0x6c])] := pf_ok prog_14_method_24_code _ 88 (by decide +kernel)
theorem d_X12_stepRead_88 : decode prog_14_method_24_code 88 = .ok (.iadd, 1) := gq_0 db00e_40 eb_35
theorem d_X12_stepRead_89 : decode prog_14_method_24_code 89 = .ok (.putfield 365, 3) := gq_1 db00e_40 eb_949
theorem d_X12_stepRead_92 : decode prog_14_method_24_code 92 = .ok (.aload_n 0, 1) := gq_2 db00e_40 eb_0
theorem d_X12_stepRead_93 : decode prog_14_method_24_code 93 = .ok (.iconst 2, 1) := gq_3 db00e_40 eb_10
theorem d_X12_stepRead_94 : decode prog_14_method_24_code 94 = .ok (.invokevirtual 390, 3) := gq_4 db00e_40 eb_962
theorem d_X12_stepRead_97 : decode prog_14_method_24_code 97 = .ok (.aload_n 0, 1) := gq_5 db00e_40 eb_0
theorem d_X12_stepRead_98 : decode prog_14_method_24_code 98 = .ok (.aload_n 0, 1) := gq_6 db00e_40 eb_0
theorem d_X12_stepRead_99 : decode prog_14_method_24_code 99 = .ok (.iconst 0, 1) := gq_7 db00e_40 eb_21
theorem d_X12_stepRead_100 : decode prog_14_method_24_code 100 = .ok (.bipush 15, 2) := gq_8 db00e_40 eb_57
theorem d_X12_stepRead_102 : decode prog_14_method_24_code 102 = .ok (.invokevirtual 394, 3) := gq_9 db00e_40 eb_963
theorem d_X12_stepRead_105 : decode prog_14_method_24_code 105 = .ok (.invokevirtual 390, 3) := gq_10 db00e_40 eb_962
theorem d_X12_stepRead_108 : decode prog_14_method_24_code 108 = .ok (.aload_n 0, 1) := gq_11 db00e_40 eb_0
theorem d_X12_stepRead_109 : decode prog_14_method_24_code 109 = .ok (.getfield 368, 3) := gq_12 db00e_40 eb_950
theorem d_X12_stepRead_112 : decode prog_14_method_24_code 112 = .ok (.iconst (-1), 1) := gq_13 db00e_40 eb_26
theorem d_X12_stepRead_113 : decode prog_14_method_24_code 113 = .ok (.if_icmp .ne 157, 3) := gq_14 db00e_40 eb_969
theorem d_X12_stepRead_116 : decode prog_14_method_24_code 116 = .ok (.aload_n 0, 1) := gq_15 db00e_40 eb_0
theorem d_X12_stepRead_117 : decode prog_14_method_24_code 117 = .ok (.aload_n 0, 1) := gq_16 db00e_40 eb_0
theorem d_X12_stepRead_118 : decode prog_14_method_24_code 118 = .ok (.iconst 0, 1) := gq_17 db00e_40 eb_21
theorem d_X12_stepRead_119 : decode prog_14_method_24_code 119 = .ok (.sipush 1440, 3) := gq_18 db00e_40 eb_289
theorem d_X12_stepRead_122 : decode prog_14_method_24_code 122 = .ok (.invokevirtual 394, 3) := gq_19 db00e_40 eb_963
theorem d_X12_stepRead_125 : decode prog_14_method_24_code 125 = .ok (.invokevirtual 390, 3) := gq_20 db00e_40 eb_962
theorem d_X12_stepRead_128 : decode prog_14_method_24_code 128 = .ok (.goto 142, 3) := gq_21 db00e_40 eb_970
theorem d_X12_stepRead_131 : decode prog_14_method_24_code 131 = .ok (.iload_n 1, 1) := gq_22 db00e_40 eb_9
theorem d_X12_stepRead_132 : decode prog_14_method_24_code 132 = .ok (.bipush 108, 2) := gq_23 db00e_40 eb_971
theorem db00e_41 : Pf_ prog_14_method_24_code [(134, [0xa0, 0x00, 0x15]), (137, [0x2a]), (138, [0x59]), (139, [0xb4, 0x01, 0x6d]), (142, [0x04]), (143, [0x60]), (144, [0xb5, 0x01, 0x6d]), (147, [0x2a]), (148, [0x06]), (149, [0xb6, 0x01, 0x86]), (152, [0xa7, 0x00, 0x76]), (155, [0x1b]), (156, [0x10, 0x28]), (158, [0xa0, 0x00, 0x6c]), (161, [0x2a]), (162, [0xb4, 0x01, 0x8d]), (165, [0x07]), (166, [0xa2, 0x00, 0x64]), (169, [0x2a]), (170, [0x59]), (171, [0xb4, 0x01, 0x8d]), (174, [0x04]), (175, [0x60]), (176, [0xb5, 0x01, 0x8d])] := pf_ok prog_14_method_24_code _ 134 (by decide +kernel)
theorem d_X12_stepRead_134 : decode prog_14_method_24_code 134 = .ok (.if_icmp .ne 21, 3) := gq_0 db00e_41 eb_426
theorem d_X12_stepRead_137 : decode prog_14_method_24_code 137 = .ok (.aload_n 0, 1) := gq_1 db00e_41 eb_0
theorem d_X12_stepRead_138 : decode prog_14_method_24_code 138 = .ok (.dup, 1) := gq_2 db00e_41 eb_46
theorem d_X12_stepRead_139 : decode prog_14_method_24_code 139 = .ok (.getfield 365, 3) := gq_3 db00e_41 eb_948
theorem d_X12_stepRead_142 : decode prog_14_method_24_code 142 = .ok (.iconst 1, 1) := gq_4 db00e_41 eb_19
theorem d_X12_stepRead_143 : decode prog_14_method_24_code 143 = .ok (.iadd, 1) := gq_5 db00e_41 eb_35
theorem d_X12_stepRead_144 : decode prog_14_method_24_code 144 = .ok (.putfield 365, 3) := gq_6 db00e_41 eb_949
theorem d_X12_stepRead_147 : decode prog_14_method_24_code 147 = .ok (.aload_n 0, 1) := gq_7 db00e_41 eb_0
theorem d_X12_stepRead_148 : decode prog_14_method_24_code 148 = .ok (.iconst 3, 1) := gq_8 db00e_41 eb_54
theorem d_X12_stepRead_149 : decode prog_14_method_24_code 149 = .ok (.invokevirtual 390, 3) := gq_9 db00e_41 eb_962
theorem d_X12_stepRead_152 : decode prog_14_method_24_code 152 = .ok (.goto 118, 3) := gq_10 db00e_41 eb_972
theorem d_X12_stepRead_155 : decode prog_14_method_24_code 155 = .ok (.iload_n 1, 1) := gq_11 db00e_41 eb_9
theorem d_X12_stepRead_156 : decode prog_14_method_24_code 156 = .ok (.bipush 40, 2) := gq_12 db00e_41 eb_314
theorem d_X12_stepRead_158 : decode prog_14_method_24_code 158 = .ok (.if_icmp .ne 108, 3) := gq_13 db00e_41 eb_973
theorem d_X12_stepRead_161 : decode prog_14_method_24_code 161 = .ok (.aload_n 0, 1) := gq_14 db00e_41 eb_0
theorem d_X12_stepRead_162 : decode prog_14_method_24_code 162 = .ok (.getfield 397, 3) := gq_15 db00e_41 eb_974
theorem d_X12_stepRead_165 : decode prog_14_method_24_code 165 = .ok (.iconst 4, 1) := gq_16 db00e_41 eb_291
theorem d_X12_stepRead_166 : decode prog_14_method_24_code 166 = .ok (.if_icmp .ge 100, 3) := gq_17 db00e_41 eb_975
theorem d_X12_stepRead_169 : decode prog_14_method_24_code 169 = .ok (.aload_n 0, 1) := gq_18 db00e_41 eb_0
theorem d_X12_stepRead_170 : decode prog_14_method_24_code 170 = .ok (.dup, 1) := gq_19 db00e_41 eb_46
theorem d_X12_stepRead_171 : decode prog_14_method_24_code 171 = .ok (.getfield 397, 3) := gq_20 db00e_41 eb_974
theorem d_X12_stepRead_174 : decode prog_14_method_24_code 174 = .ok (.iconst 1, 1) := gq_21 db00e_41 eb_19
theorem d_X12_stepRead_175 : decode prog_14_method_24_code 175 = .ok (.iadd, 1) := gq_22 db00e_41 eb_35
theorem d_X12_stepRead_176 : decode prog_14_method_24_code 176 = .ok (.putfield 397, 3) := gq_23 db00e_41 eb_976
theorem db00e_42 : Pf_ prog_14_method_24_code [(179, [0x2a]), (180, [0x59]), (181, [0xb4, 0x01, 0x6d]), (184, [0x04]), (185, [0x60]), (186, [0xb5, 0x01, 0x6d]), (189, [0x2a]), (190, [0x07]), (191, [0xb6, 0x01, 0x86]), (194, [0x2a]), (195, [0xb6, 0x01, 0x90]), (198, [0x2a]), (199, [0xb4, 0x01, 0x70]), (202, [0x02]), (203, [0xa0, 0x00, 0x10]), (206, [0x2a]), (207, [0xb6, 0x01, 0x76]), (210, [0x10, 0x29]), (212, [0x9f, 0x00, 0x07]), (215, [0x2a]), (216, [0xb6, 0x01, 0x7d]), (219, [0x2a]), (220, [0x59]), (221, [0xb4, 0x01, 0x6d])] := pf_ok prog_14_method_24_code _ 179 (by decide +kernel)
theorem d_X12_stepRead_179 : decode prog_14_method_24_code 179 = .ok (.aload_n 0, 1) := gq_0 db00e_42 eb_0
theorem d_X12_stepRead_180 : decode prog_14_method_24_code 180 = .ok (.dup, 1) := gq_1 db00e_42 eb_46
theorem d_X12_stepRead_181 : decode prog_14_method_24_code 181 = .ok (.getfield 365, 3) := gq_2 db00e_42 eb_948
theorem d_X12_stepRead_184 : decode prog_14_method_24_code 184 = .ok (.iconst 1, 1) := gq_3 db00e_42 eb_19
theorem d_X12_stepRead_185 : decode prog_14_method_24_code 185 = .ok (.iadd, 1) := gq_4 db00e_42 eb_35
theorem d_X12_stepRead_186 : decode prog_14_method_24_code 186 = .ok (.putfield 365, 3) := gq_5 db00e_42 eb_949
theorem d_X12_stepRead_189 : decode prog_14_method_24_code 189 = .ok (.aload_n 0, 1) := gq_6 db00e_42 eb_0
theorem d_X12_stepRead_190 : decode prog_14_method_24_code 190 = .ok (.iconst 4, 1) := gq_7 db00e_42 eb_291
theorem d_X12_stepRead_191 : decode prog_14_method_24_code 191 = .ok (.invokevirtual 390, 3) := gq_8 db00e_42 eb_962
theorem d_X12_stepRead_194 : decode prog_14_method_24_code 194 = .ok (.aload_n 0, 1) := gq_9 db00e_42 eb_0
theorem d_X12_stepRead_195 : decode prog_14_method_24_code 195 = .ok (.invokevirtual 400, 3) := gq_10 db00e_42 eb_977
theorem d_X12_stepRead_198 : decode prog_14_method_24_code 198 = .ok (.aload_n 0, 1) := gq_11 db00e_42 eb_0
theorem d_X12_stepRead_199 : decode prog_14_method_24_code 199 = .ok (.getfield 368, 3) := gq_12 db00e_42 eb_950
theorem d_X12_stepRead_202 : decode prog_14_method_24_code 202 = .ok (.iconst (-1), 1) := gq_13 db00e_42 eb_26
theorem d_X12_stepRead_203 : decode prog_14_method_24_code 203 = .ok (.if_icmp .ne 16, 3) := gq_14 db00e_42 eb_79
theorem d_X12_stepRead_206 : decode prog_14_method_24_code 206 = .ok (.aload_n 0, 1) := gq_15 db00e_42 eb_0
theorem d_X12_stepRead_207 : decode prog_14_method_24_code 207 = .ok (.invokevirtual 374, 3) := gq_16 db00e_42 eb_955
theorem d_X12_stepRead_210 : decode prog_14_method_24_code 210 = .ok (.bipush 41, 2) := gq_17 db00e_42 eb_476
theorem d_X12_stepRead_212 : decode prog_14_method_24_code 212 = .ok (.if_icmp .eq 7, 3) := gq_18 db00e_42 eb_539
theorem d_X12_stepRead_215 : decode prog_14_method_24_code 215 = .ok (.aload_n 0, 1) := gq_19 db00e_42 eb_0
theorem d_X12_stepRead_216 : decode prog_14_method_24_code 216 = .ok (.invokevirtual 381, 3) := gq_20 db00e_42 eb_958
theorem d_X12_stepRead_219 : decode prog_14_method_24_code 219 = .ok (.aload_n 0, 1) := gq_21 db00e_42 eb_0
theorem d_X12_stepRead_220 : decode prog_14_method_24_code 220 = .ok (.dup, 1) := gq_22 db00e_42 eb_46
theorem d_X12_stepRead_221 : decode prog_14_method_24_code 221 = .ok (.getfield 365, 3) := gq_23 db00e_42 eb_948
theorem db00e_43 : Pf_ prog_14_method_24_code [(224, [0x04]), (225, [0x60]), (226, [0xb5, 0x01, 0x6d]), (229, [0x2a]), (230, [0x59]), (231, [0xb4, 0x01, 0x8d]), (234, [0x04]), (235, [0x64]), (236, [0xb5, 0x01, 0x8d]), (239, [0x2a]), (240, [0xb4, 0x01, 0x70]), (243, [0x02]), (244, [0xa0, 0x00, 0x1a]), (247, [0x2a]), (248, [0x08]), (249, [0xb6, 0x01, 0x86]), (252, [0x2a]), (253, [0x2a]), (254, [0x04]), (255, [0x10, 0x14]), (257, [0xb6, 0x01, 0x8a]), (260, [0xb6, 0x01, 0x86]), (263, [0xa7, 0x00, 0x07]), (266, [0x2a])] := pf_ok prog_14_method_24_code _ 224 (by decide +kernel)
theorem d_X12_stepRead_224 : decode prog_14_method_24_code 224 = .ok (.iconst 1, 1) := gq_0 db00e_43 eb_19
theorem d_X12_stepRead_225 : decode prog_14_method_24_code 225 = .ok (.iadd, 1) := gq_1 db00e_43 eb_35
theorem d_X12_stepRead_226 : decode prog_14_method_24_code 226 = .ok (.putfield 365, 3) := gq_2 db00e_43 eb_949
theorem d_X12_stepRead_229 : decode prog_14_method_24_code 229 = .ok (.aload_n 0, 1) := gq_3 db00e_43 eb_0
theorem d_X12_stepRead_230 : decode prog_14_method_24_code 230 = .ok (.dup, 1) := gq_4 db00e_43 eb_46
theorem d_X12_stepRead_231 : decode prog_14_method_24_code 231 = .ok (.getfield 397, 3) := gq_5 db00e_43 eb_974
theorem d_X12_stepRead_234 : decode prog_14_method_24_code 234 = .ok (.iconst 1, 1) := gq_6 db00e_43 eb_19
theorem d_X12_stepRead_235 : decode prog_14_method_24_code 235 = .ok (.isub, 1) := gq_7 db00e_43 eb_48
theorem d_X12_stepRead_236 : decode prog_14_method_24_code 236 = .ok (.putfield 397, 3) := gq_8 db00e_43 eb_976
theorem d_X12_stepRead_239 : decode prog_14_method_24_code 239 = .ok (.aload_n 0, 1) := gq_9 db00e_43 eb_0
theorem d_X12_stepRead_240 : decode prog_14_method_24_code 240 = .ok (.getfield 368, 3) := gq_10 db00e_43 eb_950
theorem d_X12_stepRead_243 : decode prog_14_method_24_code 243 = .ok (.iconst (-1), 1) := gq_11 db00e_43 eb_26
theorem d_X12_stepRead_244 : decode prog_14_method_24_code 244 = .ok (.if_icmp .ne 26, 3) := gq_12 db00e_43 eb_279
theorem d_X12_stepRead_247 : decode prog_14_method_24_code 247 = .ok (.aload_n 0, 1) := gq_13 db00e_43 eb_0
theorem d_X12_stepRead_248 : decode prog_14_method_24_code 248 = .ok (.iconst 5, 1) := gq_14 db00e_43 eb_122
theorem d_X12_stepRead_249 : decode prog_14_method_24_code 249 = .ok (.invokevirtual 390, 3) := gq_15 db00e_43 eb_962
theorem d_X12_stepRead_252 : decode prog_14_method_24_code 252 = .ok (.aload_n 0, 1) := gq_16 db00e_43 eb_0
theorem d_X12_stepRead_253 : decode prog_14_method_24_code 253 = .ok (.aload_n 0, 1) := gq_17 db00e_43 eb_0
theorem d_X12_stepRead_254 : decode prog_14_method_24_code 254 = .ok (.iconst 1, 1) := gq_18 db00e_43 eb_19
theorem d_X12_stepRead_255 : decode prog_14_method_24_code 255 = .ok (.bipush 20, 2) := gq_19 db00e_43 eb_478
theorem d_X12_stepRead_257 : decode prog_14_method_24_code 257 = .ok (.invokevirtual 394, 3) := gq_20 db00e_43 eb_963
theorem d_X12_stepRead_260 : decode prog_14_method_24_code 260 = .ok (.invokevirtual 390, 3) := gq_21 db00e_43 eb_962
theorem d_X12_stepRead_263 : decode prog_14_method_24_code 263 = .ok (.goto 7, 3) := gq_22 db00e_43 eb_203
theorem d_X12_stepRead_266 : decode prog_14_method_24_code 266 = .ok (.aload_n 0, 1) := gq_23 db00e_43 eb_0
theorem db00e_44 : Pf_ prog_14_method_24_code [(267, [0xb6, 0x01, 0x7d]), (270, [0xb1])] := pf_ok prog_14_method_24_code _ 267 (by decide +kernel)
theorem d_X12_stepRead_267 : decode prog_14_method_24_code 267 = .ok (.invokevirtual 381, 3) := gq_0 db00e_44 eb_958
theorem d_X12_stepRead_270 : decode prog_14_method_24_code 270 = .ok (.return_, 1) := gq_1 db00e_44 eb_7
theorem db00e_45 : Pf_ prog_14_method_25_code [(0, [0x2a]), (1, [0x1b]), (2, [0xb5, 0x01, 0x93]), (5, [0x2a]), (6, [0xb4, 0x01, 0x93]), (9, [0x2a]), (10, [0xb4, 0x01, 0x73]), (13, [0xa2, 0x00, 0xfe]), (16, [0x2a]), (17, [0xb4, 0x00, 0x5a]), (20, [0x2a]), (21, [0xb4, 0x01, 0x93]), (24, [0x2e]), (25, [0x08]), (26, [0x9f, 0x00, 0xf1]), (29, [0x2a]), (30, [0xb4, 0x00, 0x5a]), (33, [0x2a]), (34, [0xb4, 0x01, 0x93]), (37, [0x2e]), (38, [0x3e]), (39, [0x1d]), (40, [0x07]), (41, [0xa0, 0x00, 0x4f])] := pf_ok prog_14_method_25_code _ 0 (by decide +kernel)
theorem d_X12_unfold_0 : decode prog_14_method_25_code 0 = .ok (.aload_n 0, 1) := gq_0 db00e_45 eb_0
theorem d_X12_unfold_1 : decode prog_14_method_25_code 1 = .ok (.iload_n 1, 1) := gq_1 db00e_45 eb_9
theorem d_X12_unfold_2 : decode prog_14_method_25_code 2 = .ok (.putfield 403, 3) := gq_2 db00e_45 eb_978
theorem d_X12_unfold_5 : decode prog_14_method_25_code 5 = .ok (.aload_n 0, 1) := gq_3 db00e_45 eb_0
theorem d_X12_unfold_6 : decode prog_14_method_25_code 6 = .ok (.getfield 403, 3) := gq_4 db00e_45 eb_979
theorem d_X12_unfold_9 : decode prog_14_method_25_code 9 = .ok (.aload_n 0, 1) := gq_5 db00e_45 eb_0
theorem d_X12_unfold_10 : decode prog_14_method_25_code 10 = .ok (.getfield 371, 3) := gq_6 db00e_45 eb_953
theorem d_X12_unfold_13 : decode prog_14_method_25_code 13 = .ok (.if_icmp .ge 254, 3) := gq_7 db00e_45 eb_980
theorem d_X12_unfold_16 : decode prog_14_method_25_code 16 = .ok (.aload_n 0, 1) := gq_8 db00e_45 eb_0
theorem d_X12_unfold_17 : decode prog_14_method_25_code 17 = .ok (.getfield 90, 3) := gq_9 db00e_45 eb_952
theorem d_X12_unfold_20 : decode prog_14_method_25_code 20 = .ok (.aload_n 0, 1) := gq_10 db00e_45 eb_0
theorem d_X12_unfold_21 : decode prog_14_method_25_code 21 = .ok (.getfield 403, 3) := gq_11 db00e_45 eb_979
theorem d_X12_unfold_24 : decode prog_14_method_25_code 24 = .ok (.iaload, 1) := gq_12 db00e_45 eb_37
theorem d_X12_unfold_25 : decode prog_14_method_25_code 25 = .ok (.iconst 5, 1) := gq_13 db00e_45 eb_122
theorem d_X12_unfold_26 : decode prog_14_method_25_code 26 = .ok (.if_icmp .eq 241, 3) := gq_14 db00e_45 eb_981
theorem d_X12_unfold_29 : decode prog_14_method_25_code 29 = .ok (.aload_n 0, 1) := gq_15 db00e_45 eb_0
theorem d_X12_unfold_30 : decode prog_14_method_25_code 30 = .ok (.getfield 90, 3) := gq_16 db00e_45 eb_952
theorem d_X12_unfold_33 : decode prog_14_method_25_code 33 = .ok (.aload_n 0, 1) := gq_17 db00e_45 eb_0
theorem d_X12_unfold_34 : decode prog_14_method_25_code 34 = .ok (.getfield 403, 3) := gq_18 db00e_45 eb_979
theorem d_X12_unfold_37 : decode prog_14_method_25_code 37 = .ok (.iaload, 1) := gq_19 db00e_45 eb_37
theorem d_X12_unfold_38 : decode prog_14_method_25_code 38 = .ok (.istore_n 3, 1) := gq_20 db00e_45 eb_28
theorem d_X12_unfold_39 : decode prog_14_method_25_code 39 = .ok (.iload_n 3, 1) := gq_21 db00e_45 eb_29
theorem d_X12_unfold_40 : decode prog_14_method_25_code 40 = .ok (.iconst 4, 1) := gq_22 db00e_45 eb_291
theorem d_X12_unfold_41 : decode prog_14_method_25_code 41 = .ok (.if_icmp .ne 79, 3) := gq_23 db00e_45 eb_982
theorem db00e_46 : Pf_ prog_14_method_25_code [(44, [0x2a]), (45, [0xb4, 0x01, 0x93]), (48, [0x04]), (49, [0x60]), (50, [0x36, 0x04]), (52, [0x2a]), (53, [0x15, 0x04]), (55, [0x1c]), (56, [0xb6, 0x01, 0x96]), (59, [0x9a, 0x00, 0x05]), (62, [0x03]), (63, [0xac]), (64, [0x2a]), (65, [0xb4, 0x01, 0x93]), (68, [0x36, 0x05]), (70, [0x2a]), (71, [0xb4, 0x00, 0x5a]), (74, [0x15, 0x05]), (76, [0x04]), (77, [0x60]), (78, [0x2e]), (79, [0x36, 0x06]), (81, [0x04]), (82, [0x36, 0x07])] := pf_ok prog_14_method_25_code _ 44 (by decide +kernel)
theorem d_X12_unfold_44 : decode prog_14_method_25_code 44 = .ok (.aload_n 0, 1) := gq_0 db00e_46 eb_0
theorem d_X12_unfold_45 : decode prog_14_method_25_code 45 = .ok (.getfield 403, 3) := gq_1 db00e_46 eb_979
theorem d_X12_unfold_48 : decode prog_14_method_25_code 48 = .ok (.iconst 1, 1) := gq_2 db00e_46 eb_19
theorem d_X12_unfold_49 : decode prog_14_method_25_code 49 = .ok (.iadd, 1) := gq_3 db00e_46 eb_35
theorem d_X12_unfold_50 : decode prog_14_method_25_code 50 = .ok (.istore 4, 2) := gq_4 db00e_46 eb_133
theorem d_X12_unfold_52 : decode prog_14_method_25_code 52 = .ok (.aload_n 0, 1) := gq_5 db00e_46 eb_0
theorem d_X12_unfold_53 : decode prog_14_method_25_code 53 = .ok (.iload 4, 2) := gq_6 db00e_46 eb_76
theorem d_X12_unfold_55 : decode prog_14_method_25_code 55 = .ok (.iload_n 2, 1) := gq_7 db00e_46 eb_13
theorem d_X12_unfold_56 : decode prog_14_method_25_code 56 = .ok (.invokevirtual 406, 3) := gq_8 db00e_46 eb_983
theorem d_X12_unfold_59 : decode prog_14_method_25_code 59 = .ok (.ifCond .ne 5, 3) := gq_9 db00e_46 eb_150
theorem d_X12_unfold_62 : decode prog_14_method_25_code 62 = .ok (.iconst 0, 1) := gq_10 db00e_46 eb_21
theorem d_X12_unfold_63 : decode prog_14_method_25_code 63 = .ok (.ireturn, 1) := gq_11 db00e_46 eb_15
theorem d_X12_unfold_64 : decode prog_14_method_25_code 64 = .ok (.aload_n 0, 1) := gq_12 db00e_46 eb_0
theorem d_X12_unfold_65 : decode prog_14_method_25_code 65 = .ok (.getfield 403, 3) := gq_13 db00e_46 eb_979
theorem d_X12_unfold_68 : decode prog_14_method_25_code 68 = .ok (.istore 5, 2) := gq_14 db00e_46 eb_134
theorem d_X12_unfold_70 : decode prog_14_method_25_code 70 = .ok (.aload_n 0, 1) := gq_15 db00e_46 eb_0
theorem d_X12_unfold_71 : decode prog_14_method_25_code 71 = .ok (.getfield 90, 3) := gq_16 db00e_46 eb_952
theorem d_X12_unfold_74 : decode prog_14_method_25_code 74 = .ok (.iload 5, 2) := gq_17 db00e_46 eb_125
theorem d_X12_unfold_76 : decode prog_14_method_25_code 76 = .ok (.iconst 1, 1) := gq_18 db00e_46 eb_19
theorem d_X12_unfold_77 : decode prog_14_method_25_code 77 = .ok (.iadd, 1) := gq_19 db00e_46 eb_35
theorem d_X12_unfold_78 : decode prog_14_method_25_code 78 = .ok (.iaload, 1) := gq_20 db00e_46 eb_37
theorem d_X12_unfold_79 : decode prog_14_method_25_code 79 = .ok (.istore 6, 2) := gq_21 db00e_46 eb_58
theorem d_X12_unfold_81 : decode prog_14_method_25_code 81 = .ok (.iconst 1, 1) := gq_22 db00e_46 eb_19
theorem d_X12_unfold_82 : decode prog_14_method_25_code 82 = .ok (.istore 7, 2) := gq_23 db00e_46 eb_59
theorem db00e_47 : Pf_ prog_14_method_25_code [(84, [0x15, 0x07]), (86, [0x15, 0x06]), (88, [0xa2, 0x00, 0x15]), (91, [0x2a]), (92, [0x15, 0x04]), (94, [0x1c]), (95, [0xb6, 0x01, 0x96]), (98, [0x9a, 0x00, 0x05]), (101, [0x03]), (102, [0xac]), (103, [0x84, 0x07, 0x01]), (106, [0xa7, 0xff, 0xea]), (109, [0x2a]), (110, [0x15, 0x05]), (112, [0x05]), (113, [0x60]), (114, [0xb5, 0x01, 0x93]), (117, [0xa7, 0xff, 0x90]), (120, [0x2a]), (121, [0xb4, 0x01, 0x9a]), (124, [0x11, 0x00, 0x96]), (127, [0xa0, 0x00, 0x05]), (130, [0x03]), (131, [0xac])] := pf_ok prog_14_method_25_code _ 84 (by decide +kernel)
theorem d_X12_unfold_84 : decode prog_14_method_25_code 84 = .ok (.iload 7, 2) := gq_0 db00e_47 eb_73
theorem d_X12_unfold_86 : decode prog_14_method_25_code 86 = .ok (.iload 6, 2) := gq_1 db00e_47 eb_75
theorem d_X12_unfold_88 : decode prog_14_method_25_code 88 = .ok (.if_icmp .ge 21, 3) := gq_2 db00e_47 eb_168
theorem d_X12_unfold_91 : decode prog_14_method_25_code 91 = .ok (.aload_n 0, 1) := gq_3 db00e_47 eb_0
theorem d_X12_unfold_92 : decode prog_14_method_25_code 92 = .ok (.iload 4, 2) := gq_4 db00e_47 eb_76
theorem d_X12_unfold_94 : decode prog_14_method_25_code 94 = .ok (.iload_n 2, 1) := gq_5 db00e_47 eb_13
theorem d_X12_unfold_95 : decode prog_14_method_25_code 95 = .ok (.invokevirtual 406, 3) := gq_6 db00e_47 eb_983
theorem d_X12_unfold_98 : decode prog_14_method_25_code 98 = .ok (.ifCond .ne 5, 3) := gq_7 db00e_47 eb_150
theorem d_X12_unfold_101 : decode prog_14_method_25_code 101 = .ok (.iconst 0, 1) := gq_8 db00e_47 eb_21
theorem d_X12_unfold_102 : decode prog_14_method_25_code 102 = .ok (.ireturn, 1) := gq_9 db00e_47 eb_15
theorem d_X12_unfold_103 : decode prog_14_method_25_code 103 = .ok (.iinc 7 1, 3) := gq_10 db00e_47 eb_182
theorem d_X12_unfold_106 : decode prog_14_method_25_code 106 = .ok (.goto (-22), 3) := gq_11 db00e_47 eb_984
theorem d_X12_unfold_109 : decode prog_14_method_25_code 109 = .ok (.aload_n 0, 1) := gq_12 db00e_47 eb_0
theorem d_X12_unfold_110 : decode prog_14_method_25_code 110 = .ok (.iload 5, 2) := gq_13 db00e_47 eb_125
theorem d_X12_unfold_112 : decode prog_14_method_25_code 112 = .ok (.iconst 2, 1) := gq_14 db00e_47 eb_10
theorem d_X12_unfold_113 : decode prog_14_method_25_code 113 = .ok (.iadd, 1) := gq_15 db00e_47 eb_35
theorem d_X12_unfold_114 : decode prog_14_method_25_code 114 = .ok (.putfield 403, 3) := gq_16 db00e_47 eb_978
theorem d_X12_unfold_117 : decode prog_14_method_25_code 117 = .ok (.goto (-112), 3) := gq_17 db00e_47 eb_985
theorem d_X12_unfold_120 : decode prog_14_method_25_code 120 = .ok (.aload_n 0, 1) := gq_18 db00e_47 eb_0
theorem d_X12_unfold_121 : decode prog_14_method_25_code 121 = .ok (.getfield 410, 3) := gq_19 db00e_47 eb_986
theorem d_X12_unfold_124 : decode prog_14_method_25_code 124 = .ok (.sipush 150, 3) := gq_20 db00e_47 eb_33
theorem d_X12_unfold_127 : decode prog_14_method_25_code 127 = .ok (.if_icmp .ne 5, 3) := gq_21 db00e_47 eb_479
theorem d_X12_unfold_130 : decode prog_14_method_25_code 130 = .ok (.iconst 0, 1) := gq_22 db00e_47 eb_21
theorem d_X12_unfold_131 : decode prog_14_method_25_code 131 = .ok (.ireturn, 1) := gq_23 db00e_47 eb_15
theorem db00e_48 : Pf_ prog_14_method_25_code [(132, [0x10, 0x0c]), (134, [0x2a]), (135, [0xb4, 0x01, 0x9d]), (138, [0xa0, 0x00, 0x07]), (141, [0x03]), (142, [0xa7, 0x00, 0x10]), (145, [0x11, 0x00, 0x96]), (148, [0x2a]), (149, [0xb4, 0x01, 0x9d]), (152, [0x68]), (153, [0x2a]), (154, [0xb4, 0x01, 0x9a]), (157, [0x60]), (158, [0x36, 0x04]), (160, [0x1c]), (161, [0x99, 0x00, 0x41]), (164, [0x2a]), (165, [0xb4, 0x00, 0x60]), (168, [0x15, 0x04]), (170, [0x1d]), (171, [0x4f]), (172, [0x2a]), (173, [0xb4, 0x00, 0x63]), (176, [0x15, 0x04])] := pf_ok prog_14_method_25_code _ 132 (by decide +kernel)
theorem d_X12_unfold_132 : decode prog_14_method_25_code 132 = .ok (.bipush 12, 2) := gq_0 db00e_48 eb_4
theorem d_X12_unfold_134 : decode prog_14_method_25_code 134 = .ok (.aload_n 0, 1) := gq_1 db00e_48 eb_0
theorem d_X12_unfold_135 : decode prog_14_method_25_code 135 = .ok (.getfield 413, 3) := gq_2 db00e_48 eb_987
theorem d_X12_unfold_138 : decode prog_14_method_25_code 138 = .ok (.if_icmp .ne 7, 3) := gq_3 db00e_48 eb_135
theorem d_X12_unfold_141 : decode prog_14_method_25_code 141 = .ok (.iconst 0, 1) := gq_4 db00e_48 eb_21
theorem d_X12_unfold_142 : decode prog_14_method_25_code 142 = .ok (.goto 16, 3) := gq_5 db00e_48 eb_527
theorem d_X12_unfold_145 : decode prog_14_method_25_code 145 = .ok (.sipush 150, 3) := gq_6 db00e_48 eb_33
theorem d_X12_unfold_148 : decode prog_14_method_25_code 148 = .ok (.aload_n 0, 1) := gq_7 db00e_48 eb_0
theorem d_X12_unfold_149 : decode prog_14_method_25_code 149 = .ok (.getfield 413, 3) := gq_8 db00e_48 eb_987
theorem d_X12_unfold_152 : decode prog_14_method_25_code 152 = .ok (.imul, 1) := gq_9 db00e_48 eb_34
theorem d_X12_unfold_153 : decode prog_14_method_25_code 153 = .ok (.aload_n 0, 1) := gq_10 db00e_48 eb_0
theorem d_X12_unfold_154 : decode prog_14_method_25_code 154 = .ok (.getfield 410, 3) := gq_11 db00e_48 eb_986
theorem d_X12_unfold_157 : decode prog_14_method_25_code 157 = .ok (.iadd, 1) := gq_12 db00e_48 eb_35
theorem d_X12_unfold_158 : decode prog_14_method_25_code 158 = .ok (.istore 4, 2) := gq_13 db00e_48 eb_133
theorem d_X12_unfold_160 : decode prog_14_method_25_code 160 = .ok (.iload_n 2, 1) := gq_14 db00e_48 eb_13
theorem d_X12_unfold_161 : decode prog_14_method_25_code 161 = .ok (.ifCond .eq 65, 3) := gq_15 db00e_48 eb_988
theorem d_X12_unfold_164 : decode prog_14_method_25_code 164 = .ok (.aload_n 0, 1) := gq_16 db00e_48 eb_0
theorem d_X12_unfold_165 : decode prog_14_method_25_code 165 = .ok (.getfield 96, 3) := gq_17 db00e_48 eb_989
theorem d_X12_unfold_168 : decode prog_14_method_25_code 168 = .ok (.iload 4, 2) := gq_18 db00e_48 eb_76
theorem d_X12_unfold_170 : decode prog_14_method_25_code 170 = .ok (.iload_n 3, 1) := gq_19 db00e_48 eb_29
theorem d_X12_unfold_171 : decode prog_14_method_25_code 171 = .ok (.iastore, 1) := gq_20 db00e_48 eb_38
theorem d_X12_unfold_172 : decode prog_14_method_25_code 172 = .ok (.aload_n 0, 1) := gq_21 db00e_48 eb_0
theorem d_X12_unfold_173 : decode prog_14_method_25_code 173 = .ok (.getfield 99, 3) := gq_22 db00e_48 eb_990
theorem d_X12_unfold_176 : decode prog_14_method_25_code 176 = .ok (.iload 4, 2) := gq_23 db00e_48 eb_76
theorem db00e_49 : Pf_ prog_14_method_25_code [(178, [0x1d]), (179, [0x06]), (180, [0xa0, 0x00, 0x07]), (183, [0x03]), (184, [0xa7, 0x00, 0x0e]), (187, [0x2a]), (188, [0xb4, 0x00, 0x5a]), (191, [0x2a]), (192, [0xb4, 0x01, 0x93]), (195, [0x04]), (196, [0x60]), (197, [0x2e]), (198, [0x4f]), (199, [0x2a]), (200, [0xb4, 0x00, 0x66]), (203, [0x15, 0x04]), (205, [0x1d]), (206, [0x05]), (207, [0xa0, 0x00, 0x11]), (210, [0x2a]), (211, [0xb4, 0x00, 0x5a]), (214, [0x2a]), (215, [0xb4, 0x01, 0x93]), (218, [0x05])] := pf_ok prog_14_method_25_code _ 178 (by decide +kernel)
theorem d_X12_unfold_178 : decode prog_14_method_25_code 178 = .ok (.iload_n 3, 1) := gq_0 db00e_49 eb_29
theorem d_X12_unfold_179 : decode prog_14_method_25_code 179 = .ok (.iconst 3, 1) := gq_1 db00e_49 eb_54
theorem d_X12_unfold_180 : decode prog_14_method_25_code 180 = .ok (.if_icmp .ne 7, 3) := gq_2 db00e_49 eb_135
theorem d_X12_unfold_183 : decode prog_14_method_25_code 183 = .ok (.iconst 0, 1) := gq_3 db00e_49 eb_21
theorem d_X12_unfold_184 : decode prog_14_method_25_code 184 = .ok (.goto 14, 3) := gq_4 db00e_49 eb_991
theorem d_X12_unfold_187 : decode prog_14_method_25_code 187 = .ok (.aload_n 0, 1) := gq_5 db00e_49 eb_0
theorem d_X12_unfold_188 : decode prog_14_method_25_code 188 = .ok (.getfield 90, 3) := gq_6 db00e_49 eb_952
theorem d_X12_unfold_191 : decode prog_14_method_25_code 191 = .ok (.aload_n 0, 1) := gq_7 db00e_49 eb_0
theorem d_X12_unfold_192 : decode prog_14_method_25_code 192 = .ok (.getfield 403, 3) := gq_8 db00e_49 eb_979
theorem d_X12_unfold_195 : decode prog_14_method_25_code 195 = .ok (.iconst 1, 1) := gq_9 db00e_49 eb_19
theorem d_X12_unfold_196 : decode prog_14_method_25_code 196 = .ok (.iadd, 1) := gq_10 db00e_49 eb_35
theorem d_X12_unfold_197 : decode prog_14_method_25_code 197 = .ok (.iaload, 1) := gq_11 db00e_49 eb_37
theorem d_X12_unfold_198 : decode prog_14_method_25_code 198 = .ok (.iastore, 1) := gq_12 db00e_49 eb_38
theorem d_X12_unfold_199 : decode prog_14_method_25_code 199 = .ok (.aload_n 0, 1) := gq_13 db00e_49 eb_0
theorem d_X12_unfold_200 : decode prog_14_method_25_code 200 = .ok (.getfield 102, 3) := gq_14 db00e_49 eb_992
theorem d_X12_unfold_203 : decode prog_14_method_25_code 203 = .ok (.iload 4, 2) := gq_15 db00e_49 eb_76
theorem d_X12_unfold_205 : decode prog_14_method_25_code 205 = .ok (.iload_n 3, 1) := gq_16 db00e_49 eb_29
theorem d_X12_unfold_206 : decode prog_14_method_25_code 206 = .ok (.iconst 2, 1) := gq_17 db00e_49 eb_10
theorem d_X12_unfold_207 : decode prog_14_method_25_code 207 = .ok (.if_icmp .ne 17, 3) := gq_18 db00e_49 eb_993
theorem d_X12_unfold_210 : decode prog_14_method_25_code 210 = .ok (.aload_n 0, 1) := gq_19 db00e_49 eb_0
theorem d_X12_unfold_211 : decode prog_14_method_25_code 211 = .ok (.getfield 90, 3) := gq_20 db00e_49 eb_952
theorem d_X12_unfold_214 : decode prog_14_method_25_code 214 = .ok (.aload_n 0, 1) := gq_21 db00e_49 eb_0
theorem d_X12_unfold_215 : decode prog_14_method_25_code 215 = .ok (.getfield 403, 3) := gq_22 db00e_49 eb_979
theorem d_X12_unfold_218 : decode prog_14_method_25_code 218 = .ok (.iconst 2, 1) := gq_23 db00e_49 eb_10
theorem db00e_50 : Pf_ prog_14_method_25_code [(219, [0x60]), (220, [0x2e]), (221, [0xa7, 0x00, 0x04]), (224, [0x03]), (225, [0x4f]), (226, [0x2a]), (227, [0x59]), (228, [0xb4, 0x01, 0x9a]), (231, [0x04]), (232, [0x60]), (233, [0xb5, 0x01, 0x9a]), (236, [0x2a]), (237, [0x59]), (238, [0xb4, 0x01, 0x93]), (241, [0x1d]), (242, [0x06]), (243, [0xa0, 0x00, 0x07]), (246, [0x04]), (247, [0xa7, 0x00, 0x0d]), (250, [0x1d]), (251, [0x05]), (252, [0xa0, 0x00, 0x07]), (255, [0x06]), (256, [0xa7, 0x00, 0x04])] := pf_ok prog_14_method_25_code _ 219 (by decide +kernel)
theorem d_X12_unfold_219 : decode prog_14_method_25_code 219 = .ok (.iadd, 1) := gq_0 db00e_50 eb_35
theorem d_X12_unfold_220 : decode prog_14_method_25_code 220 = .ok (.iaload, 1) := gq_1 db00e_50 eb_37
theorem d_X12_unfold_221 : decode prog_14_method_25_code 221 = .ok (.goto 4, 3) := gq_2 db00e_50 eb_20
theorem d_X12_unfold_224 : decode prog_14_method_25_code 224 = .ok (.iconst 0, 1) := gq_3 db00e_50 eb_21
theorem d_X12_unfold_225 : decode prog_14_method_25_code 225 = .ok (.iastore, 1) := gq_4 db00e_50 eb_38
theorem d_X12_unfold_226 : decode prog_14_method_25_code 226 = .ok (.aload_n 0, 1) := gq_5 db00e_50 eb_0
theorem d_X12_unfold_227 : decode prog_14_method_25_code 227 = .ok (.dup, 1) := gq_6 db00e_50 eb_46
theorem d_X12_unfold_228 : decode prog_14_method_25_code 228 = .ok (.getfield 410, 3) := gq_7 db00e_50 eb_986
theorem d_X12_unfold_231 : decode prog_14_method_25_code 231 = .ok (.iconst 1, 1) := gq_8 db00e_50 eb_19
theorem d_X12_unfold_232 : decode prog_14_method_25_code 232 = .ok (.iadd, 1) := gq_9 db00e_50 eb_35
theorem d_X12_unfold_233 : decode prog_14_method_25_code 233 = .ok (.putfield 410, 3) := gq_10 db00e_50 eb_994
theorem d_X12_unfold_236 : decode prog_14_method_25_code 236 = .ok (.aload_n 0, 1) := gq_11 db00e_50 eb_0
theorem d_X12_unfold_237 : decode prog_14_method_25_code 237 = .ok (.dup, 1) := gq_12 db00e_50 eb_46
theorem d_X12_unfold_238 : decode prog_14_method_25_code 238 = .ok (.getfield 403, 3) := gq_13 db00e_50 eb_979
theorem d_X12_unfold_241 : decode prog_14_method_25_code 241 = .ok (.iload_n 3, 1) := gq_14 db00e_50 eb_29
theorem d_X12_unfold_242 : decode prog_14_method_25_code 242 = .ok (.iconst 3, 1) := gq_15 db00e_50 eb_54
theorem d_X12_unfold_243 : decode prog_14_method_25_code 243 = .ok (.if_icmp .ne 7, 3) := gq_16 db00e_50 eb_135
theorem d_X12_unfold_246 : decode prog_14_method_25_code 246 = .ok (.iconst 1, 1) := gq_17 db00e_50 eb_19
theorem d_X12_unfold_247 : decode prog_14_method_25_code 247 = .ok (.goto 13, 3) := gq_18 db00e_50 eb_139
theorem d_X12_unfold_250 : decode prog_14_method_25_code 250 = .ok (.iload_n 3, 1) := gq_19 db00e_50 eb_29
theorem d_X12_unfold_251 : decode prog_14_method_25_code 251 = .ok (.iconst 2, 1) := gq_20 db00e_50 eb_10
theorem d_X12_unfold_252 : decode prog_14_method_25_code 252 = .ok (.if_icmp .ne 7, 3) := gq_21 db00e_50 eb_135
theorem d_X12_unfold_255 : decode prog_14_method_25_code 255 = .ok (.iconst 3, 1) := gq_22 db00e_50 eb_54
theorem d_X12_unfold_256 : decode prog_14_method_25_code 256 = .ok (.goto 4, 3) := gq_23 db00e_50 eb_20
theorem db00e_51 : Pf_ prog_14_method_25_code [(259, [0x05]), (260, [0x60]), (261, [0xb5, 0x01, 0x93]), (264, [0xa7, 0xfe, 0xfd]), (267, [0x04]), (268, [0xac])] := pf_ok prog_14_method_25_code _ 259 (by decide +kernel)
theorem d_X12_unfold_259 : decode prog_14_method_25_code 259 = .ok (.iconst 2, 1) := gq_0 db00e_51 eb_10
theorem d_X12_unfold_260 : decode prog_14_method_25_code 260 = .ok (.iadd, 1) := gq_1 db00e_51 eb_35
theorem d_X12_unfold_261 : decode prog_14_method_25_code 261 = .ok (.putfield 403, 3) := gq_2 db00e_51 eb_978
theorem d_X12_unfold_264 : decode prog_14_method_25_code 264 = .ok (.goto (-259), 3) := gq_3 db00e_51 eb_995
theorem d_X12_unfold_267 : decode prog_14_method_25_code 267 = .ok (.iconst 1, 1) := gq_4 db00e_51 eb_19
theorem d_X12_unfold_268 : decode prog_14_method_25_code 268 = .ok (.ireturn, 1) := gq_5 db00e_51 eb_15
theorem db00e_52 : Pf_ prog_14_method_26_code [(0, [0x2a]), (1, [0xb4, 0x01, 0x9d]), (4, [0x10, 0x0c]), (6, [0x9f, 0x00, 0x0c]), (9, [0x2a]), (10, [0x03]), (11, [0xb6, 0x01, 0xa0]), (14, [0x02]), (15, [0x9f, 0x00, 0x05]), (18, [0x02]), (19, [0xac]), (20, [0x2a]), (21, [0x03]), (22, [0xb5, 0x01, 0x9a]), (25, [0x2a]), (26, [0x03]), (27, [0x04]), (28, [0xb6, 0x01, 0x96]), (31, [0x9a, 0x00, 0x05]), (34, [0x02]), (35, [0xac]), (36, [0x2a]), (37, [0xb4, 0x00, 0x5d]), (40, [0x2a])] := pf_ok prog_14_method_26_code _ 0 (by decide +kernel)
theorem d_X12_beat_0 : decode prog_14_method_26_code 0 = .ok (.aload_n 0, 1) := gq_0 db00e_52 eb_0
theorem d_X12_beat_1 : decode prog_14_method_26_code 1 = .ok (.getfield 413, 3) := gq_1 db00e_52 eb_987
theorem d_X12_beat_4 : decode prog_14_method_26_code 4 = .ok (.bipush 12, 2) := gq_2 db00e_52 eb_4
theorem d_X12_beat_6 : decode prog_14_method_26_code 6 = .ok (.if_icmp .eq 12, 3) := gq_3 db00e_52 eb_531
theorem d_X12_beat_9 : decode prog_14_method_26_code 9 = .ok (.aload_n 0, 1) := gq_4 db00e_52 eb_0
theorem d_X12_beat_10 : decode prog_14_method_26_code 10 = .ok (.iconst 0, 1) := gq_5 db00e_52 eb_21
theorem d_X12_beat_11 : decode prog_14_method_26_code 11 = .ok (.invokevirtual 416, 3) := gq_6 db00e_52 eb_753
theorem d_X12_beat_14 : decode prog_14_method_26_code 14 = .ok (.iconst (-1), 1) := gq_7 db00e_52 eb_26
theorem d_X12_beat_15 : decode prog_14_method_26_code 15 = .ok (.if_icmp .eq 5, 3) := gq_8 db00e_52 eb_120
theorem d_X12_beat_18 : decode prog_14_method_26_code 18 = .ok (.iconst (-1), 1) := gq_9 db00e_52 eb_26
theorem d_X12_beat_19 : decode prog_14_method_26_code 19 = .ok (.ireturn, 1) := gq_10 db00e_52 eb_15
theorem d_X12_beat_20 : decode prog_14_method_26_code 20 = .ok (.aload_n 0, 1) := gq_11 db00e_52 eb_0
theorem d_X12_beat_21 : decode prog_14_method_26_code 21 = .ok (.iconst 0, 1) := gq_12 db00e_52 eb_21
theorem d_X12_beat_22 : decode prog_14_method_26_code 22 = .ok (.putfield 410, 3) := gq_13 db00e_52 eb_994
theorem d_X12_beat_25 : decode prog_14_method_26_code 25 = .ok (.aload_n 0, 1) := gq_14 db00e_52 eb_0
theorem d_X12_beat_26 : decode prog_14_method_26_code 26 = .ok (.iconst 0, 1) := gq_15 db00e_52 eb_21
theorem d_X12_beat_27 : decode prog_14_method_26_code 27 = .ok (.iconst 1, 1) := gq_16 db00e_52 eb_19
theorem d_X12_beat_28 : decode prog_14_method_26_code 28 = .ok (.invokevirtual 406, 3) := gq_17 db00e_52 eb_983
theorem d_X12_beat_31 : decode prog_14_method_26_code 31 = .ok (.ifCond .ne 5, 3) := gq_18 db00e_52 eb_150
theorem d_X12_beat_34 : decode prog_14_method_26_code 34 = .ok (.iconst (-1), 1) := gq_19 db00e_52 eb_26
theorem d_X12_beat_35 : decode prog_14_method_26_code 35 = .ok (.ireturn, 1) := gq_20 db00e_52 eb_15
theorem d_X12_beat_36 : decode prog_14_method_26_code 36 = .ok (.aload_n 0, 1) := gq_21 db00e_52 eb_0
theorem d_X12_beat_37 : decode prog_14_method_26_code 37 = .ok (.getfield 93, 3) := gq_22 db00e_52 eb_996
theorem d_X12_beat_40 : decode prog_14_method_26_code 40 = .ok (.aload_n 0, 1) := gq_23 db00e_52 eb_0
theorem db00e_53 : Pf_ prog_14_method_26_code [(41, [0xb4, 0x01, 0x9d]), (44, [0x2a]), (45, [0xb4, 0x01, 0x9a]), (48, [0x4f]), (49, [0x2a]), (50, [0x59]), (51, [0xb4, 0x01, 0x9d]), (54, [0x04]), (55, [0x60]), (56, [0xb5, 0x01, 0x9d]), (59, [0x2a]), (60, [0x03]), (61, [0xb5, 0x01, 0x6a]), (64, [0x2a]), (65, [0xb4, 0x01, 0x9d]), (68, [0x04]), (69, [0x64]), (70, [0xac])] := pf_ok prog_14_method_26_code _ 41 (by decide +kernel)
theorem d_X12_beat_41 : decode prog_14_method_26_code 41 = .ok (.getfield 413, 3) := gq_0 db00e_53 eb_987
theorem d_X12_beat_44 : decode prog_14_method_26_code 44 = .ok (.aload_n 0, 1) := gq_1 db00e_53 eb_0
theorem d_X12_beat_45 : decode prog_14_method_26_code 45 = .ok (.getfield 410, 3) := gq_2 db00e_53 eb_986
theorem d_X12_beat_48 : decode prog_14_method_26_code 48 = .ok (.iastore, 1) := gq_3 db00e_53 eb_38
theorem d_X12_beat_49 : decode prog_14_method_26_code 49 = .ok (.aload_n 0, 1) := gq_4 db00e_53 eb_0
theorem d_X12_beat_50 : decode prog_14_method_26_code 50 = .ok (.dup, 1) := gq_5 db00e_53 eb_46
theorem d_X12_beat_51 : decode prog_14_method_26_code 51 = .ok (.getfield 413, 3) := gq_6 db00e_53 eb_987
theorem d_X12_beat_54 : decode prog_14_method_26_code 54 = .ok (.iconst 1, 1) := gq_7 db00e_53 eb_19
theorem d_X12_beat_55 : decode prog_14_method_26_code 55 = .ok (.iadd, 1) := gq_8 db00e_53 eb_35
theorem d_X12_beat_56 : decode prog_14_method_26_code 56 = .ok (.putfield 413, 3) := gq_9 db00e_53 eb_997
theorem d_X12_beat_59 : decode prog_14_method_26_code 59 = .ok (.aload_n 0, 1) := gq_10 db00e_53 eb_0
theorem d_X12_beat_60 : decode prog_14_method_26_code 60 = .ok (.iconst 0, 1) := gq_11 db00e_53 eb_21
theorem d_X12_beat_61 : decode prog_14_method_26_code 61 = .ok (.putfield 362, 3) := gq_12 db00e_53 eb_945
theorem d_X12_beat_64 : decode prog_14_method_26_code 64 = .ok (.aload_n 0, 1) := gq_13 db00e_53 eb_0
theorem d_X12_beat_65 : decode prog_14_method_26_code 65 = .ok (.getfield 413, 3) := gq_14 db00e_53 eb_987
theorem d_X12_beat_68 : decode prog_14_method_26_code 68 = .ok (.iconst 1, 1) := gq_15 db00e_53 eb_19
theorem d_X12_beat_69 : decode prog_14_method_26_code 69 = .ok (.isub, 1) := gq_16 db00e_53 eb_48
theorem d_X12_beat_70 : decode prog_14_method_26_code 70 = .ok (.ireturn, 1) := gq_17 db00e_53 eb_15
theorem db00e_54 : Pf_ prog_14_method_27_code [(0, [0x03]), (1, [0x3d]), (2, [0x11, 0x00, 0x96]), (5, [0x1b]), (6, [0x68]), (7, [0x3e]), (8, [0x1d]), (9, [0x11, 0x00, 0x96]), (12, [0x1b]), (13, [0x68]), (14, [0x2a]), (15, [0xb4, 0x00, 0x5d]), (18, [0x1b]), (19, [0x2e]), (20, [0x60]), (21, [0xa2, 0x00, 0x1b]), (24, [0x1c]), (25, [0x2a]), (26, [0xb4, 0x00, 0x60]), (29, [0x1d]), (30, [0x2e]), (31, [0x05]), (32, [0xa0, 0x00, 0x07]), (35, [0x04])] := pf_ok prog_14_method_27_code _ 0 (by decide +kernel)
theorem d_X12_pointsOf_0 : decode prog_14_method_27_code 0 = .ok (.iconst 0, 1) := gq_0 db00e_54 eb_21
theorem d_X12_pointsOf_1 : decode prog_14_method_27_code 1 = .ok (.istore_n 2, 1) := gq_1 db00e_54 eb_27
theorem d_X12_pointsOf_2 : decode prog_14_method_27_code 2 = .ok (.sipush 150, 3) := gq_2 db00e_54 eb_33
theorem d_X12_pointsOf_5 : decode prog_14_method_27_code 5 = .ok (.iload_n 1, 1) := gq_3 db00e_54 eb_9
theorem d_X12_pointsOf_6 : decode prog_14_method_27_code 6 = .ok (.imul, 1) := gq_4 db00e_54 eb_34
theorem d_X12_pointsOf_7 : decode prog_14_method_27_code 7 = .ok (.istore_n 3, 1) := gq_5 db00e_54 eb_28
theorem d_X12_pointsOf_8 : decode prog_14_method_27_code 8 = .ok (.iload_n 3, 1) := gq_6 db00e_54 eb_29
theorem d_X12_pointsOf_9 : decode prog_14_method_27_code 9 = .ok (.sipush 150, 3) := gq_7 db00e_54 eb_33
theorem d_X12_pointsOf_12 : decode prog_14_method_27_code 12 = .ok (.iload_n 1, 1) := gq_8 db00e_54 eb_9
theorem d_X12_pointsOf_13 : decode prog_14_method_27_code 13 = .ok (.imul, 1) := gq_9 db00e_54 eb_34
theorem d_X12_pointsOf_14 : decode prog_14_method_27_code 14 = .ok (.aload_n 0, 1) := gq_10 db00e_54 eb_0
theorem d_X12_pointsOf_15 : decode prog_14_method_27_code 15 = .ok (.getfield 93, 3) := gq_11 db00e_54 eb_996
theorem d_X12_pointsOf_18 : decode prog_14_method_27_code 18 = .ok (.iload_n 1, 1) := gq_12 db00e_54 eb_9
theorem d_X12_pointsOf_19 : decode prog_14_method_27_code 19 = .ok (.iaload, 1) := gq_13 db00e_54 eb_37
theorem d_X12_pointsOf_20 : decode prog_14_method_27_code 20 = .ok (.iadd, 1) := gq_14 db00e_54 eb_35
theorem d_X12_pointsOf_21 : decode prog_14_method_27_code 21 = .ok (.if_icmp .ge 27, 3) := gq_15 db00e_54 eb_336
theorem d_X12_pointsOf_24 : decode prog_14_method_27_code 24 = .ok (.iload_n 2, 1) := gq_16 db00e_54 eb_13
theorem d_X12_pointsOf_25 : decode prog_14_method_27_code 25 = .ok (.aload_n 0, 1) := gq_17 db00e_54 eb_0
theorem d_X12_pointsOf_26 : decode prog_14_method_27_code 26 = .ok (.getfield 96, 3) := gq_18 db00e_54 eb_989
theorem d_X12_pointsOf_29 : decode prog_14_method_27_code 29 = .ok (.iload_n 3, 1) := gq_19 db00e_54 eb_29
theorem d_X12_pointsOf_30 : decode prog_14_method_27_code 30 = .ok (.iaload, 1) := gq_20 db00e_54 eb_37
theorem d_X12_pointsOf_31 : decode prog_14_method_27_code 31 = .ok (.iconst 2, 1) := gq_21 db00e_54 eb_10
theorem d_X12_pointsOf_32 : decode prog_14_method_27_code 32 = .ok (.if_icmp .ne 7, 3) := gq_22 db00e_54 eb_135
theorem d_X12_pointsOf_35 : decode prog_14_method_27_code 35 = .ok (.iconst 1, 1) := gq_23 db00e_54 eb_19
theorem db00e_55 : Pf_ prog_14_method_27_code [(36, [0xa7, 0x00, 0x04]), (39, [0x03]), (40, [0x60]), (41, [0x3d]), (42, [0x84, 0x03, 0x01]), (45, [0xa7, 0xff, 0xdb]), (48, [0x1c]), (49, [0xac])] := pf_ok prog_14_method_27_code _ 36 (by decide +kernel)
theorem d_X12_pointsOf_36 : decode prog_14_method_27_code 36 = .ok (.goto 4, 3) := gq_0 db00e_55 eb_20
theorem d_X12_pointsOf_39 : decode prog_14_method_27_code 39 = .ok (.iconst 0, 1) := gq_1 db00e_55 eb_21
theorem d_X12_pointsOf_40 : decode prog_14_method_27_code 40 = .ok (.iadd, 1) := gq_2 db00e_55 eb_35
theorem d_X12_pointsOf_41 : decode prog_14_method_27_code 41 = .ok (.istore_n 2, 1) := gq_3 db00e_55 eb_27
theorem d_X12_pointsOf_42 : decode prog_14_method_27_code 42 = .ok (.iinc 3 1, 3) := gq_4 db00e_55 eb_42
theorem d_X12_pointsOf_45 : decode prog_14_method_27_code 45 = .ok (.goto (-37), 3) := gq_5 db00e_55 eb_428
theorem d_X12_pointsOf_48 : decode prog_14_method_27_code 48 = .ok (.iload_n 2, 1) := gq_6 db00e_55 eb_13
theorem d_X12_pointsOf_49 : decode prog_14_method_27_code 49 = .ok (.ireturn, 1) := gq_7 db00e_55 eb_15
theorem db00e_56 : Pf_ prog_14_method_28_code [(0, [0x1b]), (1, [0x03]), (2, [0x2a]), (3, [0xb4, 0x01, 0x9d]), (6, [0x04]), (7, [0x64]), (8, [0xb8, 0x01, 0x43]), (11, [0x99, 0x00, 0x0c]), (14, [0x1c]), (15, [0x03]), (16, [0x04]), (17, [0xb8, 0x01, 0x43]), (20, [0x9a, 0x00, 0x05]), (23, [0x02]), (24, [0xac]), (25, [0x1c]), (26, [0x9a, 0x00, 0x0c]), (29, [0x2a]), (30, [0xb4, 0x00, 0x5d]), (33, [0x1b]), (34, [0x2e]), (35, [0xa7, 0x00, 0x08]), (38, [0x2a]), (39, [0x1b])] := pf_ok prog_14_method_28_code _ 0 (by decide +kernel)
theorem d_X12_beaten_0 : decode prog_14_method_28_code 0 = .ok (.iload_n 1, 1) := gq_0 db00e_56 eb_9
theorem d_X12_beaten_1 : decode prog_14_method_28_code 1 = .ok (.iconst 0, 1) := gq_1 db00e_56 eb_21
theorem d_X12_beaten_2 : decode prog_14_method_28_code 2 = .ok (.aload_n 0, 1) := gq_2 db00e_56 eb_0
theorem d_X12_beaten_3 : decode prog_14_method_28_code 3 = .ok (.getfield 413, 3) := gq_3 db00e_56 eb_987
theorem d_X12_beaten_6 : decode prog_14_method_28_code 6 = .ok (.iconst 1, 1) := gq_4 db00e_56 eb_19
theorem d_X12_beaten_7 : decode prog_14_method_28_code 7 = .ok (.isub, 1) := gq_5 db00e_56 eb_48
theorem d_X12_beaten_8 : decode prog_14_method_28_code 8 = .ok (.invokestatic 323, 3) := gq_6 db00e_56 eb_913
theorem d_X12_beaten_11 : decode prog_14_method_28_code 11 = .ok (.ifCond .eq 12, 3) := gq_7 db00e_56 eb_50
theorem d_X12_beaten_14 : decode prog_14_method_28_code 14 = .ok (.iload_n 2, 1) := gq_8 db00e_56 eb_13
theorem d_X12_beaten_15 : decode prog_14_method_28_code 15 = .ok (.iconst 0, 1) := gq_9 db00e_56 eb_21
theorem d_X12_beaten_16 : decode prog_14_method_28_code 16 = .ok (.iconst 1, 1) := gq_10 db00e_56 eb_19
theorem d_X12_beaten_17 : decode prog_14_method_28_code 17 = .ok (.invokestatic 323, 3) := gq_11 db00e_56 eb_913
theorem d_X12_beaten_20 : decode prog_14_method_28_code 20 = .ok (.ifCond .ne 5, 3) := gq_12 db00e_56 eb_150
theorem d_X12_beaten_23 : decode prog_14_method_28_code 23 = .ok (.iconst (-1), 1) := gq_13 db00e_56 eb_26
theorem d_X12_beaten_24 : decode prog_14_method_28_code 24 = .ok (.ireturn, 1) := gq_14 db00e_56 eb_15
theorem d_X12_beaten_25 : decode prog_14_method_28_code 25 = .ok (.iload_n 2, 1) := gq_15 db00e_56 eb_13
theorem d_X12_beaten_26 : decode prog_14_method_28_code 26 = .ok (.ifCond .ne 12, 3) := gq_16 db00e_56 eb_686
theorem d_X12_beaten_29 : decode prog_14_method_28_code 29 = .ok (.aload_n 0, 1) := gq_17 db00e_56 eb_0
theorem d_X12_beaten_30 : decode prog_14_method_28_code 30 = .ok (.getfield 93, 3) := gq_18 db00e_56 eb_996
theorem d_X12_beaten_33 : decode prog_14_method_28_code 33 = .ok (.iload_n 1, 1) := gq_19 db00e_56 eb_9
theorem d_X12_beaten_34 : decode prog_14_method_28_code 34 = .ok (.iaload, 1) := gq_20 db00e_56 eb_37
theorem d_X12_beaten_35 : decode prog_14_method_28_code 35 = .ok (.goto 8, 3) := gq_21 db00e_56 eb_488
theorem d_X12_beaten_38 : decode prog_14_method_28_code 38 = .ok (.aload_n 0, 1) := gq_22 db00e_56 eb_0
theorem d_X12_beaten_39 : decode prog_14_method_28_code 39 = .ok (.iload_n 1, 1) := gq_23 db00e_56 eb_9
theorem db00e_57 : Pf_ prog_14_method_28_code [(40, [0xb6, 0x01, 0xa4]), (43, [0xac])] := pf_ok prog_14_method_28_code _ 40 (by decide +kernel)
theorem d_X12_beaten_40 : decode prog_14_method_28_code 40 = .ok (.invokevirtual 420, 3) := gq_0 db00e_57 eb_998
theorem d_X12_beaten_43 : decode prog_14_method_28_code 43 = .ok (.ireturn, 1) := gq_1 db00e_57 eb_15
theorem d_X12_isLetter_1 : decode prog_14_method_29_code 1 = .ok (.tableswitch 139 97 121 #[128, 139, 115, 117, 117, 139, 139, 117, 139, 139, 117, 139, 128, 117, 139, 117, 139, 139, 139, 115, 139, 139, 117, 128, 128], 115) := by decide +kernel
theorem db00e_58 : Pf_ prog_14_method_29_code [(0, [0x1a]), (116, [0x04]), (117, [0xac]), (118, [0x1b]), (119, [0x04]), (120, [0xa0, 0x00, 0x07]), (123, [0x04]), (124, [0xa7, 0x00, 0x04]), (127, [0x03]), (128, [0xac]), (129, [0x1b]), (130, [0x05]), (131, [0xa0, 0x00, 0x07]), (134, [0x04]), (135, [0xa7, 0x00, 0x04]), (138, [0x03]), (139, [0xac]), (140, [0x03]), (141, [0xac])] := pf_ok prog_14_method_29_code _ 0 (by decide +kernel)
theorem d_X12_isLetter_0 : decode prog_14_method_29_code 0 = .ok (.iload_n 0, 1) := gq_0 db00e_58 eb_8
theorem d_X12_isLetter_116 : decode prog_14_method_29_code 116 = .ok (.iconst 1, 1) := gq_1 db00e_58 eb_19
theorem d_X12_isLetter_117 : decode prog_14_method_29_code 117 = .ok (.ireturn, 1) := gq_2 db00e_58 eb_15
theorem d_X12_isLetter_118 : decode prog_14_method_29_code 118 = .ok (.iload_n 1, 1) := gq_3 db00e_58 eb_9
theorem d_X12_isLetter_119 : decode prog_14_method_29_code 119 = .ok (.iconst 1, 1) := gq_4 db00e_58 eb_19
theorem d_X12_isLetter_120 : decode prog_14_method_29_code 120 = .ok (.if_icmp .ne 7, 3) := gq_5 db00e_58 eb_135
theorem d_X12_isLetter_123 : decode prog_14_method_29_code 123 = .ok (.iconst 1, 1) := gq_6 db00e_58 eb_19
theorem d_X12_isLetter_124 : decode prog_14_method_29_code 124 = .ok (.goto 4, 3) := gq_7 db00e_58 eb_20
theorem d_X12_isLetter_127 : decode prog_14_method_29_code 127 = .ok (.iconst 0, 1) := gq_8 db00e_58 eb_21
theorem d_X12_isLetter_128 : decode prog_14_method_29_code 128 = .ok (.ireturn, 1) := gq_9 db00e_58 eb_15
theorem d_X12_isLetter_129 : decode prog_14_method_29_code 129 = .ok (.iload_n 1, 1) := gq_10 db00e_58 eb_9
theorem d_X12_isLetter_130 : decode prog_14_method_29_code 130 = .ok (.iconst 2, 1) := gq_11 db00e_58 eb_10
theorem d_X12_isLetter_131 : decode prog_14_method_29_code 131 = .ok (.if_icmp .ne 7, 3) := gq_12 db00e_58 eb_135
theorem d_X12_isLetter_134 : decode prog_14_method_29_code 134 = .ok (.iconst 1, 1) := gq_13 db00e_58 eb_19
theorem d_X12_isLetter_135 : decode prog_14_method_29_code 135 = .ok (.goto 4, 3) := gq_14 db00e_58 eb_20
theorem d_X12_isLetter_138 : decode prog_14_method_29_code 138 = .ok (.iconst 0, 1) := gq_15 db00e_58 eb_21
theorem d_X12_isLetter_139 : decode prog_14_method_29_code 139 = .ok (.ireturn, 1) := gq_16 db00e_58 eb_15
theorem d_X12_isLetter_140 : decode prog_14_method_29_code 140 = .ok (.iconst 0, 1) := gq_17 db00e_58 eb_21
theorem d_X12_isLetter_141 : decode prog_14_method_29_code 141 = .ok (.ireturn, 1) := gq_18 db00e_58 eb_15
theorem db00e_59 : Pf_ prog_14_method_30_code [(0, [0x2a]), (1, [0xb4, 0x01, 0x8d]), (4, [0x10, 0x06]), (6, [0xa0, 0x00, 0x09]), (9, [0x2a]), (10, [0xb6, 0x01, 0x7d]), (13, [0x03]), (14, [0xac]), (15, [0x2a]), (16, [0x59]), (17, [0xb4, 0x01, 0x8d]), (20, [0x04]), (21, [0x60]), (22, [0xb5, 0x01, 0x8d]), (25, [0x2a]), (26, [0x59]), (27, [0xb4, 0x01, 0x6d]), (30, [0x04]), (31, [0x60]), (32, [0xb5, 0x01, 0x6d]), (35, [0x04]), (36, [0xac])] := pf_ok prog_14_method_30_code _ 0 (by decide +kernel)
theorem d_X12_opens_0 : decode prog_14_method_30_code 0 = .ok (.aload_n 0, 1) := gq_0 db00e_59 eb_0
theorem d_X12_opens_1 : decode prog_14_method_30_code 1 = .ok (.getfield 397, 3) := gq_1 db00e_59 eb_974
theorem d_X12_opens_4 : decode prog_14_method_30_code 4 = .ok (.bipush 6, 2) := gq_2 db00e_59 eb_14
theorem d_X12_opens_6 : decode prog_14_method_30_code 6 = .ok (.if_icmp .ne 9, 3) := gq_3 db00e_59 eb_158
theorem d_X12_opens_9 : decode prog_14_method_30_code 9 = .ok (.aload_n 0, 1) := gq_4 db00e_59 eb_0
theorem d_X12_opens_10 : decode prog_14_method_30_code 10 = .ok (.invokevirtual 381, 3) := gq_5 db00e_59 eb_958
theorem d_X12_opens_13 : decode prog_14_method_30_code 13 = .ok (.iconst 0, 1) := gq_6 db00e_59 eb_21
theorem d_X12_opens_14 : decode prog_14_method_30_code 14 = .ok (.ireturn, 1) := gq_7 db00e_59 eb_15
theorem d_X12_opens_15 : decode prog_14_method_30_code 15 = .ok (.aload_n 0, 1) := gq_8 db00e_59 eb_0
theorem d_X12_opens_16 : decode prog_14_method_30_code 16 = .ok (.dup, 1) := gq_9 db00e_59 eb_46
theorem d_X12_opens_17 : decode prog_14_method_30_code 17 = .ok (.getfield 397, 3) := gq_10 db00e_59 eb_974
theorem d_X12_opens_20 : decode prog_14_method_30_code 20 = .ok (.iconst 1, 1) := gq_11 db00e_59 eb_19
theorem d_X12_opens_21 : decode prog_14_method_30_code 21 = .ok (.iadd, 1) := gq_12 db00e_59 eb_35
theorem d_X12_opens_22 : decode prog_14_method_30_code 22 = .ok (.putfield 397, 3) := gq_13 db00e_59 eb_976
theorem d_X12_opens_25 : decode prog_14_method_30_code 25 = .ok (.aload_n 0, 1) := gq_14 db00e_59 eb_0
theorem d_X12_opens_26 : decode prog_14_method_30_code 26 = .ok (.dup, 1) := gq_15 db00e_59 eb_46
theorem d_X12_opens_27 : decode prog_14_method_30_code 27 = .ok (.getfield 365, 3) := gq_16 db00e_59 eb_948
theorem d_X12_opens_30 : decode prog_14_method_30_code 30 = .ok (.iconst 1, 1) := gq_17 db00e_59 eb_19
theorem d_X12_opens_31 : decode prog_14_method_30_code 31 = .ok (.iadd, 1) := gq_18 db00e_59 eb_35
theorem d_X12_opens_32 : decode prog_14_method_30_code 32 = .ok (.putfield 365, 3) := gq_19 db00e_59 eb_949
theorem d_X12_opens_35 : decode prog_14_method_30_code 35 = .ok (.iconst 1, 1) := gq_20 db00e_59 eb_19
theorem d_X12_opens_36 : decode prog_14_method_30_code 36 = .ok (.ireturn, 1) := gq_21 db00e_59 eb_15
theorem db00e_60 : Pf_ prog_14_method_31_code [(0, [0x2a]), (1, [0xb4, 0x01, 0x70]), (4, [0x02]), (5, [0xa0, 0x00, 0x0f]), (8, [0x2a]), (9, [0xb6, 0x01, 0x76]), (12, [0x1b]), (13, [0x9f, 0x00, 0x07]), (16, [0x2a]), (17, [0xb6, 0x01, 0x7d]), (20, [0x2a]), (21, [0x59]), (22, [0xb4, 0x01, 0x6d]), (25, [0x04]), (26, [0x60]), (27, [0xb5, 0x01, 0x6d]), (30, [0x2a]), (31, [0x59]), (32, [0xb4, 0x01, 0x8d]), (35, [0x04]), (36, [0x64]), (37, [0xb5, 0x01, 0x8d]), (40, [0xb1])] := pf_ok prog_14_method_31_code _ 0 (by decide +kernel)
theorem d_X12_closes_0 : decode prog_14_method_31_code 0 = .ok (.aload_n 0, 1) := gq_0 db00e_60 eb_0
theorem d_X12_closes_1 : decode prog_14_method_31_code 1 = .ok (.getfield 368, 3) := gq_1 db00e_60 eb_950
theorem d_X12_closes_4 : decode prog_14_method_31_code 4 = .ok (.iconst (-1), 1) := gq_2 db00e_60 eb_26
theorem d_X12_closes_5 : decode prog_14_method_31_code 5 = .ok (.if_icmp .ne 15, 3) := gq_3 db00e_60 eb_364
theorem d_X12_closes_8 : decode prog_14_method_31_code 8 = .ok (.aload_n 0, 1) := gq_4 db00e_60 eb_0
theorem d_X12_closes_9 : decode prog_14_method_31_code 9 = .ok (.invokevirtual 374, 3) := gq_5 db00e_60 eb_955
theorem d_X12_closes_12 : decode prog_14_method_31_code 12 = .ok (.iload_n 1, 1) := gq_6 db00e_60 eb_9
theorem d_X12_closes_13 : decode prog_14_method_31_code 13 = .ok (.if_icmp .eq 7, 3) := gq_7 db00e_60 eb_539
theorem d_X12_closes_16 : decode prog_14_method_31_code 16 = .ok (.aload_n 0, 1) := gq_8 db00e_60 eb_0
theorem d_X12_closes_17 : decode prog_14_method_31_code 17 = .ok (.invokevirtual 381, 3) := gq_9 db00e_60 eb_958
theorem d_X12_closes_20 : decode prog_14_method_31_code 20 = .ok (.aload_n 0, 1) := gq_10 db00e_60 eb_0
theorem d_X12_closes_21 : decode prog_14_method_31_code 21 = .ok (.dup, 1) := gq_11 db00e_60 eb_46
theorem d_X12_closes_22 : decode prog_14_method_31_code 22 = .ok (.getfield 365, 3) := gq_12 db00e_60 eb_948
theorem d_X12_closes_25 : decode prog_14_method_31_code 25 = .ok (.iconst 1, 1) := gq_13 db00e_60 eb_19
theorem d_X12_closes_26 : decode prog_14_method_31_code 26 = .ok (.iadd, 1) := gq_14 db00e_60 eb_35
theorem d_X12_closes_27 : decode prog_14_method_31_code 27 = .ok (.putfield 365, 3) := gq_15 db00e_60 eb_949
theorem d_X12_closes_30 : decode prog_14_method_31_code 30 = .ok (.aload_n 0, 1) := gq_16 db00e_60 eb_0
theorem d_X12_closes_31 : decode prog_14_method_31_code 31 = .ok (.dup, 1) := gq_17 db00e_60 eb_46
theorem d_X12_closes_32 : decode prog_14_method_31_code 32 = .ok (.getfield 397, 3) := gq_18 db00e_60 eb_974
theorem d_X12_closes_35 : decode prog_14_method_31_code 35 = .ok (.iconst 1, 1) := gq_19 db00e_60 eb_19
theorem d_X12_closes_36 : decode prog_14_method_31_code 36 = .ok (.isub, 1) := gq_20 db00e_60 eb_48
theorem d_X12_closes_37 : decode prog_14_method_31_code 37 = .ok (.putfield 397, 3) := gq_21 db00e_60 eb_976
theorem d_X12_closes_40 : decode prog_14_method_31_code 40 = .ok (.return_, 1) := gq_22 db00e_60 eb_7
theorem db00e_61 : Pf_ prog_14_method_32_code [(0, [0x2a]), (1, [0xb6, 0x01, 0x76]), (4, [0x3c]), (5, [0x1b]), (6, [0x10, 0x5b]), (8, [0xa0, 0x00, 0x17]), (11, [0x2a]), (12, [0xb6, 0x01, 0xa7]), (15, [0x99, 0x00, 0x41]), (18, [0x2a]), (19, [0xb6, 0x01, 0xab]), (22, [0x2a]), (23, [0x10, 0x5d]), (25, [0xb6, 0x01, 0xae]), (28, [0xa7, 0x00, 0x34]), (31, [0x1b]), (32, [0x2a]), (33, [0xb4, 0x01, 0xb1]), (36, [0xb8, 0x01, 0xb4]), (39, [0x99, 0x00, 0x1a]), (42, [0x2a]), (43, [0x59]), (44, [0xb4, 0x01, 0x6d]), (47, [0x04])] := pf_ok prog_14_method_32_code _ 0 (by decide +kernel)
theorem d_X12_atom_0 : decode prog_14_method_32_code 0 = .ok (.aload_n 0, 1) := gq_0 db00e_61 eb_0
theorem d_X12_atom_1 : decode prog_14_method_32_code 1 = .ok (.invokevirtual 374, 3) := gq_1 db00e_61 eb_955
theorem d_X12_atom_4 : decode prog_14_method_32_code 4 = .ok (.istore_n 1, 1) := gq_2 db00e_61 eb_222
theorem d_X12_atom_5 : decode prog_14_method_32_code 5 = .ok (.iload_n 1, 1) := gq_3 db00e_61 eb_9
theorem d_X12_atom_6 : decode prog_14_method_32_code 6 = .ok (.bipush 91, 2) := gq_4 db00e_61 eb_540
theorem d_X12_atom_8 : decode prog_14_method_32_code 8 = .ok (.if_icmp .ne 23, 3) := gq_5 db00e_61 eb_999
theorem d_X12_atom_11 : decode prog_14_method_32_code 11 = .ok (.aload_n 0, 1) := gq_6 db00e_61 eb_0
theorem d_X12_atom_12 : decode prog_14_method_32_code 12 = .ok (.invokevirtual 423, 3) := gq_7 db00e_61 eb_755
theorem d_X12_atom_15 : decode prog_14_method_32_code 15 = .ok (.ifCond .eq 65, 3) := gq_8 db00e_61 eb_988
theorem d_X12_atom_18 : decode prog_14_method_32_code 18 = .ok (.aload_n 0, 1) := gq_9 db00e_61 eb_0
theorem d_X12_atom_19 : decode prog_14_method_32_code 19 = .ok (.invokevirtual 427, 3) := gq_10 db00e_61 eb_1000
theorem d_X12_atom_22 : decode prog_14_method_32_code 22 = .ok (.aload_n 0, 1) := gq_11 db00e_61 eb_0
theorem d_X12_atom_23 : decode prog_14_method_32_code 23 = .ok (.bipush 93, 2) := gq_12 db00e_61 eb_541
theorem d_X12_atom_25 : decode prog_14_method_32_code 25 = .ok (.invokevirtual 430, 3) := gq_13 db00e_61 eb_759
theorem d_X12_atom_28 : decode prog_14_method_32_code 28 = .ok (.goto 52, 3) := gq_14 db00e_61 eb_1001
theorem d_X12_atom_31 : decode prog_14_method_32_code 31 = .ok (.iload_n 1, 1) := gq_15 db00e_61 eb_9
theorem d_X12_atom_32 : decode prog_14_method_32_code 32 = .ok (.aload_n 0, 1) := gq_16 db00e_61 eb_0
theorem d_X12_atom_33 : decode prog_14_method_32_code 33 = .ok (.getfield 433, 3) := gq_17 db00e_61 eb_1002
theorem d_X12_atom_36 : decode prog_14_method_32_code 36 = .ok (.invokestatic 436, 3) := gq_18 db00e_61 eb_1003
theorem d_X12_atom_39 : decode prog_14_method_32_code 39 = .ok (.ifCond .eq 26, 3) := gq_19 db00e_61 eb_277
theorem d_X12_atom_42 : decode prog_14_method_32_code 42 = .ok (.aload_n 0, 1) := gq_20 db00e_61 eb_0
theorem d_X12_atom_43 : decode prog_14_method_32_code 43 = .ok (.dup, 1) := gq_21 db00e_61 eb_46
theorem d_X12_atom_44 : decode prog_14_method_32_code 44 = .ok (.getfield 365, 3) := gq_22 db00e_61 eb_948
theorem d_X12_atom_47 : decode prog_14_method_32_code 47 = .ok (.iconst 1, 1) := gq_23 db00e_61 eb_19
theorem db00e_62 : Pf_ prog_14_method_32_code [(48, [0x60]), (49, [0xb5, 0x01, 0x6d]), (52, [0x2a]), (53, [0x04]), (54, [0xb6, 0x01, 0x86]), (57, [0x2a]), (58, [0x1b]), (59, [0xb6, 0x01, 0x86]), (62, [0xa7, 0x00, 0x12]), (65, [0x2a]), (66, [0xb6, 0x01, 0x80]), (69, [0x3d]), (70, [0x2a]), (71, [0x03]), (72, [0xb6, 0x01, 0x86]), (75, [0x2a]), (76, [0x1c]), (77, [0xb6, 0x01, 0x86]), (80, [0xb1])] := pf_ok prog_14_method_32_code _ 48 (by decide +kernel)
theorem d_X12_atom_48 : decode prog_14_method_32_code 48 = .ok (.iadd, 1) := gq_0 db00e_62 eb_35
theorem d_X12_atom_49 : decode prog_14_method_32_code 49 = .ok (.putfield 365, 3) := gq_1 db00e_62 eb_949
theorem d_X12_atom_52 : decode prog_14_method_32_code 52 = .ok (.aload_n 0, 1) := gq_2 db00e_62 eb_0
theorem d_X12_atom_53 : decode prog_14_method_32_code 53 = .ok (.iconst 1, 1) := gq_3 db00e_62 eb_19
theorem d_X12_atom_54 : decode prog_14_method_32_code 54 = .ok (.invokevirtual 390, 3) := gq_4 db00e_62 eb_962
theorem d_X12_atom_57 : decode prog_14_method_32_code 57 = .ok (.aload_n 0, 1) := gq_5 db00e_62 eb_0
theorem d_X12_atom_58 : decode prog_14_method_32_code 58 = .ok (.iload_n 1, 1) := gq_6 db00e_62 eb_9
theorem d_X12_atom_59 : decode prog_14_method_32_code 59 = .ok (.invokevirtual 390, 3) := gq_7 db00e_62 eb_962
theorem d_X12_atom_62 : decode prog_14_method_32_code 62 = .ok (.goto 18, 3) := gq_8 db00e_62 eb_155
theorem d_X12_atom_65 : decode prog_14_method_32_code 65 = .ok (.aload_n 0, 1) := gq_9 db00e_62 eb_0
theorem d_X12_atom_66 : decode prog_14_method_32_code 66 = .ok (.invokevirtual 384, 3) := gq_10 db00e_62 eb_959
theorem d_X12_atom_69 : decode prog_14_method_32_code 69 = .ok (.istore_n 2, 1) := gq_11 db00e_62 eb_27
theorem d_X12_atom_70 : decode prog_14_method_32_code 70 = .ok (.aload_n 0, 1) := gq_12 db00e_62 eb_0
theorem d_X12_atom_71 : decode prog_14_method_32_code 71 = .ok (.iconst 0, 1) := gq_13 db00e_62 eb_21
theorem d_X12_atom_72 : decode prog_14_method_32_code 72 = .ok (.invokevirtual 390, 3) := gq_14 db00e_62 eb_962
theorem d_X12_atom_75 : decode prog_14_method_32_code 75 = .ok (.aload_n 0, 1) := gq_15 db00e_62 eb_0
theorem d_X12_atom_76 : decode prog_14_method_32_code 76 = .ok (.iload_n 2, 1) := gq_16 db00e_62 eb_13
theorem d_X12_atom_77 : decode prog_14_method_32_code 77 = .ok (.invokevirtual 390, 3) := gq_17 db00e_62 eb_962
theorem d_X12_atom_80 : decode prog_14_method_32_code 80 = .ok (.return_, 1) := gq_18 db00e_62 eb_7
theorem db00e_63 : Pf_ prog_14_method_33_code [(0, [0x2a]), (1, [0xb6, 0x01, 0xb8]), (4, [0x2a]), (5, [0xb4, 0x01, 0x70]), (8, [0x02]), (9, [0xa0, 0x00, 0x23]), (12, [0x2a]), (13, [0xb6, 0x01, 0x76]), (16, [0x10, 0x2a]), (18, [0xa0, 0x00, 0x1a]), (21, [0x2a]), (22, [0x59]), (23, [0xb4, 0x01, 0x6d]), (26, [0x04]), (27, [0x60]), (28, [0xb5, 0x01, 0x6d]), (31, [0x2a]), (32, [0xb6, 0x01, 0xb8]), (35, [0x2a]), (36, [0x10, 0x2a]), (38, [0xb6, 0x01, 0x86]), (41, [0xa7, 0xff, 0xdb]), (44, [0xb1])] := pf_ok prog_14_method_33_code _ 0 (by decide +kernel)
theorem d_X12_term_0 : decode prog_14_method_33_code 0 = .ok (.aload_n 0, 1) := gq_0 db00e_63 eb_0
theorem d_X12_term_1 : decode prog_14_method_33_code 1 = .ok (.invokevirtual 440, 3) := gq_1 db00e_63 eb_1004
theorem d_X12_term_4 : decode prog_14_method_33_code 4 = .ok (.aload_n 0, 1) := gq_2 db00e_63 eb_0
theorem d_X12_term_5 : decode prog_14_method_33_code 5 = .ok (.getfield 368, 3) := gq_3 db00e_63 eb_950
theorem d_X12_term_8 : decode prog_14_method_33_code 8 = .ok (.iconst (-1), 1) := gq_4 db00e_63 eb_26
theorem d_X12_term_9 : decode prog_14_method_33_code 9 = .ok (.if_icmp .ne 35, 3) := gq_5 db00e_63 eb_495
theorem d_X12_term_12 : decode prog_14_method_33_code 12 = .ok (.aload_n 0, 1) := gq_6 db00e_63 eb_0
theorem d_X12_term_13 : decode prog_14_method_33_code 13 = .ok (.invokevirtual 374, 3) := gq_7 db00e_63 eb_955
theorem d_X12_term_16 : decode prog_14_method_33_code 16 = .ok (.bipush 42, 2) := gq_8 db00e_63 eb_536
theorem d_X12_term_18 : decode prog_14_method_33_code 18 = .ok (.if_icmp .ne 26, 3) := gq_9 db00e_63 eb_279
theorem d_X12_term_21 : decode prog_14_method_33_code 21 = .ok (.aload_n 0, 1) := gq_10 db00e_63 eb_0
theorem d_X12_term_22 : decode prog_14_method_33_code 22 = .ok (.dup, 1) := gq_11 db00e_63 eb_46
theorem d_X12_term_23 : decode prog_14_method_33_code 23 = .ok (.getfield 365, 3) := gq_12 db00e_63 eb_948
theorem d_X12_term_26 : decode prog_14_method_33_code 26 = .ok (.iconst 1, 1) := gq_13 db00e_63 eb_19
theorem d_X12_term_27 : decode prog_14_method_33_code 27 = .ok (.iadd, 1) := gq_14 db00e_63 eb_35
theorem d_X12_term_28 : decode prog_14_method_33_code 28 = .ok (.putfield 365, 3) := gq_15 db00e_63 eb_949
theorem d_X12_term_31 : decode prog_14_method_33_code 31 = .ok (.aload_n 0, 1) := gq_16 db00e_63 eb_0
theorem d_X12_term_32 : decode prog_14_method_33_code 32 = .ok (.invokevirtual 440, 3) := gq_17 db00e_63 eb_1004
theorem d_X12_term_35 : decode prog_14_method_33_code 35 = .ok (.aload_n 0, 1) := gq_18 db00e_63 eb_0
theorem d_X12_term_36 : decode prog_14_method_33_code 36 = .ok (.bipush 42, 2) := gq_19 db00e_63 eb_536
theorem d_X12_term_38 : decode prog_14_method_33_code 38 = .ok (.invokevirtual 390, 3) := gq_20 db00e_63 eb_962
theorem d_X12_term_41 : decode prog_14_method_33_code 41 = .ok (.goto (-37), 3) := gq_21 db00e_63 eb_428
theorem d_X12_term_44 : decode prog_14_method_33_code 44 = .ok (.return_, 1) := gq_22 db00e_63 eb_7
theorem db00e_64 : Pf_ prog_14_method_34_code [(0, [0x2a]), (1, [0xb6, 0x01, 0xbb]), (4, [0x2a]), (5, [0xb6, 0x01, 0x76]), (8, [0x3c]), (9, [0x2a]), (10, [0xb4, 0x01, 0x70]), (13, [0x02]), (14, [0xa0, 0x00, 0x2a]), (17, [0x1b]), (18, [0x10, 0x2b]), (20, [0x9f, 0x00, 0x09]), (23, [0x1b]), (24, [0x10, 0x2d]), (26, [0xa0, 0x00, 0x1e]), (29, [0x2a]), (30, [0x59]), (31, [0xb4, 0x01, 0x6d]), (34, [0x04]), (35, [0x60]), (36, [0xb5, 0x01, 0x6d]), (39, [0x2a]), (40, [0xb6, 0x01, 0xbb]), (43, [0x2a])] := pf_ok prog_14_method_34_code _ 0 (by decide +kernel)
theorem d_X12_sum_0 : decode prog_14_method_34_code 0 = .ok (.aload_n 0, 1) := gq_0 db00e_64 eb_0
theorem d_X12_sum_1 : decode prog_14_method_34_code 1 = .ok (.invokevirtual 443, 3) := gq_1 db00e_64 eb_1005
theorem d_X12_sum_4 : decode prog_14_method_34_code 4 = .ok (.aload_n 0, 1) := gq_2 db00e_64 eb_0
theorem d_X12_sum_5 : decode prog_14_method_34_code 5 = .ok (.invokevirtual 374, 3) := gq_3 db00e_64 eb_955
theorem d_X12_sum_8 : decode prog_14_method_34_code 8 = .ok (.istore_n 1, 1) := gq_4 db00e_64 eb_222
theorem d_X12_sum_9 : decode prog_14_method_34_code 9 = .ok (.aload_n 0, 1) := gq_5 db00e_64 eb_0
theorem d_X12_sum_10 : decode prog_14_method_34_code 10 = .ok (.getfield 368, 3) := gq_6 db00e_64 eb_950
theorem d_X12_sum_13 : decode prog_14_method_34_code 13 = .ok (.iconst (-1), 1) := gq_7 db00e_64 eb_26
theorem d_X12_sum_14 : decode prog_14_method_34_code 14 = .ok (.if_icmp .ne 42, 3) := gq_8 db00e_64 eb_1006
theorem d_X12_sum_17 : decode prog_14_method_34_code 17 = .ok (.iload_n 1, 1) := gq_9 db00e_64 eb_9
theorem d_X12_sum_18 : decode prog_14_method_34_code 18 = .ok (.bipush 43, 2) := gq_10 db00e_64 eb_530
theorem d_X12_sum_20 : decode prog_14_method_34_code 20 = .ok (.if_icmp .eq 9, 3) := gq_11 db00e_64 eb_431
theorem d_X12_sum_23 : decode prog_14_method_34_code 23 = .ok (.iload_n 1, 1) := gq_12 db00e_64 eb_9
theorem d_X12_sum_24 : decode prog_14_method_34_code 24 = .ok (.bipush 45, 2) := gq_13 db00e_64 eb_532
theorem d_X12_sum_26 : decode prog_14_method_34_code 26 = .ok (.if_icmp .ne 30, 3) := gq_14 db00e_64 eb_252
theorem d_X12_sum_29 : decode prog_14_method_34_code 29 = .ok (.aload_n 0, 1) := gq_15 db00e_64 eb_0
theorem d_X12_sum_30 : decode prog_14_method_34_code 30 = .ok (.dup, 1) := gq_16 db00e_64 eb_46
theorem d_X12_sum_31 : decode prog_14_method_34_code 31 = .ok (.getfield 365, 3) := gq_17 db00e_64 eb_948
theorem d_X12_sum_34 : decode prog_14_method_34_code 34 = .ok (.iconst 1, 1) := gq_18 db00e_64 eb_19
theorem d_X12_sum_35 : decode prog_14_method_34_code 35 = .ok (.iadd, 1) := gq_19 db00e_64 eb_35
theorem d_X12_sum_36 : decode prog_14_method_34_code 36 = .ok (.putfield 365, 3) := gq_20 db00e_64 eb_949
theorem d_X12_sum_39 : decode prog_14_method_34_code 39 = .ok (.aload_n 0, 1) := gq_21 db00e_64 eb_0
theorem d_X12_sum_40 : decode prog_14_method_34_code 40 = .ok (.invokevirtual 443, 3) := gq_22 db00e_64 eb_1005
theorem d_X12_sum_43 : decode prog_14_method_34_code 43 = .ok (.aload_n 0, 1) := gq_23 db00e_64 eb_0
theorem db00e_65 : Pf_ prog_14_method_34_code [(44, [0x1b]), (45, [0xb6, 0x01, 0x86]), (48, [0x2a]), (49, [0xb6, 0x01, 0x76]), (52, [0x3c]), (53, [0xa7, 0xff, 0xd4]), (56, [0xb1])] := pf_ok prog_14_method_34_code _ 44 (by decide +kernel)
theorem d_X12_sum_44 : decode prog_14_method_34_code 44 = .ok (.iload_n 1, 1) := gq_0 db00e_65 eb_9
theorem d_X12_sum_45 : decode prog_14_method_34_code 45 = .ok (.invokevirtual 390, 3) := gq_1 db00e_65 eb_962
theorem d_X12_sum_48 : decode prog_14_method_34_code 48 = .ok (.aload_n 0, 1) := gq_2 db00e_65 eb_0
theorem d_X12_sum_49 : decode prog_14_method_34_code 49 = .ok (.invokevirtual 374, 3) := gq_3 db00e_65 eb_955
theorem d_X12_sum_52 : decode prog_14_method_34_code 52 = .ok (.istore_n 1, 1) := gq_4 db00e_65 eb_222
theorem d_X12_sum_53 : decode prog_14_method_34_code 53 = .ok (.goto (-44), 3) := gq_5 db00e_65 eb_1007
theorem d_X12_sum_56 : decode prog_14_method_34_code 56 = .ok (.return_, 1) := gq_6 db00e_65 eb_7
theorem db00e_66 : Pf_ prog_14_method_35_code [(0, [0x1a]), (1, [0x10, 0x3d]), (3, [0x9f, 0x00, 0x0f]), (6, [0x1a]), (7, [0x10, 0x3c]), (9, [0x9f, 0x00, 0x09]), (12, [0x1a]), (13, [0x10, 0x3e]), (15, [0xa0, 0x00, 0x07]), (18, [0x04]), (19, [0xa7, 0x00, 0x04]), (22, [0x03]), (23, [0xac])] := pf_ok prog_14_method_35_code _ 0 (by decide +kernel)
theorem d_X12_isSign_0 : decode prog_14_method_35_code 0 = .ok (.iload_n 0, 1) := gq_0 db00e_66 eb_8
theorem d_X12_isSign_1 : decode prog_14_method_35_code 1 = .ok (.bipush 61, 2) := gq_1 db00e_66 eb_522
theorem d_X12_isSign_3 : decode prog_14_method_35_code 3 = .ok (.if_icmp .eq 15, 3) := gq_2 db00e_66 eb_523
theorem d_X12_isSign_6 : decode prog_14_method_35_code 6 = .ok (.iload_n 0, 1) := gq_3 db00e_66 eb_8
theorem d_X12_isSign_7 : decode prog_14_method_35_code 7 = .ok (.bipush 60, 2) := gq_4 db00e_66 eb_290
theorem d_X12_isSign_9 : decode prog_14_method_35_code 9 = .ok (.if_icmp .eq 9, 3) := gq_5 db00e_66 eb_431
theorem d_X12_isSign_12 : decode prog_14_method_35_code 12 = .ok (.iload_n 0, 1) := gq_6 db00e_66 eb_8
theorem d_X12_isSign_13 : decode prog_14_method_35_code 13 = .ok (.bipush 62, 2) := gq_7 db00e_66 eb_524
theorem d_X12_isSign_15 : decode prog_14_method_35_code 15 = .ok (.if_icmp .ne 7, 3) := gq_8 db00e_66 eb_135
theorem d_X12_isSign_18 : decode prog_14_method_35_code 18 = .ok (.iconst 1, 1) := gq_9 db00e_66 eb_19
theorem d_X12_isSign_19 : decode prog_14_method_35_code 19 = .ok (.goto 4, 3) := gq_10 db00e_66 eb_20
theorem d_X12_isSign_22 : decode prog_14_method_35_code 22 = .ok (.iconst 0, 1) := gq_11 db00e_66 eb_21
theorem d_X12_isSign_23 : decode prog_14_method_35_code 23 = .ok (.ireturn, 1) := gq_12 db00e_66 eb_15
theorem db00e_67 : Pf_ prog_14_method_36_code [(0, [0x2a]), (1, [0xb4, 0x01, 0x70]), (4, [0x02]), (5, [0xa0, 0x00, 0x0a]), (8, [0x2a]), (9, [0xb6, 0x01, 0x76]), (12, [0xa7, 0x00, 0x04]), (15, [0x02]), (16, [0x3c]), (17, [0x1b]), (18, [0xb8, 0x01, 0xbe]), (21, [0x9a, 0x00, 0x08]), (24, [0x2a]), (25, [0xb6, 0x01, 0x7d]), (28, [0xb1]), (29, [0x2a]), (30, [0x59]), (31, [0xb4, 0x01, 0x6d]), (34, [0x04]), (35, [0x60]), (36, [0xb5, 0x01, 0x6d]), (39, [0x2a]), (40, [0xb6, 0x01, 0xab]), (43, [0x2a])] := pf_ok prog_14_method_36_code _ 0 (by decide +kernel)
theorem d_X12_compare_0 : decode prog_14_method_36_code 0 = .ok (.aload_n 0, 1) := gq_0 db00e_67 eb_0
theorem d_X12_compare_1 : decode prog_14_method_36_code 1 = .ok (.getfield 368, 3) := gq_1 db00e_67 eb_950
theorem d_X12_compare_4 : decode prog_14_method_36_code 4 = .ok (.iconst (-1), 1) := gq_2 db00e_67 eb_26
theorem d_X12_compare_5 : decode prog_14_method_36_code 5 = .ok (.if_icmp .ne 10, 3) := gq_3 db00e_67 eb_259
theorem d_X12_compare_8 : decode prog_14_method_36_code 8 = .ok (.aload_n 0, 1) := gq_4 db00e_67 eb_0
theorem d_X12_compare_9 : decode prog_14_method_36_code 9 = .ok (.invokevirtual 374, 3) := gq_5 db00e_67 eb_955
theorem d_X12_compare_12 : decode prog_14_method_36_code 12 = .ok (.goto 4, 3) := gq_6 db00e_67 eb_20
theorem d_X12_compare_15 : decode prog_14_method_36_code 15 = .ok (.iconst (-1), 1) := gq_7 db00e_67 eb_26
theorem d_X12_compare_16 : decode prog_14_method_36_code 16 = .ok (.istore_n 1, 1) := gq_8 db00e_67 eb_222
theorem d_X12_compare_17 : decode prog_14_method_36_code 17 = .ok (.iload_n 1, 1) := gq_9 db00e_67 eb_9
theorem d_X12_compare_18 : decode prog_14_method_36_code 18 = .ok (.invokestatic 446, 3) := gq_10 db00e_67 eb_1008
theorem d_X12_compare_21 : decode prog_14_method_36_code 21 = .ok (.ifCond .ne 8, 3) := gq_11 db00e_67 eb_525
theorem d_X12_compare_24 : decode prog_14_method_36_code 24 = .ok (.aload_n 0, 1) := gq_12 db00e_67 eb_0
theorem d_X12_compare_25 : decode prog_14_method_36_code 25 = .ok (.invokevirtual 381, 3) := gq_13 db00e_67 eb_958
theorem d_X12_compare_28 : decode prog_14_method_36_code 28 = .ok (.return_, 1) := gq_14 db00e_67 eb_7
theorem d_X12_compare_29 : decode prog_14_method_36_code 29 = .ok (.aload_n 0, 1) := gq_15 db00e_67 eb_0
theorem d_X12_compare_30 : decode prog_14_method_36_code 30 = .ok (.dup, 1) := gq_16 db00e_67 eb_46
theorem d_X12_compare_31 : decode prog_14_method_36_code 31 = .ok (.getfield 365, 3) := gq_17 db00e_67 eb_948
theorem d_X12_compare_34 : decode prog_14_method_36_code 34 = .ok (.iconst 1, 1) := gq_18 db00e_67 eb_19
theorem d_X12_compare_35 : decode prog_14_method_36_code 35 = .ok (.iadd, 1) := gq_19 db00e_67 eb_35
theorem d_X12_compare_36 : decode prog_14_method_36_code 36 = .ok (.putfield 365, 3) := gq_20 db00e_67 eb_949
theorem d_X12_compare_39 : decode prog_14_method_36_code 39 = .ok (.aload_n 0, 1) := gq_21 db00e_67 eb_0
theorem d_X12_compare_40 : decode prog_14_method_36_code 40 = .ok (.invokevirtual 427, 3) := gq_22 db00e_67 eb_1000
theorem d_X12_compare_43 : decode prog_14_method_36_code 43 = .ok (.aload_n 0, 1) := gq_23 db00e_67 eb_0
theorem db00e_68 : Pf_ prog_14_method_36_code [(44, [0x1b]), (45, [0xb6, 0x01, 0x86]), (48, [0xb1])] := pf_ok prog_14_method_36_code _ 44 (by decide +kernel)
theorem d_X12_compare_44 : decode prog_14_method_36_code 44 = .ok (.iload_n 1, 1) := gq_0 db00e_68 eb_9
theorem d_X12_compare_45 : decode prog_14_method_36_code 45 = .ok (.invokevirtual 390, 3) := gq_1 db00e_68 eb_962
theorem d_X12_compare_48 : decode prog_14_method_36_code 48 = .ok (.return_, 1) := gq_2 db00e_68 eb_7
theorem db00e_69 : Pf_ prog_14_method_37_code [(0, [0x2a]), (1, [0xb6, 0x01, 0x76]), (4, [0x3c]), (5, [0x1b]), (6, [0x10, 0x21]), (8, [0xa0, 0x00, 0x21]), (11, [0x2a]), (12, [0xb6, 0x01, 0xa7]), (15, [0x99, 0x00, 0x3d]), (18, [0x2a]), (19, [0xb6, 0x01, 0xc1]), (22, [0x2a]), (23, [0x59]), (24, [0xb4, 0x01, 0x8d]), (27, [0x04]), (28, [0x64]), (29, [0xb5, 0x01, 0x8d]), (32, [0x2a]), (33, [0x10, 0x21]), (35, [0xb6, 0x01, 0x86]), (38, [0xa7, 0x00, 0x26]), (41, [0x1b]), (42, [0x10, 0x28]), (44, [0xa0, 0x00, 0x18])] := pf_ok prog_14_method_37_code _ 0 (by decide +kernel)
theorem d_X12_unit_0 : decode prog_14_method_37_code 0 = .ok (.aload_n 0, 1) := gq_0 db00e_69 eb_0
theorem d_X12_unit_1 : decode prog_14_method_37_code 1 = .ok (.invokevirtual 374, 3) := gq_1 db00e_69 eb_955
theorem d_X12_unit_4 : decode prog_14_method_37_code 4 = .ok (.istore_n 1, 1) := gq_2 db00e_69 eb_222
theorem d_X12_unit_5 : decode prog_14_method_37_code 5 = .ok (.iload_n 1, 1) := gq_3 db00e_69 eb_9
theorem d_X12_unit_6 : decode prog_14_method_37_code 6 = .ok (.bipush 33, 2) := gq_4 db00e_69 eb_503
theorem d_X12_unit_8 : decode prog_14_method_37_code 8 = .ok (.if_icmp .ne 33, 3) := gq_5 db00e_69 eb_518
theorem d_X12_unit_11 : decode prog_14_method_37_code 11 = .ok (.aload_n 0, 1) := gq_6 db00e_69 eb_0
theorem d_X12_unit_12 : decode prog_14_method_37_code 12 = .ok (.invokevirtual 423, 3) := gq_7 db00e_69 eb_755
theorem d_X12_unit_15 : decode prog_14_method_37_code 15 = .ok (.ifCond .eq 61, 3) := gq_8 db00e_69 eb_1009
theorem d_X12_unit_18 : decode prog_14_method_37_code 18 = .ok (.aload_n 0, 1) := gq_9 db00e_69 eb_0
theorem d_X12_unit_19 : decode prog_14_method_37_code 19 = .ok (.invokevirtual 449, 3) := gq_10 db00e_69 eb_1010
theorem d_X12_unit_22 : decode prog_14_method_37_code 22 = .ok (.aload_n 0, 1) := gq_11 db00e_69 eb_0
theorem d_X12_unit_23 : decode prog_14_method_37_code 23 = .ok (.dup, 1) := gq_12 db00e_69 eb_46
theorem d_X12_unit_24 : decode prog_14_method_37_code 24 = .ok (.getfield 397, 3) := gq_13 db00e_69 eb_974
theorem d_X12_unit_27 : decode prog_14_method_37_code 27 = .ok (.iconst 1, 1) := gq_14 db00e_69 eb_19
theorem d_X12_unit_28 : decode prog_14_method_37_code 28 = .ok (.isub, 1) := gq_15 db00e_69 eb_48
theorem d_X12_unit_29 : decode prog_14_method_37_code 29 = .ok (.putfield 397, 3) := gq_16 db00e_69 eb_976
theorem d_X12_unit_32 : decode prog_14_method_37_code 32 = .ok (.aload_n 0, 1) := gq_17 db00e_69 eb_0
theorem d_X12_unit_33 : decode prog_14_method_37_code 33 = .ok (.bipush 33, 2) := gq_18 db00e_69 eb_503
theorem d_X12_unit_35 : decode prog_14_method_37_code 35 = .ok (.invokevirtual 390, 3) := gq_19 db00e_69 eb_962
theorem d_X12_unit_38 : decode prog_14_method_37_code 38 = .ok (.goto 38, 3) := gq_20 db00e_69 eb_940
theorem d_X12_unit_41 : decode prog_14_method_37_code 41 = .ok (.iload_n 1, 1) := gq_21 db00e_69 eb_9
theorem d_X12_unit_42 : decode prog_14_method_37_code 42 = .ok (.bipush 40, 2) := gq_22 db00e_69 eb_314
theorem d_X12_unit_44 : decode prog_14_method_37_code 44 = .ok (.if_icmp .ne 24, 3) := gq_23 db00e_69 eb_504
theorem db00e_70 : Pf_ prog_14_method_37_code [(47, [0x2a]), (48, [0xb6, 0x01, 0xa7]), (51, [0x99, 0x00, 0x19]), (54, [0x2a]), (55, [0x03]), (56, [0xb6, 0x01, 0xc4]), (59, [0x2a]), (60, [0x10, 0x29]), (62, [0xb6, 0x01, 0xae]), (65, [0xa7, 0x00, 0x0b]), (68, [0x2a]), (69, [0xb6, 0x01, 0xab]), (72, [0x2a]), (73, [0xb6, 0x01, 0xc8]), (76, [0xb1])] := pf_ok prog_14_method_37_code _ 47 (by decide +kernel)
theorem d_X12_unit_47 : decode prog_14_method_37_code 47 = .ok (.aload_n 0, 1) := gq_0 db00e_70 eb_0
theorem d_X12_unit_48 : decode prog_14_method_37_code 48 = .ok (.invokevirtual 423, 3) := gq_1 db00e_70 eb_755
theorem d_X12_unit_51 : decode prog_14_method_37_code 51 = .ok (.ifCond .eq 25, 3) := gq_2 db00e_70 eb_293
theorem d_X12_unit_54 : decode prog_14_method_37_code 54 = .ok (.aload_n 0, 1) := gq_3 db00e_70 eb_0
theorem d_X12_unit_55 : decode prog_14_method_37_code 55 = .ok (.iconst 0, 1) := gq_4 db00e_70 eb_21
theorem d_X12_unit_56 : decode prog_14_method_37_code 56 = .ok (.invokevirtual 452, 3) := gq_5 db00e_70 eb_1011
theorem d_X12_unit_59 : decode prog_14_method_37_code 59 = .ok (.aload_n 0, 1) := gq_6 db00e_70 eb_0
theorem d_X12_unit_60 : decode prog_14_method_37_code 60 = .ok (.bipush 41, 2) := gq_7 db00e_70 eb_476
theorem d_X12_unit_62 : decode prog_14_method_37_code 62 = .ok (.invokevirtual 430, 3) := gq_8 db00e_70 eb_759
theorem d_X12_unit_65 : decode prog_14_method_37_code 65 = .ok (.goto 11, 3) := gq_9 db00e_70 eb_562
theorem d_X12_unit_68 : decode prog_14_method_37_code 68 = .ok (.aload_n 0, 1) := gq_10 db00e_70 eb_0
theorem d_X12_unit_69 : decode prog_14_method_37_code 69 = .ok (.invokevirtual 427, 3) := gq_11 db00e_70 eb_1000
theorem d_X12_unit_72 : decode prog_14_method_37_code 72 = .ok (.aload_n 0, 1) := gq_12 db00e_70 eb_0
theorem d_X12_unit_73 : decode prog_14_method_37_code 73 = .ok (.invokevirtual 456, 3) := gq_13 db00e_70 eb_1012
theorem d_X12_unit_76 : decode prog_14_method_37_code 76 = .ok (.return_, 1) := gq_14 db00e_70 eb_7
theorem db00e_71 : Pf_ prog_14_method_38_code [(0, [0x1b]), (1, [0x99, 0x00, 0x0a]), (4, [0x2a]), (5, [0xb6, 0x01, 0xc8]), (8, [0xa7, 0x00, 0x07]), (11, [0x2a]), (12, [0xb6, 0x01, 0xc1]), (15, [0x2a]), (16, [0xb4, 0x01, 0x70]), (19, [0x02]), (20, [0xa0, 0x00, 0x23]), (23, [0x2a]), (24, [0xb6, 0x01, 0x76]), (27, [0x10, 0x26]), (29, [0xa0, 0x00, 0x1a]), (32, [0x2a]), (33, [0x59]), (34, [0xb4, 0x01, 0x6d]), (37, [0x04]), (38, [0x60]), (39, [0xb5, 0x01, 0x6d]), (42, [0x2a]), (43, [0xb6, 0x01, 0xc1]), (46, [0x2a])] := pf_ok prog_14_method_38_code _ 0 (by decide +kernel)
theorem d_X12_part_0 : decode prog_14_method_38_code 0 = .ok (.iload_n 1, 1) := gq_0 db00e_71 eb_9
theorem d_X12_part_1 : decode prog_14_method_38_code 1 = .ok (.ifCond .eq 10, 3) := gq_1 db00e_71 eb_202
theorem d_X12_part_4 : decode prog_14_method_38_code 4 = .ok (.aload_n 0, 1) := gq_2 db00e_71 eb_0
theorem d_X12_part_5 : decode prog_14_method_38_code 5 = .ok (.invokevirtual 456, 3) := gq_3 db00e_71 eb_1012
theorem d_X12_part_8 : decode prog_14_method_38_code 8 = .ok (.goto 7, 3) := gq_4 db00e_71 eb_203
theorem d_X12_part_11 : decode prog_14_method_38_code 11 = .ok (.aload_n 0, 1) := gq_5 db00e_71 eb_0
theorem d_X12_part_12 : decode prog_14_method_38_code 12 = .ok (.invokevirtual 449, 3) := gq_6 db00e_71 eb_1010
theorem d_X12_part_15 : decode prog_14_method_38_code 15 = .ok (.aload_n 0, 1) := gq_7 db00e_71 eb_0
theorem d_X12_part_16 : decode prog_14_method_38_code 16 = .ok (.getfield 368, 3) := gq_8 db00e_71 eb_950
theorem d_X12_part_19 : decode prog_14_method_38_code 19 = .ok (.iconst (-1), 1) := gq_9 db00e_71 eb_26
theorem d_X12_part_20 : decode prog_14_method_38_code 20 = .ok (.if_icmp .ne 35, 3) := gq_10 db00e_71 eb_495
theorem d_X12_part_23 : decode prog_14_method_38_code 23 = .ok (.aload_n 0, 1) := gq_11 db00e_71 eb_0
theorem d_X12_part_24 : decode prog_14_method_38_code 24 = .ok (.invokevirtual 374, 3) := gq_12 db00e_71 eb_955
theorem d_X12_part_27 : decode prog_14_method_38_code 27 = .ok (.bipush 38, 2) := gq_13 db00e_71 eb_517
theorem d_X12_part_29 : decode prog_14_method_38_code 29 = .ok (.if_icmp .ne 26, 3) := gq_14 db00e_71 eb_279
theorem d_X12_part_32 : decode prog_14_method_38_code 32 = .ok (.aload_n 0, 1) := gq_15 db00e_71 eb_0
theorem d_X12_part_33 : decode prog_14_method_38_code 33 = .ok (.dup, 1) := gq_16 db00e_71 eb_46
theorem d_X12_part_34 : decode prog_14_method_38_code 34 = .ok (.getfield 365, 3) := gq_17 db00e_71 eb_948
theorem d_X12_part_37 : decode prog_14_method_38_code 37 = .ok (.iconst 1, 1) := gq_18 db00e_71 eb_19
theorem d_X12_part_38 : decode prog_14_method_38_code 38 = .ok (.iadd, 1) := gq_19 db00e_71 eb_35
theorem d_X12_part_39 : decode prog_14_method_38_code 39 = .ok (.putfield 365, 3) := gq_20 db00e_71 eb_949
theorem d_X12_part_42 : decode prog_14_method_38_code 42 = .ok (.aload_n 0, 1) := gq_21 db00e_71 eb_0
theorem d_X12_part_43 : decode prog_14_method_38_code 43 = .ok (.invokevirtual 449, 3) := gq_22 db00e_71 eb_1010
theorem d_X12_part_46 : decode prog_14_method_38_code 46 = .ok (.aload_n 0, 1) := gq_23 db00e_71 eb_0
theorem db00e_72 : Pf_ prog_14_method_38_code [(47, [0x10, 0x26]), (49, [0xb6, 0x01, 0x86]), (52, [0xa7, 0xff, 0xdb]), (55, [0xb1])] := pf_ok prog_14_method_38_code _ 47 (by decide +kernel)
theorem d_X12_part_47 : decode prog_14_method_38_code 47 = .ok (.bipush 38, 2) := gq_0 db00e_72 eb_517
theorem d_X12_part_49 : decode prog_14_method_38_code 49 = .ok (.invokevirtual 390, 3) := gq_1 db00e_72 eb_962
theorem d_X12_part_52 : decode prog_14_method_38_code 52 = .ok (.goto (-37), 3) := gq_2 db00e_72 eb_428
theorem d_X12_part_55 : decode prog_14_method_38_code 55 = .ok (.return_, 1) := gq_3 db00e_72 eb_7
theorem db00e_73 : Pf_ prog_14_method_39_code [(0, [0x2a]), (1, [0x1b]), (2, [0xb6, 0x01, 0xcb]), (5, [0x2a]), (6, [0xb4, 0x01, 0x70]), (9, [0x02]), (10, [0xa0, 0x00, 0x24]), (13, [0x2a]), (14, [0xb6, 0x01, 0x76]), (17, [0x10, 0x7c]), (19, [0xa0, 0x00, 0x1b]), (22, [0x2a]), (23, [0x59]), (24, [0xb4, 0x01, 0x6d]), (27, [0x04]), (28, [0x60]), (29, [0xb5, 0x01, 0x6d]), (32, [0x2a]), (33, [0x03]), (34, [0xb6, 0x01, 0xcb]), (37, [0x2a]), (38, [0x10, 0x7c]), (40, [0xb6, 0x01, 0x86]), (43, [0xa7, 0xff, 0xda])] := pf_ok prog_14_method_39_code _ 0 (by decide +kernel)
theorem d_X12_condition_0 : decode prog_14_method_39_code 0 = .ok (.aload_n 0, 1) := gq_0 db00e_73 eb_0
theorem d_X12_condition_1 : decode prog_14_method_39_code 1 = .ok (.iload_n 1, 1) := gq_1 db00e_73 eb_9
theorem d_X12_condition_2 : decode prog_14_method_39_code 2 = .ok (.invokevirtual 459, 3) := gq_2 db00e_73 eb_1013
theorem d_X12_condition_5 : decode prog_14_method_39_code 5 = .ok (.aload_n 0, 1) := gq_3 db00e_73 eb_0
theorem d_X12_condition_6 : decode prog_14_method_39_code 6 = .ok (.getfield 368, 3) := gq_4 db00e_73 eb_950
theorem d_X12_condition_9 : decode prog_14_method_39_code 9 = .ok (.iconst (-1), 1) := gq_5 db00e_73 eb_26
theorem d_X12_condition_10 : decode prog_14_method_39_code 10 = .ok (.if_icmp .ne 36, 3) := gq_6 db00e_73 eb_254
theorem d_X12_condition_13 : decode prog_14_method_39_code 13 = .ok (.aload_n 0, 1) := gq_7 db00e_73 eb_0
theorem d_X12_condition_14 : decode prog_14_method_39_code 14 = .ok (.invokevirtual 374, 3) := gq_8 db00e_73 eb_955
theorem d_X12_condition_17 : decode prog_14_method_39_code 17 = .ok (.bipush 124, 2) := gq_9 db00e_73 eb_513
theorem d_X12_condition_19 : decode prog_14_method_39_code 19 = .ok (.if_icmp .ne 27, 3) := gq_10 db00e_73 eb_191
theorem d_X12_condition_22 : decode prog_14_method_39_code 22 = .ok (.aload_n 0, 1) := gq_11 db00e_73 eb_0
theorem d_X12_condition_23 : decode prog_14_method_39_code 23 = .ok (.dup, 1) := gq_12 db00e_73 eb_46
theorem d_X12_condition_24 : decode prog_14_method_39_code 24 = .ok (.getfield 365, 3) := gq_13 db00e_73 eb_948
theorem d_X12_condition_27 : decode prog_14_method_39_code 27 = .ok (.iconst 1, 1) := gq_14 db00e_73 eb_19
theorem d_X12_condition_28 : decode prog_14_method_39_code 28 = .ok (.iadd, 1) := gq_15 db00e_73 eb_35
theorem d_X12_condition_29 : decode prog_14_method_39_code 29 = .ok (.putfield 365, 3) := gq_16 db00e_73 eb_949
theorem d_X12_condition_32 : decode prog_14_method_39_code 32 = .ok (.aload_n 0, 1) := gq_17 db00e_73 eb_0
theorem d_X12_condition_33 : decode prog_14_method_39_code 33 = .ok (.iconst 0, 1) := gq_18 db00e_73 eb_21
theorem d_X12_condition_34 : decode prog_14_method_39_code 34 = .ok (.invokevirtual 459, 3) := gq_19 db00e_73 eb_1013
theorem d_X12_condition_37 : decode prog_14_method_39_code 37 = .ok (.aload_n 0, 1) := gq_20 db00e_73 eb_0
theorem d_X12_condition_38 : decode prog_14_method_39_code 38 = .ok (.bipush 124, 2) := gq_21 db00e_73 eb_513
theorem d_X12_condition_40 : decode prog_14_method_39_code 40 = .ok (.invokevirtual 390, 3) := gq_22 db00e_73 eb_962
theorem d_X12_condition_43 : decode prog_14_method_39_code 43 = .ok (.goto (-38), 3) := gq_23 db00e_73 eb_238
theorem db00e_74 : Pf_ prog_14_method_39_code [(46, [0xb1])] := pf_ok prog_14_method_39_code _ 46 (by decide +kernel)
theorem d_X12_condition_46 : decode prog_14_method_39_code 46 = .ok (.return_, 1) := gq_0 db00e_74 eb_7
theorem db00e_75 : Pf_ prog_14_method_40_code [(0, [0x2a]), (1, [0xb4, 0x01, 0x70]), (4, [0x02]), (5, [0xa0, 0x00, 0x10]), (8, [0x2a]), (9, [0xb6, 0x01, 0x76]), (12, [0x10, 0x3f]), (14, [0x9f, 0x00, 0x07]), (17, [0x2a]), (18, [0xb6, 0x01, 0x7d]), (21, [0x2a]), (22, [0x59]), (23, [0xb4, 0x01, 0x6d]), (26, [0x04]), (27, [0x60]), (28, [0xb5, 0x01, 0x6d]), (31, [0x2a]), (32, [0x05]), (33, [0xb6, 0x01, 0x86]), (36, [0xb1])] := pf_ok prog_14_method_40_code _ 0 (by decide +kernel)
theorem d_X12_ask_0 : decode prog_14_method_40_code 0 = .ok (.aload_n 0, 1) := gq_0 db00e_75 eb_0
theorem d_X12_ask_1 : decode prog_14_method_40_code 1 = .ok (.getfield 368, 3) := gq_1 db00e_75 eb_950
theorem d_X12_ask_4 : decode prog_14_method_40_code 4 = .ok (.iconst (-1), 1) := gq_2 db00e_75 eb_26
theorem d_X12_ask_5 : decode prog_14_method_40_code 5 = .ok (.if_icmp .ne 16, 3) := gq_3 db00e_75 eb_79
theorem d_X12_ask_8 : decode prog_14_method_40_code 8 = .ok (.aload_n 0, 1) := gq_4 db00e_75 eb_0
theorem d_X12_ask_9 : decode prog_14_method_40_code 9 = .ok (.invokevirtual 374, 3) := gq_5 db00e_75 eb_955
theorem d_X12_ask_12 : decode prog_14_method_40_code 12 = .ok (.bipush 63, 2) := gq_6 db00e_75 eb_497
theorem d_X12_ask_14 : decode prog_14_method_40_code 14 = .ok (.if_icmp .eq 7, 3) := gq_7 db00e_75 eb_539
theorem d_X12_ask_17 : decode prog_14_method_40_code 17 = .ok (.aload_n 0, 1) := gq_8 db00e_75 eb_0
theorem d_X12_ask_18 : decode prog_14_method_40_code 18 = .ok (.invokevirtual 381, 3) := gq_9 db00e_75 eb_958
theorem d_X12_ask_21 : decode prog_14_method_40_code 21 = .ok (.aload_n 0, 1) := gq_10 db00e_75 eb_0
theorem d_X12_ask_22 : decode prog_14_method_40_code 22 = .ok (.dup, 1) := gq_11 db00e_75 eb_46
theorem d_X12_ask_23 : decode prog_14_method_40_code 23 = .ok (.getfield 365, 3) := gq_12 db00e_75 eb_948
theorem d_X12_ask_26 : decode prog_14_method_40_code 26 = .ok (.iconst 1, 1) := gq_13 db00e_75 eb_19
theorem d_X12_ask_27 : decode prog_14_method_40_code 27 = .ok (.iadd, 1) := gq_14 db00e_75 eb_35
theorem d_X12_ask_28 : decode prog_14_method_40_code 28 = .ok (.putfield 365, 3) := gq_15 db00e_75 eb_949
theorem d_X12_ask_31 : decode prog_14_method_40_code 31 = .ok (.aload_n 0, 1) := gq_16 db00e_75 eb_0
theorem d_X12_ask_32 : decode prog_14_method_40_code 32 = .ok (.iconst 2, 1) := gq_17 db00e_75 eb_10
theorem d_X12_ask_33 : decode prog_14_method_40_code 33 = .ok (.invokevirtual 390, 3) := gq_18 db00e_75 eb_962
theorem d_X12_ask_36 : decode prog_14_method_40_code 36 = .ok (.return_, 1) := gq_19 db00e_75 eb_7
theorem db00e_76 : Pf_ prog_14_method_41_code [(0, [0x2a]), (1, [0xb6, 0x01, 0x76]), (4, [0x3c]), (5, [0x2a]), (6, [0xb4, 0x01, 0xb1]), (9, [0x04]), (10, [0xa0, 0x00, 0x6f]), (13, [0x2a]), (14, [0x03]), (15, [0xb6, 0x01, 0xc4]), (18, [0x2a]), (19, [0xb6, 0x01, 0xce]), (22, [0x2a]), (23, [0xb4, 0x01, 0x70]), (26, [0x02]), (27, [0x9f, 0x00, 0x04]), (30, [0xb1]), (31, [0x2a]), (32, [0xb6, 0x01, 0x76]), (35, [0x3d]), (36, [0x1c]), (37, [0x10, 0x78]), (39, [0x9f, 0x00, 0x1a]), (42, [0x1c])] := pf_ok prog_14_method_41_code _ 0 (by decide +kernel)
theorem d_X12_clause_0 : decode prog_14_method_41_code 0 = .ok (.aload_n 0, 1) := gq_0 db00e_76 eb_0
theorem d_X12_clause_1 : decode prog_14_method_41_code 1 = .ok (.invokevirtual 374, 3) := gq_1 db00e_76 eb_955
theorem d_X12_clause_4 : decode prog_14_method_41_code 4 = .ok (.istore_n 1, 1) := gq_2 db00e_76 eb_222
theorem d_X12_clause_5 : decode prog_14_method_41_code 5 = .ok (.aload_n 0, 1) := gq_3 db00e_76 eb_0
theorem d_X12_clause_6 : decode prog_14_method_41_code 6 = .ok (.getfield 433, 3) := gq_4 db00e_76 eb_1002
theorem d_X12_clause_9 : decode prog_14_method_41_code 9 = .ok (.iconst 1, 1) := gq_5 db00e_76 eb_19
theorem d_X12_clause_10 : decode prog_14_method_41_code 10 = .ok (.if_icmp .ne 111, 3) := gq_6 db00e_76 eb_1014
theorem d_X12_clause_13 : decode prog_14_method_41_code 13 = .ok (.aload_n 0, 1) := gq_7 db00e_76 eb_0
theorem d_X12_clause_14 : decode prog_14_method_41_code 14 = .ok (.iconst 0, 1) := gq_8 db00e_76 eb_21
theorem d_X12_clause_15 : decode prog_14_method_41_code 15 = .ok (.invokevirtual 452, 3) := gq_9 db00e_76 eb_1011
theorem d_X12_clause_18 : decode prog_14_method_41_code 18 = .ok (.aload_n 0, 1) := gq_10 db00e_76 eb_0
theorem d_X12_clause_19 : decode prog_14_method_41_code 19 = .ok (.invokevirtual 462, 3) := gq_11 db00e_76 eb_1015
theorem d_X12_clause_22 : decode prog_14_method_41_code 22 = .ok (.aload_n 0, 1) := gq_12 db00e_76 eb_0
theorem d_X12_clause_23 : decode prog_14_method_41_code 23 = .ok (.getfield 368, 3) := gq_13 db00e_76 eb_950
theorem d_X12_clause_26 : decode prog_14_method_41_code 26 = .ok (.iconst (-1), 1) := gq_14 db00e_76 eb_26
theorem d_X12_clause_27 : decode prog_14_method_41_code 27 = .ok (.if_icmp .eq 4, 3) := gq_15 db00e_76 eb_1016
theorem d_X12_clause_30 : decode prog_14_method_41_code 30 = .ok (.return_, 1) := gq_16 db00e_76 eb_7
theorem d_X12_clause_31 : decode prog_14_method_41_code 31 = .ok (.aload_n 0, 1) := gq_17 db00e_76 eb_0
theorem d_X12_clause_32 : decode prog_14_method_41_code 32 = .ok (.invokevirtual 374, 3) := gq_18 db00e_76 eb_955
theorem d_X12_clause_35 : decode prog_14_method_41_code 35 = .ok (.istore_n 2, 1) := gq_19 db00e_76 eb_27
theorem d_X12_clause_36 : decode prog_14_method_41_code 36 = .ok (.iload_n 2, 1) := gq_20 db00e_76 eb_13
theorem d_X12_clause_37 : decode prog_14_method_41_code 37 = .ok (.bipush 120, 2) := gq_21 db00e_76 eb_1017
theorem d_X12_clause_39 : decode prog_14_method_41_code 39 = .ok (.if_icmp .eq 26, 3) := gq_22 db00e_76 eb_1018
theorem d_X12_clause_42 : decode prog_14_method_41_code 42 = .ok (.iload_n 2, 1) := gq_23 db00e_76 eb_13
theorem db00e_77 : Pf_ prog_14_method_41_code [(43, [0x10, 0x6e]), (45, [0x9f, 0x00, 0x14]), (48, [0x1c]), (49, [0x10, 0x72]), (51, [0x9f, 0x00, 0x0e]), (54, [0x1c]), (55, [0x10, 0x74]), (57, [0x9f, 0x00, 0x08]), (60, [0x2a]), (61, [0xb6, 0x01, 0x7d]), (64, [0xb1]), (65, [0x2a]), (66, [0x59]), (67, [0xb4, 0x01, 0x6d]), (70, [0x04]), (71, [0x60]), (72, [0xb5, 0x01, 0x6d]), (75, [0x2a]), (76, [0x03]), (77, [0xb6, 0x01, 0x86]), (80, [0x2a]), (81, [0x1c]), (82, [0x10, 0x78]), (84, [0xa0, 0x00, 0x07])] := pf_ok prog_14_method_41_code _ 43 (by decide +kernel)
theorem d_X12_clause_43 : decode prog_14_method_41_code 43 = .ok (.bipush 110, 2) := gq_0 db00e_77 eb_1019
theorem d_X12_clause_45 : decode prog_14_method_41_code 45 = .ok (.if_icmp .eq 20, 3) := gq_1 db00e_77 eb_1020
theorem d_X12_clause_48 : decode prog_14_method_41_code 48 = .ok (.iload_n 2, 1) := gq_2 db00e_77 eb_13
theorem d_X12_clause_49 : decode prog_14_method_41_code 49 = .ok (.bipush 114, 2) := gq_3 db00e_77 eb_1021
theorem d_X12_clause_51 : decode prog_14_method_41_code 51 = .ok (.if_icmp .eq 14, 3) := gq_4 db00e_77 eb_261
theorem d_X12_clause_54 : decode prog_14_method_41_code 54 = .ok (.iload_n 2, 1) := gq_5 db00e_77 eb_13
theorem d_X12_clause_55 : decode prog_14_method_41_code 55 = .ok (.bipush 116, 2) := gq_6 db00e_77 eb_1022
theorem d_X12_clause_57 : decode prog_14_method_41_code 57 = .ok (.if_icmp .eq 8, 3) := gq_7 db00e_77 eb_458
theorem d_X12_clause_60 : decode prog_14_method_41_code 60 = .ok (.aload_n 0, 1) := gq_8 db00e_77 eb_0
theorem d_X12_clause_61 : decode prog_14_method_41_code 61 = .ok (.invokevirtual 381, 3) := gq_9 db00e_77 eb_958
theorem d_X12_clause_64 : decode prog_14_method_41_code 64 = .ok (.return_, 1) := gq_10 db00e_77 eb_7
theorem d_X12_clause_65 : decode prog_14_method_41_code 65 = .ok (.aload_n 0, 1) := gq_11 db00e_77 eb_0
theorem d_X12_clause_66 : decode prog_14_method_41_code 66 = .ok (.dup, 1) := gq_12 db00e_77 eb_46
theorem d_X12_clause_67 : decode prog_14_method_41_code 67 = .ok (.getfield 365, 3) := gq_13 db00e_77 eb_948
theorem d_X12_clause_70 : decode prog_14_method_41_code 70 = .ok (.iconst 1, 1) := gq_14 db00e_77 eb_19
theorem d_X12_clause_71 : decode prog_14_method_41_code 71 = .ok (.iadd, 1) := gq_15 db00e_77 eb_35
theorem d_X12_clause_72 : decode prog_14_method_41_code 72 = .ok (.putfield 365, 3) := gq_16 db00e_77 eb_949
theorem d_X12_clause_75 : decode prog_14_method_41_code 75 = .ok (.aload_n 0, 1) := gq_17 db00e_77 eb_0
theorem d_X12_clause_76 : decode prog_14_method_41_code 76 = .ok (.iconst 0, 1) := gq_18 db00e_77 eb_21
theorem d_X12_clause_77 : decode prog_14_method_41_code 77 = .ok (.invokevirtual 390, 3) := gq_19 db00e_77 eb_962
theorem d_X12_clause_80 : decode prog_14_method_41_code 80 = .ok (.aload_n 0, 1) := gq_20 db00e_77 eb_0
theorem d_X12_clause_81 : decode prog_14_method_41_code 81 = .ok (.iload_n 2, 1) := gq_21 db00e_77 eb_13
theorem d_X12_clause_82 : decode prog_14_method_41_code 82 = .ok (.bipush 120, 2) := gq_22 db00e_77 eb_1017
theorem d_X12_clause_84 : decode prog_14_method_41_code 84 = .ok (.if_icmp .ne 7, 3) := gq_23 db00e_77 eb_135
theorem db00e_78 : Pf_ prog_14_method_41_code [(87, [0x03]), (88, [0xa7, 0x00, 0x18]), (91, [0x1c]), (92, [0x10, 0x6e]), (94, [0xa0, 0x00, 0x07]), (97, [0x04]), (98, [0xa7, 0x00, 0x0e]), (101, [0x1c]), (102, [0x10, 0x72]), (104, [0xa0, 0x00, 0x07]), (107, [0x05]), (108, [0xa7, 0x00, 0x04]), (111, [0x06]), (112, [0xb6, 0x01, 0x86]), (115, [0x2a]), (116, [0x06]), (117, [0xb6, 0x01, 0x86]), (120, [0xb1]), (121, [0x1b]), (122, [0x10, 0x21]), (124, [0x9f, 0x00, 0x0d]), (127, [0x1b]), (128, [0x10, 0x28]), (130, [0x9f, 0x00, 0x07])] := pf_ok prog_14_method_41_code _ 87 (by decide +kernel)
theorem d_X12_clause_87 : decode prog_14_method_41_code 87 = .ok (.iconst 0, 1) := gq_0 db00e_78 eb_21
theorem d_X12_clause_88 : decode prog_14_method_41_code 88 = .ok (.goto 24, 3) := gq_1 db00e_78 eb_1023
theorem d_X12_clause_91 : decode prog_14_method_41_code 91 = .ok (.iload_n 2, 1) := gq_2 db00e_78 eb_13
theorem d_X12_clause_92 : decode prog_14_method_41_code 92 = .ok (.bipush 110, 2) := gq_3 db00e_78 eb_1019
theorem d_X12_clause_94 : decode prog_14_method_41_code 94 = .ok (.if_icmp .ne 7, 3) := gq_4 db00e_78 eb_135
theorem d_X12_clause_97 : decode prog_14_method_41_code 97 = .ok (.iconst 1, 1) := gq_5 db00e_78 eb_19
theorem d_X12_clause_98 : decode prog_14_method_41_code 98 = .ok (.goto 14, 3) := gq_6 db00e_78 eb_991
theorem d_X12_clause_101 : decode prog_14_method_41_code 101 = .ok (.iload_n 2, 1) := gq_7 db00e_78 eb_13
theorem d_X12_clause_102 : decode prog_14_method_41_code 102 = .ok (.bipush 114, 2) := gq_8 db00e_78 eb_1021
theorem d_X12_clause_104 : decode prog_14_method_41_code 104 = .ok (.if_icmp .ne 7, 3) := gq_9 db00e_78 eb_135
theorem d_X12_clause_107 : decode prog_14_method_41_code 107 = .ok (.iconst 2, 1) := gq_10 db00e_78 eb_10
theorem d_X12_clause_108 : decode prog_14_method_41_code 108 = .ok (.goto 4, 3) := gq_11 db00e_78 eb_20
theorem d_X12_clause_111 : decode prog_14_method_41_code 111 = .ok (.iconst 3, 1) := gq_12 db00e_78 eb_54
theorem d_X12_clause_112 : decode prog_14_method_41_code 112 = .ok (.invokevirtual 390, 3) := gq_13 db00e_78 eb_962
theorem d_X12_clause_115 : decode prog_14_method_41_code 115 = .ok (.aload_n 0, 1) := gq_14 db00e_78 eb_0
theorem d_X12_clause_116 : decode prog_14_method_41_code 116 = .ok (.iconst 3, 1) := gq_15 db00e_78 eb_54
theorem d_X12_clause_117 : decode prog_14_method_41_code 117 = .ok (.invokevirtual 390, 3) := gq_16 db00e_78 eb_962
theorem d_X12_clause_120 : decode prog_14_method_41_code 120 = .ok (.return_, 1) := gq_17 db00e_78 eb_7
theorem d_X12_clause_121 : decode prog_14_method_41_code 121 = .ok (.iload_n 1, 1) := gq_18 db00e_78 eb_9
theorem d_X12_clause_122 : decode prog_14_method_41_code 122 = .ok (.bipush 33, 2) := gq_19 db00e_78 eb_503
theorem d_X12_clause_124 : decode prog_14_method_41_code 124 = .ok (.if_icmp .eq 13, 3) := gq_20 db00e_78 eb_147
theorem d_X12_clause_127 : decode prog_14_method_41_code 127 = .ok (.iload_n 1, 1) := gq_21 db00e_78 eb_9
theorem d_X12_clause_128 : decode prog_14_method_41_code 128 = .ok (.bipush 40, 2) := gq_22 db00e_78 eb_314
theorem d_X12_clause_130 : decode prog_14_method_41_code 130 = .ok (.if_icmp .eq 7, 3) := gq_23 db00e_78 eb_539
theorem db00e_79 : Pf_ prog_14_method_41_code [(133, [0x04]), (134, [0xa7, 0x00, 0x04]), (137, [0x03]), (138, [0x3d]), (139, [0x1c]), (140, [0x99, 0x00, 0x6c]), (143, [0x2a]), (144, [0xb4, 0x01, 0x73]), (147, [0x3e]), (148, [0x2a]), (149, [0xb6, 0x01, 0xab]), (152, [0x2a]), (153, [0xb4, 0x01, 0x70]), (156, [0x02]), (157, [0x9f, 0x00, 0x04]), (160, [0xb1]), (161, [0x2a]), (162, [0xb6, 0x01, 0x76]), (165, [0xb8, 0x01, 0xbe]), (168, [0x9a, 0x00, 0x50]), (171, [0x2a]), (172, [0xb4, 0x01, 0x73]), (175, [0x04]), (176, [0x64])] := pf_ok prog_14_method_41_code _ 133 (by decide +kernel)
theorem d_X12_clause_133 : decode prog_14_method_41_code 133 = .ok (.iconst 1, 1) := gq_0 db00e_79 eb_19
theorem d_X12_clause_134 : decode prog_14_method_41_code 134 = .ok (.goto 4, 3) := gq_1 db00e_79 eb_20
theorem d_X12_clause_137 : decode prog_14_method_41_code 137 = .ok (.iconst 0, 1) := gq_2 db00e_79 eb_21
theorem d_X12_clause_138 : decode prog_14_method_41_code 138 = .ok (.istore_n 2, 1) := gq_3 db00e_79 eb_27
theorem d_X12_clause_139 : decode prog_14_method_41_code 139 = .ok (.iload_n 2, 1) := gq_4 db00e_79 eb_13
theorem d_X12_clause_140 : decode prog_14_method_41_code 140 = .ok (.ifCond .eq 108, 3) := gq_5 db00e_79 eb_1024
theorem d_X12_clause_143 : decode prog_14_method_41_code 143 = .ok (.aload_n 0, 1) := gq_6 db00e_79 eb_0
theorem d_X12_clause_144 : decode prog_14_method_41_code 144 = .ok (.getfield 371, 3) := gq_7 db00e_79 eb_953
theorem d_X12_clause_147 : decode prog_14_method_41_code 147 = .ok (.istore_n 3, 1) := gq_8 db00e_79 eb_28
theorem d_X12_clause_148 : decode prog_14_method_41_code 148 = .ok (.aload_n 0, 1) := gq_9 db00e_79 eb_0
theorem d_X12_clause_149 : decode prog_14_method_41_code 149 = .ok (.invokevirtual 427, 3) := gq_10 db00e_79 eb_1000
theorem d_X12_clause_152 : decode prog_14_method_41_code 152 = .ok (.aload_n 0, 1) := gq_11 db00e_79 eb_0
theorem d_X12_clause_153 : decode prog_14_method_41_code 153 = .ok (.getfield 368, 3) := gq_12 db00e_79 eb_950
theorem d_X12_clause_156 : decode prog_14_method_41_code 156 = .ok (.iconst (-1), 1) := gq_13 db00e_79 eb_26
theorem d_X12_clause_157 : decode prog_14_method_41_code 157 = .ok (.if_icmp .eq 4, 3) := gq_14 db00e_79 eb_1016
theorem d_X12_clause_160 : decode prog_14_method_41_code 160 = .ok (.return_, 1) := gq_15 db00e_79 eb_7
theorem d_X12_clause_161 : decode prog_14_method_41_code 161 = .ok (.aload_n 0, 1) := gq_16 db00e_79 eb_0
theorem d_X12_clause_162 : decode prog_14_method_41_code 162 = .ok (.invokevirtual 374, 3) := gq_17 db00e_79 eb_955
theorem d_X12_clause_165 : decode prog_14_method_41_code 165 = .ok (.invokestatic 446, 3) := gq_18 db00e_79 eb_1008
theorem d_X12_clause_168 : decode prog_14_method_41_code 168 = .ok (.ifCond .ne 80, 3) := gq_19 db00e_79 eb_1025
theorem d_X12_clause_171 : decode prog_14_method_41_code 171 = .ok (.aload_n 0, 1) := gq_20 db00e_79 eb_0
theorem d_X12_clause_172 : decode prog_14_method_41_code 172 = .ok (.getfield 371, 3) := gq_21 db00e_79 eb_953
theorem d_X12_clause_175 : decode prog_14_method_41_code 175 = .ok (.iconst 1, 1) := gq_22 db00e_79 eb_19
theorem d_X12_clause_176 : decode prog_14_method_41_code 176 = .ok (.isub, 1) := gq_23 db00e_79 eb_48
theorem db00e_80 : Pf_ prog_14_method_41_code [(177, [0x36, 0x04]), (179, [0x15, 0x04]), (181, [0x1d]), (182, [0xa1, 0x00, 0x19]), (185, [0x2a]), (186, [0xb4, 0x00, 0x5a]), (189, [0x15, 0x04]), (191, [0x06]), (192, [0x60]), (193, [0x2a]), (194, [0xb4, 0x00, 0x5a]), (197, [0x15, 0x04]), (199, [0x2e]), (200, [0x4f]), (201, [0x84, 0x04, 0xff]), (204, [0xa7, 0xff, 0xe7]), (207, [0x2a]), (208, [0xb4, 0x00, 0x5a]), (211, [0x1d]), (212, [0x03]), (213, [0x4f]), (214, [0x2a]), (215, [0xb4, 0x00, 0x5a]), (218, [0x1d])] := pf_ok prog_14_method_41_code _ 177 (by decide +kernel)
theorem d_X12_clause_177 : decode prog_14_method_41_code 177 = .ok (.istore 4, 2) := gq_0 db00e_80 eb_133
theorem d_X12_clause_179 : decode prog_14_method_41_code 179 = .ok (.iload 4, 2) := gq_1 db00e_80 eb_76
theorem d_X12_clause_181 : decode prog_14_method_41_code 181 = .ok (.iload_n 3, 1) := gq_2 db00e_80 eb_29
theorem d_X12_clause_182 : decode prog_14_method_41_code 182 = .ok (.if_icmp .lt 25, 3) := gq_3 db00e_80 eb_1026
theorem d_X12_clause_185 : decode prog_14_method_41_code 185 = .ok (.aload_n 0, 1) := gq_4 db00e_80 eb_0
theorem d_X12_clause_186 : decode prog_14_method_41_code 186 = .ok (.getfield 90, 3) := gq_5 db00e_80 eb_952
theorem d_X12_clause_189 : decode prog_14_method_41_code 189 = .ok (.iload 4, 2) := gq_6 db00e_80 eb_76
theorem d_X12_clause_191 : decode prog_14_method_41_code 191 = .ok (.iconst 3, 1) := gq_7 db00e_80 eb_54
theorem d_X12_clause_192 : decode prog_14_method_41_code 192 = .ok (.iadd, 1) := gq_8 db00e_80 eb_35
theorem d_X12_clause_193 : decode prog_14_method_41_code 193 = .ok (.aload_n 0, 1) := gq_9 db00e_80 eb_0
theorem d_X12_clause_194 : decode prog_14_method_41_code 194 = .ok (.getfield 90, 3) := gq_10 db00e_80 eb_952
theorem d_X12_clause_197 : decode prog_14_method_41_code 197 = .ok (.iload 4, 2) := gq_11 db00e_80 eb_76
theorem d_X12_clause_199 : decode prog_14_method_41_code 199 = .ok (.iaload, 1) := gq_12 db00e_80 eb_37
theorem d_X12_clause_200 : decode prog_14_method_41_code 200 = .ok (.iastore, 1) := gq_13 db00e_80 eb_38
theorem d_X12_clause_201 : decode prog_14_method_41_code 201 = .ok (.iinc 4 (-1), 3) := gq_14 db00e_80 eb_404
theorem d_X12_clause_204 : decode prog_14_method_41_code 204 = .ok (.goto (-25), 3) := gq_15 db00e_80 eb_407
theorem d_X12_clause_207 : decode prog_14_method_41_code 207 = .ok (.aload_n 0, 1) := gq_16 db00e_80 eb_0
theorem d_X12_clause_208 : decode prog_14_method_41_code 208 = .ok (.getfield 90, 3) := gq_17 db00e_80 eb_952
theorem d_X12_clause_211 : decode prog_14_method_41_code 211 = .ok (.iload_n 3, 1) := gq_18 db00e_80 eb_29
theorem d_X12_clause_212 : decode prog_14_method_41_code 212 = .ok (.iconst 0, 1) := gq_19 db00e_80 eb_21
theorem d_X12_clause_213 : decode prog_14_method_41_code 213 = .ok (.iastore, 1) := gq_20 db00e_80 eb_38
theorem d_X12_clause_214 : decode prog_14_method_41_code 214 = .ok (.aload_n 0, 1) := gq_21 db00e_80 eb_0
theorem d_X12_clause_215 : decode prog_14_method_41_code 215 = .ok (.getfield 90, 3) := gq_22 db00e_80 eb_952
theorem d_X12_clause_218 : decode prog_14_method_41_code 218 = .ok (.iload_n 3, 1) := gq_23 db00e_80 eb_29
theorem db00e_81 : Pf_ prog_14_method_41_code [(219, [0x04]), (220, [0x60]), (221, [0x04]), (222, [0x4f]), (223, [0x2a]), (224, [0xb4, 0x00, 0x5a]), (227, [0x1d]), (228, [0x05]), (229, [0x60]), (230, [0x05]), (231, [0x4f]), (232, [0x2a]), (233, [0x59]), (234, [0xb4, 0x01, 0x73]), (237, [0x06]), (238, [0x60]), (239, [0xb5, 0x01, 0x73]), (242, [0x2a]), (243, [0x06]), (244, [0xb6, 0x01, 0x86]), (247, [0xb1]), (248, [0x2a]), (249, [0x1c]), (250, [0xb6, 0x01, 0xc4])] := pf_ok prog_14_method_41_code _ 219 (by decide +kernel)
theorem d_X12_clause_219 : decode prog_14_method_41_code 219 = .ok (.iconst 1, 1) := gq_0 db00e_81 eb_19
theorem d_X12_clause_220 : decode prog_14_method_41_code 220 = .ok (.iadd, 1) := gq_1 db00e_81 eb_35
theorem d_X12_clause_221 : decode prog_14_method_41_code 221 = .ok (.iconst 1, 1) := gq_2 db00e_81 eb_19
theorem d_X12_clause_222 : decode prog_14_method_41_code 222 = .ok (.iastore, 1) := gq_3 db00e_81 eb_38
theorem d_X12_clause_223 : decode prog_14_method_41_code 223 = .ok (.aload_n 0, 1) := gq_4 db00e_81 eb_0
theorem d_X12_clause_224 : decode prog_14_method_41_code 224 = .ok (.getfield 90, 3) := gq_5 db00e_81 eb_952
theorem d_X12_clause_227 : decode prog_14_method_41_code 227 = .ok (.iload_n 3, 1) := gq_6 db00e_81 eb_29
theorem d_X12_clause_228 : decode prog_14_method_41_code 228 = .ok (.iconst 2, 1) := gq_7 db00e_81 eb_10
theorem d_X12_clause_229 : decode prog_14_method_41_code 229 = .ok (.iadd, 1) := gq_8 db00e_81 eb_35
theorem d_X12_clause_230 : decode prog_14_method_41_code 230 = .ok (.iconst 2, 1) := gq_9 db00e_81 eb_10
theorem d_X12_clause_231 : decode prog_14_method_41_code 231 = .ok (.iastore, 1) := gq_10 db00e_81 eb_38
theorem d_X12_clause_232 : decode prog_14_method_41_code 232 = .ok (.aload_n 0, 1) := gq_11 db00e_81 eb_0
theorem d_X12_clause_233 : decode prog_14_method_41_code 233 = .ok (.dup, 1) := gq_12 db00e_81 eb_46
theorem d_X12_clause_234 : decode prog_14_method_41_code 234 = .ok (.getfield 371, 3) := gq_13 db00e_81 eb_953
theorem d_X12_clause_237 : decode prog_14_method_41_code 237 = .ok (.iconst 3, 1) := gq_14 db00e_81 eb_54
theorem d_X12_clause_238 : decode prog_14_method_41_code 238 = .ok (.iadd, 1) := gq_15 db00e_81 eb_35
theorem d_X12_clause_239 : decode prog_14_method_41_code 239 = .ok (.putfield 371, 3) := gq_16 db00e_81 eb_954
theorem d_X12_clause_242 : decode prog_14_method_41_code 242 = .ok (.aload_n 0, 1) := gq_17 db00e_81 eb_0
theorem d_X12_clause_243 : decode prog_14_method_41_code 243 = .ok (.iconst 3, 1) := gq_18 db00e_81 eb_54
theorem d_X12_clause_244 : decode prog_14_method_41_code 244 = .ok (.invokevirtual 390, 3) := gq_19 db00e_81 eb_962
theorem d_X12_clause_247 : decode prog_14_method_41_code 247 = .ok (.return_, 1) := gq_20 db00e_81 eb_7
theorem d_X12_clause_248 : decode prog_14_method_41_code 248 = .ok (.aload_n 0, 1) := gq_21 db00e_81 eb_0
theorem d_X12_clause_249 : decode prog_14_method_41_code 249 = .ok (.iload_n 2, 1) := gq_22 db00e_81 eb_13
theorem d_X12_clause_250 : decode prog_14_method_41_code 250 = .ok (.invokevirtual 452, 3) := gq_23 db00e_81 eb_1011
theorem db00e_82 : Pf_ prog_14_method_41_code [(253, [0x2a]), (254, [0xb6, 0x01, 0xce]), (257, [0x2a]), (258, [0xb4, 0x01, 0x70]), (261, [0x02]), (262, [0xa0, 0x00, 0x0c]), (265, [0x2a]), (266, [0xb6, 0x01, 0xab]), (269, [0x2a]), (270, [0x06]), (271, [0xb6, 0x01, 0x86]), (274, [0xb1])] := pf_ok prog_14_method_41_code _ 253 (by decide +kernel)
theorem d_X12_clause_253 : decode prog_14_method_41_code 253 = .ok (.aload_n 0, 1) := gq_0 db00e_82 eb_0
theorem d_X12_clause_254 : decode prog_14_method_41_code 254 = .ok (.invokevirtual 462, 3) := gq_1 db00e_82 eb_1015
theorem d_X12_clause_257 : decode prog_14_method_41_code 257 = .ok (.aload_n 0, 1) := gq_2 db00e_82 eb_0
theorem d_X12_clause_258 : decode prog_14_method_41_code 258 = .ok (.getfield 368, 3) := gq_3 db00e_82 eb_950
theorem d_X12_clause_261 : decode prog_14_method_41_code 261 = .ok (.iconst (-1), 1) := gq_4 db00e_82 eb_26
theorem d_X12_clause_262 : decode prog_14_method_41_code 262 = .ok (.if_icmp .ne 12, 3) := gq_5 db00e_82 eb_410
theorem d_X12_clause_265 : decode prog_14_method_41_code 265 = .ok (.aload_n 0, 1) := gq_6 db00e_82 eb_0
theorem d_X12_clause_266 : decode prog_14_method_41_code 266 = .ok (.invokevirtual 427, 3) := gq_7 db00e_82 eb_1000
theorem d_X12_clause_269 : decode prog_14_method_41_code 269 = .ok (.aload_n 0, 1) := gq_8 db00e_82 eb_0
theorem d_X12_clause_270 : decode prog_14_method_41_code 270 = .ok (.iconst 3, 1) := gq_9 db00e_82 eb_54
theorem d_X12_clause_271 : decode prog_14_method_41_code 271 = .ok (.invokevirtual 390, 3) := gq_10 db00e_82 eb_962
theorem d_X12_clause_274 : decode prog_14_method_41_code 274 = .ok (.return_, 1) := gq_11 db00e_82 eb_7
theorem db00e_83 : Pf_ prog_14_method_42_code [(0, [0x1b]), (1, [0x03]), (2, [0x05]), (3, [0xb8, 0x01, 0x43]), (6, [0x9a, 0x00, 0x06]), (9, [0x10, 0xfe]), (11, [0xac]), (12, [0x2a]), (13, [0x1b]), (14, [0xb5, 0x01, 0xb1]), (17, [0x2a]), (18, [0x03]), (19, [0xb5, 0x01, 0x6d]), (22, [0x2a]), (23, [0x02]), (24, [0xb5, 0x01, 0x70]), (27, [0x2a]), (28, [0x03]), (29, [0xb5, 0x01, 0x8d]), (32, [0x2a]), (33, [0x03]), (34, [0xb5, 0x01, 0x73]), (37, [0x1b]), (38, [0x9a, 0x00, 0x0a])] := pf_ok prog_14_method_42_code _ 0 (by decide +kernel)
theorem d_X12_fault_0 : decode prog_14_method_42_code 0 = .ok (.iload_n 1, 1) := gq_0 db00e_83 eb_9
theorem d_X12_fault_1 : decode prog_14_method_42_code 1 = .ok (.iconst 0, 1) := gq_1 db00e_83 eb_21
theorem d_X12_fault_2 : decode prog_14_method_42_code 2 = .ok (.iconst 2, 1) := gq_2 db00e_83 eb_10
theorem d_X12_fault_3 : decode prog_14_method_42_code 3 = .ok (.invokestatic 323, 3) := gq_3 db00e_83 eb_913
theorem d_X12_fault_6 : decode prog_14_method_42_code 6 = .ok (.ifCond .ne 6, 3) := gq_4 db00e_83 eb_344
theorem d_X12_fault_9 : decode prog_14_method_42_code 9 = .ok (.bipush (-2), 2) := gq_5 db00e_83 eb_618
theorem d_X12_fault_11 : decode prog_14_method_42_code 11 = .ok (.ireturn, 1) := gq_6 db00e_83 eb_15
theorem d_X12_fault_12 : decode prog_14_method_42_code 12 = .ok (.aload_n 0, 1) := gq_7 db00e_83 eb_0
theorem d_X12_fault_13 : decode prog_14_method_42_code 13 = .ok (.iload_n 1, 1) := gq_8 db00e_83 eb_9
theorem d_X12_fault_14 : decode prog_14_method_42_code 14 = .ok (.putfield 433, 3) := gq_9 db00e_83 eb_1027
theorem d_X12_fault_17 : decode prog_14_method_42_code 17 = .ok (.aload_n 0, 1) := gq_10 db00e_83 eb_0
theorem d_X12_fault_18 : decode prog_14_method_42_code 18 = .ok (.iconst 0, 1) := gq_11 db00e_83 eb_21
theorem d_X12_fault_19 : decode prog_14_method_42_code 19 = .ok (.putfield 365, 3) := gq_12 db00e_83 eb_949
theorem d_X12_fault_22 : decode prog_14_method_42_code 22 = .ok (.aload_n 0, 1) := gq_13 db00e_83 eb_0
theorem d_X12_fault_23 : decode prog_14_method_42_code 23 = .ok (.iconst (-1), 1) := gq_14 db00e_83 eb_26
theorem d_X12_fault_24 : decode prog_14_method_42_code 24 = .ok (.putfield 368, 3) := gq_15 db00e_83 eb_951
theorem d_X12_fault_27 : decode prog_14_method_42_code 27 = .ok (.aload_n 0, 1) := gq_16 db00e_83 eb_0
theorem d_X12_fault_28 : decode prog_14_method_42_code 28 = .ok (.iconst 0, 1) := gq_17 db00e_83 eb_21
theorem d_X12_fault_29 : decode prog_14_method_42_code 29 = .ok (.putfield 397, 3) := gq_18 db00e_83 eb_976
theorem d_X12_fault_32 : decode prog_14_method_42_code 32 = .ok (.aload_n 0, 1) := gq_19 db00e_83 eb_0
theorem d_X12_fault_33 : decode prog_14_method_42_code 33 = .ok (.iconst 0, 1) := gq_20 db00e_83 eb_21
theorem d_X12_fault_34 : decode prog_14_method_42_code 34 = .ok (.putfield 371, 3) := gq_21 db00e_83 eb_954
theorem d_X12_fault_37 : decode prog_14_method_42_code 37 = .ok (.iload_n 1, 1) := gq_22 db00e_83 eb_9
theorem d_X12_fault_38 : decode prog_14_method_42_code 38 = .ok (.ifCond .ne 10, 3) := gq_23 db00e_83 eb_1028
theorem db00e_84 : Pf_ prog_14_method_42_code [(41, [0x2a]), (42, [0xb6, 0x01, 0x90]), (45, [0xa7, 0x00, 0x29]), (48, [0x2a]), (49, [0xb6, 0x01, 0xd1]), (52, [0x2a]), (53, [0xb4, 0x01, 0x70]), (56, [0x02]), (57, [0xa0, 0x00, 0x1d]), (60, [0x2a]), (61, [0xb6, 0x01, 0x76]), (64, [0x10, 0x3b]), (66, [0xa0, 0x00, 0x14]), (69, [0x2a]), (70, [0x59]), (71, [0xb4, 0x01, 0x6d]), (74, [0x04]), (75, [0x60]), (76, [0xb5, 0x01, 0x6d]), (79, [0x2a]), (80, [0xb6, 0x01, 0xd1]), (83, [0xa7, 0xff, 0xe1]), (86, [0x2a]), (87, [0xb4, 0x01, 0x70])] := pf_ok prog_14_method_42_code _ 41 (by decide +kernel)
theorem d_X12_fault_41 : decode prog_14_method_42_code 41 = .ok (.aload_n 0, 1) := gq_0 db00e_84 eb_0
theorem d_X12_fault_42 : decode prog_14_method_42_code 42 = .ok (.invokevirtual 400, 3) := gq_1 db00e_84 eb_977
theorem d_X12_fault_45 : decode prog_14_method_42_code 45 = .ok (.goto 41, 3) := gq_2 db00e_84 eb_1029
theorem d_X12_fault_48 : decode prog_14_method_42_code 48 = .ok (.aload_n 0, 1) := gq_3 db00e_84 eb_0
theorem d_X12_fault_49 : decode prog_14_method_42_code 49 = .ok (.invokevirtual 465, 3) := gq_4 db00e_84 eb_1030
theorem d_X12_fault_52 : decode prog_14_method_42_code 52 = .ok (.aload_n 0, 1) := gq_5 db00e_84 eb_0
theorem d_X12_fault_53 : decode prog_14_method_42_code 53 = .ok (.getfield 368, 3) := gq_6 db00e_84 eb_950
theorem d_X12_fault_56 : decode prog_14_method_42_code 56 = .ok (.iconst (-1), 1) := gq_7 db00e_84 eb_26
theorem d_X12_fault_57 : decode prog_14_method_42_code 57 = .ok (.if_icmp .ne 29, 3) := gq_8 db00e_84 eb_311
theorem d_X12_fault_60 : decode prog_14_method_42_code 60 = .ok (.aload_n 0, 1) := gq_9 db00e_84 eb_0
theorem d_X12_fault_61 : decode prog_14_method_42_code 61 = .ok (.invokevirtual 374, 3) := gq_10 db00e_84 eb_955
theorem d_X12_fault_64 : decode prog_14_method_42_code 64 = .ok (.bipush 59, 2) := gq_11 db00e_84 eb_468
theorem d_X12_fault_66 : decode prog_14_method_42_code 66 = .ok (.if_icmp .ne 20, 3) := gq_12 db00e_84 eb_300
theorem d_X12_fault_69 : decode prog_14_method_42_code 69 = .ok (.aload_n 0, 1) := gq_13 db00e_84 eb_0
theorem d_X12_fault_70 : decode prog_14_method_42_code 70 = .ok (.dup, 1) := gq_14 db00e_84 eb_46
theorem d_X12_fault_71 : decode prog_14_method_42_code 71 = .ok (.getfield 365, 3) := gq_15 db00e_84 eb_948
theorem d_X12_fault_74 : decode prog_14_method_42_code 74 = .ok (.iconst 1, 1) := gq_16 db00e_84 eb_19
theorem d_X12_fault_75 : decode prog_14_method_42_code 75 = .ok (.iadd, 1) := gq_17 db00e_84 eb_35
theorem d_X12_fault_76 : decode prog_14_method_42_code 76 = .ok (.putfield 365, 3) := gq_18 db00e_84 eb_949
theorem d_X12_fault_79 : decode prog_14_method_42_code 79 = .ok (.aload_n 0, 1) := gq_19 db00e_84 eb_0
theorem d_X12_fault_80 : decode prog_14_method_42_code 80 = .ok (.invokevirtual 465, 3) := gq_20 db00e_84 eb_1030
theorem d_X12_fault_83 : decode prog_14_method_42_code 83 = .ok (.goto (-31), 3) := gq_21 db00e_84 eb_403
theorem d_X12_fault_86 : decode prog_14_method_42_code 86 = .ok (.aload_n 0, 1) := gq_22 db00e_84 eb_0
theorem d_X12_fault_87 : decode prog_14_method_42_code 87 = .ok (.getfield 368, 3) := gq_23 db00e_84 eb_950
theorem db00e_85 : Pf_ prog_14_method_42_code [(90, [0x02]), (91, [0xa0, 0x00, 0x0f]), (94, [0x2a]), (95, [0xb6, 0x01, 0x76]), (98, [0x02]), (99, [0x9f, 0x00, 0x07]), (102, [0x2a]), (103, [0xb6, 0x01, 0x7d]), (106, [0x2a]), (107, [0xb4, 0x01, 0x70]), (110, [0xac])] := pf_ok prog_14_method_42_code _ 90 (by decide +kernel)
theorem d_X12_fault_90 : decode prog_14_method_42_code 90 = .ok (.iconst (-1), 1) := gq_0 db00e_85 eb_26
theorem d_X12_fault_91 : decode prog_14_method_42_code 91 = .ok (.if_icmp .ne 15, 3) := gq_1 db00e_85 eb_364
theorem d_X12_fault_94 : decode prog_14_method_42_code 94 = .ok (.aload_n 0, 1) := gq_2 db00e_85 eb_0
theorem d_X12_fault_95 : decode prog_14_method_42_code 95 = .ok (.invokevirtual 374, 3) := gq_3 db00e_85 eb_955
theorem d_X12_fault_98 : decode prog_14_method_42_code 98 = .ok (.iconst (-1), 1) := gq_4 db00e_85 eb_26
theorem d_X12_fault_99 : decode prog_14_method_42_code 99 = .ok (.if_icmp .eq 7, 3) := gq_5 db00e_85 eb_539
theorem d_X12_fault_102 : decode prog_14_method_42_code 102 = .ok (.aload_n 0, 1) := gq_6 db00e_85 eb_0
theorem d_X12_fault_103 : decode prog_14_method_42_code 103 = .ok (.invokevirtual 381, 3) := gq_7 db00e_85 eb_958
theorem d_X12_fault_106 : decode prog_14_method_42_code 106 = .ok (.aload_n 0, 1) := gq_8 db00e_85 eb_0
theorem d_X12_fault_107 : decode prog_14_method_42_code 107 = .ok (.getfield 368, 3) := gq_9 db00e_85 eb_950
theorem d_X12_fault_110 : decode prog_14_method_42_code 110 = .ok (.ireturn, 1) := gq_10 db00e_85 eb_15
theorem db00e_86 : Pf_ prog_14_method_43_code [(0, [0x1c]), (1, [0x03]), (2, [0x10, 0x1e]), (4, [0xb8, 0x01, 0x43]), (7, [0x99, 0x00, 0x19]), (10, [0x2a]), (11, [0xb4, 0x00, 0x75]), (14, [0x1b]), (15, [0x2e]), (16, [0x10, 0x14]), (18, [0x9f, 0x00, 0x0e]), (21, [0x2a]), (22, [0x1b]), (23, [0x04]), (24, [0x60]), (25, [0xb6, 0x01, 0xa0]), (28, [0x02]), (29, [0x9f, 0x00, 0x05]), (32, [0x02]), (33, [0xac]), (34, [0x10, 0x14]), (36, [0x1b]), (37, [0x68]), (38, [0x2a])] := pf_ok prog_14_method_43_code _ 0 (by decide +kernel)
theorem d_X12_text_0 : decode prog_14_method_43_code 0 = .ok (.iload_n 2, 1) := gq_0 db00e_86 eb_13
theorem d_X12_text_1 : decode prog_14_method_43_code 1 = .ok (.iconst 0, 1) := gq_1 db00e_86 eb_21
theorem d_X12_text_2 : decode prog_14_method_43_code 2 = .ok (.bipush 30, 2) := gq_2 db00e_86 eb_92
theorem d_X12_text_4 : decode prog_14_method_43_code 4 = .ok (.invokestatic 323, 3) := gq_3 db00e_86 eb_913
theorem d_X12_text_7 : decode prog_14_method_43_code 7 = .ok (.ifCond .eq 25, 3) := gq_4 db00e_86 eb_293
theorem d_X12_text_10 : decode prog_14_method_43_code 10 = .ok (.aload_n 0, 1) := gq_5 db00e_86 eb_0
theorem d_X12_text_11 : decode prog_14_method_43_code 11 = .ok (.getfield 117, 3) := gq_6 db00e_86 eb_1031
theorem d_X12_text_14 : decode prog_14_method_43_code 14 = .ok (.iload_n 1, 1) := gq_7 db00e_86 eb_9
theorem d_X12_text_15 : decode prog_14_method_43_code 15 = .ok (.iaload, 1) := gq_8 db00e_86 eb_37
theorem d_X12_text_16 : decode prog_14_method_43_code 16 = .ok (.bipush 20, 2) := gq_9 db00e_86 eb_478
theorem d_X12_text_18 : decode prog_14_method_43_code 18 = .ok (.if_icmp .eq 14, 3) := gq_10 db00e_86 eb_261
theorem d_X12_text_21 : decode prog_14_method_43_code 21 = .ok (.aload_n 0, 1) := gq_11 db00e_86 eb_0
theorem d_X12_text_22 : decode prog_14_method_43_code 22 = .ok (.iload_n 1, 1) := gq_12 db00e_86 eb_9
theorem d_X12_text_23 : decode prog_14_method_43_code 23 = .ok (.iconst 1, 1) := gq_13 db00e_86 eb_19
theorem d_X12_text_24 : decode prog_14_method_43_code 24 = .ok (.iadd, 1) := gq_14 db00e_86 eb_35
theorem d_X12_text_25 : decode prog_14_method_43_code 25 = .ok (.invokevirtual 416, 3) := gq_15 db00e_86 eb_753
theorem d_X12_text_28 : decode prog_14_method_43_code 28 = .ok (.iconst (-1), 1) := gq_16 db00e_86 eb_26
theorem d_X12_text_29 : decode prog_14_method_43_code 29 = .ok (.if_icmp .eq 5, 3) := gq_17 db00e_86 eb_120
theorem d_X12_text_32 : decode prog_14_method_43_code 32 = .ok (.iconst (-1), 1) := gq_18 db00e_86 eb_26
theorem d_X12_text_33 : decode prog_14_method_43_code 33 = .ok (.ireturn, 1) := gq_19 db00e_86 eb_15
theorem d_X12_text_34 : decode prog_14_method_43_code 34 = .ok (.bipush 20, 2) := gq_20 db00e_86 eb_478
theorem d_X12_text_36 : decode prog_14_method_43_code 36 = .ok (.iload_n 1, 1) := gq_21 db00e_86 eb_9
theorem d_X12_text_37 : decode prog_14_method_43_code 37 = .ok (.imul, 1) := gq_22 db00e_86 eb_34
theorem d_X12_text_38 : decode prog_14_method_43_code 38 = .ok (.aload_n 0, 1) := gq_23 db00e_86 eb_0
theorem db00e_87 : Pf_ prog_14_method_43_code [(39, [0xb4, 0x00, 0x75]), (42, [0x1b]), (43, [0x2e]), (44, [0x60]), (45, [0x3e]), (46, [0x03]), (47, [0x36, 0x04]), (49, [0x15, 0x04]), (51, [0x2a]), (52, [0xb4, 0x01, 0x73]), (55, [0xa2, 0x00, 0x1d]), (58, [0x2a]), (59, [0xb4, 0x00, 0x69]), (62, [0x11, 0x02, 0x30]), (65, [0x1d]), (66, [0x68]), (67, [0x15, 0x04]), (69, [0x60]), (70, [0x2a]), (71, [0xb4, 0x00, 0x5a]), (74, [0x15, 0x04]), (76, [0x2e]), (77, [0x4f]), (78, [0x84, 0x04, 0x01])] := pf_ok prog_14_method_43_code _ 39 (by decide +kernel)
theorem d_X12_text_39 : decode prog_14_method_43_code 39 = .ok (.getfield 117, 3) := gq_0 db00e_87 eb_1031
theorem d_X12_text_42 : decode prog_14_method_43_code 42 = .ok (.iload_n 1, 1) := gq_1 db00e_87 eb_9
theorem d_X12_text_43 : decode prog_14_method_43_code 43 = .ok (.iaload, 1) := gq_2 db00e_87 eb_37
theorem d_X12_text_44 : decode prog_14_method_43_code 44 = .ok (.iadd, 1) := gq_3 db00e_87 eb_35
theorem d_X12_text_45 : decode prog_14_method_43_code 45 = .ok (.istore_n 3, 1) := gq_4 db00e_87 eb_28
theorem d_X12_text_46 : decode prog_14_method_43_code 46 = .ok (.iconst 0, 1) := gq_5 db00e_87 eb_21
theorem d_X12_text_47 : decode prog_14_method_43_code 47 = .ok (.istore 4, 2) := gq_6 db00e_87 eb_133
theorem d_X12_text_49 : decode prog_14_method_43_code 49 = .ok (.iload 4, 2) := gq_7 db00e_87 eb_76
theorem d_X12_text_51 : decode prog_14_method_43_code 51 = .ok (.aload_n 0, 1) := gq_8 db00e_87 eb_0
theorem d_X12_text_52 : decode prog_14_method_43_code 52 = .ok (.getfield 371, 3) := gq_9 db00e_87 eb_953
theorem d_X12_text_55 : decode prog_14_method_43_code 55 = .ok (.if_icmp .ge 29, 3) := gq_10 db00e_87 eb_172
theorem d_X12_text_58 : decode prog_14_method_43_code 58 = .ok (.aload_n 0, 1) := gq_11 db00e_87 eb_0
theorem d_X12_text_59 : decode prog_14_method_43_code 59 = .ok (.getfield 105, 3) := gq_12 db00e_87 eb_1032
theorem d_X12_text_62 : decode prog_14_method_43_code 62 = .ok (.sipush 560, 3) := gq_13 db00e_87 eb_835
theorem d_X12_text_65 : decode prog_14_method_43_code 65 = .ok (.iload_n 3, 1) := gq_14 db00e_87 eb_29
theorem d_X12_text_66 : decode prog_14_method_43_code 66 = .ok (.imul, 1) := gq_15 db00e_87 eb_34
theorem d_X12_text_67 : decode prog_14_method_43_code 67 = .ok (.iload 4, 2) := gq_16 db00e_87 eb_76
theorem d_X12_text_69 : decode prog_14_method_43_code 69 = .ok (.iadd, 1) := gq_17 db00e_87 eb_35
theorem d_X12_text_70 : decode prog_14_method_43_code 70 = .ok (.aload_n 0, 1) := gq_18 db00e_87 eb_0
theorem d_X12_text_71 : decode prog_14_method_43_code 71 = .ok (.getfield 90, 3) := gq_19 db00e_87 eb_952
theorem d_X12_text_74 : decode prog_14_method_43_code 74 = .ok (.iload 4, 2) := gq_20 db00e_87 eb_76
theorem d_X12_text_76 : decode prog_14_method_43_code 76 = .ok (.iaload, 1) := gq_21 db00e_87 eb_37
theorem d_X12_text_77 : decode prog_14_method_43_code 77 = .ok (.iastore, 1) := gq_22 db00e_87 eb_38
theorem d_X12_text_78 : decode prog_14_method_43_code 78 = .ok (.iinc 4 1, 3) := gq_23 db00e_87 eb_144
theorem db00e_88 : Pf_ prog_14_method_43_code [(81, [0xa7, 0xff, 0xe0]), (84, [0x2a]), (85, [0xb4, 0x00, 0x6c]), (88, [0x1d]), (89, [0x2a]), (90, [0xb4, 0x01, 0x73]), (93, [0x4f]), (94, [0x2a]), (95, [0xb4, 0x00, 0x6f]), (98, [0x1d]), (99, [0x1c]), (100, [0x4f]), (101, [0x2a]), (102, [0xb4, 0x00, 0x72]), (105, [0x1d]), (106, [0x2a]), (107, [0xb4, 0x01, 0x56]), (110, [0x4f]), (111, [0x2a]), (112, [0xb4, 0x00, 0x75]), (115, [0x1b]), (116, [0x5c]), (117, [0x2e]), (118, [0x04])] := pf_ok prog_14_method_43_code _ 81 (by decide +kernel)
theorem d_X12_text_81 : decode prog_14_method_43_code 81 = .ok (.goto (-32), 3) := gq_0 db00e_88 eb_145
theorem d_X12_text_84 : decode prog_14_method_43_code 84 = .ok (.aload_n 0, 1) := gq_1 db00e_88 eb_0
theorem d_X12_text_85 : decode prog_14_method_43_code 85 = .ok (.getfield 108, 3) := gq_2 db00e_88 eb_1033
theorem d_X12_text_88 : decode prog_14_method_43_code 88 = .ok (.iload_n 3, 1) := gq_3 db00e_88 eb_29
theorem d_X12_text_89 : decode prog_14_method_43_code 89 = .ok (.aload_n 0, 1) := gq_4 db00e_88 eb_0
theorem d_X12_text_90 : decode prog_14_method_43_code 90 = .ok (.getfield 371, 3) := gq_5 db00e_88 eb_953
theorem d_X12_text_93 : decode prog_14_method_43_code 93 = .ok (.iastore, 1) := gq_6 db00e_88 eb_38
theorem d_X12_text_94 : decode prog_14_method_43_code 94 = .ok (.aload_n 0, 1) := gq_7 db00e_88 eb_0
theorem d_X12_text_95 : decode prog_14_method_43_code 95 = .ok (.getfield 111, 3) := gq_8 db00e_88 eb_1034
theorem d_X12_text_98 : decode prog_14_method_43_code 98 = .ok (.iload_n 3, 1) := gq_9 db00e_88 eb_29
theorem d_X12_text_99 : decode prog_14_method_43_code 99 = .ok (.iload_n 2, 1) := gq_10 db00e_88 eb_13
theorem d_X12_text_100 : decode prog_14_method_43_code 100 = .ok (.iastore, 1) := gq_11 db00e_88 eb_38
theorem d_X12_text_101 : decode prog_14_method_43_code 101 = .ok (.aload_n 0, 1) := gq_12 db00e_88 eb_0
theorem d_X12_text_102 : decode prog_14_method_43_code 102 = .ok (.getfield 114, 3) := gq_13 db00e_88 eb_1035
theorem d_X12_text_105 : decode prog_14_method_43_code 105 = .ok (.iload_n 3, 1) := gq_14 db00e_88 eb_29
theorem d_X12_text_106 : decode prog_14_method_43_code 106 = .ok (.aload_n 0, 1) := gq_15 db00e_88 eb_0
theorem d_X12_text_107 : decode prog_14_method_43_code 107 = .ok (.getfield 342, 3) := gq_16 db00e_88 eb_928
theorem d_X12_text_110 : decode prog_14_method_43_code 110 = .ok (.iastore, 1) := gq_17 db00e_88 eb_38
theorem d_X12_text_111 : decode prog_14_method_43_code 111 = .ok (.aload_n 0, 1) := gq_18 db00e_88 eb_0
theorem d_X12_text_112 : decode prog_14_method_43_code 112 = .ok (.getfield 117, 3) := gq_19 db00e_88 eb_1031
theorem d_X12_text_115 : decode prog_14_method_43_code 115 = .ok (.iload_n 1, 1) := gq_20 db00e_88 eb_9
theorem d_X12_text_116 : decode prog_14_method_43_code 116 = .ok (.dup2, 1) := gq_21 db00e_88 eb_143
theorem d_X12_text_117 : decode prog_14_method_43_code 117 = .ok (.iaload, 1) := gq_22 db00e_88 eb_37
theorem d_X12_text_118 : decode prog_14_method_43_code 118 = .ok (.iconst 1, 1) := gq_23 db00e_88 eb_19
theorem db00e_89 : Pf_ prog_14_method_43_code [(119, [0x60]), (120, [0x4f]), (121, [0x2a]), (122, [0x03]), (123, [0xb5, 0x01, 0x6a]), (126, [0x2a]), (127, [0xb4, 0x00, 0x75]), (130, [0x1b]), (131, [0x2e]), (132, [0x04]), (133, [0x64]), (134, [0xac])] := pf_ok prog_14_method_43_code _ 119 (by decide +kernel)
theorem d_X12_text_119 : decode prog_14_method_43_code 119 = .ok (.iadd, 1) := gq_0 db00e_89 eb_35
theorem d_X12_text_120 : decode prog_14_method_43_code 120 = .ok (.iastore, 1) := gq_1 db00e_89 eb_38
theorem d_X12_text_121 : decode prog_14_method_43_code 121 = .ok (.aload_n 0, 1) := gq_2 db00e_89 eb_0
theorem d_X12_text_122 : decode prog_14_method_43_code 122 = .ok (.iconst 0, 1) := gq_3 db00e_89 eb_21
theorem d_X12_text_123 : decode prog_14_method_43_code 123 = .ok (.putfield 362, 3) := gq_4 db00e_89 eb_945
theorem d_X12_text_126 : decode prog_14_method_43_code 126 = .ok (.aload_n 0, 1) := gq_5 db00e_89 eb_0
theorem d_X12_text_127 : decode prog_14_method_43_code 127 = .ok (.getfield 117, 3) := gq_6 db00e_89 eb_1031
theorem d_X12_text_130 : decode prog_14_method_43_code 130 = .ok (.iload_n 1, 1) := gq_7 db00e_89 eb_9
theorem d_X12_text_131 : decode prog_14_method_43_code 131 = .ok (.iaload, 1) := gq_8 db00e_89 eb_37
theorem d_X12_text_132 : decode prog_14_method_43_code 132 = .ok (.iconst 1, 1) := gq_9 db00e_89 eb_19
theorem d_X12_text_133 : decode prog_14_method_43_code 133 = .ok (.isub, 1) := gq_10 db00e_89 eb_48
theorem d_X12_text_134 : decode prog_14_method_43_code 134 = .ok (.ireturn, 1) := gq_11 db00e_89 eb_15
theorem db00e_90 : Pf_ prog_14_method_44_code [(0, [0x2a]), (1, [0x03]), (2, [0x1b]), (3, [0xb6, 0x01, 0xd4]), (6, [0xac])] := pf_ok prog_14_method_44_code _ 0 (by decide +kernel)
theorem d_X12_act_0 : decode prog_14_method_44_code 0 = .ok (.aload_n 0, 1) := gq_0 db00e_90 eb_0
theorem d_X12_act_1 : decode prog_14_method_44_code 1 = .ok (.iconst 0, 1) := gq_1 db00e_90 eb_21
theorem d_X12_act_2 : decode prog_14_method_44_code 2 = .ok (.iload_n 1, 1) := gq_2 db00e_90 eb_9
theorem d_X12_act_3 : decode prog_14_method_44_code 3 = .ok (.invokevirtual 468, 3) := gq_3 db00e_90 eb_1036
theorem d_X12_act_6 : decode prog_14_method_44_code 6 = .ok (.ireturn, 1) := gq_4 db00e_90 eb_15
theorem db00e_91 : Pf_ prog_14_method_45_code [(0, [0x2a]), (1, [0x04]), (2, [0x1b]), (3, [0xb6, 0x01, 0xd4]), (6, [0xac])] := pf_ok prog_14_method_45_code _ 0 (by decide +kernel)
theorem d_X12_pay_0 : decode prog_14_method_45_code 0 = .ok (.aload_n 0, 1) := gq_0 db00e_91 eb_0
theorem d_X12_pay_1 : decode prog_14_method_45_code 1 = .ok (.iconst 1, 1) := gq_1 db00e_91 eb_19
theorem d_X12_pay_2 : decode prog_14_method_45_code 2 = .ok (.iload_n 1, 1) := gq_2 db00e_91 eb_9
theorem d_X12_pay_3 : decode prog_14_method_45_code 3 = .ok (.invokevirtual 468, 3) := gq_3 db00e_91 eb_1036
theorem d_X12_pay_6 : decode prog_14_method_45_code 6 = .ok (.ireturn, 1) := gq_4 db00e_91 eb_15
theorem db00e_92 : Pf_ prog_14_method_46_code [(0, [0x02]), (1, [0x36, 0x04]), (3, [0x03]), (4, [0x36, 0x05]), (6, [0x15, 0x05]), (8, [0x2a]), (9, [0xb4, 0x00, 0x75]), (12, [0x1b]), (13, [0x2e]), (14, [0xa2, 0x00, 0x48]), (17, [0x10, 0x14]), (19, [0x1b]), (20, [0x68]), (21, [0x15, 0x05]), (23, [0x60]), (24, [0x36, 0x06]), (26, [0x2a]), (27, [0xb4, 0x00, 0x72]), (30, [0x15, 0x06]), (32, [0x2e]), (33, [0x1d]), (34, [0xa3, 0x00, 0x2e]), (37, [0x2a]), (38, [0xb4, 0x00, 0x6f])] := pf_ok prog_14_method_46_code _ 0 (by decide +kernel)
theorem d_X12_forceOf_0 : decode prog_14_method_46_code 0 = .ok (.iconst (-1), 1) := gq_0 db00e_92 eb_26
theorem d_X12_forceOf_1 : decode prog_14_method_46_code 1 = .ok (.istore 4, 2) := gq_1 db00e_92 eb_133
theorem d_X12_forceOf_3 : decode prog_14_method_46_code 3 = .ok (.iconst 0, 1) := gq_2 db00e_92 eb_21
theorem d_X12_forceOf_4 : decode prog_14_method_46_code 4 = .ok (.istore 5, 2) := gq_3 db00e_92 eb_134
theorem d_X12_forceOf_6 : decode prog_14_method_46_code 6 = .ok (.iload 5, 2) := gq_4 db00e_92 eb_125
theorem d_X12_forceOf_8 : decode prog_14_method_46_code 8 = .ok (.aload_n 0, 1) := gq_5 db00e_92 eb_0
theorem d_X12_forceOf_9 : decode prog_14_method_46_code 9 = .ok (.getfield 117, 3) := gq_6 db00e_92 eb_1031
theorem d_X12_forceOf_12 : decode prog_14_method_46_code 12 = .ok (.iload_n 1, 1) := gq_7 db00e_92 eb_9
theorem d_X12_forceOf_13 : decode prog_14_method_46_code 13 = .ok (.iaload, 1) := gq_8 db00e_92 eb_37
theorem d_X12_forceOf_14 : decode prog_14_method_46_code 14 = .ok (.if_icmp .ge 72, 3) := gq_9 db00e_92 eb_308
theorem d_X12_forceOf_17 : decode prog_14_method_46_code 17 = .ok (.bipush 20, 2) := gq_10 db00e_92 eb_478
theorem d_X12_forceOf_19 : decode prog_14_method_46_code 19 = .ok (.iload_n 1, 1) := gq_11 db00e_92 eb_9
theorem d_X12_forceOf_20 : decode prog_14_method_46_code 20 = .ok (.imul, 1) := gq_12 db00e_92 eb_34
theorem d_X12_forceOf_21 : decode prog_14_method_46_code 21 = .ok (.iload 5, 2) := gq_13 db00e_92 eb_125
theorem d_X12_forceOf_23 : decode prog_14_method_46_code 23 = .ok (.iadd, 1) := gq_14 db00e_92 eb_35
theorem d_X12_forceOf_24 : decode prog_14_method_46_code 24 = .ok (.istore 6, 2) := gq_15 db00e_92 eb_58
theorem d_X12_forceOf_26 : decode prog_14_method_46_code 26 = .ok (.aload_n 0, 1) := gq_16 db00e_92 eb_0
theorem d_X12_forceOf_27 : decode prog_14_method_46_code 27 = .ok (.getfield 114, 3) := gq_17 db00e_92 eb_1035
theorem d_X12_forceOf_30 : decode prog_14_method_46_code 30 = .ok (.iload 6, 2) := gq_18 db00e_92 eb_75
theorem d_X12_forceOf_32 : decode prog_14_method_46_code 32 = .ok (.iaload, 1) := gq_19 db00e_92 eb_37
theorem d_X12_forceOf_33 : decode prog_14_method_46_code 33 = .ok (.iload_n 3, 1) := gq_20 db00e_92 eb_29
theorem d_X12_forceOf_34 : decode prog_14_method_46_code 34 = .ok (.if_icmp .gt 46, 3) := gq_21 db00e_92 eb_1037
theorem d_X12_forceOf_37 : decode prog_14_method_46_code 37 = .ok (.aload_n 0, 1) := gq_22 db00e_92 eb_0
theorem d_X12_forceOf_38 : decode prog_14_method_46_code 38 = .ok (.getfield 111, 3) := gq_23 db00e_92 eb_1034
theorem db00e_93 : Pf_ prog_14_method_46_code [(41, [0x15, 0x06]), (43, [0x2e]), (44, [0x1c]), (45, [0xa3, 0x00, 0x23]), (48, [0x15, 0x04]), (50, [0x02]), (51, [0x9f, 0x00, 0x19]), (54, [0x2a]), (55, [0xb4, 0x00, 0x6f]), (58, [0x15, 0x06]), (60, [0x2e]), (61, [0x2a]), (62, [0xb4, 0x00, 0x6f]), (65, [0x10, 0x14]), (67, [0x1b]), (68, [0x68]), (69, [0x15, 0x04]), (71, [0x60]), (72, [0x2e]), (73, [0xa1, 0x00, 0x07]), (76, [0x15, 0x05]), (78, [0x36, 0x04]), (80, [0x84, 0x05, 0x01]), (83, [0xa7, 0xff, 0xb3])] := pf_ok prog_14_method_46_code _ 41 (by decide +kernel)
theorem d_X12_forceOf_41 : decode prog_14_method_46_code 41 = .ok (.iload 6, 2) := gq_0 db00e_93 eb_75
theorem d_X12_forceOf_43 : decode prog_14_method_46_code 43 = .ok (.iaload, 1) := gq_1 db00e_93 eb_37
theorem d_X12_forceOf_44 : decode prog_14_method_46_code 44 = .ok (.iload_n 2, 1) := gq_2 db00e_93 eb_13
theorem d_X12_forceOf_45 : decode prog_14_method_46_code 45 = .ok (.if_icmp .gt 35, 3) := gq_3 db00e_93 eb_1038
theorem d_X12_forceOf_48 : decode prog_14_method_46_code 48 = .ok (.iload 4, 2) := gq_4 db00e_93 eb_76
theorem d_X12_forceOf_50 : decode prog_14_method_46_code 50 = .ok (.iconst (-1), 1) := gq_5 db00e_93 eb_26
theorem d_X12_forceOf_51 : decode prog_14_method_46_code 51 = .ok (.if_icmp .eq 25, 3) := gq_6 db00e_93 eb_520
theorem d_X12_forceOf_54 : decode prog_14_method_46_code 54 = .ok (.aload_n 0, 1) := gq_7 db00e_93 eb_0
theorem d_X12_forceOf_55 : decode prog_14_method_46_code 55 = .ok (.getfield 111, 3) := gq_8 db00e_93 eb_1034
theorem d_X12_forceOf_58 : decode prog_14_method_46_code 58 = .ok (.iload 6, 2) := gq_9 db00e_93 eb_75
theorem d_X12_forceOf_60 : decode prog_14_method_46_code 60 = .ok (.iaload, 1) := gq_10 db00e_93 eb_37
theorem d_X12_forceOf_61 : decode prog_14_method_46_code 61 = .ok (.aload_n 0, 1) := gq_11 db00e_93 eb_0
theorem d_X12_forceOf_62 : decode prog_14_method_46_code 62 = .ok (.getfield 111, 3) := gq_12 db00e_93 eb_1034
theorem d_X12_forceOf_65 : decode prog_14_method_46_code 65 = .ok (.bipush 20, 2) := gq_13 db00e_93 eb_478
theorem d_X12_forceOf_67 : decode prog_14_method_46_code 67 = .ok (.iload_n 1, 1) := gq_14 db00e_93 eb_9
theorem d_X12_forceOf_68 : decode prog_14_method_46_code 68 = .ok (.imul, 1) := gq_15 db00e_93 eb_34
theorem d_X12_forceOf_69 : decode prog_14_method_46_code 69 = .ok (.iload 4, 2) := gq_16 db00e_93 eb_76
theorem d_X12_forceOf_71 : decode prog_14_method_46_code 71 = .ok (.iadd, 1) := gq_17 db00e_93 eb_35
theorem d_X12_forceOf_72 : decode prog_14_method_46_code 72 = .ok (.iaload, 1) := gq_18 db00e_93 eb_37
theorem d_X12_forceOf_73 : decode prog_14_method_46_code 73 = .ok (.if_icmp .lt 7, 3) := gq_19 db00e_93 eb_154
theorem d_X12_forceOf_76 : decode prog_14_method_46_code 76 = .ok (.iload 5, 2) := gq_20 db00e_93 eb_125
theorem d_X12_forceOf_78 : decode prog_14_method_46_code 78 = .ok (.istore 4, 2) := gq_21 db00e_93 eb_133
theorem d_X12_forceOf_80 : decode prog_14_method_46_code 80 = .ok (.iinc 5 1, 3) := gq_22 db00e_93 eb_220
theorem d_X12_forceOf_83 : decode prog_14_method_46_code 83 = .ok (.goto (-77), 3) := gq_23 db00e_93 eb_1039
theorem db00e_94 : Pf_ prog_14_method_46_code [(86, [0x15, 0x04]), (88, [0xac])] := pf_ok prog_14_method_46_code _ 86 (by decide +kernel)
theorem d_X12_forceOf_86 : decode prog_14_method_46_code 86 = .ok (.iload 4, 2) := gq_0 db00e_94 eb_76
theorem d_X12_forceOf_88 : decode prog_14_method_46_code 88 = .ok (.ireturn, 1) := gq_1 db00e_94 eb_15
theorem d_X12_bounded_0 : decode prog_14_method_48_code 0 = .ok (.ldc2_w 474, 3) := by decide +kernel
theorem d_X12_bounded_3 : decode prog_14_method_48_code 3 = .ok (.ldc2_w 476, 3) := by decide +kernel
theorem db00e_95 : Pf_ prog_14_method_47_code [(0, [0x1b]), (1, [0x03]), (2, [0x10, 0x1e]), (4, [0xb8, 0x01, 0x43]), (7, [0x99, 0x00, 0x15]), (10, [0x2a]), (11, [0x1c]), (12, [0xb6, 0x01, 0x5f]), (15, [0x99, 0x00, 0x0d]), (18, [0x2a]), (19, [0x03]), (20, [0x1b]), (21, [0x1c]), (22, [0xb6, 0x01, 0xd7]), (25, [0xa7, 0x00, 0x04]), (28, [0x02]), (29, [0xac])] := pf_ok prog_14_method_47_code _ 0 (by decide +kernel)
theorem d_X12_force_0 : decode prog_14_method_47_code 0 = .ok (.iload_n 1, 1) := gq_0 db00e_95 eb_9
theorem d_X12_force_1 : decode prog_14_method_47_code 1 = .ok (.iconst 0, 1) := gq_1 db00e_95 eb_21
theorem d_X12_force_2 : decode prog_14_method_47_code 2 = .ok (.bipush 30, 2) := gq_2 db00e_95 eb_92
theorem d_X12_force_4 : decode prog_14_method_47_code 4 = .ok (.invokestatic 323, 3) := gq_3 db00e_95 eb_913
theorem d_X12_force_7 : decode prog_14_method_47_code 7 = .ok (.ifCond .eq 21, 3) := gq_4 db00e_95 eb_326
theorem d_X12_force_10 : decode prog_14_method_47_code 10 = .ok (.aload_n 0, 1) := gq_5 db00e_95 eb_0
theorem d_X12_force_11 : decode prog_14_method_47_code 11 = .ok (.iload_n 2, 1) := gq_6 db00e_95 eb_13
theorem d_X12_force_12 : decode prog_14_method_47_code 12 = .ok (.invokevirtual 351, 3) := gq_7 db00e_95 eb_938
theorem d_X12_force_15 : decode prog_14_method_47_code 15 = .ok (.ifCond .eq 13, 3) := gq_8 db00e_95 eb_119
theorem d_X12_force_18 : decode prog_14_method_47_code 18 = .ok (.aload_n 0, 1) := gq_9 db00e_95 eb_0
theorem d_X12_force_19 : decode prog_14_method_47_code 19 = .ok (.iconst 0, 1) := gq_10 db00e_95 eb_21
theorem d_X12_force_20 : decode prog_14_method_47_code 20 = .ok (.iload_n 1, 1) := gq_11 db00e_95 eb_9
theorem d_X12_force_21 : decode prog_14_method_47_code 21 = .ok (.iload_n 2, 1) := gq_12 db00e_95 eb_13
theorem d_X12_force_22 : decode prog_14_method_47_code 22 = .ok (.invokevirtual 471, 3) := gq_13 db00e_95 eb_1040
theorem d_X12_force_25 : decode prog_14_method_47_code 25 = .ok (.goto 4, 3) := gq_14 db00e_95 eb_20
theorem d_X12_force_28 : decode prog_14_method_47_code 28 = .ok (.iconst (-1), 1) := gq_15 db00e_95 eb_26
theorem d_X12_force_29 : decode prog_14_method_47_code 29 = .ok (.ireturn, 1) := gq_16 db00e_95 eb_15
theorem d_X12_bounded_13 : decode prog_14_method_48_code 13 = .ok (.l2i, 1) := by decide +kernel
theorem db00e_96 : Pf_ prog_14_method_48_code [(6, [0x1e]), (7, [0xb8, 0x01, 0xde]), (10, [0xb8, 0x01, 0xe4]), (14, [0xac])] := pf_ok prog_14_method_48_code _ 6 (by decide +kernel)
theorem d_X12_bounded_6 : decode prog_14_method_48_code 6 = .ok (.lload_n 0, 1) := gq_0 db00e_96 eb_573
theorem d_X12_bounded_7 : decode prog_14_method_48_code 7 = .ok (.invokestatic 478, 3) := gq_1 db00e_96 eb_1041
theorem d_X12_bounded_10 : decode prog_14_method_48_code 10 = .ok (.invokestatic 484, 3) := gq_2 db00e_96 eb_1042
theorem d_X12_bounded_14 : decode prog_14_method_48_code 14 = .ok (.ireturn, 1) := gq_3 db00e_96 eb_15
theorem d_X12_both_1 : decode prog_14_method_49_code 1 = .ok (.tableswitch 189 38 62 #[175, 189, 189, 189, 133, 115, 189, 124, 189, 189, 189, 189, 189, 189, 189, 189, 189, 189, 189, 189, 189, 189, 153, 142, 164], 115) := by decide +kernel
theorem d_X12_both_120 : decode prog_14_method_49_code 120 = .ok (.ladd, 1) := by decide +kernel
theorem d_X12_both_129 : decode prog_14_method_49_code 129 = .ok (.lsub, 1) := by decide +kernel
theorem d_X12_both_138 : decode prog_14_method_49_code 138 = .ok (.lmul, 1) := by decide +kernel
theorem db00e_97 : Pf_ prog_14_method_49_code [(0, [0x1a]), (116, [0x1b]), (117, [0x85]), (118, [0x1c]), (119, [0x85]), (121, [0xb8, 0x01, 0xe7]), (124, [0xac]), (125, [0x1b]), (126, [0x85]), (127, [0x1c]), (128, [0x85]), (130, [0xb8, 0x01, 0xe7]), (133, [0xac]), (134, [0x1b]), (135, [0x85]), (136, [0x1c]), (137, [0x85]), (139, [0xb8, 0x01, 0xe7]), (142, [0xac]), (143, [0x1b]), (144, [0x1c]), (145, [0xa0, 0x00, 0x07]), (148, [0x04]), (149, [0xa7, 0x00, 0x04])] := pf_ok prog_14_method_49_code _ 0 (by decide +kernel)
theorem d_X12_both_0 : decode prog_14_method_49_code 0 = .ok (.iload_n 0, 1) := gq_0 db00e_97 eb_8
theorem d_X12_both_116 : decode prog_14_method_49_code 116 = .ok (.iload_n 1, 1) := gq_1 db00e_97 eb_9
theorem d_X12_both_117 : decode prog_14_method_49_code 117 = .ok (.i2l, 1) := gq_2 db00e_97 eb_381
theorem d_X12_both_118 : decode prog_14_method_49_code 118 = .ok (.iload_n 2, 1) := gq_3 db00e_97 eb_13
theorem d_X12_both_119 : decode prog_14_method_49_code 119 = .ok (.i2l, 1) := gq_4 db00e_97 eb_381
theorem d_X12_both_121 : decode prog_14_method_49_code 121 = .ok (.invokestatic 487, 3) := gq_5 db00e_97 eb_1043
theorem d_X12_both_124 : decode prog_14_method_49_code 124 = .ok (.ireturn, 1) := gq_6 db00e_97 eb_15
theorem d_X12_both_125 : decode prog_14_method_49_code 125 = .ok (.iload_n 1, 1) := gq_7 db00e_97 eb_9
theorem d_X12_both_126 : decode prog_14_method_49_code 126 = .ok (.i2l, 1) := gq_8 db00e_97 eb_381
theorem d_X12_both_127 : decode prog_14_method_49_code 127 = .ok (.iload_n 2, 1) := gq_9 db00e_97 eb_13
theorem d_X12_both_128 : decode prog_14_method_49_code 128 = .ok (.i2l, 1) := gq_10 db00e_97 eb_381
theorem d_X12_both_130 : decode prog_14_method_49_code 130 = .ok (.invokestatic 487, 3) := gq_11 db00e_97 eb_1043
theorem d_X12_both_133 : decode prog_14_method_49_code 133 = .ok (.ireturn, 1) := gq_12 db00e_97 eb_15
theorem d_X12_both_134 : decode prog_14_method_49_code 134 = .ok (.iload_n 1, 1) := gq_13 db00e_97 eb_9
theorem d_X12_both_135 : decode prog_14_method_49_code 135 = .ok (.i2l, 1) := gq_14 db00e_97 eb_381
theorem d_X12_both_136 : decode prog_14_method_49_code 136 = .ok (.iload_n 2, 1) := gq_15 db00e_97 eb_13
theorem d_X12_both_137 : decode prog_14_method_49_code 137 = .ok (.i2l, 1) := gq_16 db00e_97 eb_381
theorem d_X12_both_139 : decode prog_14_method_49_code 139 = .ok (.invokestatic 487, 3) := gq_17 db00e_97 eb_1043
theorem d_X12_both_142 : decode prog_14_method_49_code 142 = .ok (.ireturn, 1) := gq_18 db00e_97 eb_15
theorem d_X12_both_143 : decode prog_14_method_49_code 143 = .ok (.iload_n 1, 1) := gq_19 db00e_97 eb_9
theorem d_X12_both_144 : decode prog_14_method_49_code 144 = .ok (.iload_n 2, 1) := gq_20 db00e_97 eb_13
theorem d_X12_both_145 : decode prog_14_method_49_code 145 = .ok (.if_icmp .ne 7, 3) := gq_21 db00e_97 eb_135
theorem d_X12_both_148 : decode prog_14_method_49_code 148 = .ok (.iconst 1, 1) := gq_22 db00e_97 eb_19
theorem d_X12_both_149 : decode prog_14_method_49_code 149 = .ok (.goto 4, 3) := gq_23 db00e_97 eb_20
theorem db00e_98 : Pf_ prog_14_method_49_code [(152, [0x03]), (153, [0xac]), (154, [0x1b]), (155, [0x1c]), (156, [0xa2, 0x00, 0x07]), (159, [0x04]), (160, [0xa7, 0x00, 0x04]), (163, [0x03]), (164, [0xac]), (165, [0x1b]), (166, [0x1c]), (167, [0xa4, 0x00, 0x07]), (170, [0x04]), (171, [0xa7, 0x00, 0x04]), (174, [0x03]), (175, [0xac]), (176, [0x1b]), (177, [0x99, 0x00, 0x0b]), (180, [0x1c]), (181, [0x99, 0x00, 0x07]), (184, [0x04]), (185, [0xa7, 0x00, 0x04]), (188, [0x03]), (189, [0xac])] := pf_ok prog_14_method_49_code _ 152 (by decide +kernel)
theorem d_X12_both_152 : decode prog_14_method_49_code 152 = .ok (.iconst 0, 1) := gq_0 db00e_98 eb_21
theorem d_X12_both_153 : decode prog_14_method_49_code 153 = .ok (.ireturn, 1) := gq_1 db00e_98 eb_15
theorem d_X12_both_154 : decode prog_14_method_49_code 154 = .ok (.iload_n 1, 1) := gq_2 db00e_98 eb_9
theorem d_X12_both_155 : decode prog_14_method_49_code 155 = .ok (.iload_n 2, 1) := gq_3 db00e_98 eb_13
theorem d_X12_both_156 : decode prog_14_method_49_code 156 = .ok (.if_icmp .ge 7, 3) := gq_4 db00e_98 eb_18
theorem d_X12_both_159 : decode prog_14_method_49_code 159 = .ok (.iconst 1, 1) := gq_5 db00e_98 eb_19
theorem d_X12_both_160 : decode prog_14_method_49_code 160 = .ok (.goto 4, 3) := gq_6 db00e_98 eb_20
theorem d_X12_both_163 : decode prog_14_method_49_code 163 = .ok (.iconst 0, 1) := gq_7 db00e_98 eb_21
theorem d_X12_both_164 : decode prog_14_method_49_code 164 = .ok (.ireturn, 1) := gq_8 db00e_98 eb_15
theorem d_X12_both_165 : decode prog_14_method_49_code 165 = .ok (.iload_n 1, 1) := gq_9 db00e_98 eb_9
theorem d_X12_both_166 : decode prog_14_method_49_code 166 = .ok (.iload_n 2, 1) := gq_10 db00e_98 eb_13
theorem d_X12_both_167 : decode prog_14_method_49_code 167 = .ok (.if_icmp .le 7, 3) := gq_11 db00e_98 eb_572
theorem d_X12_both_170 : decode prog_14_method_49_code 170 = .ok (.iconst 1, 1) := gq_12 db00e_98 eb_19
theorem d_X12_both_171 : decode prog_14_method_49_code 171 = .ok (.goto 4, 3) := gq_13 db00e_98 eb_20
theorem d_X12_both_174 : decode prog_14_method_49_code 174 = .ok (.iconst 0, 1) := gq_14 db00e_98 eb_21
theorem d_X12_both_175 : decode prog_14_method_49_code 175 = .ok (.ireturn, 1) := gq_15 db00e_98 eb_15
theorem d_X12_both_176 : decode prog_14_method_49_code 176 = .ok (.iload_n 1, 1) := gq_16 db00e_98 eb_9
theorem d_X12_both_177 : decode prog_14_method_49_code 177 = .ok (.ifCond .eq 11, 3) := gq_17 db00e_98 eb_715
theorem d_X12_both_180 : decode prog_14_method_49_code 180 = .ok (.iload_n 2, 1) := gq_18 db00e_98 eb_13
theorem d_X12_both_181 : decode prog_14_method_49_code 181 = .ok (.ifCond .eq 7, 3) := gq_19 db00e_98 eb_123
theorem d_X12_both_184 : decode prog_14_method_49_code 184 = .ok (.iconst 1, 1) := gq_20 db00e_98 eb_19
theorem d_X12_both_185 : decode prog_14_method_49_code 185 = .ok (.goto 4, 3) := gq_21 db00e_98 eb_20
theorem d_X12_both_188 : decode prog_14_method_49_code 188 = .ok (.iconst 0, 1) := gq_22 db00e_98 eb_21
theorem d_X12_both_189 : decode prog_14_method_49_code 189 = .ok (.ireturn, 1) := gq_23 db00e_98 eb_15
theorem db00e_99 : Pf_ prog_14_method_49_code [(190, [0x1b]), (191, [0x9a, 0x00, 0x07]), (194, [0x1c]), (195, [0x99, 0x00, 0x07]), (198, [0x04]), (199, [0xa7, 0x00, 0x04]), (202, [0x03]), (203, [0xac])] := pf_ok prog_14_method_49_code _ 190 (by decide +kernel)
theorem d_X12_both_190 : decode prog_14_method_49_code 190 = .ok (.iload_n 1, 1) := gq_0 db00e_99 eb_9
theorem d_X12_both_191 : decode prog_14_method_49_code 191 = .ok (.ifCond .ne 7, 3) := gq_1 db00e_99 eb_164
theorem d_X12_both_194 : decode prog_14_method_49_code 194 = .ok (.iload_n 2, 1) := gq_2 db00e_99 eb_13
theorem d_X12_both_195 : decode prog_14_method_49_code 195 = .ok (.ifCond .eq 7, 3) := gq_3 db00e_99 eb_123
theorem d_X12_both_198 : decode prog_14_method_49_code 198 = .ok (.iconst 1, 1) := gq_4 db00e_99 eb_19
theorem d_X12_both_199 : decode prog_14_method_49_code 199 = .ok (.goto 4, 3) := gq_5 db00e_99 eb_20
theorem d_X12_both_202 : decode prog_14_method_49_code 202 = .ok (.iconst 0, 1) := gq_6 db00e_99 eb_21
theorem d_X12_both_203 : decode prog_14_method_49_code 203 = .ok (.ireturn, 1) := gq_7 db00e_99 eb_15
theorem db00e_100 : Pf_ prog_14_method_50_code [(0, [0x03]), (1, [0x3c]), (2, [0x2a]), (3, [0xb4, 0x00, 0x69]), (6, [0x2a]), (7, [0xb4, 0x01, 0xeb]), (10, [0x2e]), (11, [0x05]), (12, [0x9f, 0x00, 0xa2]), (15, [0x2a]), (16, [0xb4, 0x00, 0x69]), (19, [0x2a]), (20, [0xb4, 0x01, 0xeb]), (23, [0x2e]), (24, [0x06]), (25, [0x9f, 0x00, 0x95]), (28, [0x2a]), (29, [0xb4, 0x00, 0x69]), (32, [0x2a]), (33, [0xb4, 0x01, 0xeb]), (36, [0x2e]), (37, [0x3d]), (38, [0x2a]), (39, [0x59])] := pf_ok prog_14_method_50_code _ 0 (by decide +kernel)
theorem d_X12_work_0 : decode prog_14_method_50_code 0 = .ok (.iconst 0, 1) := gq_0 db00e_100 eb_21
theorem d_X12_work_1 : decode prog_14_method_50_code 1 = .ok (.istore_n 1, 1) := gq_1 db00e_100 eb_222
theorem d_X12_work_2 : decode prog_14_method_50_code 2 = .ok (.aload_n 0, 1) := gq_2 db00e_100 eb_0
theorem d_X12_work_3 : decode prog_14_method_50_code 3 = .ok (.getfield 105, 3) := gq_3 db00e_100 eb_1032
theorem d_X12_work_6 : decode prog_14_method_50_code 6 = .ok (.aload_n 0, 1) := gq_4 db00e_100 eb_0
theorem d_X12_work_7 : decode prog_14_method_50_code 7 = .ok (.getfield 491, 3) := gq_5 db00e_100 eb_1044
theorem d_X12_work_10 : decode prog_14_method_50_code 10 = .ok (.iaload, 1) := gq_6 db00e_100 eb_37
theorem d_X12_work_11 : decode prog_14_method_50_code 11 = .ok (.iconst 2, 1) := gq_7 db00e_100 eb_10
theorem d_X12_work_12 : decode prog_14_method_50_code 12 = .ok (.if_icmp .eq 162, 3) := gq_8 db00e_100 eb_1045
theorem d_X12_work_15 : decode prog_14_method_50_code 15 = .ok (.aload_n 0, 1) := gq_9 db00e_100 eb_0
theorem d_X12_work_16 : decode prog_14_method_50_code 16 = .ok (.getfield 105, 3) := gq_10 db00e_100 eb_1032
theorem d_X12_work_19 : decode prog_14_method_50_code 19 = .ok (.aload_n 0, 1) := gq_11 db00e_100 eb_0
theorem d_X12_work_20 : decode prog_14_method_50_code 20 = .ok (.getfield 491, 3) := gq_12 db00e_100 eb_1044
theorem d_X12_work_23 : decode prog_14_method_50_code 23 = .ok (.iaload, 1) := gq_13 db00e_100 eb_37
theorem d_X12_work_24 : decode prog_14_method_50_code 24 = .ok (.iconst 3, 1) := gq_14 db00e_100 eb_54
theorem d_X12_work_25 : decode prog_14_method_50_code 25 = .ok (.if_icmp .eq 149, 3) := gq_15 db00e_100 eb_1046
theorem d_X12_work_28 : decode prog_14_method_50_code 28 = .ok (.aload_n 0, 1) := gq_16 db00e_100 eb_0
theorem d_X12_work_29 : decode prog_14_method_50_code 29 = .ok (.getfield 105, 3) := gq_17 db00e_100 eb_1032
theorem d_X12_work_32 : decode prog_14_method_50_code 32 = .ok (.aload_n 0, 1) := gq_18 db00e_100 eb_0
theorem d_X12_work_33 : decode prog_14_method_50_code 33 = .ok (.getfield 491, 3) := gq_19 db00e_100 eb_1044
theorem d_X12_work_36 : decode prog_14_method_50_code 36 = .ok (.iaload, 1) := gq_20 db00e_100 eb_37
theorem d_X12_work_37 : decode prog_14_method_50_code 37 = .ok (.istore_n 2, 1) := gq_21 db00e_100 eb_27
theorem d_X12_work_38 : decode prog_14_method_50_code 38 = .ok (.aload_n 0, 1) := gq_22 db00e_100 eb_0
theorem d_X12_work_39 : decode prog_14_method_50_code 39 = .ok (.dup, 1) := gq_23 db00e_100 eb_46
theorem db00e_101 : Pf_ prog_14_method_50_code [(40, [0xb4, 0x01, 0xeb]), (43, [0x04]), (44, [0x60]), (45, [0xb5, 0x01, 0xeb]), (48, [0x1c]), (49, [0x99, 0x00, 0x08]), (52, [0x1c]), (53, [0x04]), (54, [0xa0, 0x00, 0x37]), (57, [0x2a]), (58, [0xb4, 0x00, 0x7b]), (61, [0x1b]), (62, [0x1c]), (63, [0x9a, 0x00, 0x0f]), (66, [0x2a]), (67, [0xb4, 0x00, 0x69]), (70, [0x2a]), (71, [0xb4, 0x01, 0xeb]), (74, [0x2e]), (75, [0xa7, 0x00, 0x11]), (78, [0x2a]), (79, [0xb4, 0x00, 0x78]), (82, [0x2a]), (83, [0xb4, 0x00, 0x69])] := pf_ok prog_14_method_50_code _ 40 (by decide +kernel)
theorem d_X12_work_40 : decode prog_14_method_50_code 40 = .ok (.getfield 491, 3) := gq_0 db00e_101 eb_1044
theorem d_X12_work_43 : decode prog_14_method_50_code 43 = .ok (.iconst 1, 1) := gq_1 db00e_101 eb_19
theorem d_X12_work_44 : decode prog_14_method_50_code 44 = .ok (.iadd, 1) := gq_2 db00e_101 eb_35
theorem d_X12_work_45 : decode prog_14_method_50_code 45 = .ok (.putfield 491, 3) := gq_3 db00e_101 eb_1047
theorem d_X12_work_48 : decode prog_14_method_50_code 48 = .ok (.iload_n 2, 1) := gq_4 db00e_101 eb_13
theorem d_X12_work_49 : decode prog_14_method_50_code 49 = .ok (.ifCond .eq 8, 3) := gq_5 db00e_101 eb_489
theorem d_X12_work_52 : decode prog_14_method_50_code 52 = .ok (.iload_n 2, 1) := gq_6 db00e_101 eb_13
theorem d_X12_work_53 : decode prog_14_method_50_code 53 = .ok (.iconst 1, 1) := gq_7 db00e_101 eb_19
theorem d_X12_work_54 : decode prog_14_method_50_code 54 = .ok (.if_icmp .ne 55, 3) := gq_8 db00e_101 eb_309
theorem d_X12_work_57 : decode prog_14_method_50_code 57 = .ok (.aload_n 0, 1) := gq_9 db00e_101 eb_0
theorem d_X12_work_58 : decode prog_14_method_50_code 58 = .ok (.getfield 123, 3) := gq_10 db00e_101 eb_1048
theorem d_X12_work_61 : decode prog_14_method_50_code 61 = .ok (.iload_n 1, 1) := gq_11 db00e_101 eb_9
theorem d_X12_work_62 : decode prog_14_method_50_code 62 = .ok (.iload_n 2, 1) := gq_12 db00e_101 eb_13
theorem d_X12_work_63 : decode prog_14_method_50_code 63 = .ok (.ifCond .ne 15, 3) := gq_13 db00e_101 eb_465
theorem d_X12_work_66 : decode prog_14_method_50_code 66 = .ok (.aload_n 0, 1) := gq_14 db00e_101 eb_0
theorem d_X12_work_67 : decode prog_14_method_50_code 67 = .ok (.getfield 105, 3) := gq_15 db00e_101 eb_1032
theorem d_X12_work_70 : decode prog_14_method_50_code 70 = .ok (.aload_n 0, 1) := gq_16 db00e_101 eb_0
theorem d_X12_work_71 : decode prog_14_method_50_code 71 = .ok (.getfield 491, 3) := gq_17 db00e_101 eb_1044
theorem d_X12_work_74 : decode prog_14_method_50_code 74 = .ok (.iaload, 1) := gq_18 db00e_101 eb_37
theorem d_X12_work_75 : decode prog_14_method_50_code 75 = .ok (.goto 17, 3) := gq_19 db00e_101 eb_1049
theorem d_X12_work_78 : decode prog_14_method_50_code 78 = .ok (.aload_n 0, 1) := gq_20 db00e_101 eb_0
theorem d_X12_work_79 : decode prog_14_method_50_code 79 = .ok (.getfield 120, 3) := gq_21 db00e_101 eb_1050
theorem d_X12_work_82 : decode prog_14_method_50_code 82 = .ok (.aload_n 0, 1) := gq_22 db00e_101 eb_0
theorem d_X12_work_83 : decode prog_14_method_50_code 83 = .ok (.getfield 105, 3) := gq_23 db00e_101 eb_1032
theorem db00e_102 : Pf_ prog_14_method_50_code [(86, [0x2a]), (87, [0xb4, 0x01, 0xeb]), (90, [0x2e]), (91, [0x2e]), (92, [0x4f]), (93, [0x2a]), (94, [0x59]), (95, [0xb4, 0x01, 0xeb]), (98, [0x04]), (99, [0x60]), (100, [0xb5, 0x01, 0xeb]), (103, [0x84, 0x01, 0x01]), (106, [0xa7, 0x00, 0x41]), (109, [0x1c]), (110, [0x10, 0x21]), (112, [0xa0, 0x00, 0x1e]), (115, [0x2a]), (116, [0xb4, 0x00, 0x7b]), (119, [0x1b]), (120, [0x04]), (121, [0x64]), (122, [0x2a]), (123, [0xb4, 0x00, 0x7b]), (126, [0x1b])] := pf_ok prog_14_method_50_code _ 86 (by decide +kernel)
theorem d_X12_work_86 : decode prog_14_method_50_code 86 = .ok (.aload_n 0, 1) := gq_0 db00e_102 eb_0
theorem d_X12_work_87 : decode prog_14_method_50_code 87 = .ok (.getfield 491, 3) := gq_1 db00e_102 eb_1044
theorem d_X12_work_90 : decode prog_14_method_50_code 90 = .ok (.iaload, 1) := gq_2 db00e_102 eb_37
theorem d_X12_work_91 : decode prog_14_method_50_code 91 = .ok (.iaload, 1) := gq_3 db00e_102 eb_37
theorem d_X12_work_92 : decode prog_14_method_50_code 92 = .ok (.iastore, 1) := gq_4 db00e_102 eb_38
theorem d_X12_work_93 : decode prog_14_method_50_code 93 = .ok (.aload_n 0, 1) := gq_5 db00e_102 eb_0
theorem d_X12_work_94 : decode prog_14_method_50_code 94 = .ok (.dup, 1) := gq_6 db00e_102 eb_46
theorem d_X12_work_95 : decode prog_14_method_50_code 95 = .ok (.getfield 491, 3) := gq_7 db00e_102 eb_1044
theorem d_X12_work_98 : decode prog_14_method_50_code 98 = .ok (.iconst 1, 1) := gq_8 db00e_102 eb_19
theorem d_X12_work_99 : decode prog_14_method_50_code 99 = .ok (.iadd, 1) := gq_9 db00e_102 eb_35
theorem d_X12_work_100 : decode prog_14_method_50_code 100 = .ok (.putfield 491, 3) := gq_10 db00e_102 eb_1047
theorem d_X12_work_103 : decode prog_14_method_50_code 103 = .ok (.iinc 1 1, 3) := gq_11 db00e_102 eb_228
theorem d_X12_work_106 : decode prog_14_method_50_code 106 = .ok (.goto 65, 3) := gq_12 db00e_102 eb_1051
theorem d_X12_work_109 : decode prog_14_method_50_code 109 = .ok (.iload_n 2, 1) := gq_13 db00e_102 eb_13
theorem d_X12_work_110 : decode prog_14_method_50_code 110 = .ok (.bipush 33, 2) := gq_14 db00e_102 eb_503
theorem d_X12_work_112 : decode prog_14_method_50_code 112 = .ok (.if_icmp .ne 30, 3) := gq_15 db00e_102 eb_252
theorem d_X12_work_115 : decode prog_14_method_50_code 115 = .ok (.aload_n 0, 1) := gq_16 db00e_102 eb_0
theorem d_X12_work_116 : decode prog_14_method_50_code 116 = .ok (.getfield 123, 3) := gq_17 db00e_102 eb_1048
theorem d_X12_work_119 : decode prog_14_method_50_code 119 = .ok (.iload_n 1, 1) := gq_18 db00e_102 eb_9
theorem d_X12_work_120 : decode prog_14_method_50_code 120 = .ok (.iconst 1, 1) := gq_19 db00e_102 eb_19
theorem d_X12_work_121 : decode prog_14_method_50_code 121 = .ok (.isub, 1) := gq_20 db00e_102 eb_48
theorem d_X12_work_122 : decode prog_14_method_50_code 122 = .ok (.aload_n 0, 1) := gq_21 db00e_102 eb_0
theorem d_X12_work_123 : decode prog_14_method_50_code 123 = .ok (.getfield 123, 3) := gq_22 db00e_102 eb_1048
theorem d_X12_work_126 : decode prog_14_method_50_code 126 = .ok (.iload_n 1, 1) := gq_23 db00e_102 eb_9
theorem db00e_103 : Pf_ prog_14_method_50_code [(127, [0x04]), (128, [0x64]), (129, [0x2e]), (130, [0x9a, 0x00, 0x07]), (133, [0x04]), (134, [0xa7, 0x00, 0x04]), (137, [0x03]), (138, [0x4f]), (139, [0xa7, 0x00, 0x20]), (142, [0x84, 0x01, 0xff]), (145, [0x2a]), (146, [0xb4, 0x00, 0x7b]), (149, [0x1b]), (150, [0x04]), (151, [0x64]), (152, [0x1c]), (153, [0x2a]), (154, [0xb4, 0x00, 0x7b]), (157, [0x1b]), (158, [0x04]), (159, [0x64]), (160, [0x2e]), (161, [0x2a]), (162, [0xb4, 0x00, 0x7b])] := pf_ok prog_14_method_50_code _ 127 (by decide +kernel)
theorem d_X12_work_127 : decode prog_14_method_50_code 127 = .ok (.iconst 1, 1) := gq_0 db00e_103 eb_19
theorem d_X12_work_128 : decode prog_14_method_50_code 128 = .ok (.isub, 1) := gq_1 db00e_103 eb_48
theorem d_X12_work_129 : decode prog_14_method_50_code 129 = .ok (.iaload, 1) := gq_2 db00e_103 eb_37
theorem d_X12_work_130 : decode prog_14_method_50_code 130 = .ok (.ifCond .ne 7, 3) := gq_3 db00e_103 eb_164
theorem d_X12_work_133 : decode prog_14_method_50_code 133 = .ok (.iconst 1, 1) := gq_4 db00e_103 eb_19
theorem d_X12_work_134 : decode prog_14_method_50_code 134 = .ok (.goto 4, 3) := gq_5 db00e_103 eb_20
theorem d_X12_work_137 : decode prog_14_method_50_code 137 = .ok (.iconst 0, 1) := gq_6 db00e_103 eb_21
theorem d_X12_work_138 : decode prog_14_method_50_code 138 = .ok (.iastore, 1) := gq_7 db00e_103 eb_38
theorem d_X12_work_139 : decode prog_14_method_50_code 139 = .ok (.goto 32, 3) := gq_8 db00e_103 eb_674
theorem d_X12_work_142 : decode prog_14_method_50_code 142 = .ok (.iinc 1 (-1), 3) := gq_9 db00e_103 eb_1052
theorem d_X12_work_145 : decode prog_14_method_50_code 145 = .ok (.aload_n 0, 1) := gq_10 db00e_103 eb_0
theorem d_X12_work_146 : decode prog_14_method_50_code 146 = .ok (.getfield 123, 3) := gq_11 db00e_103 eb_1048
theorem d_X12_work_149 : decode prog_14_method_50_code 149 = .ok (.iload_n 1, 1) := gq_12 db00e_103 eb_9
theorem d_X12_work_150 : decode prog_14_method_50_code 150 = .ok (.iconst 1, 1) := gq_13 db00e_103 eb_19
theorem d_X12_work_151 : decode prog_14_method_50_code 151 = .ok (.isub, 1) := gq_14 db00e_103 eb_48
theorem d_X12_work_152 : decode prog_14_method_50_code 152 = .ok (.iload_n 2, 1) := gq_15 db00e_103 eb_13
theorem d_X12_work_153 : decode prog_14_method_50_code 153 = .ok (.aload_n 0, 1) := gq_16 db00e_103 eb_0
theorem d_X12_work_154 : decode prog_14_method_50_code 154 = .ok (.getfield 123, 3) := gq_17 db00e_103 eb_1048
theorem d_X12_work_157 : decode prog_14_method_50_code 157 = .ok (.iload_n 1, 1) := gq_18 db00e_103 eb_9
theorem d_X12_work_158 : decode prog_14_method_50_code 158 = .ok (.iconst 1, 1) := gq_19 db00e_103 eb_19
theorem d_X12_work_159 : decode prog_14_method_50_code 159 = .ok (.isub, 1) := gq_20 db00e_103 eb_48
theorem d_X12_work_160 : decode prog_14_method_50_code 160 = .ok (.iaload, 1) := gq_21 db00e_103 eb_37
theorem d_X12_work_161 : decode prog_14_method_50_code 161 = .ok (.aload_n 0, 1) := gq_22 db00e_103 eb_0
theorem d_X12_work_162 : decode prog_14_method_50_code 162 = .ok (.getfield 123, 3) := gq_23 db00e_103 eb_1048
theorem db00e_104 : Pf_ prog_14_method_50_code [(165, [0x1b]), (166, [0x2e]), (167, [0xb8, 0x01, 0xee]), (170, [0x4f]), (171, [0xa7, 0xff, 0x57]), (174, [0x2a]), (175, [0x59]), (176, [0xb4, 0x01, 0xeb]), (179, [0x04]), (180, [0x60]), (181, [0xb5, 0x01, 0xeb]), (184, [0x2a]), (185, [0xb4, 0x00, 0x7b]), (188, [0x03]), (189, [0x2e]), (190, [0xac])] := pf_ok prog_14_method_50_code _ 165 (by decide +kernel)
theorem d_X12_work_165 : decode prog_14_method_50_code 165 = .ok (.iload_n 1, 1) := gq_0 db00e_104 eb_9
theorem d_X12_work_166 : decode prog_14_method_50_code 166 = .ok (.iaload, 1) := gq_1 db00e_104 eb_37
theorem d_X12_work_167 : decode prog_14_method_50_code 167 = .ok (.invokestatic 494, 3) := gq_2 db00e_104 eb_1053
theorem d_X12_work_170 : decode prog_14_method_50_code 170 = .ok (.iastore, 1) := gq_3 db00e_104 eb_38
theorem d_X12_work_171 : decode prog_14_method_50_code 171 = .ok (.goto (-169), 3) := gq_4 db00e_104 eb_1054
theorem d_X12_work_174 : decode prog_14_method_50_code 174 = .ok (.aload_n 0, 1) := gq_5 db00e_104 eb_0
theorem d_X12_work_175 : decode prog_14_method_50_code 175 = .ok (.dup, 1) := gq_6 db00e_104 eb_46
theorem d_X12_work_176 : decode prog_14_method_50_code 176 = .ok (.getfield 491, 3) := gq_7 db00e_104 eb_1044
theorem d_X12_work_179 : decode prog_14_method_50_code 179 = .ok (.iconst 1, 1) := gq_8 db00e_104 eb_19
theorem d_X12_work_180 : decode prog_14_method_50_code 180 = .ok (.iadd, 1) := gq_9 db00e_104 eb_35
theorem d_X12_work_181 : decode prog_14_method_50_code 181 = .ok (.putfield 491, 3) := gq_10 db00e_104 eb_1047
theorem d_X12_work_184 : decode prog_14_method_50_code 184 = .ok (.aload_n 0, 1) := gq_11 db00e_104 eb_0
theorem d_X12_work_185 : decode prog_14_method_50_code 185 = .ok (.getfield 123, 3) := gq_12 db00e_104 eb_1048
theorem d_X12_work_188 : decode prog_14_method_50_code 188 = .ok (.iconst 0, 1) := gq_13 db00e_104 eb_21
theorem d_X12_work_189 : decode prog_14_method_50_code 189 = .ok (.iaload, 1) := gq_14 db00e_104 eb_37
theorem d_X12_work_190 : decode prog_14_method_50_code 190 = .ok (.ireturn, 1) := gq_15 db00e_104 eb_15
theorem db00e_105 : Pf_ prog_14_method_51_code [(0, [0x1c]), (1, [0x02]), (2, [0xa0, 0x00, 0x05]), (5, [0x03]), (6, [0xac]), (7, [0x10, 0x14]), (9, [0x1b]), (10, [0x68]), (11, [0x1c]), (12, [0x60]), (13, [0x3e]), (14, [0x2a]), (15, [0x11, 0x02, 0x30]), (18, [0x1d]), (19, [0x68]), (20, [0xb5, 0x01, 0xeb]), (23, [0x2a]), (24, [0xb4, 0x01, 0xeb]), (27, [0x11, 0x02, 0x30]), (30, [0x1d]), (31, [0x68]), (32, [0x2a]), (33, [0xb4, 0x00, 0x6c]), (36, [0x1d])] := pf_ok prog_14_method_51_code _ 0 (by decide +kernel)
theorem d_X12_tell_0 : decode prog_14_method_51_code 0 = .ok (.iload_n 2, 1) := gq_0 db00e_105 eb_13
theorem d_X12_tell_1 : decode prog_14_method_51_code 1 = .ok (.iconst (-1), 1) := gq_1 db00e_105 eb_26
theorem d_X12_tell_2 : decode prog_14_method_51_code 2 = .ok (.if_icmp .ne 5, 3) := gq_2 db00e_105 eb_479
theorem d_X12_tell_5 : decode prog_14_method_51_code 5 = .ok (.iconst 0, 1) := gq_3 db00e_105 eb_21
theorem d_X12_tell_6 : decode prog_14_method_51_code 6 = .ok (.ireturn, 1) := gq_4 db00e_105 eb_15
theorem d_X12_tell_7 : decode prog_14_method_51_code 7 = .ok (.bipush 20, 2) := gq_5 db00e_105 eb_478
theorem d_X12_tell_9 : decode prog_14_method_51_code 9 = .ok (.iload_n 1, 1) := gq_6 db00e_105 eb_9
theorem d_X12_tell_10 : decode prog_14_method_51_code 10 = .ok (.imul, 1) := gq_7 db00e_105 eb_34
theorem d_X12_tell_11 : decode prog_14_method_51_code 11 = .ok (.iload_n 2, 1) := gq_8 db00e_105 eb_13
theorem d_X12_tell_12 : decode prog_14_method_51_code 12 = .ok (.iadd, 1) := gq_9 db00e_105 eb_35
theorem d_X12_tell_13 : decode prog_14_method_51_code 13 = .ok (.istore_n 3, 1) := gq_10 db00e_105 eb_28
theorem d_X12_tell_14 : decode prog_14_method_51_code 14 = .ok (.aload_n 0, 1) := gq_11 db00e_105 eb_0
theorem d_X12_tell_15 : decode prog_14_method_51_code 15 = .ok (.sipush 560, 3) := gq_12 db00e_105 eb_835
theorem d_X12_tell_18 : decode prog_14_method_51_code 18 = .ok (.iload_n 3, 1) := gq_13 db00e_105 eb_29
theorem d_X12_tell_19 : decode prog_14_method_51_code 19 = .ok (.imul, 1) := gq_14 db00e_105 eb_34
theorem d_X12_tell_20 : decode prog_14_method_51_code 20 = .ok (.putfield 491, 3) := gq_15 db00e_105 eb_1047
theorem d_X12_tell_23 : decode prog_14_method_51_code 23 = .ok (.aload_n 0, 1) := gq_16 db00e_105 eb_0
theorem d_X12_tell_24 : decode prog_14_method_51_code 24 = .ok (.getfield 491, 3) := gq_17 db00e_105 eb_1044
theorem d_X12_tell_27 : decode prog_14_method_51_code 27 = .ok (.sipush 560, 3) := gq_18 db00e_105 eb_835
theorem d_X12_tell_30 : decode prog_14_method_51_code 30 = .ok (.iload_n 3, 1) := gq_19 db00e_105 eb_29
theorem d_X12_tell_31 : decode prog_14_method_51_code 31 = .ok (.imul, 1) := gq_20 db00e_105 eb_34
theorem d_X12_tell_32 : decode prog_14_method_51_code 32 = .ok (.aload_n 0, 1) := gq_21 db00e_105 eb_0
theorem d_X12_tell_33 : decode prog_14_method_51_code 33 = .ok (.getfield 108, 3) := gq_22 db00e_105 eb_1033
theorem d_X12_tell_36 : decode prog_14_method_51_code 36 = .ok (.iload_n 3, 1) := gq_23 db00e_105 eb_29
theorem db00e_106 : Pf_ prog_14_method_51_code [(37, [0x2e]), (38, [0x60]), (39, [0xa2, 0x00, 0x22]), (42, [0x2a]), (43, [0xb6, 0x01, 0xf1]), (46, [0x99, 0x00, 0x07]), (49, [0x04]), (50, [0xa7, 0x00, 0x04]), (53, [0x03]), (54, [0x36, 0x04]), (56, [0x2a]), (57, [0xb6, 0x01, 0xf1]), (60, [0x36, 0x05]), (62, [0x15, 0x04]), (64, [0x99, 0x00, 0x06]), (67, [0x15, 0x05]), (69, [0xac]), (70, [0xa7, 0xff, 0xd1]), (73, [0x03]), (74, [0xac])] := pf_ok prog_14_method_51_code _ 37 (by decide +kernel)
theorem d_X12_tell_37 : decode prog_14_method_51_code 37 = .ok (.iaload, 1) := gq_0 db00e_106 eb_37
theorem d_X12_tell_38 : decode prog_14_method_51_code 38 = .ok (.iadd, 1) := gq_1 db00e_106 eb_35
theorem d_X12_tell_39 : decode prog_14_method_51_code 39 = .ok (.if_icmp .ge 34, 3) := gq_2 db00e_106 eb_427
theorem d_X12_tell_42 : decode prog_14_method_51_code 42 = .ok (.aload_n 0, 1) := gq_3 db00e_106 eb_0
theorem d_X12_tell_43 : decode prog_14_method_51_code 43 = .ok (.invokevirtual 497, 3) := gq_4 db00e_106 eb_1055
theorem d_X12_tell_46 : decode prog_14_method_51_code 46 = .ok (.ifCond .eq 7, 3) := gq_5 db00e_106 eb_123
theorem d_X12_tell_49 : decode prog_14_method_51_code 49 = .ok (.iconst 1, 1) := gq_6 db00e_106 eb_19
theorem d_X12_tell_50 : decode prog_14_method_51_code 50 = .ok (.goto 4, 3) := gq_7 db00e_106 eb_20
theorem d_X12_tell_53 : decode prog_14_method_51_code 53 = .ok (.iconst 0, 1) := gq_8 db00e_106 eb_21
theorem d_X12_tell_54 : decode prog_14_method_51_code 54 = .ok (.istore 4, 2) := gq_9 db00e_106 eb_133
theorem d_X12_tell_56 : decode prog_14_method_51_code 56 = .ok (.aload_n 0, 1) := gq_10 db00e_106 eb_0
theorem d_X12_tell_57 : decode prog_14_method_51_code 57 = .ok (.invokevirtual 497, 3) := gq_11 db00e_106 eb_1055
theorem d_X12_tell_60 : decode prog_14_method_51_code 60 = .ok (.istore 5, 2) := gq_12 db00e_106 eb_134
theorem d_X12_tell_62 : decode prog_14_method_51_code 62 = .ok (.iload 4, 2) := gq_13 db00e_106 eb_76
theorem d_X12_tell_64 : decode prog_14_method_51_code 64 = .ok (.ifCond .eq 6, 3) := gq_14 db00e_106 eb_444
theorem d_X12_tell_67 : decode prog_14_method_51_code 67 = .ok (.iload 5, 2) := gq_15 db00e_106 eb_125
theorem d_X12_tell_69 : decode prog_14_method_51_code 69 = .ok (.ireturn, 1) := gq_16 db00e_106 eb_15
theorem d_X12_tell_70 : decode prog_14_method_51_code 70 = .ok (.goto (-47), 3) := gq_17 db00e_106 eb_433
theorem d_X12_tell_73 : decode prog_14_method_51_code 73 = .ok (.iconst 0, 1) := gq_18 db00e_106 eb_21
theorem d_X12_tell_74 : decode prog_14_method_51_code 74 = .ok (.ireturn, 1) := gq_19 db00e_106 eb_15
theorem db00e_107 : Pf_ prog_14_method_52_code [(0, [0x2a]), (1, [0xb4, 0x00, 0x8a]), (4, [0x1b]), (5, [0x2a]), (6, [0xb4, 0x01, 0x56]), (9, [0x4f]), (10, [0x2a]), (11, [0xb4, 0x00, 0x8d]), (14, [0x1b]), (15, [0x1c]), (16, [0x4f]), (17, [0xb1])] := pf_ok prog_14_method_52_code _ 0 (by decide +kernel)
theorem d_X12_miss_0 : decode prog_14_method_52_code 0 = .ok (.aload_n 0, 1) := gq_0 db00e_107 eb_0
theorem d_X12_miss_1 : decode prog_14_method_52_code 1 = .ok (.getfield 138, 3) := gq_1 db00e_107 eb_1056
theorem d_X12_miss_4 : decode prog_14_method_52_code 4 = .ok (.iload_n 1, 1) := gq_2 db00e_107 eb_9
theorem d_X12_miss_5 : decode prog_14_method_52_code 5 = .ok (.aload_n 0, 1) := gq_3 db00e_107 eb_0
theorem d_X12_miss_6 : decode prog_14_method_52_code 6 = .ok (.getfield 342, 3) := gq_4 db00e_107 eb_928
theorem d_X12_miss_9 : decode prog_14_method_52_code 9 = .ok (.iastore, 1) := gq_5 db00e_107 eb_38
theorem d_X12_miss_10 : decode prog_14_method_52_code 10 = .ok (.aload_n 0, 1) := gq_6 db00e_107 eb_0
theorem d_X12_miss_11 : decode prog_14_method_52_code 11 = .ok (.getfield 141, 3) := gq_7 db00e_107 eb_1057
theorem d_X12_miss_14 : decode prog_14_method_52_code 14 = .ok (.iload_n 1, 1) := gq_8 db00e_107 eb_9
theorem d_X12_miss_15 : decode prog_14_method_52_code 15 = .ok (.iload_n 2, 1) := gq_9 db00e_107 eb_13
theorem d_X12_miss_16 : decode prog_14_method_52_code 16 = .ok (.iastore, 1) := gq_10 db00e_107 eb_38
theorem d_X12_miss_17 : decode prog_14_method_52_code 17 = .ok (.return_, 1) := gq_11 db00e_107 eb_7
theorem db00e_108 : Pf_ prog_14_method_53_code [(0, [0x2a]), (1, [0xb4, 0x00, 0x3a]), (4, [0x1b]), (5, [0x2e]), (6, [0x2a]), (7, [0xb4, 0x00, 0x3d]), (10, [0x1b])] := pf_ok prog_14_method_53_code _ 0 (by decide +kernel)
theorem d_X12_drop_0 : decode prog_14_method_53_code 0 = .ok (.aload_n 0, 1) := gq_0 db00e_108 eb_0
theorem d_X12_drop_1 : decode prog_14_method_53_code 1 = .ok (.getfield 58, 3) := gq_1 db00e_108 eb_319
theorem d_X12_drop_4 : decode prog_14_method_53_code 4 = .ok (.iload_n 1, 1) := gq_2 db00e_108 eb_9
theorem d_X12_drop_5 : decode prog_14_method_53_code 5 = .ok (.iaload, 1) := gq_3 db00e_108 eb_37
theorem d_X12_drop_6 : decode prog_14_method_53_code 6 = .ok (.aload_n 0, 1) := gq_4 db00e_108 eb_0
theorem d_X12_drop_7 : decode prog_14_method_53_code 7 = .ok (.getfield 61, 3) := gq_5 db00e_108 eb_321
theorem d_X12_drop_10 : decode prog_14_method_53_code 10 = .ok (.iload_n 1, 1) := gq_6 db00e_108 eb_9
