theorem db00e_0 : Ad_ prog_14_method_5_code [(30, .getfield 331, 3), (33, .bipush 40, 2), (35, .if_icmp .ne 5, 3), (38, .iconst (-1), 1), (39, .ireturn, 1), (40, .aload_n 0, 1), (41, .getfield 9, 3), (44, .aload_n 0, 1), (45, .getfield 331, 3), (48, .iload_n 1, 1), (49, .iastore, 1), (50, .aload_n 0, 1), (51, .getfield 13, 3), (54, .aload_n 0, 1), (55, .getfield 331, 3), (58, .iload_n 2, 1), (59, .iastore, 1), (60, .aload_n 0, 1), (61, .getfield 16, 3), (64, .aload_n 0, 1), (65, .getfield 331, 3), (68, .iload_n 3, 1), (69, .iastore, 1), (70, .aload_n 0, 1)] := bch_ok prog_14_method_5_code _ 30 (by decide +kernel)
theorem d_X12_path_30 : decode prog_14_method_5_code 30 = .ok (.getfield 331, 3) := gd_0 db00e_0
theorem d_X12_path_33 : decode prog_14_method_5_code 33 = .ok (.bipush 40, 2) := gd_1 db00e_0
theorem d_X12_path_35 : decode prog_14_method_5_code 35 = .ok (.if_icmp .ne 5, 3) := gd_2 db00e_0
theorem d_X12_path_38 : decode prog_14_method_5_code 38 = .ok (.iconst (-1), 1) := gd_3 db00e_0
theorem d_X12_path_39 : decode prog_14_method_5_code 39 = .ok (.ireturn, 1) := gd_4 db00e_0
theorem d_X12_path_40 : decode prog_14_method_5_code 40 = .ok (.aload_n 0, 1) := gd_5 db00e_0
theorem d_X12_path_41 : decode prog_14_method_5_code 41 = .ok (.getfield 9, 3) := gd_6 db00e_0
theorem d_X12_path_44 : decode prog_14_method_5_code 44 = .ok (.aload_n 0, 1) := gd_7 db00e_0
theorem d_X12_path_45 : decode prog_14_method_5_code 45 = .ok (.getfield 331, 3) := gd_8 db00e_0
theorem d_X12_path_48 : decode prog_14_method_5_code 48 = .ok (.iload_n 1, 1) := gd_9 db00e_0
theorem d_X12_path_49 : decode prog_14_method_5_code 49 = .ok (.iastore, 1) := gd_10 db00e_0
theorem d_X12_path_50 : decode prog_14_method_5_code 50 = .ok (.aload_n 0, 1) := gd_11 db00e_0
theorem d_X12_path_51 : decode prog_14_method_5_code 51 = .ok (.getfield 13, 3) := gd_12 db00e_0
theorem d_X12_path_54 : decode prog_14_method_5_code 54 = .ok (.aload_n 0, 1) := gd_13 db00e_0
theorem d_X12_path_55 : decode prog_14_method_5_code 55 = .ok (.getfield 331, 3) := gd_14 db00e_0
theorem d_X12_path_58 : decode prog_14_method_5_code 58 = .ok (.iload_n 2, 1) := gd_15 db00e_0
theorem d_X12_path_59 : decode prog_14_method_5_code 59 = .ok (.iastore, 1) := gd_16 db00e_0
theorem d_X12_path_60 : decode prog_14_method_5_code 60 = .ok (.aload_n 0, 1) := gd_17 db00e_0
theorem d_X12_path_61 : decode prog_14_method_5_code 61 = .ok (.getfield 16, 3) := gd_18 db00e_0
theorem d_X12_path_64 : decode prog_14_method_5_code 64 = .ok (.aload_n 0, 1) := gd_19 db00e_0
theorem d_X12_path_65 : decode prog_14_method_5_code 65 = .ok (.getfield 331, 3) := gd_20 db00e_0
theorem d_X12_path_68 : decode prog_14_method_5_code 68 = .ok (.iload_n 3, 1) := gd_21 db00e_0
theorem d_X12_path_69 : decode prog_14_method_5_code 69 = .ok (.iastore, 1) := gd_22 db00e_0
theorem d_X12_path_70 : decode prog_14_method_5_code 70 = .ok (.aload_n 0, 1) := gd_23 db00e_0
theorem db00e_1 : Ad_ prog_14_method_5_code [(71, .dup, 1), (72, .getfield 331, 3), (75, .iconst 1, 1), (76, .iadd, 1), (77, .putfield 331, 3), (80, .aload_n 0, 1), (81, .getfield 331, 3), (84, .iconst 1, 1), (85, .isub, 1), (86, .ireturn, 1)] := bch_ok prog_14_method_5_code _ 71 (by decide +kernel)
theorem d_X12_path_71 : decode prog_14_method_5_code 71 = .ok (.dup, 1) := gd_0 db00e_1
theorem d_X12_path_72 : decode prog_14_method_5_code 72 = .ok (.getfield 331, 3) := gd_1 db00e_1
theorem d_X12_path_75 : decode prog_14_method_5_code 75 = .ok (.iconst 1, 1) := gd_2 db00e_1
theorem d_X12_path_76 : decode prog_14_method_5_code 76 = .ok (.iadd, 1) := gd_3 db00e_1
theorem d_X12_path_77 : decode prog_14_method_5_code 77 = .ok (.putfield 331, 3) := gd_4 db00e_1
theorem d_X12_path_80 : decode prog_14_method_5_code 80 = .ok (.aload_n 0, 1) := gd_5 db00e_1
theorem d_X12_path_81 : decode prog_14_method_5_code 81 = .ok (.getfield 331, 3) := gd_6 db00e_1
theorem d_X12_path_84 : decode prog_14_method_5_code 84 = .ok (.iconst 1, 1) := gd_7 db00e_1
theorem d_X12_path_85 : decode prog_14_method_5_code 85 = .ok (.isub, 1) := gd_8 db00e_1
theorem d_X12_path_86 : decode prog_14_method_5_code 86 = .ok (.ireturn, 1) := gd_9 db00e_1
theorem db00e_2 : Ad_ prog_14_method_6_code [(0, .iconst 0, 1), (1, .istore_n 3, 1), (2, .iload_n 3, 1), (3, .bipush 16, 2), (5, .if_icmp .ge 27, 3), (8, .aload_n 0, 1), (9, .getfield 19, 3), (12, .iload_n 3, 1), (13, .iload_n 3, 1), (14, .iload_n 1, 1), (15, .if_icmp .ne 7, 3), (18, .iconst 0, 1), (19, .goto 6, 3), (22, .ldc_w 334, 3), (25, .iastore, 1), (26, .iinc 3 1, 3), (29, .goto (-27), 3), (32, .iconst 1, 1), (33, .istore_n 3, 1), (34, .iload_n 3, 1), (35, .ifCond .eq 142, 3), (38, .iconst 0, 1), (39, .istore_n 3, 1), (40, .iconst 0, 1)] := bch_ok prog_14_method_6_code _ 0 (by decide +kernel)
theorem d_X12_walkOf_0 : decode prog_14_method_6_code 0 = .ok (.iconst 0, 1) := gd_0 db00e_2
theorem d_X12_walkOf_1 : decode prog_14_method_6_code 1 = .ok (.istore_n 3, 1) := gd_1 db00e_2
theorem d_X12_walkOf_2 : decode prog_14_method_6_code 2 = .ok (.iload_n 3, 1) := gd_2 db00e_2
theorem d_X12_walkOf_3 : decode prog_14_method_6_code 3 = .ok (.bipush 16, 2) := gd_3 db00e_2
theorem d_X12_walkOf_5 : decode prog_14_method_6_code 5 = .ok (.if_icmp .ge 27, 3) := gd_4 db00e_2
theorem d_X12_walkOf_8 : decode prog_14_method_6_code 8 = .ok (.aload_n 0, 1) := gd_5 db00e_2
theorem d_X12_walkOf_9 : decode prog_14_method_6_code 9 = .ok (.getfield 19, 3) := gd_6 db00e_2
theorem d_X12_walkOf_12 : decode prog_14_method_6_code 12 = .ok (.iload_n 3, 1) := gd_7 db00e_2
theorem d_X12_walkOf_13 : decode prog_14_method_6_code 13 = .ok (.iload_n 3, 1) := gd_8 db00e_2
theorem d_X12_walkOf_14 : decode prog_14_method_6_code 14 = .ok (.iload_n 1, 1) := gd_9 db00e_2
theorem d_X12_walkOf_15 : decode prog_14_method_6_code 15 = .ok (.if_icmp .ne 7, 3) := gd_10 db00e_2
theorem d_X12_walkOf_18 : decode prog_14_method_6_code 18 = .ok (.iconst 0, 1) := gd_11 db00e_2
theorem d_X12_walkOf_19 : decode prog_14_method_6_code 19 = .ok (.goto 6, 3) := gd_12 db00e_2
theorem d_X12_walkOf_22 : decode prog_14_method_6_code 22 = .ok (.ldc_w 334, 3) := gd_13 db00e_2
theorem d_X12_walkOf_25 : decode prog_14_method_6_code 25 = .ok (.iastore, 1) := gd_14 db00e_2
theorem d_X12_walkOf_26 : decode prog_14_method_6_code 26 = .ok (.iinc 3 1, 3) := gd_15 db00e_2
theorem d_X12_walkOf_29 : decode prog_14_method_6_code 29 = .ok (.goto (-27), 3) := gd_16 db00e_2
theorem d_X12_walkOf_32 : decode prog_14_method_6_code 32 = .ok (.iconst 1, 1) := gd_17 db00e_2
theorem d_X12_walkOf_33 : decode prog_14_method_6_code 33 = .ok (.istore_n 3, 1) := gd_18 db00e_2
theorem d_X12_walkOf_34 : decode prog_14_method_6_code 34 = .ok (.iload_n 3, 1) := gd_19 db00e_2
theorem d_X12_walkOf_35 : decode prog_14_method_6_code 35 = .ok (.ifCond .eq 142, 3) := gd_20 db00e_2
theorem d_X12_walkOf_38 : decode prog_14_method_6_code 38 = .ok (.iconst 0, 1) := gd_21 db00e_2
theorem d_X12_walkOf_39 : decode prog_14_method_6_code 39 = .ok (.istore_n 3, 1) := gd_22 db00e_2
theorem d_X12_walkOf_40 : decode prog_14_method_6_code 40 = .ok (.iconst 0, 1) := gd_23 db00e_2
theorem db00e_3 : Ad_ prog_14_method_6_code [(41, .istore 4, 2), (43, .iload 4, 2), (45, .aload_n 0, 1), (46, .getfield 331, 3), (49, .if_icmp .ge 125, 3), (52, .aload_n 0, 1), (53, .getfield 9, 3), (56, .iload 4, 2), (58, .iaload, 1), (59, .istore 5, 2), (61, .aload_n 0, 1), (62, .getfield 13, 3), (65, .iload 4, 2), (67, .iaload, 1), (68, .istore 6, 2), (70, .aload_n 0, 1), (71, .getfield 19, 3), (74, .iload 5, 2), (76, .iaload, 1), (77, .aload_n 0, 1), (78, .getfield 16, 3), (81, .iload 4, 2), (83, .iaload, 1), (84, .iadd, 1)] := bch_ok prog_14_method_6_code _ 41 (by decide +kernel)
theorem d_X12_walkOf_41 : decode prog_14_method_6_code 41 = .ok (.istore 4, 2) := gd_0 db00e_3
theorem d_X12_walkOf_43 : decode prog_14_method_6_code 43 = .ok (.iload 4, 2) := gd_1 db00e_3
theorem d_X12_walkOf_45 : decode prog_14_method_6_code 45 = .ok (.aload_n 0, 1) := gd_2 db00e_3
theorem d_X12_walkOf_46 : decode prog_14_method_6_code 46 = .ok (.getfield 331, 3) := gd_3 db00e_3
theorem d_X12_walkOf_49 : decode prog_14_method_6_code 49 = .ok (.if_icmp .ge 125, 3) := gd_4 db00e_3
theorem d_X12_walkOf_52 : decode prog_14_method_6_code 52 = .ok (.aload_n 0, 1) := gd_5 db00e_3
theorem d_X12_walkOf_53 : decode prog_14_method_6_code 53 = .ok (.getfield 9, 3) := gd_6 db00e_3
theorem d_X12_walkOf_56 : decode prog_14_method_6_code 56 = .ok (.iload 4, 2) := gd_7 db00e_3
theorem d_X12_walkOf_58 : decode prog_14_method_6_code 58 = .ok (.iaload, 1) := gd_8 db00e_3
theorem d_X12_walkOf_59 : decode prog_14_method_6_code 59 = .ok (.istore 5, 2) := gd_9 db00e_3
theorem d_X12_walkOf_61 : decode prog_14_method_6_code 61 = .ok (.aload_n 0, 1) := gd_10 db00e_3
theorem d_X12_walkOf_62 : decode prog_14_method_6_code 62 = .ok (.getfield 13, 3) := gd_11 db00e_3
theorem d_X12_walkOf_65 : decode prog_14_method_6_code 65 = .ok (.iload 4, 2) := gd_12 db00e_3
theorem d_X12_walkOf_67 : decode prog_14_method_6_code 67 = .ok (.iaload, 1) := gd_13 db00e_3
theorem d_X12_walkOf_68 : decode prog_14_method_6_code 68 = .ok (.istore 6, 2) := gd_14 db00e_3
theorem d_X12_walkOf_70 : decode prog_14_method_6_code 70 = .ok (.aload_n 0, 1) := gd_15 db00e_3
theorem d_X12_walkOf_71 : decode prog_14_method_6_code 71 = .ok (.getfield 19, 3) := gd_16 db00e_3
theorem d_X12_walkOf_74 : decode prog_14_method_6_code 74 = .ok (.iload 5, 2) := gd_17 db00e_3
theorem d_X12_walkOf_76 : decode prog_14_method_6_code 76 = .ok (.iaload, 1) := gd_18 db00e_3
theorem d_X12_walkOf_77 : decode prog_14_method_6_code 77 = .ok (.aload_n 0, 1) := gd_19 db00e_3
theorem d_X12_walkOf_78 : decode prog_14_method_6_code 78 = .ok (.getfield 16, 3) := gd_20 db00e_3
theorem d_X12_walkOf_81 : decode prog_14_method_6_code 81 = .ok (.iload 4, 2) := gd_21 db00e_3
theorem d_X12_walkOf_83 : decode prog_14_method_6_code 83 = .ok (.iaload, 1) := gd_22 db00e_3
theorem d_X12_walkOf_84 : decode prog_14_method_6_code 84 = .ok (.iadd, 1) := gd_23 db00e_3
theorem db00e_4 : Ad_ prog_14_method_6_code [(85, .aload_n 0, 1), (86, .getfield 19, 3), (89, .iload 6, 2), (91, .iaload, 1), (92, .if_icmp .ge 27, 3), (95, .aload_n 0, 1), (96, .getfield 19, 3), (99, .iload 6, 2), (101, .aload_n 0, 1), (102, .getfield 19, 3), (105, .iload 5, 2), (107, .iaload, 1), (108, .aload_n 0, 1), (109, .getfield 16, 3), (112, .iload 4, 2), (114, .iaload, 1), (115, .iadd, 1), (116, .iastore, 1), (117, .iconst 1, 1), (118, .istore_n 3, 1), (119, .aload_n 0, 1), (120, .getfield 19, 3), (123, .iload 6, 2), (125, .iaload, 1)] := bch_ok prog_14_method_6_code _ 85 (by decide +kernel)
theorem d_X12_walkOf_85 : decode prog_14_method_6_code 85 = .ok (.aload_n 0, 1) := gd_0 db00e_4
theorem d_X12_walkOf_86 : decode prog_14_method_6_code 86 = .ok (.getfield 19, 3) := gd_1 db00e_4
theorem d_X12_walkOf_89 : decode prog_14_method_6_code 89 = .ok (.iload 6, 2) := gd_2 db00e_4
theorem d_X12_walkOf_91 : decode prog_14_method_6_code 91 = .ok (.iaload, 1) := gd_3 db00e_4
theorem d_X12_walkOf_92 : decode prog_14_method_6_code 92 = .ok (.if_icmp .ge 27, 3) := gd_4 db00e_4
theorem d_X12_walkOf_95 : decode prog_14_method_6_code 95 = .ok (.aload_n 0, 1) := gd_5 db00e_4
theorem d_X12_walkOf_96 : decode prog_14_method_6_code 96 = .ok (.getfield 19, 3) := gd_6 db00e_4
theorem d_X12_walkOf_99 : decode prog_14_method_6_code 99 = .ok (.iload 6, 2) := gd_7 db00e_4
theorem d_X12_walkOf_101 : decode prog_14_method_6_code 101 = .ok (.aload_n 0, 1) := gd_8 db00e_4
theorem d_X12_walkOf_102 : decode prog_14_method_6_code 102 = .ok (.getfield 19, 3) := gd_9 db00e_4
theorem d_X12_walkOf_105 : decode prog_14_method_6_code 105 = .ok (.iload 5, 2) := gd_10 db00e_4
theorem d_X12_walkOf_107 : decode prog_14_method_6_code 107 = .ok (.iaload, 1) := gd_11 db00e_4
theorem d_X12_walkOf_108 : decode prog_14_method_6_code 108 = .ok (.aload_n 0, 1) := gd_12 db00e_4
theorem d_X12_walkOf_109 : decode prog_14_method_6_code 109 = .ok (.getfield 16, 3) := gd_13 db00e_4
theorem d_X12_walkOf_112 : decode prog_14_method_6_code 112 = .ok (.iload 4, 2) := gd_14 db00e_4
theorem d_X12_walkOf_114 : decode prog_14_method_6_code 114 = .ok (.iaload, 1) := gd_15 db00e_4
theorem d_X12_walkOf_115 : decode prog_14_method_6_code 115 = .ok (.iadd, 1) := gd_16 db00e_4
theorem d_X12_walkOf_116 : decode prog_14_method_6_code 116 = .ok (.iastore, 1) := gd_17 db00e_4
theorem d_X12_walkOf_117 : decode prog_14_method_6_code 117 = .ok (.iconst 1, 1) := gd_18 db00e_4
theorem d_X12_walkOf_118 : decode prog_14_method_6_code 118 = .ok (.istore_n 3, 1) := gd_19 db00e_4
theorem d_X12_walkOf_119 : decode prog_14_method_6_code 119 = .ok (.aload_n 0, 1) := gd_20 db00e_4
theorem d_X12_walkOf_120 : decode prog_14_method_6_code 120 = .ok (.getfield 19, 3) := gd_21 db00e_4
theorem d_X12_walkOf_123 : decode prog_14_method_6_code 123 = .ok (.iload 6, 2) := gd_22 db00e_4
theorem d_X12_walkOf_125 : decode prog_14_method_6_code 125 = .ok (.iaload, 1) := gd_23 db00e_4
theorem db00e_5 : Ad_ prog_14_method_6_code [(126, .aload_n 0, 1), (127, .getfield 16, 3), (130, .iload 4, 2), (132, .iaload, 1), (133, .iadd, 1), (134, .aload_n 0, 1), (135, .getfield 19, 3), (138, .iload 5, 2), (140, .iaload, 1), (141, .if_icmp .ge 27, 3), (144, .aload_n 0, 1), (145, .getfield 19, 3), (148, .iload 5, 2), (150, .aload_n 0, 1), (151, .getfield 19, 3), (154, .iload 6, 2), (156, .iaload, 1), (157, .aload_n 0, 1), (158, .getfield 16, 3), (161, .iload 4, 2), (163, .iaload, 1), (164, .iadd, 1), (165, .iastore, 1), (166, .iconst 1, 1)] := bch_ok prog_14_method_6_code _ 126 (by decide +kernel)
theorem d_X12_walkOf_126 : decode prog_14_method_6_code 126 = .ok (.aload_n 0, 1) := gd_0 db00e_5
theorem d_X12_walkOf_127 : decode prog_14_method_6_code 127 = .ok (.getfield 16, 3) := gd_1 db00e_5
theorem d_X12_walkOf_130 : decode prog_14_method_6_code 130 = .ok (.iload 4, 2) := gd_2 db00e_5
theorem d_X12_walkOf_132 : decode prog_14_method_6_code 132 = .ok (.iaload, 1) := gd_3 db00e_5
theorem d_X12_walkOf_133 : decode prog_14_method_6_code 133 = .ok (.iadd, 1) := gd_4 db00e_5
theorem d_X12_walkOf_134 : decode prog_14_method_6_code 134 = .ok (.aload_n 0, 1) := gd_5 db00e_5
theorem d_X12_walkOf_135 : decode prog_14_method_6_code 135 = .ok (.getfield 19, 3) := gd_6 db00e_5
theorem d_X12_walkOf_138 : decode prog_14_method_6_code 138 = .ok (.iload 5, 2) := gd_7 db00e_5
theorem d_X12_walkOf_140 : decode prog_14_method_6_code 140 = .ok (.iaload, 1) := gd_8 db00e_5
theorem d_X12_walkOf_141 : decode prog_14_method_6_code 141 = .ok (.if_icmp .ge 27, 3) := gd_9 db00e_5
theorem d_X12_walkOf_144 : decode prog_14_method_6_code 144 = .ok (.aload_n 0, 1) := gd_10 db00e_5
theorem d_X12_walkOf_145 : decode prog_14_method_6_code 145 = .ok (.getfield 19, 3) := gd_11 db00e_5
theorem d_X12_walkOf_148 : decode prog_14_method_6_code 148 = .ok (.iload 5, 2) := gd_12 db00e_5
theorem d_X12_walkOf_150 : decode prog_14_method_6_code 150 = .ok (.aload_n 0, 1) := gd_13 db00e_5
theorem d_X12_walkOf_151 : decode prog_14_method_6_code 151 = .ok (.getfield 19, 3) := gd_14 db00e_5
theorem d_X12_walkOf_154 : decode prog_14_method_6_code 154 = .ok (.iload 6, 2) := gd_15 db00e_5
theorem d_X12_walkOf_156 : decode prog_14_method_6_code 156 = .ok (.iaload, 1) := gd_16 db00e_5
theorem d_X12_walkOf_157 : decode prog_14_method_6_code 157 = .ok (.aload_n 0, 1) := gd_17 db00e_5
theorem d_X12_walkOf_158 : decode prog_14_method_6_code 158 = .ok (.getfield 16, 3) := gd_18 db00e_5
theorem d_X12_walkOf_161 : decode prog_14_method_6_code 161 = .ok (.iload 4, 2) := gd_19 db00e_5
theorem d_X12_walkOf_163 : decode prog_14_method_6_code 163 = .ok (.iaload, 1) := gd_20 db00e_5
theorem d_X12_walkOf_164 : decode prog_14_method_6_code 164 = .ok (.iadd, 1) := gd_21 db00e_5
theorem d_X12_walkOf_165 : decode prog_14_method_6_code 165 = .ok (.iastore, 1) := gd_22 db00e_5
theorem d_X12_walkOf_166 : decode prog_14_method_6_code 166 = .ok (.iconst 1, 1) := gd_23 db00e_5
theorem db00e_6 : Ad_ prog_14_method_6_code [(167, .istore_n 3, 1), (168, .iinc 4 1, 3), (171, .goto (-128), 3), (174, .goto (-140), 3), (177, .aload_n 0, 1), (178, .getfield 19, 3), (181, .iload_n 2, 1), (182, .iaload, 1), (183, .ldc_w 334, 3), (186, .if_icmp .lt 7, 3), (189, .iconst (-1), 1), (190, .goto 9, 3), (193, .aload_n 0, 1), (194, .getfield 19, 3), (197, .iload_n 2, 1), (198, .iaload, 1), (199, .ireturn, 1)] := bch_ok prog_14_method_6_code _ 167 (by decide +kernel)
theorem d_X12_walkOf_167 : decode prog_14_method_6_code 167 = .ok (.istore_n 3, 1) := gd_0 db00e_6
theorem d_X12_walkOf_168 : decode prog_14_method_6_code 168 = .ok (.iinc 4 1, 3) := gd_1 db00e_6
theorem d_X12_walkOf_171 : decode prog_14_method_6_code 171 = .ok (.goto (-128), 3) := gd_2 db00e_6
theorem d_X12_walkOf_174 : decode prog_14_method_6_code 174 = .ok (.goto (-140), 3) := gd_3 db00e_6
theorem d_X12_walkOf_177 : decode prog_14_method_6_code 177 = .ok (.aload_n 0, 1) := gd_4 db00e_6
theorem d_X12_walkOf_178 : decode prog_14_method_6_code 178 = .ok (.getfield 19, 3) := gd_5 db00e_6
theorem d_X12_walkOf_181 : decode prog_14_method_6_code 181 = .ok (.iload_n 2, 1) := gd_6 db00e_6
theorem d_X12_walkOf_182 : decode prog_14_method_6_code 182 = .ok (.iaload, 1) := gd_7 db00e_6
theorem d_X12_walkOf_183 : decode prog_14_method_6_code 183 = .ok (.ldc_w 334, 3) := gd_8 db00e_6
theorem d_X12_walkOf_186 : decode prog_14_method_6_code 186 = .ok (.if_icmp .lt 7, 3) := gd_9 db00e_6
theorem d_X12_walkOf_189 : decode prog_14_method_6_code 189 = .ok (.iconst (-1), 1) := gd_10 db00e_6
theorem d_X12_walkOf_190 : decode prog_14_method_6_code 190 = .ok (.goto 9, 3) := gd_11 db00e_6
theorem d_X12_walkOf_193 : decode prog_14_method_6_code 193 = .ok (.aload_n 0, 1) := gd_12 db00e_6
theorem d_X12_walkOf_194 : decode prog_14_method_6_code 194 = .ok (.getfield 19, 3) := gd_13 db00e_6
theorem d_X12_walkOf_197 : decode prog_14_method_6_code 197 = .ok (.iload_n 2, 1) := gd_14 db00e_6
theorem d_X12_walkOf_198 : decode prog_14_method_6_code 198 = .ok (.iaload, 1) := gd_15 db00e_6
theorem d_X12_walkOf_199 : decode prog_14_method_6_code 199 = .ok (.ireturn, 1) := gd_16 db00e_6
theorem db00e_7 : Ad_ prog_14_method_7_code [(0, .iload_n 1, 1), (1, .invokestatic 327, 3), (4, .ifCond .eq 19, 3), (7, .iload_n 2, 1), (8, .invokestatic 327, 3), (11, .ifCond .eq 12, 3), (14, .aload_n 0, 1), (15, .iload_n 1, 1), (16, .iload_n 2, 1), (17, .invokevirtual 335, 3), (20, .goto 4, 3), (23, .iconst (-1), 1), (24, .ireturn, 1)] := bch_ok prog_14_method_7_code _ 0 (by decide +kernel)
theorem d_X12_walk_0 : decode prog_14_method_7_code 0 = .ok (.iload_n 1, 1) := gd_0 db00e_7
theorem d_X12_walk_1 : decode prog_14_method_7_code 1 = .ok (.invokestatic 327, 3) := gd_1 db00e_7
theorem d_X12_walk_4 : decode prog_14_method_7_code 4 = .ok (.ifCond .eq 19, 3) := gd_2 db00e_7
theorem d_X12_walk_7 : decode prog_14_method_7_code 7 = .ok (.iload_n 2, 1) := gd_3 db00e_7
theorem d_X12_walk_8 : decode prog_14_method_7_code 8 = .ok (.invokestatic 327, 3) := gd_4 db00e_7
theorem d_X12_walk_11 : decode prog_14_method_7_code 11 = .ok (.ifCond .eq 12, 3) := gd_5 db00e_7
theorem d_X12_walk_14 : decode prog_14_method_7_code 14 = .ok (.aload_n 0, 1) := gd_6 db00e_7
theorem d_X12_walk_15 : decode prog_14_method_7_code 15 = .ok (.iload_n 1, 1) := gd_7 db00e_7
theorem d_X12_walk_16 : decode prog_14_method_7_code 16 = .ok (.iload_n 2, 1) := gd_8 db00e_7
theorem d_X12_walk_17 : decode prog_14_method_7_code 17 = .ok (.invokevirtual 335, 3) := gd_9 db00e_7
theorem d_X12_walk_20 : decode prog_14_method_7_code 20 = .ok (.goto 4, 3) := gd_10 db00e_7
theorem d_X12_walk_23 : decode prog_14_method_7_code 23 = .ok (.iconst (-1), 1) := gd_11 db00e_7
theorem d_X12_walk_24 : decode prog_14_method_7_code 24 = .ok (.ireturn, 1) := gd_12 db00e_7
theorem db00e_8 : Ad_ prog_14_method_8_code [(0, .iload_n 1, 1), (1, .iconst 0, 1), (2, .aload_n 0, 1), (3, .getfield 339, 3), (6, .iconst 1, 1), (7, .isub, 1), (8, .invokestatic 323, 3), (11, .ireturn, 1)] := bch_ok prog_14_method_8_code _ 0 (by decide +kernel)
theorem d_X12_isMan_0 : decode prog_14_method_8_code 0 = .ok (.iload_n 1, 1) := gd_0 db00e_8
theorem d_X12_isMan_1 : decode prog_14_method_8_code 1 = .ok (.iconst 0, 1) := gd_1 db00e_8
theorem d_X12_isMan_2 : decode prog_14_method_8_code 2 = .ok (.aload_n 0, 1) := gd_2 db00e_8
theorem d_X12_isMan_3 : decode prog_14_method_8_code 3 = .ok (.getfield 339, 3) := gd_3 db00e_8
theorem d_X12_isMan_6 : decode prog_14_method_8_code 6 = .ok (.iconst 1, 1) := gd_4 db00e_8
theorem d_X12_isMan_7 : decode prog_14_method_8_code 7 = .ok (.isub, 1) := gd_5 db00e_8
theorem d_X12_isMan_8 : decode prog_14_method_8_code 8 = .ok (.invokestatic 323, 3) := gd_6 db00e_8
theorem d_X12_isMan_11 : decode prog_14_method_8_code 11 = .ok (.ireturn, 1) := gd_7 db00e_8
theorem db00e_9 : Ad_ prog_14_method_9_code [(0, .iload_n 1, 1), (1, .iconst 1, 1), (2, .iconst 4, 1), (3, .invokestatic 323, 3), (6, .ifCond .eq 29, 3), (9, .iload_n 2, 1), (10, .iconst 0, 1), (11, .bipush 40, 2), (13, .invokestatic 323, 3), (16, .ifCond .eq 19, 3), (19, .iload_n 3, 1), (20, .invokestatic 327, 3), (23, .ifCond .eq 12, 3), (26, .aload_n 0, 1), (27, .getfield 339, 3), (30, .bipush 12, 2), (32, .if_icmp .ne 5, 3), (35, .iconst (-1), 1), (36, .ireturn, 1), (37, .aload_n 0, 1), (38, .getfield 22, 3), (41, .aload_n 0, 1), (42, .getfield 339, 3), (45, .iload_n 1, 1)] := bch_ok prog_14_method_9_code _ 0 (by decide +kernel)
theorem d_X12_constable_0 : decode prog_14_method_9_code 0 = .ok (.iload_n 1, 1) := gd_0 db00e_9
theorem d_X12_constable_1 : decode prog_14_method_9_code 1 = .ok (.iconst 1, 1) := gd_1 db00e_9
theorem d_X12_constable_2 : decode prog_14_method_9_code 2 = .ok (.iconst 4, 1) := gd_2 db00e_9
theorem d_X12_constable_3 : decode prog_14_method_9_code 3 = .ok (.invokestatic 323, 3) := gd_3 db00e_9
theorem d_X12_constable_6 : decode prog_14_method_9_code 6 = .ok (.ifCond .eq 29, 3) := gd_4 db00e_9
theorem d_X12_constable_9 : decode prog_14_method_9_code 9 = .ok (.iload_n 2, 1) := gd_5 db00e_9
theorem d_X12_constable_10 : decode prog_14_method_9_code 10 = .ok (.iconst 0, 1) := gd_6 db00e_9
theorem d_X12_constable_11 : decode prog_14_method_9_code 11 = .ok (.bipush 40, 2) := gd_7 db00e_9
theorem d_X12_constable_13 : decode prog_14_method_9_code 13 = .ok (.invokestatic 323, 3) := gd_8 db00e_9
theorem d_X12_constable_16 : decode prog_14_method_9_code 16 = .ok (.ifCond .eq 19, 3) := gd_9 db00e_9
theorem d_X12_constable_19 : decode prog_14_method_9_code 19 = .ok (.iload_n 3, 1) := gd_10 db00e_9
theorem d_X12_constable_20 : decode prog_14_method_9_code 20 = .ok (.invokestatic 327, 3) := gd_11 db00e_9
theorem d_X12_constable_23 : decode prog_14_method_9_code 23 = .ok (.ifCond .eq 12, 3) := gd_12 db00e_9
theorem d_X12_constable_26 : decode prog_14_method_9_code 26 = .ok (.aload_n 0, 1) := gd_13 db00e_9
theorem d_X12_constable_27 : decode prog_14_method_9_code 27 = .ok (.getfield 339, 3) := gd_14 db00e_9
theorem d_X12_constable_30 : decode prog_14_method_9_code 30 = .ok (.bipush 12, 2) := gd_15 db00e_9
theorem d_X12_constable_32 : decode prog_14_method_9_code 32 = .ok (.if_icmp .ne 5, 3) := gd_16 db00e_9
theorem d_X12_constable_35 : decode prog_14_method_9_code 35 = .ok (.iconst (-1), 1) := gd_17 db00e_9
theorem d_X12_constable_36 : decode prog_14_method_9_code 36 = .ok (.ireturn, 1) := gd_18 db00e_9
theorem d_X12_constable_37 : decode prog_14_method_9_code 37 = .ok (.aload_n 0, 1) := gd_19 db00e_9
theorem d_X12_constable_38 : decode prog_14_method_9_code 38 = .ok (.getfield 22, 3) := gd_20 db00e_9
theorem d_X12_constable_41 : decode prog_14_method_9_code 41 = .ok (.aload_n 0, 1) := gd_21 db00e_9
theorem d_X12_constable_42 : decode prog_14_method_9_code 42 = .ok (.getfield 339, 3) := gd_22 db00e_9
theorem d_X12_constable_45 : decode prog_14_method_9_code 45 = .ok (.iload_n 1, 1) := gd_23 db00e_9
theorem db00e_10 : Ad_ prog_14_method_9_code [(46, .iastore, 1), (47, .aload_n 0, 1), (48, .getfield 25, 3), (51, .aload_n 0, 1), (52, .getfield 339, 3), (55, .iload_n 2, 1), (56, .iastore, 1), (57, .aload_n 0, 1), (58, .getfield 28, 3), (61, .aload_n 0, 1), (62, .getfield 339, 3), (65, .iload_n 3, 1), (66, .iastore, 1), (67, .aload_n 0, 1), (68, .getfield 31, 3), (71, .aload_n 0, 1), (72, .getfield 339, 3), (75, .aload_n 0, 1), (76, .getfield 342, 3), (79, .iastore, 1), (80, .aload_n 0, 1), (81, .getfield 34, 3), (84, .aload_n 0, 1), (85, .getfield 339, 3)] := bch_ok prog_14_method_9_code _ 46 (by decide +kernel)
theorem d_X12_constable_46 : decode prog_14_method_9_code 46 = .ok (.iastore, 1) := gd_0 db00e_10
theorem d_X12_constable_47 : decode prog_14_method_9_code 47 = .ok (.aload_n 0, 1) := gd_1 db00e_10
theorem d_X12_constable_48 : decode prog_14_method_9_code 48 = .ok (.getfield 25, 3) := gd_2 db00e_10
theorem d_X12_constable_51 : decode prog_14_method_9_code 51 = .ok (.aload_n 0, 1) := gd_3 db00e_10
theorem d_X12_constable_52 : decode prog_14_method_9_code 52 = .ok (.getfield 339, 3) := gd_4 db00e_10
theorem d_X12_constable_55 : decode prog_14_method_9_code 55 = .ok (.iload_n 2, 1) := gd_5 db00e_10
theorem d_X12_constable_56 : decode prog_14_method_9_code 56 = .ok (.iastore, 1) := gd_6 db00e_10
theorem d_X12_constable_57 : decode prog_14_method_9_code 57 = .ok (.aload_n 0, 1) := gd_7 db00e_10
theorem d_X12_constable_58 : decode prog_14_method_9_code 58 = .ok (.getfield 28, 3) := gd_8 db00e_10
theorem d_X12_constable_61 : decode prog_14_method_9_code 61 = .ok (.aload_n 0, 1) := gd_9 db00e_10
theorem d_X12_constable_62 : decode prog_14_method_9_code 62 = .ok (.getfield 339, 3) := gd_10 db00e_10
theorem d_X12_constable_65 : decode prog_14_method_9_code 65 = .ok (.iload_n 3, 1) := gd_11 db00e_10
theorem d_X12_constable_66 : decode prog_14_method_9_code 66 = .ok (.iastore, 1) := gd_12 db00e_10
theorem d_X12_constable_67 : decode prog_14_method_9_code 67 = .ok (.aload_n 0, 1) := gd_13 db00e_10
theorem d_X12_constable_68 : decode prog_14_method_9_code 68 = .ok (.getfield 31, 3) := gd_14 db00e_10
theorem d_X12_constable_71 : decode prog_14_method_9_code 71 = .ok (.aload_n 0, 1) := gd_15 db00e_10
theorem d_X12_constable_72 : decode prog_14_method_9_code 72 = .ok (.getfield 339, 3) := gd_16 db00e_10
theorem d_X12_constable_75 : decode prog_14_method_9_code 75 = .ok (.aload_n 0, 1) := gd_17 db00e_10
theorem d_X12_constable_76 : decode prog_14_method_9_code 76 = .ok (.getfield 342, 3) := gd_18 db00e_10
theorem d_X12_constable_79 : decode prog_14_method_9_code 79 = .ok (.iastore, 1) := gd_19 db00e_10
theorem d_X12_constable_80 : decode prog_14_method_9_code 80 = .ok (.aload_n 0, 1) := gd_20 db00e_10
theorem d_X12_constable_81 : decode prog_14_method_9_code 81 = .ok (.getfield 34, 3) := gd_21 db00e_10
theorem d_X12_constable_84 : decode prog_14_method_9_code 84 = .ok (.aload_n 0, 1) := gd_22 db00e_10
theorem d_X12_constable_85 : decode prog_14_method_9_code 85 = .ok (.getfield 339, 3) := gd_23 db00e_10
theorem db00e_11 : Ad_ prog_14_method_9_code [(88, .iconst 0, 1), (89, .iastore, 1), (90, .aload_n 0, 1), (91, .getfield 37, 3), (94, .aload_n 0, 1), (95, .getfield 339, 3), (98, .iload_n 3, 1), (99, .iastore, 1), (100, .aload_n 0, 1), (101, .getfield 40, 3), (104, .aload_n 0, 1), (105, .getfield 339, 3), (108, .iconst (-1), 1), (109, .iastore, 1), (110, .aload_n 0, 1), (111, .getfield 43, 3), (114, .aload_n 0, 1), (115, .getfield 339, 3), (118, .iconst (-1), 1), (119, .iastore, 1), (120, .aload_n 0, 1), (121, .getfield 49, 3), (124, .aload_n 0, 1), (125, .getfield 339, 3)] := bch_ok prog_14_method_9_code _ 88 (by decide +kernel)
theorem d_X12_constable_88 : decode prog_14_method_9_code 88 = .ok (.iconst 0, 1) := gd_0 db00e_11
theorem d_X12_constable_89 : decode prog_14_method_9_code 89 = .ok (.iastore, 1) := gd_1 db00e_11
theorem d_X12_constable_90 : decode prog_14_method_9_code 90 = .ok (.aload_n 0, 1) := gd_2 db00e_11
theorem d_X12_constable_91 : decode prog_14_method_9_code 91 = .ok (.getfield 37, 3) := gd_3 db00e_11
theorem d_X12_constable_94 : decode prog_14_method_9_code 94 = .ok (.aload_n 0, 1) := gd_4 db00e_11
theorem d_X12_constable_95 : decode prog_14_method_9_code 95 = .ok (.getfield 339, 3) := gd_5 db00e_11
theorem d_X12_constable_98 : decode prog_14_method_9_code 98 = .ok (.iload_n 3, 1) := gd_6 db00e_11
theorem d_X12_constable_99 : decode prog_14_method_9_code 99 = .ok (.iastore, 1) := gd_7 db00e_11
theorem d_X12_constable_100 : decode prog_14_method_9_code 100 = .ok (.aload_n 0, 1) := gd_8 db00e_11
theorem d_X12_constable_101 : decode prog_14_method_9_code 101 = .ok (.getfield 40, 3) := gd_9 db00e_11
theorem d_X12_constable_104 : decode prog_14_method_9_code 104 = .ok (.aload_n 0, 1) := gd_10 db00e_11
theorem d_X12_constable_105 : decode prog_14_method_9_code 105 = .ok (.getfield 339, 3) := gd_11 db00e_11
theorem d_X12_constable_108 : decode prog_14_method_9_code 108 = .ok (.iconst (-1), 1) := gd_12 db00e_11
theorem d_X12_constable_109 : decode prog_14_method_9_code 109 = .ok (.iastore, 1) := gd_13 db00e_11
theorem d_X12_constable_110 : decode prog_14_method_9_code 110 = .ok (.aload_n 0, 1) := gd_14 db00e_11
theorem d_X12_constable_111 : decode prog_14_method_9_code 111 = .ok (.getfield 43, 3) := gd_15 db00e_11
theorem d_X12_constable_114 : decode prog_14_method_9_code 114 = .ok (.aload_n 0, 1) := gd_16 db00e_11
theorem d_X12_constable_115 : decode prog_14_method_9_code 115 = .ok (.getfield 339, 3) := gd_17 db00e_11
theorem d_X12_constable_118 : decode prog_14_method_9_code 118 = .ok (.iconst (-1), 1) := gd_18 db00e_11
theorem d_X12_constable_119 : decode prog_14_method_9_code 119 = .ok (.iastore, 1) := gd_19 db00e_11
theorem d_X12_constable_120 : decode prog_14_method_9_code 120 = .ok (.aload_n 0, 1) := gd_20 db00e_11
theorem d_X12_constable_121 : decode prog_14_method_9_code 121 = .ok (.getfield 49, 3) := gd_21 db00e_11
theorem d_X12_constable_124 : decode prog_14_method_9_code 124 = .ok (.aload_n 0, 1) := gd_22 db00e_11
theorem d_X12_constable_125 : decode prog_14_method_9_code 125 = .ok (.getfield 339, 3) := gd_23 db00e_11
theorem db00e_12 : Ad_ prog_14_method_9_code [(128, .iconst (-1), 1), (129, .iastore, 1), (130, .aload_n 0, 1), (131, .getfield 55, 3), (134, .aload_n 0, 1), (135, .getfield 339, 3), (138, .iconst 0, 1), (139, .iastore, 1), (140, .aload_n 0, 1), (141, .getfield 58, 3), (144, .aload_n 0, 1), (145, .getfield 339, 3), (148, .iconst 0, 1), (149, .iastore, 1), (150, .aload_n 0, 1), (151, .getfield 61, 3), (154, .aload_n 0, 1), (155, .getfield 339, 3), (158, .iconst 0, 1), (159, .iastore, 1), (160, .aload_n 0, 1), (161, .dup, 1), (162, .getfield 339, 3), (165, .iconst 1, 1)] := bch_ok prog_14_method_9_code _ 128 (by decide +kernel)
theorem d_X12_constable_128 : decode prog_14_method_9_code 128 = .ok (.iconst (-1), 1) := gd_0 db00e_12
theorem d_X12_constable_129 : decode prog_14_method_9_code 129 = .ok (.iastore, 1) := gd_1 db00e_12
theorem d_X12_constable_130 : decode prog_14_method_9_code 130 = .ok (.aload_n 0, 1) := gd_2 db00e_12
theorem d_X12_constable_131 : decode prog_14_method_9_code 131 = .ok (.getfield 55, 3) := gd_3 db00e_12
theorem d_X12_constable_134 : decode prog_14_method_9_code 134 = .ok (.aload_n 0, 1) := gd_4 db00e_12
theorem d_X12_constable_135 : decode prog_14_method_9_code 135 = .ok (.getfield 339, 3) := gd_5 db00e_12
theorem d_X12_constable_138 : decode prog_14_method_9_code 138 = .ok (.iconst 0, 1) := gd_6 db00e_12
theorem d_X12_constable_139 : decode prog_14_method_9_code 139 = .ok (.iastore, 1) := gd_7 db00e_12
theorem d_X12_constable_140 : decode prog_14_method_9_code 140 = .ok (.aload_n 0, 1) := gd_8 db00e_12
theorem d_X12_constable_141 : decode prog_14_method_9_code 141 = .ok (.getfield 58, 3) := gd_9 db00e_12
theorem d_X12_constable_144 : decode prog_14_method_9_code 144 = .ok (.aload_n 0, 1) := gd_10 db00e_12
theorem d_X12_constable_145 : decode prog_14_method_9_code 145 = .ok (.getfield 339, 3) := gd_11 db00e_12
theorem d_X12_constable_148 : decode prog_14_method_9_code 148 = .ok (.iconst 0, 1) := gd_12 db00e_12
theorem d_X12_constable_149 : decode prog_14_method_9_code 149 = .ok (.iastore, 1) := gd_13 db00e_12
theorem d_X12_constable_150 : decode prog_14_method_9_code 150 = .ok (.aload_n 0, 1) := gd_14 db00e_12
theorem d_X12_constable_151 : decode prog_14_method_9_code 151 = .ok (.getfield 61, 3) := gd_15 db00e_12
theorem d_X12_constable_154 : decode prog_14_method_9_code 154 = .ok (.aload_n 0, 1) := gd_16 db00e_12
theorem d_X12_constable_155 : decode prog_14_method_9_code 155 = .ok (.getfield 339, 3) := gd_17 db00e_12
theorem d_X12_constable_158 : decode prog_14_method_9_code 158 = .ok (.iconst 0, 1) := gd_18 db00e_12
theorem d_X12_constable_159 : decode prog_14_method_9_code 159 = .ok (.iastore, 1) := gd_19 db00e_12
theorem d_X12_constable_160 : decode prog_14_method_9_code 160 = .ok (.aload_n 0, 1) := gd_20 db00e_12
theorem d_X12_constable_161 : decode prog_14_method_9_code 161 = .ok (.dup, 1) := gd_21 db00e_12
theorem d_X12_constable_162 : decode prog_14_method_9_code 162 = .ok (.getfield 339, 3) := gd_22 db00e_12
theorem d_X12_constable_165 : decode prog_14_method_9_code 165 = .ok (.iconst 1, 1) := gd_23 db00e_12
theorem db00e_13 : Ad_ prog_14_method_9_code [(166, .iadd, 1), (167, .putfield 339, 3), (170, .aload_n 0, 1), (171, .getfield 339, 3), (174, .iconst 1, 1), (175, .isub, 1), (176, .ireturn, 1)] := bch_ok prog_14_method_9_code _ 166 (by decide +kernel)
theorem d_X12_constable_166 : decode prog_14_method_9_code 166 = .ok (.iadd, 1) := gd_0 db00e_13
theorem d_X12_constable_167 : decode prog_14_method_9_code 167 = .ok (.putfield 339, 3) := gd_1 db00e_13
theorem d_X12_constable_170 : decode prog_14_method_9_code 170 = .ok (.aload_n 0, 1) := gd_2 db00e_13
theorem d_X12_constable_171 : decode prog_14_method_9_code 171 = .ok (.getfield 339, 3) := gd_3 db00e_13
theorem d_X12_constable_174 : decode prog_14_method_9_code 174 = .ok (.iconst 1, 1) := gd_4 db00e_13
theorem d_X12_constable_175 : decode prog_14_method_9_code 175 = .ok (.isub, 1) := gd_5 db00e_13
theorem d_X12_constable_176 : decode prog_14_method_9_code 176 = .ok (.ireturn, 1) := gd_6 db00e_13
theorem db00e_14 : Ad_ prog_14_method_10_code [(0, .iload_n 1, 1), (1, .iconst 0, 1), (2, .aload_n 0, 1), (3, .getfield 342, 3), (6, .invokestatic 323, 3), (9, .ireturn, 1)] := bch_ok prog_14_method_10_code _ 0 (by decide +kernel)
theorem d_X12_isKnowing_0 : decode prog_14_method_10_code 0 = .ok (.iload_n 1, 1) := gd_0 db00e_14
theorem d_X12_isKnowing_1 : decode prog_14_method_10_code 1 = .ok (.iconst 0, 1) := gd_1 db00e_14
theorem d_X12_isKnowing_2 : decode prog_14_method_10_code 2 = .ok (.aload_n 0, 1) := gd_2 db00e_14
theorem d_X12_isKnowing_3 : decode prog_14_method_10_code 3 = .ok (.getfield 342, 3) := gd_3 db00e_14
theorem d_X12_isKnowing_6 : decode prog_14_method_10_code 6 = .ok (.invokestatic 323, 3) := gd_4 db00e_14
theorem d_X12_isKnowing_9 : decode prog_14_method_10_code 9 = .ok (.ireturn, 1) := gd_5 db00e_14
theorem db00e_15 : Ad_ prog_14_method_11_code [(0, .aload_n 0, 1), (1, .iload_n 1, 1), (2, .invokevirtual 345, 3), (5, .ifCond .eq 31, 3), (8, .iload_n 2, 1), (9, .iconst 1, 1), (10, .iconst 4, 1), (11, .invokestatic 323, 3), (14, .ifCond .eq 22, 3), (17, .iload_n 3, 1), (18, .iconst 0, 1), (19, .bipush 30, 2), (21, .invokestatic 323, 3), (24, .ifCond .eq 12, 3), (27, .aload_n 0, 1), (28, .getfield 348, 3), (31, .bipush 40, 2), (33, .if_icmp .ne 5, 3), (36, .iconst 0, 1), (37, .ireturn, 1), (38, .aload_n 0, 1), (39, .getfield 75, 3), (42, .aload_n 0, 1), (43, .getfield 348, 3)] := bch_ok prog_14_method_11_code _ 0 (by decide +kernel)
theorem d_X12_rank_0 : decode prog_14_method_11_code 0 = .ok (.aload_n 0, 1) := gd_0 db00e_15
theorem d_X12_rank_1 : decode prog_14_method_11_code 1 = .ok (.iload_n 1, 1) := gd_1 db00e_15
theorem d_X12_rank_2 : decode prog_14_method_11_code 2 = .ok (.invokevirtual 345, 3) := gd_2 db00e_15
theorem d_X12_rank_5 : decode prog_14_method_11_code 5 = .ok (.ifCond .eq 31, 3) := gd_3 db00e_15
theorem d_X12_rank_8 : decode prog_14_method_11_code 8 = .ok (.iload_n 2, 1) := gd_4 db00e_15
theorem d_X12_rank_9 : decode prog_14_method_11_code 9 = .ok (.iconst 1, 1) := gd_5 db00e_15
theorem d_X12_rank_10 : decode prog_14_method_11_code 10 = .ok (.iconst 4, 1) := gd_6 db00e_15
theorem d_X12_rank_11 : decode prog_14_method_11_code 11 = .ok (.invokestatic 323, 3) := gd_7 db00e_15
theorem d_X12_rank_14 : decode prog_14_method_11_code 14 = .ok (.ifCond .eq 22, 3) := gd_8 db00e_15
theorem d_X12_rank_17 : decode prog_14_method_11_code 17 = .ok (.iload_n 3, 1) := gd_9 db00e_15
theorem d_X12_rank_18 : decode prog_14_method_11_code 18 = .ok (.iconst 0, 1) := gd_10 db00e_15
theorem d_X12_rank_19 : decode prog_14_method_11_code 19 = .ok (.bipush 30, 2) := gd_11 db00e_15
theorem d_X12_rank_21 : decode prog_14_method_11_code 21 = .ok (.invokestatic 323, 3) := gd_12 db00e_15
theorem d_X12_rank_24 : decode prog_14_method_11_code 24 = .ok (.ifCond .eq 12, 3) := gd_13 db00e_15
theorem d_X12_rank_27 : decode prog_14_method_11_code 27 = .ok (.aload_n 0, 1) := gd_14 db00e_15
theorem d_X12_rank_28 : decode prog_14_method_11_code 28 = .ok (.getfield 348, 3) := gd_15 db00e_15
theorem d_X12_rank_31 : decode prog_14_method_11_code 31 = .ok (.bipush 40, 2) := gd_16 db00e_15
theorem d_X12_rank_33 : decode prog_14_method_11_code 33 = .ok (.if_icmp .ne 5, 3) := gd_17 db00e_15
theorem d_X12_rank_36 : decode prog_14_method_11_code 36 = .ok (.iconst 0, 1) := gd_18 db00e_15
theorem d_X12_rank_37 : decode prog_14_method_11_code 37 = .ok (.ireturn, 1) := gd_19 db00e_15
theorem d_X12_rank_38 : decode prog_14_method_11_code 38 = .ok (.aload_n 0, 1) := gd_20 db00e_15
theorem d_X12_rank_39 : decode prog_14_method_11_code 39 = .ok (.getfield 75, 3) := gd_21 db00e_15
theorem d_X12_rank_42 : decode prog_14_method_11_code 42 = .ok (.aload_n 0, 1) := gd_22 db00e_15
theorem d_X12_rank_43 : decode prog_14_method_11_code 43 = .ok (.getfield 348, 3) := gd_23 db00e_15
theorem db00e_16 : Ad_ prog_14_method_11_code [(46, .iload_n 1, 1), (47, .iastore, 1), (48, .aload_n 0, 1), (49, .getfield 78, 3), (52, .aload_n 0, 1), (53, .getfield 348, 3), (56, .iload_n 2, 1), (57, .iastore, 1), (58, .aload_n 0, 1), (59, .getfield 81, 3), (62, .aload_n 0, 1), (63, .getfield 348, 3), (66, .iload_n 3, 1), (67, .iastore, 1), (68, .aload_n 0, 1), (69, .getfield 84, 3), (72, .aload_n 0, 1), (73, .getfield 348, 3), (76, .aload_n 0, 1), (77, .getfield 342, 3), (80, .iastore, 1), (81, .aload_n 0, 1), (82, .dup, 1), (83, .getfield 348, 3)] := bch_ok prog_14_method_11_code _ 46 (by decide +kernel)
theorem d_X12_rank_46 : decode prog_14_method_11_code 46 = .ok (.iload_n 1, 1) := gd_0 db00e_16
theorem d_X12_rank_47 : decode prog_14_method_11_code 47 = .ok (.iastore, 1) := gd_1 db00e_16
theorem d_X12_rank_48 : decode prog_14_method_11_code 48 = .ok (.aload_n 0, 1) := gd_2 db00e_16
theorem d_X12_rank_49 : decode prog_14_method_11_code 49 = .ok (.getfield 78, 3) := gd_3 db00e_16
theorem d_X12_rank_52 : decode prog_14_method_11_code 52 = .ok (.aload_n 0, 1) := gd_4 db00e_16
theorem d_X12_rank_53 : decode prog_14_method_11_code 53 = .ok (.getfield 348, 3) := gd_5 db00e_16
theorem d_X12_rank_56 : decode prog_14_method_11_code 56 = .ok (.iload_n 2, 1) := gd_6 db00e_16
theorem d_X12_rank_57 : decode prog_14_method_11_code 57 = .ok (.iastore, 1) := gd_7 db00e_16
theorem d_X12_rank_58 : decode prog_14_method_11_code 58 = .ok (.aload_n 0, 1) := gd_8 db00e_16
theorem d_X12_rank_59 : decode prog_14_method_11_code 59 = .ok (.getfield 81, 3) := gd_9 db00e_16
theorem d_X12_rank_62 : decode prog_14_method_11_code 62 = .ok (.aload_n 0, 1) := gd_10 db00e_16
theorem d_X12_rank_63 : decode prog_14_method_11_code 63 = .ok (.getfield 348, 3) := gd_11 db00e_16
theorem d_X12_rank_66 : decode prog_14_method_11_code 66 = .ok (.iload_n 3, 1) := gd_12 db00e_16
theorem d_X12_rank_67 : decode prog_14_method_11_code 67 = .ok (.iastore, 1) := gd_13 db00e_16
theorem d_X12_rank_68 : decode prog_14_method_11_code 68 = .ok (.aload_n 0, 1) := gd_14 db00e_16
theorem d_X12_rank_69 : decode prog_14_method_11_code 69 = .ok (.getfield 84, 3) := gd_15 db00e_16
theorem d_X12_rank_72 : decode prog_14_method_11_code 72 = .ok (.aload_n 0, 1) := gd_16 db00e_16
theorem d_X12_rank_73 : decode prog_14_method_11_code 73 = .ok (.getfield 348, 3) := gd_17 db00e_16
theorem d_X12_rank_76 : decode prog_14_method_11_code 76 = .ok (.aload_n 0, 1) := gd_18 db00e_16
theorem d_X12_rank_77 : decode prog_14_method_11_code 77 = .ok (.getfield 342, 3) := gd_19 db00e_16
theorem d_X12_rank_80 : decode prog_14_method_11_code 80 = .ok (.iastore, 1) := gd_20 db00e_16
theorem d_X12_rank_81 : decode prog_14_method_11_code 81 = .ok (.aload_n 0, 1) := gd_21 db00e_16
theorem d_X12_rank_82 : decode prog_14_method_11_code 82 = .ok (.dup, 1) := gd_22 db00e_16
theorem d_X12_rank_83 : decode prog_14_method_11_code 83 = .ok (.getfield 348, 3) := gd_23 db00e_16
theorem db00e_17 : Ad_ prog_14_method_11_code [(86, .iconst 1, 1), (87, .iadd, 1), (88, .putfield 348, 3), (91, .iconst 1, 1), (92, .ireturn, 1)] := bch_ok prog_14_method_11_code _ 86 (by decide +kernel)
theorem d_X12_rank_86 : decode prog_14_method_11_code 86 = .ok (.iconst 1, 1) := gd_0 db00e_17
theorem d_X12_rank_87 : decode prog_14_method_11_code 87 = .ok (.iadd, 1) := gd_1 db00e_17
theorem d_X12_rank_88 : decode prog_14_method_11_code 88 = .ok (.putfield 348, 3) := gd_2 db00e_17
theorem d_X12_rank_91 : decode prog_14_method_11_code 91 = .ok (.iconst 1, 1) := gd_3 db00e_17
theorem d_X12_rank_92 : decode prog_14_method_11_code 92 = .ok (.ireturn, 1) := gd_4 db00e_17
theorem db00e_18 : Ad_ prog_14_method_12_code [(0, .aload_n 0, 1), (1, .getfield 22, 3), (4, .iload_n 1, 1), (5, .iaload, 1), (6, .istore 4, 2), (8, .iconst (-1), 1), (9, .istore 5, 2), (11, .iconst 0, 1), (12, .istore 6, 2), (14, .iload 6, 2), (16, .aload_n 0, 1), (17, .getfield 348, 3), (20, .if_icmp .ge 72, 3), (23, .aload_n 0, 1), (24, .getfield 75, 3), (27, .iload 6, 2), (29, .iaload, 1), (30, .iload_n 1, 1), (31, .if_icmp .ne 55, 3), (34, .aload_n 0, 1), (35, .getfield 84, 3), (38, .iload 6, 2), (40, .iaload, 1), (41, .iload_n 3, 1)] := bch_ok prog_14_method_12_code _ 0 (by decide +kernel)
theorem d_X12_rankOn_0 : decode prog_14_method_12_code 0 = .ok (.aload_n 0, 1) := gd_0 db00e_18
theorem d_X12_rankOn_1 : decode prog_14_method_12_code 1 = .ok (.getfield 22, 3) := gd_1 db00e_18
theorem d_X12_rankOn_4 : decode prog_14_method_12_code 4 = .ok (.iload_n 1, 1) := gd_2 db00e_18
theorem d_X12_rankOn_5 : decode prog_14_method_12_code 5 = .ok (.iaload, 1) := gd_3 db00e_18
theorem d_X12_rankOn_6 : decode prog_14_method_12_code 6 = .ok (.istore 4, 2) := gd_4 db00e_18
theorem d_X12_rankOn_8 : decode prog_14_method_12_code 8 = .ok (.iconst (-1), 1) := gd_5 db00e_18
theorem d_X12_rankOn_9 : decode prog_14_method_12_code 9 = .ok (.istore 5, 2) := gd_6 db00e_18
theorem d_X12_rankOn_11 : decode prog_14_method_12_code 11 = .ok (.iconst 0, 1) := gd_7 db00e_18
theorem d_X12_rankOn_12 : decode prog_14_method_12_code 12 = .ok (.istore 6, 2) := gd_8 db00e_18
theorem d_X12_rankOn_14 : decode prog_14_method_12_code 14 = .ok (.iload 6, 2) := gd_9 db00e_18
theorem d_X12_rankOn_16 : decode prog_14_method_12_code 16 = .ok (.aload_n 0, 1) := gd_10 db00e_18
theorem d_X12_rankOn_17 : decode prog_14_method_12_code 17 = .ok (.getfield 348, 3) := gd_11 db00e_18
theorem d_X12_rankOn_20 : decode prog_14_method_12_code 20 = .ok (.if_icmp .ge 72, 3) := gd_12 db00e_18
theorem d_X12_rankOn_23 : decode prog_14_method_12_code 23 = .ok (.aload_n 0, 1) := gd_13 db00e_18
theorem d_X12_rankOn_24 : decode prog_14_method_12_code 24 = .ok (.getfield 75, 3) := gd_14 db00e_18
theorem d_X12_rankOn_27 : decode prog_14_method_12_code 27 = .ok (.iload 6, 2) := gd_15 db00e_18
theorem d_X12_rankOn_29 : decode prog_14_method_12_code 29 = .ok (.iaload, 1) := gd_16 db00e_18
theorem d_X12_rankOn_30 : decode prog_14_method_12_code 30 = .ok (.iload_n 1, 1) := gd_17 db00e_18
theorem d_X12_rankOn_31 : decode prog_14_method_12_code 31 = .ok (.if_icmp .ne 55, 3) := gd_18 db00e_18
theorem d_X12_rankOn_34 : decode prog_14_method_12_code 34 = .ok (.aload_n 0, 1) := gd_19 db00e_18
theorem d_X12_rankOn_35 : decode prog_14_method_12_code 35 = .ok (.getfield 84, 3) := gd_20 db00e_18
theorem d_X12_rankOn_38 : decode prog_14_method_12_code 38 = .ok (.iload 6, 2) := gd_21 db00e_18
theorem d_X12_rankOn_40 : decode prog_14_method_12_code 40 = .ok (.iaload, 1) := gd_22 db00e_18
theorem d_X12_rankOn_41 : decode prog_14_method_12_code 41 = .ok (.iload_n 3, 1) := gd_23 db00e_18
theorem db00e_19 : Ad_ prog_14_method_12_code [(42, .if_icmp .gt 44, 3), (45, .aload_n 0, 1), (46, .getfield 81, 3), (49, .iload 6, 2), (51, .iaload, 1), (52, .iload_n 2, 1), (53, .if_icmp .gt 33, 3), (56, .aload_n 0, 1), (57, .getfield 81, 3), (60, .iload 6, 2), (62, .iaload, 1), (63, .iload 5, 2), (65, .if_icmp .lt 21, 3), (68, .aload_n 0, 1), (69, .getfield 78, 3), (72, .iload 6, 2), (74, .iaload, 1), (75, .istore 4, 2), (77, .aload_n 0, 1), (78, .getfield 81, 3), (81, .iload 6, 2), (83, .iaload, 1), (84, .istore 5, 2), (86, .iinc 6 1, 3)] := bch_ok prog_14_method_12_code _ 42 (by decide +kernel)
theorem d_X12_rankOn_42 : decode prog_14_method_12_code 42 = .ok (.if_icmp .gt 44, 3) := gd_0 db00e_19
theorem d_X12_rankOn_45 : decode prog_14_method_12_code 45 = .ok (.aload_n 0, 1) := gd_1 db00e_19
theorem d_X12_rankOn_46 : decode prog_14_method_12_code 46 = .ok (.getfield 81, 3) := gd_2 db00e_19
theorem d_X12_rankOn_49 : decode prog_14_method_12_code 49 = .ok (.iload 6, 2) := gd_3 db00e_19
theorem d_X12_rankOn_51 : decode prog_14_method_12_code 51 = .ok (.iaload, 1) := gd_4 db00e_19
theorem d_X12_rankOn_52 : decode prog_14_method_12_code 52 = .ok (.iload_n 2, 1) := gd_5 db00e_19
theorem d_X12_rankOn_53 : decode prog_14_method_12_code 53 = .ok (.if_icmp .gt 33, 3) := gd_6 db00e_19
theorem d_X12_rankOn_56 : decode prog_14_method_12_code 56 = .ok (.aload_n 0, 1) := gd_7 db00e_19
theorem d_X12_rankOn_57 : decode prog_14_method_12_code 57 = .ok (.getfield 81, 3) := gd_8 db00e_19
theorem d_X12_rankOn_60 : decode prog_14_method_12_code 60 = .ok (.iload 6, 2) := gd_9 db00e_19
theorem d_X12_rankOn_62 : decode prog_14_method_12_code 62 = .ok (.iaload, 1) := gd_10 db00e_19
theorem d_X12_rankOn_63 : decode prog_14_method_12_code 63 = .ok (.iload 5, 2) := gd_11 db00e_19
theorem d_X12_rankOn_65 : decode prog_14_method_12_code 65 = .ok (.if_icmp .lt 21, 3) := gd_12 db00e_19
theorem d_X12_rankOn_68 : decode prog_14_method_12_code 68 = .ok (.aload_n 0, 1) := gd_13 db00e_19
theorem d_X12_rankOn_69 : decode prog_14_method_12_code 69 = .ok (.getfield 78, 3) := gd_14 db00e_19
theorem d_X12_rankOn_72 : decode prog_14_method_12_code 72 = .ok (.iload 6, 2) := gd_15 db00e_19
theorem d_X12_rankOn_74 : decode prog_14_method_12_code 74 = .ok (.iaload, 1) := gd_16 db00e_19
theorem d_X12_rankOn_75 : decode prog_14_method_12_code 75 = .ok (.istore 4, 2) := gd_17 db00e_19
theorem d_X12_rankOn_77 : decode prog_14_method_12_code 77 = .ok (.aload_n 0, 1) := gd_18 db00e_19
theorem d_X12_rankOn_78 : decode prog_14_method_12_code 78 = .ok (.getfield 81, 3) := gd_19 db00e_19
theorem d_X12_rankOn_81 : decode prog_14_method_12_code 81 = .ok (.iload 6, 2) := gd_20 db00e_19
theorem d_X12_rankOn_83 : decode prog_14_method_12_code 83 = .ok (.iaload, 1) := gd_21 db00e_19
theorem d_X12_rankOn_84 : decode prog_14_method_12_code 84 = .ok (.istore 5, 2) := gd_22 db00e_19
theorem d_X12_rankOn_86 : decode prog_14_method_12_code 86 = .ok (.iinc 6 1, 3) := gd_23 db00e_19
theorem db00e_20 : Ad_ prog_14_method_12_code [(89, .goto (-75), 3), (92, .iload 4, 2), (94, .ireturn, 1)] := bch_ok prog_14_method_12_code _ 89 (by decide +kernel)
theorem d_X12_rankOn_89 : decode prog_14_method_12_code 89 = .ok (.goto (-75), 3) := gd_0 db00e_20
theorem d_X12_rankOn_92 : decode prog_14_method_12_code 92 = .ok (.iload 4, 2) := gd_1 db00e_20
theorem d_X12_rankOn_94 : decode prog_14_method_12_code 94 = .ok (.ireturn, 1) := gd_2 db00e_20
theorem db00e_21 : Ad_ prog_14_method_13_code [(0, .aload_n 0, 1), (1, .iload_n 1, 1), (2, .invokevirtual 345, 3), (5, .ifCond .eq 31, 3), (8, .iload_n 2, 1), (9, .iconst 0, 1), (10, .bipush 30, 2), (12, .invokestatic 323, 3), (15, .ifCond .eq 21, 3), (18, .aload_n 0, 1), (19, .iload_n 3, 1), (20, .invokevirtual 351, 3), (23, .ifCond .eq 13, 3), (26, .aload_n 0, 1), (27, .iload_n 1, 1), (28, .iload_n 2, 1), (29, .iload_n 3, 1), (30, .invokevirtual 354, 3), (33, .goto 4, 3), (36, .iconst (-1), 1), (37, .ireturn, 1)] := bch_ok prog_14_method_13_code _ 0 (by decide +kernel)
theorem d_X12_ranked_0 : decode prog_14_method_13_code 0 = .ok (.aload_n 0, 1) := gd_0 db00e_21
theorem d_X12_ranked_1 : decode prog_14_method_13_code 1 = .ok (.iload_n 1, 1) := gd_1 db00e_21
theorem d_X12_ranked_2 : decode prog_14_method_13_code 2 = .ok (.invokevirtual 345, 3) := gd_2 db00e_21
theorem d_X12_ranked_5 : decode prog_14_method_13_code 5 = .ok (.ifCond .eq 31, 3) := gd_3 db00e_21
theorem d_X12_ranked_8 : decode prog_14_method_13_code 8 = .ok (.iload_n 2, 1) := gd_4 db00e_21
theorem d_X12_ranked_9 : decode prog_14_method_13_code 9 = .ok (.iconst 0, 1) := gd_5 db00e_21
theorem d_X12_ranked_10 : decode prog_14_method_13_code 10 = .ok (.bipush 30, 2) := gd_6 db00e_21
theorem d_X12_ranked_12 : decode prog_14_method_13_code 12 = .ok (.invokestatic 323, 3) := gd_7 db00e_21
theorem d_X12_ranked_15 : decode prog_14_method_13_code 15 = .ok (.ifCond .eq 21, 3) := gd_8 db00e_21
theorem d_X12_ranked_18 : decode prog_14_method_13_code 18 = .ok (.aload_n 0, 1) := gd_9 db00e_21
theorem d_X12_ranked_19 : decode prog_14_method_13_code 19 = .ok (.iload_n 3, 1) := gd_10 db00e_21
theorem d_X12_ranked_20 : decode prog_14_method_13_code 20 = .ok (.invokevirtual 351, 3) := gd_11 db00e_21
theorem d_X12_ranked_23 : decode prog_14_method_13_code 23 = .ok (.ifCond .eq 13, 3) := gd_12 db00e_21
theorem d_X12_ranked_26 : decode prog_14_method_13_code 26 = .ok (.aload_n 0, 1) := gd_13 db00e_21
theorem d_X12_ranked_27 : decode prog_14_method_13_code 27 = .ok (.iload_n 1, 1) := gd_14 db00e_21
theorem d_X12_ranked_28 : decode prog_14_method_13_code 28 = .ok (.iload_n 2, 1) := gd_15 db00e_21
theorem d_X12_ranked_29 : decode prog_14_method_13_code 29 = .ok (.iload_n 3, 1) := gd_16 db00e_21
theorem d_X12_ranked_30 : decode prog_14_method_13_code 30 = .ok (.invokevirtual 354, 3) := gd_17 db00e_21
theorem d_X12_ranked_33 : decode prog_14_method_13_code 33 = .ok (.goto 4, 3) := gd_18 db00e_21
theorem d_X12_ranked_36 : decode prog_14_method_13_code 36 = .ok (.iconst (-1), 1) := gd_19 db00e_21
theorem d_X12_ranked_37 : decode prog_14_method_13_code 37 = .ok (.ireturn, 1) := gd_20 db00e_21
theorem db00e_22 : Ad_ prog_14_method_14_code [(0, .iload 5, 2), (2, .iconst 4, 1), (3, .if_icmp .ge 7, 3), (6, .iload_n 0, 1), (7, .goto 38, 3), (10, .iload 5, 2), (12, .bipush 8, 2), (14, .if_icmp .ge 7, 3), (17, .iload_n 1, 1), (18, .goto 27, 3), (21, .iload 5, 2), (23, .bipush 12, 2), (25, .if_icmp .ge 7, 3), (28, .iload_n 2, 1), (29, .goto 16, 3), (32, .iload 5, 2), (34, .bipush 16, 2), (36, .if_icmp .ge 7, 3), (39, .iload_n 3, 1), (40, .goto 5, 3), (43, .iload 4, 2), (45, .istore 6, 2), (47, .iload 6, 2), (49, .bipush 24, 2)] := bch_ok prog_14_method_14_code _ 0 (by decide +kernel)
theorem d_X12_byteOf_0 : decode prog_14_method_14_code 0 = .ok (.iload 5, 2) := gd_0 db00e_22
theorem d_X12_byteOf_2 : decode prog_14_method_14_code 2 = .ok (.iconst 4, 1) := gd_1 db00e_22
theorem d_X12_byteOf_3 : decode prog_14_method_14_code 3 = .ok (.if_icmp .ge 7, 3) := gd_2 db00e_22
theorem d_X12_byteOf_6 : decode prog_14_method_14_code 6 = .ok (.iload_n 0, 1) := gd_3 db00e_22
theorem d_X12_byteOf_7 : decode prog_14_method_14_code 7 = .ok (.goto 38, 3) := gd_4 db00e_22
theorem d_X12_byteOf_10 : decode prog_14_method_14_code 10 = .ok (.iload 5, 2) := gd_5 db00e_22
theorem d_X12_byteOf_12 : decode prog_14_method_14_code 12 = .ok (.bipush 8, 2) := gd_6 db00e_22
theorem d_X12_byteOf_14 : decode prog_14_method_14_code 14 = .ok (.if_icmp .ge 7, 3) := gd_7 db00e_22
theorem d_X12_byteOf_17 : decode prog_14_method_14_code 17 = .ok (.iload_n 1, 1) := gd_8 db00e_22
theorem d_X12_byteOf_18 : decode prog_14_method_14_code 18 = .ok (.goto 27, 3) := gd_9 db00e_22
theorem d_X12_byteOf_21 : decode prog_14_method_14_code 21 = .ok (.iload 5, 2) := gd_10 db00e_22
theorem d_X12_byteOf_23 : decode prog_14_method_14_code 23 = .ok (.bipush 12, 2) := gd_11 db00e_22
theorem d_X12_byteOf_25 : decode prog_14_method_14_code 25 = .ok (.if_icmp .ge 7, 3) := gd_12 db00e_22
theorem d_X12_byteOf_28 : decode prog_14_method_14_code 28 = .ok (.iload_n 2, 1) := gd_13 db00e_22
theorem d_X12_byteOf_29 : decode prog_14_method_14_code 29 = .ok (.goto 16, 3) := gd_14 db00e_22
theorem d_X12_byteOf_32 : decode prog_14_method_14_code 32 = .ok (.iload 5, 2) := gd_15 db00e_22
theorem d_X12_byteOf_34 : decode prog_14_method_14_code 34 = .ok (.bipush 16, 2) := gd_16 db00e_22
theorem d_X12_byteOf_36 : decode prog_14_method_14_code 36 = .ok (.if_icmp .ge 7, 3) := gd_17 db00e_22
theorem d_X12_byteOf_39 : decode prog_14_method_14_code 39 = .ok (.iload_n 3, 1) := gd_18 db00e_22
theorem d_X12_byteOf_40 : decode prog_14_method_14_code 40 = .ok (.goto 5, 3) := gd_19 db00e_22
theorem d_X12_byteOf_43 : decode prog_14_method_14_code 43 = .ok (.iload 4, 2) := gd_20 db00e_22
theorem d_X12_byteOf_45 : decode prog_14_method_14_code 45 = .ok (.istore 6, 2) := gd_21 db00e_22
theorem d_X12_byteOf_47 : decode prog_14_method_14_code 47 = .ok (.iload 6, 2) := gd_22 db00e_22
theorem d_X12_byteOf_49 : decode prog_14_method_14_code 49 = .ok (.bipush 24, 2) := gd_23 db00e_22
theorem db00e_23 : Ad_ prog_14_method_14_code [(51, .bipush 8, 2), (53, .iload 5, 2), (55, .iconst 4, 1), (56, .irem, 1), (57, .imul, 1), (58, .isub, 1), (59, .ishr, 1), (60, .sipush 255, 3), (63, .iand, 1), (64, .ireturn, 1)] := bch_ok prog_14_method_14_code _ 51 (by decide +kernel)
theorem d_X12_byteOf_51 : decode prog_14_method_14_code 51 = .ok (.bipush 8, 2) := gd_0 db00e_23
theorem d_X12_byteOf_53 : decode prog_14_method_14_code 53 = .ok (.iload 5, 2) := gd_1 db00e_23
theorem d_X12_byteOf_55 : decode prog_14_method_14_code 55 = .ok (.iconst 4, 1) := gd_2 db00e_23
theorem d_X12_byteOf_56 : decode prog_14_method_14_code 56 = .ok (.irem, 1) := gd_3 db00e_23
theorem d_X12_byteOf_57 : decode prog_14_method_14_code 57 = .ok (.imul, 1) := gd_4 db00e_23
theorem d_X12_byteOf_58 : decode prog_14_method_14_code 58 = .ok (.isub, 1) := gd_5 db00e_23
theorem d_X12_byteOf_59 : decode prog_14_method_14_code 59 = .ok (.ishr, 1) := gd_6 db00e_23
theorem d_X12_byteOf_60 : decode prog_14_method_14_code 60 = .ok (.sipush 255, 3) := gd_7 db00e_23
theorem d_X12_byteOf_63 : decode prog_14_method_14_code 63 = .ok (.iand, 1) := gd_8 db00e_23
theorem d_X12_byteOf_64 : decode prog_14_method_14_code 64 = .ok (.ireturn, 1) := gd_9 db00e_23
theorem db00e_24 : Ad_ prog_14_method_15_code [(0, .iconst 0, 1), (1, .istore 6, 2), (3, .iconst 0, 1), (4, .istore 7, 2), (6, .iload 7, 2), (8, .bipush 20, 2), (10, .if_icmp .ge 34, 3), (13, .iload 6, 2), (15, .iload_n 1, 1), (16, .iload_n 2, 1), (17, .iload_n 3, 1), (18, .iload 4, 2), (20, .iload 5, 2), (22, .iload 7, 2), (24, .invokestatic 358, 3), (27, .ifCond .eq 7, 3), (30, .iconst 1, 1), (31, .goto 4, 3), (34, .iconst 0, 1), (35, .iadd, 1), (36, .istore 6, 2), (38, .iinc 7 1, 3), (41, .goto (-35), 3), (44, .aload_n 0, 1)] := bch_ok prog_14_method_15_code _ 0 (by decide +kernel)
theorem d_X12_feed_0 : decode prog_14_method_15_code 0 = .ok (.iconst 0, 1) := gd_0 db00e_24
theorem d_X12_feed_1 : decode prog_14_method_15_code 1 = .ok (.istore 6, 2) := gd_1 db00e_24
theorem d_X12_feed_3 : decode prog_14_method_15_code 3 = .ok (.iconst 0, 1) := gd_2 db00e_24
theorem d_X12_feed_4 : decode prog_14_method_15_code 4 = .ok (.istore 7, 2) := gd_3 db00e_24
theorem d_X12_feed_6 : decode prog_14_method_15_code 6 = .ok (.iload 7, 2) := gd_4 db00e_24
theorem d_X12_feed_8 : decode prog_14_method_15_code 8 = .ok (.bipush 20, 2) := gd_5 db00e_24
theorem d_X12_feed_10 : decode prog_14_method_15_code 10 = .ok (.if_icmp .ge 34, 3) := gd_6 db00e_24
theorem d_X12_feed_13 : decode prog_14_method_15_code 13 = .ok (.iload 6, 2) := gd_7 db00e_24
theorem d_X12_feed_15 : decode prog_14_method_15_code 15 = .ok (.iload_n 1, 1) := gd_8 db00e_24
theorem d_X12_feed_16 : decode prog_14_method_15_code 16 = .ok (.iload_n 2, 1) := gd_9 db00e_24
theorem d_X12_feed_17 : decode prog_14_method_15_code 17 = .ok (.iload_n 3, 1) := gd_10 db00e_24
theorem d_X12_feed_18 : decode prog_14_method_15_code 18 = .ok (.iload 4, 2) := gd_11 db00e_24
theorem d_X12_feed_20 : decode prog_14_method_15_code 20 = .ok (.iload 5, 2) := gd_12 db00e_24
theorem d_X12_feed_22 : decode prog_14_method_15_code 22 = .ok (.iload 7, 2) := gd_13 db00e_24
theorem d_X12_feed_24 : decode prog_14_method_15_code 24 = .ok (.invokestatic 358, 3) := gd_14 db00e_24
theorem d_X12_feed_27 : decode prog_14_method_15_code 27 = .ok (.ifCond .eq 7, 3) := gd_15 db00e_24
theorem d_X12_feed_30 : decode prog_14_method_15_code 30 = .ok (.iconst 1, 1) := gd_16 db00e_24
theorem d_X12_feed_31 : decode prog_14_method_15_code 31 = .ok (.goto 4, 3) := gd_17 db00e_24
theorem d_X12_feed_34 : decode prog_14_method_15_code 34 = .ok (.iconst 0, 1) := gd_18 db00e_24
theorem d_X12_feed_35 : decode prog_14_method_15_code 35 = .ok (.iadd, 1) := gd_19 db00e_24
theorem d_X12_feed_36 : decode prog_14_method_15_code 36 = .ok (.istore 6, 2) := gd_20 db00e_24
theorem d_X12_feed_38 : decode prog_14_method_15_code 38 = .ok (.iinc 7 1, 3) := gd_21 db00e_24
theorem d_X12_feed_41 : decode prog_14_method_15_code 41 = .ok (.goto (-35), 3) := gd_22 db00e_24
theorem d_X12_feed_44 : decode prog_14_method_15_code 44 = .ok (.aload_n 0, 1) := gd_23 db00e_24
theorem db00e_25 : Ad_ prog_14_method_15_code [(45, .getfield 362, 3), (48, .iload 6, 2), (50, .iadd, 1), (51, .sipush 160, 3), (54, .if_icmp .le 5, 3), (57, .iconst (-1), 1), (58, .ireturn, 1), (59, .iconst 0, 1), (60, .istore 7, 2), (62, .iload 7, 2), (64, .bipush 20, 2), (66, .if_icmp .ge 49, 3), (69, .iload_n 1, 1), (70, .iload_n 2, 1), (71, .iload_n 3, 1), (72, .iload 4, 2), (74, .iload 5, 2), (76, .iload 7, 2), (78, .invokestatic 358, 3), (81, .istore 8, 2), (83, .iload 8, 2), (85, .ifCond .eq 24, 3), (88, .aload_n 0, 1), (89, .getfield 87, 3)] := bch_ok prog_14_method_15_code _ 45 (by decide +kernel)
theorem d_X12_feed_45 : decode prog_14_method_15_code 45 = .ok (.getfield 362, 3) := gd_0 db00e_25
theorem d_X12_feed_48 : decode prog_14_method_15_code 48 = .ok (.iload 6, 2) := gd_1 db00e_25
theorem d_X12_feed_50 : decode prog_14_method_15_code 50 = .ok (.iadd, 1) := gd_2 db00e_25
theorem d_X12_feed_51 : decode prog_14_method_15_code 51 = .ok (.sipush 160, 3) := gd_3 db00e_25
theorem d_X12_feed_54 : decode prog_14_method_15_code 54 = .ok (.if_icmp .le 5, 3) := gd_4 db00e_25
theorem d_X12_feed_57 : decode prog_14_method_15_code 57 = .ok (.iconst (-1), 1) := gd_5 db00e_25
theorem d_X12_feed_58 : decode prog_14_method_15_code 58 = .ok (.ireturn, 1) := gd_6 db00e_25
theorem d_X12_feed_59 : decode prog_14_method_15_code 59 = .ok (.iconst 0, 1) := gd_7 db00e_25
theorem d_X12_feed_60 : decode prog_14_method_15_code 60 = .ok (.istore 7, 2) := gd_8 db00e_25
theorem d_X12_feed_62 : decode prog_14_method_15_code 62 = .ok (.iload 7, 2) := gd_9 db00e_25
theorem d_X12_feed_64 : decode prog_14_method_15_code 64 = .ok (.bipush 20, 2) := gd_10 db00e_25
theorem d_X12_feed_66 : decode prog_14_method_15_code 66 = .ok (.if_icmp .ge 49, 3) := gd_11 db00e_25
theorem d_X12_feed_69 : decode prog_14_method_15_code 69 = .ok (.iload_n 1, 1) := gd_12 db00e_25
theorem d_X12_feed_70 : decode prog_14_method_15_code 70 = .ok (.iload_n 2, 1) := gd_13 db00e_25
theorem d_X12_feed_71 : decode prog_14_method_15_code 71 = .ok (.iload_n 3, 1) := gd_14 db00e_25
theorem d_X12_feed_72 : decode prog_14_method_15_code 72 = .ok (.iload 4, 2) := gd_15 db00e_25
theorem d_X12_feed_74 : decode prog_14_method_15_code 74 = .ok (.iload 5, 2) := gd_16 db00e_25
theorem d_X12_feed_76 : decode prog_14_method_15_code 76 = .ok (.iload 7, 2) := gd_17 db00e_25
theorem d_X12_feed_78 : decode prog_14_method_15_code 78 = .ok (.invokestatic 358, 3) := gd_18 db00e_25
theorem d_X12_feed_81 : decode prog_14_method_15_code 81 = .ok (.istore 8, 2) := gd_19 db00e_25
theorem d_X12_feed_83 : decode prog_14_method_15_code 83 = .ok (.iload 8, 2) := gd_20 db00e_25
theorem d_X12_feed_85 : decode prog_14_method_15_code 85 = .ok (.ifCond .eq 24, 3) := gd_21 db00e_25
theorem d_X12_feed_88 : decode prog_14_method_15_code 88 = .ok (.aload_n 0, 1) := gd_22 db00e_25
theorem d_X12_feed_89 : decode prog_14_method_15_code 89 = .ok (.getfield 87, 3) := gd_23 db00e_25
theorem db00e_26 : Ad_ prog_14_method_15_code [(92, .aload_n 0, 1), (93, .getfield 362, 3), (96, .iload 8, 2), (98, .iastore, 1), (99, .aload_n 0, 1), (100, .dup, 1), (101, .getfield 362, 3), (104, .iconst 1, 1), (105, .iadd, 1), (106, .putfield 362, 3), (109, .iinc 7 1, 3), (112, .goto (-50), 3), (115, .aload_n 0, 1), (116, .getfield 362, 3), (119, .ireturn, 1)] := bch_ok prog_14_method_15_code _ 92 (by decide +kernel)
theorem d_X12_feed_92 : decode prog_14_method_15_code 92 = .ok (.aload_n 0, 1) := gd_0 db00e_26
theorem d_X12_feed_93 : decode prog_14_method_15_code 93 = .ok (.getfield 362, 3) := gd_1 db00e_26
theorem d_X12_feed_96 : decode prog_14_method_15_code 96 = .ok (.iload 8, 2) := gd_2 db00e_26
theorem d_X12_feed_98 : decode prog_14_method_15_code 98 = .ok (.iastore, 1) := gd_3 db00e_26
theorem d_X12_feed_99 : decode prog_14_method_15_code 99 = .ok (.aload_n 0, 1) := gd_4 db00e_26
theorem d_X12_feed_100 : decode prog_14_method_15_code 100 = .ok (.dup, 1) := gd_5 db00e_26
theorem d_X12_feed_101 : decode prog_14_method_15_code 101 = .ok (.getfield 362, 3) := gd_6 db00e_26
theorem d_X12_feed_104 : decode prog_14_method_15_code 104 = .ok (.iconst 1, 1) := gd_7 db00e_26
theorem d_X12_feed_105 : decode prog_14_method_15_code 105 = .ok (.iadd, 1) := gd_8 db00e_26
theorem d_X12_feed_106 : decode prog_14_method_15_code 106 = .ok (.putfield 362, 3) := gd_9 db00e_26
theorem d_X12_feed_109 : decode prog_14_method_15_code 109 = .ok (.iinc 7 1, 3) := gd_10 db00e_26
theorem d_X12_feed_112 : decode prog_14_method_15_code 112 = .ok (.goto (-50), 3) := gd_11 db00e_26
theorem d_X12_feed_115 : decode prog_14_method_15_code 115 = .ok (.aload_n 0, 1) := gd_12 db00e_26
theorem d_X12_feed_116 : decode prog_14_method_15_code 116 = .ok (.getfield 362, 3) := gd_13 db00e_26
theorem d_X12_feed_119 : decode prog_14_method_15_code 119 = .ok (.ireturn, 1) := gd_14 db00e_26
theorem db00e_27 : Ad_ prog_14_method_16_code [(0, .iload_n 1, 1), (1, .ifCond .lt 11, 3), (4, .iload_n 1, 1), (5, .aload_n 0, 1), (6, .getfield 362, 3), (9, .if_icmp .le 5, 3), (12, .iconst 0, 1), (13, .ireturn, 1), (14, .aload_n 0, 1), (15, .iload_n 1, 1), (16, .putfield 362, 3), (19, .iconst 1, 1), (20, .ireturn, 1)] := bch_ok prog_14_method_16_code _ 0 (by decide +kernel)
theorem d_X12_end_0 : decode prog_14_method_16_code 0 = .ok (.iload_n 1, 1) := gd_0 db00e_27
theorem d_X12_end_1 : decode prog_14_method_16_code 1 = .ok (.ifCond .lt 11, 3) := gd_1 db00e_27
theorem d_X12_end_4 : decode prog_14_method_16_code 4 = .ok (.iload_n 1, 1) := gd_2 db00e_27
theorem d_X12_end_5 : decode prog_14_method_16_code 5 = .ok (.aload_n 0, 1) := gd_3 db00e_27
theorem d_X12_end_6 : decode prog_14_method_16_code 6 = .ok (.getfield 362, 3) := gd_4 db00e_27
theorem d_X12_end_9 : decode prog_14_method_16_code 9 = .ok (.if_icmp .le 5, 3) := gd_5 db00e_27
theorem d_X12_end_12 : decode prog_14_method_16_code 12 = .ok (.iconst 0, 1) := gd_6 db00e_27
theorem d_X12_end_13 : decode prog_14_method_16_code 13 = .ok (.ireturn, 1) := gd_7 db00e_27
theorem d_X12_end_14 : decode prog_14_method_16_code 14 = .ok (.aload_n 0, 1) := gd_8 db00e_27
theorem d_X12_end_15 : decode prog_14_method_16_code 15 = .ok (.iload_n 1, 1) := gd_9 db00e_27
theorem d_X12_end_16 : decode prog_14_method_16_code 16 = .ok (.putfield 362, 3) := gd_10 db00e_27
theorem d_X12_end_19 : decode prog_14_method_16_code 19 = .ok (.iconst 1, 1) := gd_11 db00e_27
theorem d_X12_end_20 : decode prog_14_method_16_code 20 = .ok (.ireturn, 1) := gd_12 db00e_27
theorem db00e_28 : Ad_ prog_14_method_17_code [(0, .aload_n 0, 1), (1, .getfield 365, 3), (4, .aload_n 0, 1), (5, .getfield 362, 3), (8, .if_icmp .ge 30, 3), (11, .aload_n 0, 1), (12, .getfield 87, 3), (15, .aload_n 0, 1), (16, .getfield 365, 3), (19, .iaload, 1), (20, .bipush 32, 2), (22, .if_icmp .ne 16, 3), (25, .aload_n 0, 1), (26, .dup, 1), (27, .getfield 365, 3), (30, .iconst 1, 1), (31, .iadd, 1), (32, .putfield 365, 3), (35, .goto (-35), 3), (38, .aload_n 0, 1), (39, .getfield 365, 3), (42, .aload_n 0, 1), (43, .getfield 362, 3), (46, .if_icmp .ge 15, 3)] := bch_ok prog_14_method_17_code _ 0 (by decide +kernel)
theorem d_X12_look_0 : decode prog_14_method_17_code 0 = .ok (.aload_n 0, 1) := gd_0 db00e_28
theorem d_X12_look_1 : decode prog_14_method_17_code 1 = .ok (.getfield 365, 3) := gd_1 db00e_28
theorem d_X12_look_4 : decode prog_14_method_17_code 4 = .ok (.aload_n 0, 1) := gd_2 db00e_28
theorem d_X12_look_5 : decode prog_14_method_17_code 5 = .ok (.getfield 362, 3) := gd_3 db00e_28
theorem d_X12_look_8 : decode prog_14_method_17_code 8 = .ok (.if_icmp .ge 30, 3) := gd_4 db00e_28
theorem d_X12_look_11 : decode prog_14_method_17_code 11 = .ok (.aload_n 0, 1) := gd_5 db00e_28
theorem d_X12_look_12 : decode prog_14_method_17_code 12 = .ok (.getfield 87, 3) := gd_6 db00e_28
theorem d_X12_look_15 : decode prog_14_method_17_code 15 = .ok (.aload_n 0, 1) := gd_7 db00e_28
theorem d_X12_look_16 : decode prog_14_method_17_code 16 = .ok (.getfield 365, 3) := gd_8 db00e_28
theorem d_X12_look_19 : decode prog_14_method_17_code 19 = .ok (.iaload, 1) := gd_9 db00e_28
theorem d_X12_look_20 : decode prog_14_method_17_code 20 = .ok (.bipush 32, 2) := gd_10 db00e_28
theorem d_X12_look_22 : decode prog_14_method_17_code 22 = .ok (.if_icmp .ne 16, 3) := gd_11 db00e_28
theorem d_X12_look_25 : decode prog_14_method_17_code 25 = .ok (.aload_n 0, 1) := gd_12 db00e_28
theorem d_X12_look_26 : decode prog_14_method_17_code 26 = .ok (.dup, 1) := gd_13 db00e_28
theorem d_X12_look_27 : decode prog_14_method_17_code 27 = .ok (.getfield 365, 3) := gd_14 db00e_28
theorem d_X12_look_30 : decode prog_14_method_17_code 30 = .ok (.iconst 1, 1) := gd_15 db00e_28
theorem d_X12_look_31 : decode prog_14_method_17_code 31 = .ok (.iadd, 1) := gd_16 db00e_28
theorem d_X12_look_32 : decode prog_14_method_17_code 32 = .ok (.putfield 365, 3) := gd_17 db00e_28
theorem d_X12_look_35 : decode prog_14_method_17_code 35 = .ok (.goto (-35), 3) := gd_18 db00e_28
theorem d_X12_look_38 : decode prog_14_method_17_code 38 = .ok (.aload_n 0, 1) := gd_19 db00e_28
theorem d_X12_look_39 : decode prog_14_method_17_code 39 = .ok (.getfield 365, 3) := gd_20 db00e_28
theorem d_X12_look_42 : decode prog_14_method_17_code 42 = .ok (.aload_n 0, 1) := gd_21 db00e_28
theorem d_X12_look_43 : decode prog_14_method_17_code 43 = .ok (.getfield 362, 3) := gd_22 db00e_28
theorem d_X12_look_46 : decode prog_14_method_17_code 46 = .ok (.if_icmp .ge 15, 3) := gd_23 db00e_28
theorem db00e_29 : Ad_ prog_14_method_17_code [(49, .aload_n 0, 1), (50, .getfield 87, 3), (53, .aload_n 0, 1), (54, .getfield 365, 3), (57, .iaload, 1), (58, .goto 4, 3), (61, .iconst (-1), 1), (62, .ireturn, 1)] := bch_ok prog_14_method_17_code _ 49 (by decide +kernel)
theorem d_X12_look_49 : decode prog_14_method_17_code 49 = .ok (.aload_n 0, 1) := gd_0 db00e_29
theorem d_X12_look_50 : decode prog_14_method_17_code 50 = .ok (.getfield 87, 3) := gd_1 db00e_29
theorem d_X12_look_53 : decode prog_14_method_17_code 53 = .ok (.aload_n 0, 1) := gd_2 db00e_29
theorem d_X12_look_54 : decode prog_14_method_17_code 54 = .ok (.getfield 365, 3) := gd_3 db00e_29
theorem d_X12_look_57 : decode prog_14_method_17_code 57 = .ok (.iaload, 1) := gd_4 db00e_29
theorem d_X12_look_58 : decode prog_14_method_17_code 58 = .ok (.goto 4, 3) := gd_5 db00e_29
theorem d_X12_look_61 : decode prog_14_method_17_code 61 = .ok (.iconst (-1), 1) := gd_6 db00e_29
theorem d_X12_look_62 : decode prog_14_method_17_code 62 = .ok (.ireturn, 1) := gd_7 db00e_29
theorem db00e_30 : Ad_ prog_14_method_18_code [(0, .aload_n 0, 1), (1, .aload_n 0, 1), (2, .getfield 368, 3), (5, .iconst (-1), 1), (6, .if_icmp .ne 10, 3), (9, .aload_n 0, 1), (10, .getfield 365, 3), (13, .goto 7, 3), (16, .aload_n 0, 1), (17, .getfield 368, 3), (20, .putfield 368, 3), (23, .return_, 1)] := bch_ok prog_14_method_18_code _ 0 (by decide +kernel)
theorem d_X12_bad_0 : decode prog_14_method_18_code 0 = .ok (.aload_n 0, 1) := gd_0 db00e_30
theorem d_X12_bad_1 : decode prog_14_method_18_code 1 = .ok (.aload_n 0, 1) := gd_1 db00e_30
theorem d_X12_bad_2 : decode prog_14_method_18_code 2 = .ok (.getfield 368, 3) := gd_2 db00e_30
theorem d_X12_bad_5 : decode prog_14_method_18_code 5 = .ok (.iconst (-1), 1) := gd_3 db00e_30
theorem d_X12_bad_6 : decode prog_14_method_18_code 6 = .ok (.if_icmp .ne 10, 3) := gd_4 db00e_30
theorem d_X12_bad_9 : decode prog_14_method_18_code 9 = .ok (.aload_n 0, 1) := gd_5 db00e_30
theorem d_X12_bad_10 : decode prog_14_method_18_code 10 = .ok (.getfield 365, 3) := gd_6 db00e_30
theorem d_X12_bad_13 : decode prog_14_method_18_code 13 = .ok (.goto 7, 3) := gd_7 db00e_30
theorem d_X12_bad_16 : decode prog_14_method_18_code 16 = .ok (.aload_n 0, 1) := gd_8 db00e_30
theorem d_X12_bad_17 : decode prog_14_method_18_code 17 = .ok (.getfield 368, 3) := gd_9 db00e_30
theorem d_X12_bad_20 : decode prog_14_method_18_code 20 = .ok (.putfield 368, 3) := gd_10 db00e_30
theorem d_X12_bad_23 : decode prog_14_method_18_code 23 = .ok (.return_, 1) := gd_11 db00e_30
theorem db00e_31 : Ad_ prog_14_method_19_code [(0, .aload_n 0, 1), (1, .getfield 90, 3), (4, .aload_n 0, 1), (5, .getfield 371, 3), (8, .iload_n 1, 1), (9, .iastore, 1), (10, .aload_n 0, 1), (11, .dup, 1), (12, .getfield 371, 3), (15, .iconst 1, 1), (16, .iadd, 1), (17, .putfield 371, 3), (20, .return_, 1)] := bch_ok prog_14_method_19_code _ 0 (by decide +kernel)
theorem d_X12_say_0 : decode prog_14_method_19_code 0 = .ok (.aload_n 0, 1) := gd_0 db00e_31
theorem d_X12_say_1 : decode prog_14_method_19_code 1 = .ok (.getfield 90, 3) := gd_1 db00e_31
theorem d_X12_say_4 : decode prog_14_method_19_code 4 = .ok (.aload_n 0, 1) := gd_2 db00e_31
theorem d_X12_say_5 : decode prog_14_method_19_code 5 = .ok (.getfield 371, 3) := gd_3 db00e_31
theorem d_X12_say_8 : decode prog_14_method_19_code 8 = .ok (.iload_n 1, 1) := gd_4 db00e_31
theorem d_X12_say_9 : decode prog_14_method_19_code 9 = .ok (.iastore, 1) := gd_5 db00e_31
theorem d_X12_say_10 : decode prog_14_method_19_code 10 = .ok (.aload_n 0, 1) := gd_6 db00e_31
theorem d_X12_say_11 : decode prog_14_method_19_code 11 = .ok (.dup, 1) := gd_7 db00e_31
theorem d_X12_say_12 : decode prog_14_method_19_code 12 = .ok (.getfield 371, 3) := gd_8 db00e_31
theorem d_X12_say_15 : decode prog_14_method_19_code 15 = .ok (.iconst 1, 1) := gd_9 db00e_31
theorem d_X12_say_16 : decode prog_14_method_19_code 16 = .ok (.iadd, 1) := gd_10 db00e_31
theorem d_X12_say_17 : decode prog_14_method_19_code 17 = .ok (.putfield 371, 3) := gd_11 db00e_31
theorem d_X12_say_20 : decode prog_14_method_19_code 20 = .ok (.return_, 1) := gd_12 db00e_31
theorem db00e_32 : Ad_ prog_14_method_20_code [(0, .iload_n 0, 1), (1, .bipush 48, 2), (3, .if_icmp .lt 13, 3), (6, .iload_n 0, 1), (7, .bipush 57, 2), (9, .if_icmp .gt 7, 3), (12, .iconst 1, 1), (13, .goto 4, 3), (16, .iconst 0, 1), (17, .ireturn, 1)] := bch_ok prog_14_method_20_code _ 0 (by decide +kernel)
theorem d_X12_isDigit_0 : decode prog_14_method_20_code 0 = .ok (.iload_n 0, 1) := gd_0 db00e_32
theorem d_X12_isDigit_1 : decode prog_14_method_20_code 1 = .ok (.bipush 48, 2) := gd_1 db00e_32
theorem d_X12_isDigit_3 : decode prog_14_method_20_code 3 = .ok (.if_icmp .lt 13, 3) := gd_2 db00e_32
theorem d_X12_isDigit_6 : decode prog_14_method_20_code 6 = .ok (.iload_n 0, 1) := gd_3 db00e_32
theorem d_X12_isDigit_7 : decode prog_14_method_20_code 7 = .ok (.bipush 57, 2) := gd_4 db00e_32
theorem d_X12_isDigit_9 : decode prog_14_method_20_code 9 = .ok (.if_icmp .gt 7, 3) := gd_5 db00e_32
theorem d_X12_isDigit_12 : decode prog_14_method_20_code 12 = .ok (.iconst 1, 1) := gd_6 db00e_32
theorem d_X12_isDigit_13 : decode prog_14_method_20_code 13 = .ok (.goto 4, 3) := gd_7 db00e_32
theorem d_X12_isDigit_16 : decode prog_14_method_20_code 16 = .ok (.iconst 0, 1) := gd_8 db00e_32
theorem d_X12_isDigit_17 : decode prog_14_method_20_code 17 = .ok (.ireturn, 1) := gd_9 db00e_32
theorem db00e_33 : Ad_ prog_14_method_21_code [(0, .aload_n 0, 1), (1, .invokevirtual 374, 3), (4, .invokestatic 378, 3), (7, .ifCond .ne 9, 3), (10, .aload_n 0, 1), (11, .invokevirtual 381, 3), (14, .iconst (-1), 1), (15, .ireturn, 1), (16, .iconst 0, 1), (17, .istore_n 1, 1), (18, .iconst 0, 1), (19, .istore_n 2, 1), (20, .aload_n 0, 1), (21, .getfield 365, 3), (24, .aload_n 0, 1), (25, .getfield 362, 3), (28, .if_icmp .ge 63, 3), (31, .aload_n 0, 1), (32, .getfield 87, 3), (35, .aload_n 0, 1), (36, .getfield 365, 3), (39, .iaload, 1), (40, .invokestatic 378, 3), (43, .ifCond .eq 48, 3)] := bch_ok prog_14_method_21_code _ 0 (by decide +kernel)
theorem d_X12_number_0 : decode prog_14_method_21_code 0 = .ok (.aload_n 0, 1) := gd_0 db00e_33
theorem d_X12_number_1 : decode prog_14_method_21_code 1 = .ok (.invokevirtual 374, 3) := gd_1 db00e_33
theorem d_X12_number_4 : decode prog_14_method_21_code 4 = .ok (.invokestatic 378, 3) := gd_2 db00e_33
theorem d_X12_number_7 : decode prog_14_method_21_code 7 = .ok (.ifCond .ne 9, 3) := gd_3 db00e_33
theorem d_X12_number_10 : decode prog_14_method_21_code 10 = .ok (.aload_n 0, 1) := gd_4 db00e_33
theorem d_X12_number_11 : decode prog_14_method_21_code 11 = .ok (.invokevirtual 381, 3) := gd_5 db00e_33
theorem d_X12_number_14 : decode prog_14_method_21_code 14 = .ok (.iconst (-1), 1) := gd_6 db00e_33
theorem d_X12_number_15 : decode prog_14_method_21_code 15 = .ok (.ireturn, 1) := gd_7 db00e_33
theorem d_X12_number_16 : decode prog_14_method_21_code 16 = .ok (.iconst 0, 1) := gd_8 db00e_33
theorem d_X12_number_17 : decode prog_14_method_21_code 17 = .ok (.istore_n 1, 1) := gd_9 db00e_33
theorem d_X12_number_18 : decode prog_14_method_21_code 18 = .ok (.iconst 0, 1) := gd_10 db00e_33
theorem d_X12_number_19 : decode prog_14_method_21_code 19 = .ok (.istore_n 2, 1) := gd_11 db00e_33
theorem d_X12_number_20 : decode prog_14_method_21_code 20 = .ok (.aload_n 0, 1) := gd_12 db00e_33
theorem d_X12_number_21 : decode prog_14_method_21_code 21 = .ok (.getfield 365, 3) := gd_13 db00e_33
theorem d_X12_number_24 : decode prog_14_method_21_code 24 = .ok (.aload_n 0, 1) := gd_14 db00e_33
theorem d_X12_number_25 : decode prog_14_method_21_code 25 = .ok (.getfield 362, 3) := gd_15 db00e_33
theorem d_X12_number_28 : decode prog_14_method_21_code 28 = .ok (.if_icmp .ge 63, 3) := gd_16 db00e_33
theorem d_X12_number_31 : decode prog_14_method_21_code 31 = .ok (.aload_n 0, 1) := gd_17 db00e_33
theorem d_X12_number_32 : decode prog_14_method_21_code 32 = .ok (.getfield 87, 3) := gd_18 db00e_33
theorem d_X12_number_35 : decode prog_14_method_21_code 35 = .ok (.aload_n 0, 1) := gd_19 db00e_33
theorem d_X12_number_36 : decode prog_14_method_21_code 36 = .ok (.getfield 365, 3) := gd_20 db00e_33
theorem d_X12_number_39 : decode prog_14_method_21_code 39 = .ok (.iaload, 1) := gd_21 db00e_33
theorem d_X12_number_40 : decode prog_14_method_21_code 40 = .ok (.invokestatic 378, 3) := gd_22 db00e_33
theorem d_X12_number_43 : decode prog_14_method_21_code 43 = .ok (.ifCond .eq 48, 3) := gd_23 db00e_33
theorem db00e_34 : Ad_ prog_14_method_21_code [(46, .iload_n 2, 1), (47, .iconst 4, 1), (48, .if_icmp .ne 9, 3), (51, .aload_n 0, 1), (52, .invokevirtual 381, 3), (55, .iconst (-1), 1), (56, .ireturn, 1), (57, .bipush 10, 2), (59, .iload_n 1, 1), (60, .imul, 1), (61, .aload_n 0, 1), (62, .getfield 87, 3), (65, .aload_n 0, 1), (66, .getfield 365, 3), (69, .iaload, 1), (70, .iadd, 1), (71, .bipush 48, 2), (73, .isub, 1), (74, .istore_n 1, 1), (75, .iinc 2 1, 3), (78, .aload_n 0, 1), (79, .dup, 1), (80, .getfield 365, 3), (83, .iconst 1, 1)] := bch_ok prog_14_method_21_code _ 46 (by decide +kernel)
theorem d_X12_number_46 : decode prog_14_method_21_code 46 = .ok (.iload_n 2, 1) := gd_0 db00e_34
theorem d_X12_number_47 : decode prog_14_method_21_code 47 = .ok (.iconst 4, 1) := gd_1 db00e_34
theorem d_X12_number_48 : decode prog_14_method_21_code 48 = .ok (.if_icmp .ne 9, 3) := gd_2 db00e_34
theorem d_X12_number_51 : decode prog_14_method_21_code 51 = .ok (.aload_n 0, 1) := gd_3 db00e_34
theorem d_X12_number_52 : decode prog_14_method_21_code 52 = .ok (.invokevirtual 381, 3) := gd_4 db00e_34
theorem d_X12_number_55 : decode prog_14_method_21_code 55 = .ok (.iconst (-1), 1) := gd_5 db00e_34
theorem d_X12_number_56 : decode prog_14_method_21_code 56 = .ok (.ireturn, 1) := gd_6 db00e_34
theorem d_X12_number_57 : decode prog_14_method_21_code 57 = .ok (.bipush 10, 2) := gd_7 db00e_34
theorem d_X12_number_59 : decode prog_14_method_21_code 59 = .ok (.iload_n 1, 1) := gd_8 db00e_34
theorem d_X12_number_60 : decode prog_14_method_21_code 60 = .ok (.imul, 1) := gd_9 db00e_34
theorem d_X12_number_61 : decode prog_14_method_21_code 61 = .ok (.aload_n 0, 1) := gd_10 db00e_34
theorem d_X12_number_62 : decode prog_14_method_21_code 62 = .ok (.getfield 87, 3) := gd_11 db00e_34
theorem d_X12_number_65 : decode prog_14_method_21_code 65 = .ok (.aload_n 0, 1) := gd_12 db00e_34
theorem d_X12_number_66 : decode prog_14_method_21_code 66 = .ok (.getfield 365, 3) := gd_13 db00e_34
theorem d_X12_number_69 : decode prog_14_method_21_code 69 = .ok (.iaload, 1) := gd_14 db00e_34
theorem d_X12_number_70 : decode prog_14_method_21_code 70 = .ok (.iadd, 1) := gd_15 db00e_34
theorem d_X12_number_71 : decode prog_14_method_21_code 71 = .ok (.bipush 48, 2) := gd_16 db00e_34
theorem d_X12_number_73 : decode prog_14_method_21_code 73 = .ok (.isub, 1) := gd_17 db00e_34
theorem d_X12_number_74 : decode prog_14_method_21_code 74 = .ok (.istore_n 1, 1) := gd_18 db00e_34
theorem d_X12_number_75 : decode prog_14_method_21_code 75 = .ok (.iinc 2 1, 3) := gd_19 db00e_34
theorem d_X12_number_78 : decode prog_14_method_21_code 78 = .ok (.aload_n 0, 1) := gd_20 db00e_34
theorem d_X12_number_79 : decode prog_14_method_21_code 79 = .ok (.dup, 1) := gd_21 db00e_34
theorem d_X12_number_80 : decode prog_14_method_21_code 80 = .ok (.getfield 365, 3) := gd_22 db00e_34
theorem d_X12_number_83 : decode prog_14_method_21_code 83 = .ok (.iconst 1, 1) := gd_23 db00e_34
theorem db00e_35 : Ad_ prog_14_method_21_code [(84, .iadd, 1), (85, .putfield 365, 3), (88, .goto (-68), 3), (91, .iload_n 1, 1), (92, .ireturn, 1)] := bch_ok prog_14_method_21_code _ 84 (by decide +kernel)
theorem d_X12_number_84 : decode prog_14_method_21_code 84 = .ok (.iadd, 1) := gd_0 db00e_35
theorem d_X12_number_85 : decode prog_14_method_21_code 85 = .ok (.putfield 365, 3) := gd_1 db00e_35
theorem d_X12_number_88 : decode prog_14_method_21_code 88 = .ok (.goto (-68), 3) := gd_2 db00e_35
theorem d_X12_number_91 : decode prog_14_method_21_code 91 = .ok (.iload_n 1, 1) := gd_3 db00e_35
theorem d_X12_number_92 : decode prog_14_method_21_code 92 = .ok (.ireturn, 1) := gd_4 db00e_35
theorem db00e_36 : Ad_ prog_14_method_22_code [(0, .aload_n 0, 1), (1, .invokevirtual 384, 3), (4, .istore_n 3, 1), (5, .aload_n 0, 1), (6, .getfield 368, 3), (9, .iconst (-1), 1), (10, .if_icmp .ne 22, 3), (13, .iload_n 3, 1), (14, .iload_n 1, 1), (15, .iload_n 2, 1), (16, .invokestatic 323, 3), (19, .ifCond .ne 13, 3), (22, .aload_n 0, 1), (23, .aload_n 0, 1), (24, .getfield 365, 3), (27, .iconst 1, 1), (28, .isub, 1), (29, .putfield 368, 3), (32, .iload_n 3, 1), (33, .ireturn, 1)] := bch_ok prog_14_method_22_code _ 0 (by decide +kernel)
theorem d_X12_within_0 : decode prog_14_method_22_code 0 = .ok (.aload_n 0, 1) := gd_0 db00e_36
theorem d_X12_within_1 : decode prog_14_method_22_code 1 = .ok (.invokevirtual 384, 3) := gd_1 db00e_36
theorem d_X12_within_4 : decode prog_14_method_22_code 4 = .ok (.istore_n 3, 1) := gd_2 db00e_36
theorem d_X12_within_5 : decode prog_14_method_22_code 5 = .ok (.aload_n 0, 1) := gd_3 db00e_36
theorem d_X12_within_6 : decode prog_14_method_22_code 6 = .ok (.getfield 368, 3) := gd_4 db00e_36
theorem d_X12_within_9 : decode prog_14_method_22_code 9 = .ok (.iconst (-1), 1) := gd_5 db00e_36
theorem d_X12_within_10 : decode prog_14_method_22_code 10 = .ok (.if_icmp .ne 22, 3) := gd_6 db00e_36
theorem d_X12_within_13 : decode prog_14_method_22_code 13 = .ok (.iload_n 3, 1) := gd_7 db00e_36
theorem d_X12_within_14 : decode prog_14_method_22_code 14 = .ok (.iload_n 1, 1) := gd_8 db00e_36
theorem d_X12_within_15 : decode prog_14_method_22_code 15 = .ok (.iload_n 2, 1) := gd_9 db00e_36
theorem d_X12_within_16 : decode prog_14_method_22_code 16 = .ok (.invokestatic 323, 3) := gd_10 db00e_36
theorem d_X12_within_19 : decode prog_14_method_22_code 19 = .ok (.ifCond .ne 13, 3) := gd_11 db00e_36
theorem d_X12_within_22 : decode prog_14_method_22_code 22 = .ok (.aload_n 0, 1) := gd_12 db00e_36
theorem d_X12_within_23 : decode prog_14_method_22_code 23 = .ok (.aload_n 0, 1) := gd_13 db00e_36
theorem d_X12_within_24 : decode prog_14_method_22_code 24 = .ok (.getfield 365, 3) := gd_14 db00e_36
theorem d_X12_within_27 : decode prog_14_method_22_code 27 = .ok (.iconst 1, 1) := gd_15 db00e_36
theorem d_X12_within_28 : decode prog_14_method_22_code 28 = .ok (.isub, 1) := gd_16 db00e_36
theorem d_X12_within_29 : decode prog_14_method_22_code 29 = .ok (.putfield 368, 3) := gd_17 db00e_36
theorem d_X12_within_32 : decode prog_14_method_22_code 32 = .ok (.iload_n 3, 1) := gd_18 db00e_36
theorem d_X12_within_33 : decode prog_14_method_22_code 33 = .ok (.ireturn, 1) := gd_19 db00e_36
theorem db00e_37 : Ad_ prog_14_method_23_code [(0, .aload_n 0, 1), (1, .invokevirtual 387, 3), (4, .aload_n 0, 1), (5, .getfield 368, 3), (8, .iconst (-1), 1), (9, .if_icmp .ne 29, 3), (12, .aload_n 0, 1), (13, .invokevirtual 374, 3), (16, .bipush 59, 2), (18, .if_icmp .ne 20, 3), (21, .aload_n 0, 1), (22, .dup, 1), (23, .getfield 365, 3), (26, .iconst 1, 1), (27, .iadd, 1), (28, .putfield 365, 3), (31, .aload_n 0, 1), (32, .invokevirtual 387, 3), (35, .goto (-31), 3), (38, .return_, 1)] := bch_ok prog_14_method_23_code _ 0 (by decide +kernel)
theorem d_X12_stepsRead_0 : decode prog_14_method_23_code 0 = .ok (.aload_n 0, 1) := gd_0 db00e_37
theorem d_X12_stepsRead_1 : decode prog_14_method_23_code 1 = .ok (.invokevirtual 387, 3) := gd_1 db00e_37
theorem d_X12_stepsRead_4 : decode prog_14_method_23_code 4 = .ok (.aload_n 0, 1) := gd_2 db00e_37
theorem d_X12_stepsRead_5 : decode prog_14_method_23_code 5 = .ok (.getfield 368, 3) := gd_3 db00e_37
theorem d_X12_stepsRead_8 : decode prog_14_method_23_code 8 = .ok (.iconst (-1), 1) := gd_4 db00e_37
theorem d_X12_stepsRead_9 : decode prog_14_method_23_code 9 = .ok (.if_icmp .ne 29, 3) := gd_5 db00e_37
theorem d_X12_stepsRead_12 : decode prog_14_method_23_code 12 = .ok (.aload_n 0, 1) := gd_6 db00e_37
theorem d_X12_stepsRead_13 : decode prog_14_method_23_code 13 = .ok (.invokevirtual 374, 3) := gd_7 db00e_37
theorem d_X12_stepsRead_16 : decode prog_14_method_23_code 16 = .ok (.bipush 59, 2) := gd_8 db00e_37
theorem d_X12_stepsRead_18 : decode prog_14_method_23_code 18 = .ok (.if_icmp .ne 20, 3) := gd_9 db00e_37
theorem d_X12_stepsRead_21 : decode prog_14_method_23_code 21 = .ok (.aload_n 0, 1) := gd_10 db00e_37
theorem d_X12_stepsRead_22 : decode prog_14_method_23_code 22 = .ok (.dup, 1) := gd_11 db00e_37
theorem d_X12_stepsRead_23 : decode prog_14_method_23_code 23 = .ok (.getfield 365, 3) := gd_12 db00e_37
theorem d_X12_stepsRead_26 : decode prog_14_method_23_code 26 = .ok (.iconst 1, 1) := gd_13 db00e_37
theorem d_X12_stepsRead_27 : decode prog_14_method_23_code 27 = .ok (.iadd, 1) := gd_14 db00e_37
theorem d_X12_stepsRead_28 : decode prog_14_method_23_code 28 = .ok (.putfield 365, 3) := gd_15 db00e_37
theorem d_X12_stepsRead_31 : decode prog_14_method_23_code 31 = .ok (.aload_n 0, 1) := gd_16 db00e_37
theorem d_X12_stepsRead_32 : decode prog_14_method_23_code 32 = .ok (.invokevirtual 387, 3) := gd_17 db00e_37
theorem d_X12_stepsRead_35 : decode prog_14_method_23_code 35 = .ok (.goto (-31), 3) := gd_18 db00e_37
theorem d_X12_stepsRead_38 : decode prog_14_method_23_code 38 = .ok (.return_, 1) := gd_19 db00e_37
theorem db00e_38 : Ad_ prog_14_method_24_code [(0, .aload_n 0, 1), (1, .invokevirtual 374, 3), (4, .istore_n 1, 1), (5, .iload_n 1, 1), (6, .bipush 103, 2), (8, .if_icmp .ne 32, 3), (11, .aload_n 0, 1), (12, .dup, 1), (13, .getfield 365, 3), (16, .iconst 1, 1), (17, .iadd, 1), (18, .putfield 365, 3), (21, .aload_n 0, 1), (22, .iconst 0, 1), (23, .invokevirtual 390, 3), (26, .aload_n 0, 1), (27, .aload_n 0, 1), (28, .iconst 0, 1), (29, .bipush 15, 2), (31, .invokevirtual 394, 3), (34, .invokevirtual 390, 3), (37, .goto 233, 3), (40, .iload_n 1, 1), (41, .bipush 119, 2)] := bch_ok prog_14_method_24_code _ 0 (by decide +kernel)
theorem d_X12_stepRead_0 : decode prog_14_method_24_code 0 = .ok (.aload_n 0, 1) := gd_0 db00e_38
theorem d_X12_stepRead_1 : decode prog_14_method_24_code 1 = .ok (.invokevirtual 374, 3) := gd_1 db00e_38
theorem d_X12_stepRead_4 : decode prog_14_method_24_code 4 = .ok (.istore_n 1, 1) := gd_2 db00e_38
theorem d_X12_stepRead_5 : decode prog_14_method_24_code 5 = .ok (.iload_n 1, 1) := gd_3 db00e_38
theorem d_X12_stepRead_6 : decode prog_14_method_24_code 6 = .ok (.bipush 103, 2) := gd_4 db00e_38
theorem d_X12_stepRead_8 : decode prog_14_method_24_code 8 = .ok (.if_icmp .ne 32, 3) := gd_5 db00e_38
theorem d_X12_stepRead_11 : decode prog_14_method_24_code 11 = .ok (.aload_n 0, 1) := gd_6 db00e_38
theorem d_X12_stepRead_12 : decode prog_14_method_24_code 12 = .ok (.dup, 1) := gd_7 db00e_38
theorem d_X12_stepRead_13 : decode prog_14_method_24_code 13 = .ok (.getfield 365, 3) := gd_8 db00e_38
theorem d_X12_stepRead_16 : decode prog_14_method_24_code 16 = .ok (.iconst 1, 1) := gd_9 db00e_38
theorem d_X12_stepRead_17 : decode prog_14_method_24_code 17 = .ok (.iadd, 1) := gd_10 db00e_38
theorem d_X12_stepRead_18 : decode prog_14_method_24_code 18 = .ok (.putfield 365, 3) := gd_11 db00e_38
theorem d_X12_stepRead_21 : decode prog_14_method_24_code 21 = .ok (.aload_n 0, 1) := gd_12 db00e_38
theorem d_X12_stepRead_22 : decode prog_14_method_24_code 22 = .ok (.iconst 0, 1) := gd_13 db00e_38
theorem d_X12_stepRead_23 : decode prog_14_method_24_code 23 = .ok (.invokevirtual 390, 3) := gd_14 db00e_38
theorem d_X12_stepRead_26 : decode prog_14_method_24_code 26 = .ok (.aload_n 0, 1) := gd_15 db00e_38
theorem d_X12_stepRead_27 : decode prog_14_method_24_code 27 = .ok (.aload_n 0, 1) := gd_16 db00e_38
theorem d_X12_stepRead_28 : decode prog_14_method_24_code 28 = .ok (.iconst 0, 1) := gd_17 db00e_38
theorem d_X12_stepRead_29 : decode prog_14_method_24_code 29 = .ok (.bipush 15, 2) := gd_18 db00e_38
theorem d_X12_stepRead_31 : decode prog_14_method_24_code 31 = .ok (.invokevirtual 394, 3) := gd_19 db00e_38
theorem d_X12_stepRead_34 : decode prog_14_method_24_code 34 = .ok (.invokevirtual 390, 3) := gd_20 db00e_38
theorem d_X12_stepRead_37 : decode prog_14_method_24_code 37 = .ok (.goto 233, 3) := gd_21 db00e_38
theorem d_X12_stepRead_40 : decode prog_14_method_24_code 40 = .ok (.iload_n 1, 1) := gd_22 db00e_38
theorem d_X12_stepRead_41 : decode prog_14_method_24_code 41 = .ok (.bipush 119, 2) := gd_23 db00e_38
theorem db00e_39 : Ad_ prog_14_method_24_code [(43, .if_icmp .ne 33, 3), (46, .aload_n 0, 1), (47, .dup, 1), (48, .getfield 365, 3), (51, .iconst 1, 1), (52, .iadd, 1), (53, .putfield 365, 3), (56, .aload_n 0, 1), (57, .iconst 1, 1), (58, .invokevirtual 390, 3), (61, .aload_n 0, 1), (62, .aload_n 0, 1), (63, .iconst 1, 1), (64, .sipush 240, 3), (67, .invokevirtual 394, 3), (70, .invokevirtual 390, 3), (73, .goto 197, 3), (76, .iload_n 1, 1), (77, .bipush 112, 2), (79, .if_icmp .ne 52, 3), (82, .aload_n 0, 1), (83, .dup, 1), (84, .getfield 365, 3), (87, .iconst 1, 1)] := bch_ok prog_14_method_24_code _ 43 (by decide +kernel)
theorem d_X12_stepRead_43 : decode prog_14_method_24_code 43 = .ok (.if_icmp .ne 33, 3) := gd_0 db00e_39
theorem d_X12_stepRead_46 : decode prog_14_method_24_code 46 = .ok (.aload_n 0, 1) := gd_1 db00e_39
theorem d_X12_stepRead_47 : decode prog_14_method_24_code 47 = .ok (.dup, 1) := gd_2 db00e_39
theorem d_X12_stepRead_48 : decode prog_14_method_24_code 48 = .ok (.getfield 365, 3) := gd_3 db00e_39
theorem d_X12_stepRead_51 : decode prog_14_method_24_code 51 = .ok (.iconst 1, 1) := gd_4 db00e_39
theorem d_X12_stepRead_52 : decode prog_14_method_24_code 52 = .ok (.iadd, 1) := gd_5 db00e_39
theorem d_X12_stepRead_53 : decode prog_14_method_24_code 53 = .ok (.putfield 365, 3) := gd_6 db00e_39
theorem d_X12_stepRead_56 : decode prog_14_method_24_code 56 = .ok (.aload_n 0, 1) := gd_7 db00e_39
theorem d_X12_stepRead_57 : decode prog_14_method_24_code 57 = .ok (.iconst 1, 1) := gd_8 db00e_39
theorem d_X12_stepRead_58 : decode prog_14_method_24_code 58 = .ok (.invokevirtual 390, 3) := gd_9 db00e_39
theorem d_X12_stepRead_61 : decode prog_14_method_24_code 61 = .ok (.aload_n 0, 1) := gd_10 db00e_39
theorem d_X12_stepRead_62 : decode prog_14_method_24_code 62 = .ok (.aload_n 0, 1) := gd_11 db00e_39
theorem d_X12_stepRead_63 : decode prog_14_method_24_code 63 = .ok (.iconst 1, 1) := gd_12 db00e_39
theorem d_X12_stepRead_64 : decode prog_14_method_24_code 64 = .ok (.sipush 240, 3) := gd_13 db00e_39
theorem d_X12_stepRead_67 : decode prog_14_method_24_code 67 = .ok (.invokevirtual 394, 3) := gd_14 db00e_39
theorem d_X12_stepRead_70 : decode prog_14_method_24_code 70 = .ok (.invokevirtual 390, 3) := gd_15 db00e_39
theorem d_X12_stepRead_73 : decode prog_14_method_24_code 73 = .ok (.goto 197, 3) := gd_16 db00e_39
theorem d_X12_stepRead_76 : decode prog_14_method_24_code 76 = .ok (.iload_n 1, 1) := gd_17 db00e_39
theorem d_X12_stepRead_77 : decode prog_14_method_24_code 77 = .ok (.bipush 112, 2) := gd_18 db00e_39
theorem d_X12_stepRead_79 : decode prog_14_method_24_code 79 = .ok (.if_icmp .ne 52, 3) := gd_19 db00e_39
theorem d_X12_stepRead_82 : decode prog_14_method_24_code 82 = .ok (.aload_n 0, 1) := gd_20 db00e_39
theorem d_X12_stepRead_83 : decode prog_14_method_24_code 83 = .ok (.dup, 1) := gd_21 db00e_39
theorem d_X12_stepRead_84 : decode prog_14_method_24_code 84 = .ok (.getfield 365, 3) := gd_22 db00e_39
theorem d_X12_stepRead_87 : decode prog_14_method_24_code 87 = .ok (.iconst 1, 1) := gd_23 db00e_39
theorem db00e_40 : Ad_ prog_14_method_24_code [(88, .iadd, 1), (89, .putfield 365, 3), (92, .aload_n 0, 1), (93, .iconst 2, 1), (94, .invokevirtual 390, 3), (97, .aload_n 0, 1), (98, .aload_n 0, 1), (99, .iconst 0, 1), (100, .bipush 15, 2), (102, .invokevirtual 394, 3), (105, .invokevirtual 390, 3), (108, .aload_n 0, 1), (109, .getfield 368, 3), (112, .iconst (-1), 1), (113, .if_icmp .ne 157, 3), (116, .aload_n 0, 1), (117, .aload_n 0, 1), (118, .iconst 0, 1), (119, .sipush 1440, 3), (122, .invokevirtual 394, 3), (125, .invokevirtual 390, 3), (128, .goto 142, 3), (131, .iload_n 1, 1), (132, .bipush 108, 2)] := bch_ok prog_14_method_24_code _ 88 (by decide +kernel)
theorem d_X12_stepRead_88 : decode prog_14_method_24_code 88 = .ok (.iadd, 1) := gd_0 db00e_40
theorem d_X12_stepRead_89 : decode prog_14_method_24_code 89 = .ok (.putfield 365, 3) := gd_1 db00e_40
theorem d_X12_stepRead_92 : decode prog_14_method_24_code 92 = .ok (.aload_n 0, 1) := gd_2 db00e_40
theorem d_X12_stepRead_93 : decode prog_14_method_24_code 93 = .ok (.iconst 2, 1) := gd_3 db00e_40
theorem d_X12_stepRead_94 : decode prog_14_method_24_code 94 = .ok (.invokevirtual 390, 3) := gd_4 db00e_40
theorem d_X12_stepRead_97 : decode prog_14_method_24_code 97 = .ok (.aload_n 0, 1) := gd_5 db00e_40
theorem d_X12_stepRead_98 : decode prog_14_method_24_code 98 = .ok (.aload_n 0, 1) := gd_6 db00e_40
theorem d_X12_stepRead_99 : decode prog_14_method_24_code 99 = .ok (.iconst 0, 1) := gd_7 db00e_40
theorem d_X12_stepRead_100 : decode prog_14_method_24_code 100 = .ok (.bipush 15, 2) := gd_8 db00e_40
theorem d_X12_stepRead_102 : decode prog_14_method_24_code 102 = .ok (.invokevirtual 394, 3) := gd_9 db00e_40
theorem d_X12_stepRead_105 : decode prog_14_method_24_code 105 = .ok (.invokevirtual 390, 3) := gd_10 db00e_40
theorem d_X12_stepRead_108 : decode prog_14_method_24_code 108 = .ok (.aload_n 0, 1) := gd_11 db00e_40
theorem d_X12_stepRead_109 : decode prog_14_method_24_code 109 = .ok (.getfield 368, 3) := gd_12 db00e_40
theorem d_X12_stepRead_112 : decode prog_14_method_24_code 112 = .ok (.iconst (-1), 1) := gd_13 db00e_40
theorem d_X12_stepRead_113 : decode prog_14_method_24_code 113 = .ok (.if_icmp .ne 157, 3) := gd_14 db00e_40
theorem d_X12_stepRead_116 : decode prog_14_method_24_code 116 = .ok (.aload_n 0, 1) := gd_15 db00e_40
theorem d_X12_stepRead_117 : decode prog_14_method_24_code 117 = .ok (.aload_n 0, 1) := gd_16 db00e_40
theorem d_X12_stepRead_118 : decode prog_14_method_24_code 118 = .ok (.iconst 0, 1) := gd_17 db00e_40
theorem d_X12_stepRead_119 : decode prog_14_method_24_code 119 = .ok (.sipush 1440, 3) := gd_18 db00e_40
theorem d_X12_stepRead_122 : decode prog_14_method_24_code 122 = .ok (.invokevirtual 394, 3) := gd_19 db00e_40
theorem d_X12_stepRead_125 : decode prog_14_method_24_code 125 = .ok (.invokevirtual 390, 3) := gd_20 db00e_40
theorem d_X12_stepRead_128 : decode prog_14_method_24_code 128 = .ok (.goto 142, 3) := gd_21 db00e_40
theorem d_X12_stepRead_131 : decode prog_14_method_24_code 131 = .ok (.iload_n 1, 1) := gd_22 db00e_40
theorem d_X12_stepRead_132 : decode prog_14_method_24_code 132 = .ok (.bipush 108, 2) := gd_23 db00e_40
theorem db00e_41 : Ad_ prog_14_method_24_code [(134, .if_icmp .ne 21, 3), (137, .aload_n 0, 1), (138, .dup, 1), (139, .getfield 365, 3), (142, .iconst 1, 1), (143, .iadd, 1), (144, .putfield 365, 3), (147, .aload_n 0, 1), (148, .iconst 3, 1), (149, .invokevirtual 390, 3), (152, .goto 118, 3), (155, .iload_n 1, 1), (156, .bipush 40, 2), (158, .if_icmp .ne 108, 3), (161, .aload_n 0, 1), (162, .getfield 397, 3), (165, .iconst 4, 1), (166, .if_icmp .ge 100, 3), (169, .aload_n 0, 1), (170, .dup, 1), (171, .getfield 397, 3), (174, .iconst 1, 1), (175, .iadd, 1), (176, .putfield 397, 3)] := bch_ok prog_14_method_24_code _ 134 (by decide +kernel)
theorem d_X12_stepRead_134 : decode prog_14_method_24_code 134 = .ok (.if_icmp .ne 21, 3) := gd_0 db00e_41
theorem d_X12_stepRead_137 : decode prog_14_method_24_code 137 = .ok (.aload_n 0, 1) := gd_1 db00e_41
theorem d_X12_stepRead_138 : decode prog_14_method_24_code 138 = .ok (.dup, 1) := gd_2 db00e_41
theorem d_X12_stepRead_139 : decode prog_14_method_24_code 139 = .ok (.getfield 365, 3) := gd_3 db00e_41
theorem d_X12_stepRead_142 : decode prog_14_method_24_code 142 = .ok (.iconst 1, 1) := gd_4 db00e_41
theorem d_X12_stepRead_143 : decode prog_14_method_24_code 143 = .ok (.iadd, 1) := gd_5 db00e_41
theorem d_X12_stepRead_144 : decode prog_14_method_24_code 144 = .ok (.putfield 365, 3) := gd_6 db00e_41
theorem d_X12_stepRead_147 : decode prog_14_method_24_code 147 = .ok (.aload_n 0, 1) := gd_7 db00e_41
theorem d_X12_stepRead_148 : decode prog_14_method_24_code 148 = .ok (.iconst 3, 1) := gd_8 db00e_41
theorem d_X12_stepRead_149 : decode prog_14_method_24_code 149 = .ok (.invokevirtual 390, 3) := gd_9 db00e_41
theorem d_X12_stepRead_152 : decode prog_14_method_24_code 152 = .ok (.goto 118, 3) := gd_10 db00e_41
theorem d_X12_stepRead_155 : decode prog_14_method_24_code 155 = .ok (.iload_n 1, 1) := gd_11 db00e_41
theorem d_X12_stepRead_156 : decode prog_14_method_24_code 156 = .ok (.bipush 40, 2) := gd_12 db00e_41
theorem d_X12_stepRead_158 : decode prog_14_method_24_code 158 = .ok (.if_icmp .ne 108, 3) := gd_13 db00e_41
theorem d_X12_stepRead_161 : decode prog_14_method_24_code 161 = .ok (.aload_n 0, 1) := gd_14 db00e_41
theorem d_X12_stepRead_162 : decode prog_14_method_24_code 162 = .ok (.getfield 397, 3) := gd_15 db00e_41
theorem d_X12_stepRead_165 : decode prog_14_method_24_code 165 = .ok (.iconst 4, 1) := gd_16 db00e_41
theorem d_X12_stepRead_166 : decode prog_14_method_24_code 166 = .ok (.if_icmp .ge 100, 3) := gd_17 db00e_41
theorem d_X12_stepRead_169 : decode prog_14_method_24_code 169 = .ok (.aload_n 0, 1) := gd_18 db00e_41
theorem d_X12_stepRead_170 : decode prog_14_method_24_code 170 = .ok (.dup, 1) := gd_19 db00e_41
theorem d_X12_stepRead_171 : decode prog_14_method_24_code 171 = .ok (.getfield 397, 3) := gd_20 db00e_41
theorem d_X12_stepRead_174 : decode prog_14_method_24_code 174 = .ok (.iconst 1, 1) := gd_21 db00e_41
theorem d_X12_stepRead_175 : decode prog_14_method_24_code 175 = .ok (.iadd, 1) := gd_22 db00e_41
theorem d_X12_stepRead_176 : decode prog_14_method_24_code 176 = .ok (.putfield 397, 3) := gd_23 db00e_41
theorem db00e_42 : Ad_ prog_14_method_24_code [(179, .aload_n 0, 1), (180, .dup, 1), (181, .getfield 365, 3), (184, .iconst 1, 1), (185, .iadd, 1), (186, .putfield 365, 3), (189, .aload_n 0, 1), (190, .iconst 4, 1), (191, .invokevirtual 390, 3), (194, .aload_n 0, 1), (195, .invokevirtual 400, 3), (198, .aload_n 0, 1), (199, .getfield 368, 3), (202, .iconst (-1), 1), (203, .if_icmp .ne 16, 3), (206, .aload_n 0, 1), (207, .invokevirtual 374, 3), (210, .bipush 41, 2), (212, .if_icmp .eq 7, 3), (215, .aload_n 0, 1), (216, .invokevirtual 381, 3), (219, .aload_n 0, 1), (220, .dup, 1), (221, .getfield 365, 3)] := bch_ok prog_14_method_24_code _ 179 (by decide +kernel)
theorem d_X12_stepRead_179 : decode prog_14_method_24_code 179 = .ok (.aload_n 0, 1) := gd_0 db00e_42
theorem d_X12_stepRead_180 : decode prog_14_method_24_code 180 = .ok (.dup, 1) := gd_1 db00e_42
theorem d_X12_stepRead_181 : decode prog_14_method_24_code 181 = .ok (.getfield 365, 3) := gd_2 db00e_42
theorem d_X12_stepRead_184 : decode prog_14_method_24_code 184 = .ok (.iconst 1, 1) := gd_3 db00e_42
theorem d_X12_stepRead_185 : decode prog_14_method_24_code 185 = .ok (.iadd, 1) := gd_4 db00e_42
theorem d_X12_stepRead_186 : decode prog_14_method_24_code 186 = .ok (.putfield 365, 3) := gd_5 db00e_42
theorem d_X12_stepRead_189 : decode prog_14_method_24_code 189 = .ok (.aload_n 0, 1) := gd_6 db00e_42
theorem d_X12_stepRead_190 : decode prog_14_method_24_code 190 = .ok (.iconst 4, 1) := gd_7 db00e_42
theorem d_X12_stepRead_191 : decode prog_14_method_24_code 191 = .ok (.invokevirtual 390, 3) := gd_8 db00e_42
theorem d_X12_stepRead_194 : decode prog_14_method_24_code 194 = .ok (.aload_n 0, 1) := gd_9 db00e_42
theorem d_X12_stepRead_195 : decode prog_14_method_24_code 195 = .ok (.invokevirtual 400, 3) := gd_10 db00e_42
theorem d_X12_stepRead_198 : decode prog_14_method_24_code 198 = .ok (.aload_n 0, 1) := gd_11 db00e_42
theorem d_X12_stepRead_199 : decode prog_14_method_24_code 199 = .ok (.getfield 368, 3) := gd_12 db00e_42
theorem d_X12_stepRead_202 : decode prog_14_method_24_code 202 = .ok (.iconst (-1), 1) := gd_13 db00e_42
theorem d_X12_stepRead_203 : decode prog_14_method_24_code 203 = .ok (.if_icmp .ne 16, 3) := gd_14 db00e_42
theorem d_X12_stepRead_206 : decode prog_14_method_24_code 206 = .ok (.aload_n 0, 1) := gd_15 db00e_42
theorem d_X12_stepRead_207 : decode prog_14_method_24_code 207 = .ok (.invokevirtual 374, 3) := gd_16 db00e_42
theorem d_X12_stepRead_210 : decode prog_14_method_24_code 210 = .ok (.bipush 41, 2) := gd_17 db00e_42
theorem d_X12_stepRead_212 : decode prog_14_method_24_code 212 = .ok (.if_icmp .eq 7, 3) := gd_18 db00e_42
theorem d_X12_stepRead_215 : decode prog_14_method_24_code 215 = .ok (.aload_n 0, 1) := gd_19 db00e_42
theorem d_X12_stepRead_216 : decode prog_14_method_24_code 216 = .ok (.invokevirtual 381, 3) := gd_20 db00e_42
theorem d_X12_stepRead_219 : decode prog_14_method_24_code 219 = .ok (.aload_n 0, 1) := gd_21 db00e_42
theorem d_X12_stepRead_220 : decode prog_14_method_24_code 220 = .ok (.dup, 1) := gd_22 db00e_42
theorem d_X12_stepRead_221 : decode prog_14_method_24_code 221 = .ok (.getfield 365, 3) := gd_23 db00e_42
theorem db00e_43 : Ad_ prog_14_method_24_code [(224, .iconst 1, 1), (225, .iadd, 1), (226, .putfield 365, 3), (229, .aload_n 0, 1), (230, .dup, 1), (231, .getfield 397, 3), (234, .iconst 1, 1), (235, .isub, 1), (236, .putfield 397, 3), (239, .aload_n 0, 1), (240, .getfield 368, 3), (243, .iconst (-1), 1), (244, .if_icmp .ne 26, 3), (247, .aload_n 0, 1), (248, .iconst 5, 1), (249, .invokevirtual 390, 3), (252, .aload_n 0, 1), (253, .aload_n 0, 1), (254, .iconst 1, 1), (255, .bipush 20, 2), (257, .invokevirtual 394, 3), (260, .invokevirtual 390, 3), (263, .goto 7, 3), (266, .aload_n 0, 1)] := bch_ok prog_14_method_24_code _ 224 (by decide +kernel)
theorem d_X12_stepRead_224 : decode prog_14_method_24_code 224 = .ok (.iconst 1, 1) := gd_0 db00e_43
theorem d_X12_stepRead_225 : decode prog_14_method_24_code 225 = .ok (.iadd, 1) := gd_1 db00e_43
theorem d_X12_stepRead_226 : decode prog_14_method_24_code 226 = .ok (.putfield 365, 3) := gd_2 db00e_43
theorem d_X12_stepRead_229 : decode prog_14_method_24_code 229 = .ok (.aload_n 0, 1) := gd_3 db00e_43
theorem d_X12_stepRead_230 : decode prog_14_method_24_code 230 = .ok (.dup, 1) := gd_4 db00e_43
theorem d_X12_stepRead_231 : decode prog_14_method_24_code 231 = .ok (.getfield 397, 3) := gd_5 db00e_43
theorem d_X12_stepRead_234 : decode prog_14_method_24_code 234 = .ok (.iconst 1, 1) := gd_6 db00e_43
theorem d_X12_stepRead_235 : decode prog_14_method_24_code 235 = .ok (.isub, 1) := gd_7 db00e_43
theorem d_X12_stepRead_236 : decode prog_14_method_24_code 236 = .ok (.putfield 397, 3) := gd_8 db00e_43
theorem d_X12_stepRead_239 : decode prog_14_method_24_code 239 = .ok (.aload_n 0, 1) := gd_9 db00e_43
theorem d_X12_stepRead_240 : decode prog_14_method_24_code 240 = .ok (.getfield 368, 3) := gd_10 db00e_43
theorem d_X12_stepRead_243 : decode prog_14_method_24_code 243 = .ok (.iconst (-1), 1) := gd_11 db00e_43
theorem d_X12_stepRead_244 : decode prog_14_method_24_code 244 = .ok (.if_icmp .ne 26, 3) := gd_12 db00e_43
theorem d_X12_stepRead_247 : decode prog_14_method_24_code 247 = .ok (.aload_n 0, 1) := gd_13 db00e_43
theorem d_X12_stepRead_248 : decode prog_14_method_24_code 248 = .ok (.iconst 5, 1) := gd_14 db00e_43
theorem d_X12_stepRead_249 : decode prog_14_method_24_code 249 = .ok (.invokevirtual 390, 3) := gd_15 db00e_43
theorem d_X12_stepRead_252 : decode prog_14_method_24_code 252 = .ok (.aload_n 0, 1) := gd_16 db00e_43
theorem d_X12_stepRead_253 : decode prog_14_method_24_code 253 = .ok (.aload_n 0, 1) := gd_17 db00e_43
theorem d_X12_stepRead_254 : decode prog_14_method_24_code 254 = .ok (.iconst 1, 1) := gd_18 db00e_43
theorem d_X12_stepRead_255 : decode prog_14_method_24_code 255 = .ok (.bipush 20, 2) := gd_19 db00e_43
theorem d_X12_stepRead_257 : decode prog_14_method_24_code 257 = .ok (.invokevirtual 394, 3) := gd_20 db00e_43
theorem d_X12_stepRead_260 : decode prog_14_method_24_code 260 = .ok (.invokevirtual 390, 3) := gd_21 db00e_43
theorem d_X12_stepRead_263 : decode prog_14_method_24_code 263 = .ok (.goto 7, 3) := gd_22 db00e_43
theorem d_X12_stepRead_266 : decode prog_14_method_24_code 266 = .ok (.aload_n 0, 1) := gd_23 db00e_43
theorem d_X12_stepRead_267 : decode prog_14_method_24_code 267 = .ok (.invokevirtual 381, 3) := by decide +kernel
theorem d_X12_stepRead_270 : decode prog_14_method_24_code 270 = .ok (.return_, 1) := by decide +kernel
theorem db00e_44 : Ad_ prog_14_method_25_code [(0, .aload_n 0, 1), (1, .iload_n 1, 1), (2, .putfield 403, 3), (5, .aload_n 0, 1), (6, .getfield 403, 3), (9, .aload_n 0, 1), (10, .getfield 371, 3), (13, .if_icmp .ge 254, 3), (16, .aload_n 0, 1), (17, .getfield 90, 3), (20, .aload_n 0, 1), (21, .getfield 403, 3), (24, .iaload, 1), (25, .iconst 5, 1), (26, .if_icmp .eq 241, 3), (29, .aload_n 0, 1), (30, .getfield 90, 3), (33, .aload_n 0, 1), (34, .getfield 403, 3), (37, .iaload, 1), (38, .istore_n 3, 1), (39, .iload_n 3, 1), (40, .iconst 4, 1), (41, .if_icmp .ne 79, 3)] := bch_ok prog_14_method_25_code _ 0 (by decide +kernel)
theorem d_X12_unfold_0 : decode prog_14_method_25_code 0 = .ok (.aload_n 0, 1) := gd_0 db00e_44
theorem d_X12_unfold_1 : decode prog_14_method_25_code 1 = .ok (.iload_n 1, 1) := gd_1 db00e_44
theorem d_X12_unfold_2 : decode prog_14_method_25_code 2 = .ok (.putfield 403, 3) := gd_2 db00e_44
theorem d_X12_unfold_5 : decode prog_14_method_25_code 5 = .ok (.aload_n 0, 1) := gd_3 db00e_44
theorem d_X12_unfold_6 : decode prog_14_method_25_code 6 = .ok (.getfield 403, 3) := gd_4 db00e_44
theorem d_X12_unfold_9 : decode prog_14_method_25_code 9 = .ok (.aload_n 0, 1) := gd_5 db00e_44
theorem d_X12_unfold_10 : decode prog_14_method_25_code 10 = .ok (.getfield 371, 3) := gd_6 db00e_44
theorem d_X12_unfold_13 : decode prog_14_method_25_code 13 = .ok (.if_icmp .ge 254, 3) := gd_7 db00e_44
theorem d_X12_unfold_16 : decode prog_14_method_25_code 16 = .ok (.aload_n 0, 1) := gd_8 db00e_44
theorem d_X12_unfold_17 : decode prog_14_method_25_code 17 = .ok (.getfield 90, 3) := gd_9 db00e_44
theorem d_X12_unfold_20 : decode prog_14_method_25_code 20 = .ok (.aload_n 0, 1) := gd_10 db00e_44
theorem d_X12_unfold_21 : decode prog_14_method_25_code 21 = .ok (.getfield 403, 3) := gd_11 db00e_44
theorem d_X12_unfold_24 : decode prog_14_method_25_code 24 = .ok (.iaload, 1) := gd_12 db00e_44
theorem d_X12_unfold_25 : decode prog_14_method_25_code 25 = .ok (.iconst 5, 1) := gd_13 db00e_44
theorem d_X12_unfold_26 : decode prog_14_method_25_code 26 = .ok (.if_icmp .eq 241, 3) := gd_14 db00e_44
theorem d_X12_unfold_29 : decode prog_14_method_25_code 29 = .ok (.aload_n 0, 1) := gd_15 db00e_44
theorem d_X12_unfold_30 : decode prog_14_method_25_code 30 = .ok (.getfield 90, 3) := gd_16 db00e_44
theorem d_X12_unfold_33 : decode prog_14_method_25_code 33 = .ok (.aload_n 0, 1) := gd_17 db00e_44
theorem d_X12_unfold_34 : decode prog_14_method_25_code 34 = .ok (.getfield 403, 3) := gd_18 db00e_44
theorem d_X12_unfold_37 : decode prog_14_method_25_code 37 = .ok (.iaload, 1) := gd_19 db00e_44
theorem d_X12_unfold_38 : decode prog_14_method_25_code 38 = .ok (.istore_n 3, 1) := gd_20 db00e_44
theorem d_X12_unfold_39 : decode prog_14_method_25_code 39 = .ok (.iload_n 3, 1) := gd_21 db00e_44
theorem d_X12_unfold_40 : decode prog_14_method_25_code 40 = .ok (.iconst 4, 1) := gd_22 db00e_44
theorem d_X12_unfold_41 : decode prog_14_method_25_code 41 = .ok (.if_icmp .ne 79, 3) := gd_23 db00e_44
theorem db00e_45 : Ad_ prog_14_method_25_code [(44, .aload_n 0, 1), (45, .getfield 403, 3), (48, .iconst 1, 1), (49, .iadd, 1), (50, .istore 4, 2), (52, .aload_n 0, 1), (53, .iload 4, 2), (55, .iload_n 2, 1), (56, .invokevirtual 406, 3), (59, .ifCond .ne 5, 3), (62, .iconst 0, 1), (63, .ireturn, 1), (64, .aload_n 0, 1), (65, .getfield 403, 3), (68, .istore 5, 2), (70, .aload_n 0, 1), (71, .getfield 90, 3), (74, .iload 5, 2), (76, .iconst 1, 1), (77, .iadd, 1), (78, .iaload, 1), (79, .istore 6, 2), (81, .iconst 1, 1), (82, .istore 7, 2)] := bch_ok prog_14_method_25_code _ 44 (by decide +kernel)
theorem d_X12_unfold_44 : decode prog_14_method_25_code 44 = .ok (.aload_n 0, 1) := gd_0 db00e_45
theorem d_X12_unfold_45 : decode prog_14_method_25_code 45 = .ok (.getfield 403, 3) := gd_1 db00e_45
theorem d_X12_unfold_48 : decode prog_14_method_25_code 48 = .ok (.iconst 1, 1) := gd_2 db00e_45
theorem d_X12_unfold_49 : decode prog_14_method_25_code 49 = .ok (.iadd, 1) := gd_3 db00e_45
theorem d_X12_unfold_50 : decode prog_14_method_25_code 50 = .ok (.istore 4, 2) := gd_4 db00e_45
theorem d_X12_unfold_52 : decode prog_14_method_25_code 52 = .ok (.aload_n 0, 1) := gd_5 db00e_45
theorem d_X12_unfold_53 : decode prog_14_method_25_code 53 = .ok (.iload 4, 2) := gd_6 db00e_45
theorem d_X12_unfold_55 : decode prog_14_method_25_code 55 = .ok (.iload_n 2, 1) := gd_7 db00e_45
theorem d_X12_unfold_56 : decode prog_14_method_25_code 56 = .ok (.invokevirtual 406, 3) := gd_8 db00e_45
theorem d_X12_unfold_59 : decode prog_14_method_25_code 59 = .ok (.ifCond .ne 5, 3) := gd_9 db00e_45
theorem d_X12_unfold_62 : decode prog_14_method_25_code 62 = .ok (.iconst 0, 1) := gd_10 db00e_45
theorem d_X12_unfold_63 : decode prog_14_method_25_code 63 = .ok (.ireturn, 1) := gd_11 db00e_45
theorem d_X12_unfold_64 : decode prog_14_method_25_code 64 = .ok (.aload_n 0, 1) := gd_12 db00e_45
theorem d_X12_unfold_65 : decode prog_14_method_25_code 65 = .ok (.getfield 403, 3) := gd_13 db00e_45
theorem d_X12_unfold_68 : decode prog_14_method_25_code 68 = .ok (.istore 5, 2) := gd_14 db00e_45
theorem d_X12_unfold_70 : decode prog_14_method_25_code 70 = .ok (.aload_n 0, 1) := gd_15 db00e_45
theorem d_X12_unfold_71 : decode prog_14_method_25_code 71 = .ok (.getfield 90, 3) := gd_16 db00e_45
theorem d_X12_unfold_74 : decode prog_14_method_25_code 74 = .ok (.iload 5, 2) := gd_17 db00e_45
theorem d_X12_unfold_76 : decode prog_14_method_25_code 76 = .ok (.iconst 1, 1) := gd_18 db00e_45
theorem d_X12_unfold_77 : decode prog_14_method_25_code 77 = .ok (.iadd, 1) := gd_19 db00e_45
theorem d_X12_unfold_78 : decode prog_14_method_25_code 78 = .ok (.iaload, 1) := gd_20 db00e_45
theorem d_X12_unfold_79 : decode prog_14_method_25_code 79 = .ok (.istore 6, 2) := gd_21 db00e_45
theorem d_X12_unfold_81 : decode prog_14_method_25_code 81 = .ok (.iconst 1, 1) := gd_22 db00e_45
theorem d_X12_unfold_82 : decode prog_14_method_25_code 82 = .ok (.istore 7, 2) := gd_23 db00e_45
theorem db00e_46 : Ad_ prog_14_method_25_code [(84, .iload 7, 2), (86, .iload 6, 2), (88, .if_icmp .ge 21, 3), (91, .aload_n 0, 1), (92, .iload 4, 2), (94, .iload_n 2, 1), (95, .invokevirtual 406, 3), (98, .ifCond .ne 5, 3), (101, .iconst 0, 1), (102, .ireturn, 1), (103, .iinc 7 1, 3), (106, .goto (-22), 3), (109, .aload_n 0, 1), (110, .iload 5, 2), (112, .iconst 2, 1), (113, .iadd, 1), (114, .putfield 403, 3), (117, .goto (-112), 3), (120, .aload_n 0, 1), (121, .getfield 410, 3), (124, .sipush 150, 3), (127, .if_icmp .ne 5, 3), (130, .iconst 0, 1), (131, .ireturn, 1)] := bch_ok prog_14_method_25_code _ 84 (by decide +kernel)
theorem d_X12_unfold_84 : decode prog_14_method_25_code 84 = .ok (.iload 7, 2) := gd_0 db00e_46
theorem d_X12_unfold_86 : decode prog_14_method_25_code 86 = .ok (.iload 6, 2) := gd_1 db00e_46
theorem d_X12_unfold_88 : decode prog_14_method_25_code 88 = .ok (.if_icmp .ge 21, 3) := gd_2 db00e_46
theorem d_X12_unfold_91 : decode prog_14_method_25_code 91 = .ok (.aload_n 0, 1) := gd_3 db00e_46
theorem d_X12_unfold_92 : decode prog_14_method_25_code 92 = .ok (.iload 4, 2) := gd_4 db00e_46
theorem d_X12_unfold_94 : decode prog_14_method_25_code 94 = .ok (.iload_n 2, 1) := gd_5 db00e_46
theorem d_X12_unfold_95 : decode prog_14_method_25_code 95 = .ok (.invokevirtual 406, 3) := gd_6 db00e_46
theorem d_X12_unfold_98 : decode prog_14_method_25_code 98 = .ok (.ifCond .ne 5, 3) := gd_7 db00e_46
theorem d_X12_unfold_101 : decode prog_14_method_25_code 101 = .ok (.iconst 0, 1) := gd_8 db00e_46
theorem d_X12_unfold_102 : decode prog_14_method_25_code 102 = .ok (.ireturn, 1) := gd_9 db00e_46
theorem d_X12_unfold_103 : decode prog_14_method_25_code 103 = .ok (.iinc 7 1, 3) := gd_10 db00e_46
theorem d_X12_unfold_106 : decode prog_14_method_25_code 106 = .ok (.goto (-22), 3) := gd_11 db00e_46
theorem d_X12_unfold_109 : decode prog_14_method_25_code 109 = .ok (.aload_n 0, 1) := gd_12 db00e_46
theorem d_X12_unfold_110 : decode prog_14_method_25_code 110 = .ok (.iload 5, 2) := gd_13 db00e_46
theorem d_X12_unfold_112 : decode prog_14_method_25_code 112 = .ok (.iconst 2, 1) := gd_14 db00e_46
theorem d_X12_unfold_113 : decode prog_14_method_25_code 113 = .ok (.iadd, 1) := gd_15 db00e_46
theorem d_X12_unfold_114 : decode prog_14_method_25_code 114 = .ok (.putfield 403, 3) := gd_16 db00e_46
theorem d_X12_unfold_117 : decode prog_14_method_25_code 117 = .ok (.goto (-112), 3) := gd_17 db00e_46
theorem d_X12_unfold_120 : decode prog_14_method_25_code 120 = .ok (.aload_n 0, 1) := gd_18 db00e_46
theorem d_X12_unfold_121 : decode prog_14_method_25_code 121 = .ok (.getfield 410, 3) := gd_19 db00e_46
theorem d_X12_unfold_124 : decode prog_14_method_25_code 124 = .ok (.sipush 150, 3) := gd_20 db00e_46
theorem d_X12_unfold_127 : decode prog_14_method_25_code 127 = .ok (.if_icmp .ne 5, 3) := gd_21 db00e_46
theorem d_X12_unfold_130 : decode prog_14_method_25_code 130 = .ok (.iconst 0, 1) := gd_22 db00e_46
theorem d_X12_unfold_131 : decode prog_14_method_25_code 131 = .ok (.ireturn, 1) := gd_23 db00e_46
theorem db00e_47 : Ad_ prog_14_method_25_code [(132, .bipush 12, 2), (134, .aload_n 0, 1), (135, .getfield 413, 3), (138, .if_icmp .ne 7, 3), (141, .iconst 0, 1), (142, .goto 16, 3), (145, .sipush 150, 3), (148, .aload_n 0, 1), (149, .getfield 413, 3), (152, .imul, 1), (153, .aload_n 0, 1), (154, .getfield 410, 3), (157, .iadd, 1), (158, .istore 4, 2), (160, .iload_n 2, 1), (161, .ifCond .eq 65, 3), (164, .aload_n 0, 1), (165, .getfield 96, 3), (168, .iload 4, 2), (170, .iload_n 3, 1), (171, .iastore, 1), (172, .aload_n 0, 1), (173, .getfield 99, 3), (176, .iload 4, 2)] := bch_ok prog_14_method_25_code _ 132 (by decide +kernel)
theorem d_X12_unfold_132 : decode prog_14_method_25_code 132 = .ok (.bipush 12, 2) := gd_0 db00e_47
theorem d_X12_unfold_134 : decode prog_14_method_25_code 134 = .ok (.aload_n 0, 1) := gd_1 db00e_47
theorem d_X12_unfold_135 : decode prog_14_method_25_code 135 = .ok (.getfield 413, 3) := gd_2 db00e_47
theorem d_X12_unfold_138 : decode prog_14_method_25_code 138 = .ok (.if_icmp .ne 7, 3) := gd_3 db00e_47
theorem d_X12_unfold_141 : decode prog_14_method_25_code 141 = .ok (.iconst 0, 1) := gd_4 db00e_47
theorem d_X12_unfold_142 : decode prog_14_method_25_code 142 = .ok (.goto 16, 3) := gd_5 db00e_47
theorem d_X12_unfold_145 : decode prog_14_method_25_code 145 = .ok (.sipush 150, 3) := gd_6 db00e_47
theorem d_X12_unfold_148 : decode prog_14_method_25_code 148 = .ok (.aload_n 0, 1) := gd_7 db00e_47
theorem d_X12_unfold_149 : decode prog_14_method_25_code 149 = .ok (.getfield 413, 3) := gd_8 db00e_47
theorem d_X12_unfold_152 : decode prog_14_method_25_code 152 = .ok (.imul, 1) := gd_9 db00e_47
theorem d_X12_unfold_153 : decode prog_14_method_25_code 153 = .ok (.aload_n 0, 1) := gd_10 db00e_47
theorem d_X12_unfold_154 : decode prog_14_method_25_code 154 = .ok (.getfield 410, 3) := gd_11 db00e_47
theorem d_X12_unfold_157 : decode prog_14_method_25_code 157 = .ok (.iadd, 1) := gd_12 db00e_47
theorem d_X12_unfold_158 : decode prog_14_method_25_code 158 = .ok (.istore 4, 2) := gd_13 db00e_47
theorem d_X12_unfold_160 : decode prog_14_method_25_code 160 = .ok (.iload_n 2, 1) := gd_14 db00e_47
theorem d_X12_unfold_161 : decode prog_14_method_25_code 161 = .ok (.ifCond .eq 65, 3) := gd_15 db00e_47
theorem d_X12_unfold_164 : decode prog_14_method_25_code 164 = .ok (.aload_n 0, 1) := gd_16 db00e_47
theorem d_X12_unfold_165 : decode prog_14_method_25_code 165 = .ok (.getfield 96, 3) := gd_17 db00e_47
theorem d_X12_unfold_168 : decode prog_14_method_25_code 168 = .ok (.iload 4, 2) := gd_18 db00e_47
theorem d_X12_unfold_170 : decode prog_14_method_25_code 170 = .ok (.iload_n 3, 1) := gd_19 db00e_47
theorem d_X12_unfold_171 : decode prog_14_method_25_code 171 = .ok (.iastore, 1) := gd_20 db00e_47
theorem d_X12_unfold_172 : decode prog_14_method_25_code 172 = .ok (.aload_n 0, 1) := gd_21 db00e_47
theorem d_X12_unfold_173 : decode prog_14_method_25_code 173 = .ok (.getfield 99, 3) := gd_22 db00e_47
theorem d_X12_unfold_176 : decode prog_14_method_25_code 176 = .ok (.iload 4, 2) := gd_23 db00e_47
theorem db00e_48 : Ad_ prog_14_method_25_code [(178, .iload_n 3, 1), (179, .iconst 3, 1), (180, .if_icmp .ne 7, 3), (183, .iconst 0, 1), (184, .goto 14, 3), (187, .aload_n 0, 1), (188, .getfield 90, 3), (191, .aload_n 0, 1), (192, .getfield 403, 3), (195, .iconst 1, 1), (196, .iadd, 1), (197, .iaload, 1), (198, .iastore, 1), (199, .aload_n 0, 1), (200, .getfield 102, 3), (203, .iload 4, 2), (205, .iload_n 3, 1), (206, .iconst 2, 1), (207, .if_icmp .ne 17, 3), (210, .aload_n 0, 1), (211, .getfield 90, 3), (214, .aload_n 0, 1), (215, .getfield 403, 3), (218, .iconst 2, 1)] := bch_ok prog_14_method_25_code _ 178 (by decide +kernel)
theorem d_X12_unfold_178 : decode prog_14_method_25_code 178 = .ok (.iload_n 3, 1) := gd_0 db00e_48
theorem d_X12_unfold_179 : decode prog_14_method_25_code 179 = .ok (.iconst 3, 1) := gd_1 db00e_48
theorem d_X12_unfold_180 : decode prog_14_method_25_code 180 = .ok (.if_icmp .ne 7, 3) := gd_2 db00e_48
theorem d_X12_unfold_183 : decode prog_14_method_25_code 183 = .ok (.iconst 0, 1) := gd_3 db00e_48
theorem d_X12_unfold_184 : decode prog_14_method_25_code 184 = .ok (.goto 14, 3) := gd_4 db00e_48
theorem d_X12_unfold_187 : decode prog_14_method_25_code 187 = .ok (.aload_n 0, 1) := gd_5 db00e_48
theorem d_X12_unfold_188 : decode prog_14_method_25_code 188 = .ok (.getfield 90, 3) := gd_6 db00e_48
theorem d_X12_unfold_191 : decode prog_14_method_25_code 191 = .ok (.aload_n 0, 1) := gd_7 db00e_48
theorem d_X12_unfold_192 : decode prog_14_method_25_code 192 = .ok (.getfield 403, 3) := gd_8 db00e_48
theorem d_X12_unfold_195 : decode prog_14_method_25_code 195 = .ok (.iconst 1, 1) := gd_9 db00e_48
theorem d_X12_unfold_196 : decode prog_14_method_25_code 196 = .ok (.iadd, 1) := gd_10 db00e_48
theorem d_X12_unfold_197 : decode prog_14_method_25_code 197 = .ok (.iaload, 1) := gd_11 db00e_48
theorem d_X12_unfold_198 : decode prog_14_method_25_code 198 = .ok (.iastore, 1) := gd_12 db00e_48
theorem d_X12_unfold_199 : decode prog_14_method_25_code 199 = .ok (.aload_n 0, 1) := gd_13 db00e_48
theorem d_X12_unfold_200 : decode prog_14_method_25_code 200 = .ok (.getfield 102, 3) := gd_14 db00e_48
theorem d_X12_unfold_203 : decode prog_14_method_25_code 203 = .ok (.iload 4, 2) := gd_15 db00e_48
theorem d_X12_unfold_205 : decode prog_14_method_25_code 205 = .ok (.iload_n 3, 1) := gd_16 db00e_48
theorem d_X12_unfold_206 : decode prog_14_method_25_code 206 = .ok (.iconst 2, 1) := gd_17 db00e_48
theorem d_X12_unfold_207 : decode prog_14_method_25_code 207 = .ok (.if_icmp .ne 17, 3) := gd_18 db00e_48
theorem d_X12_unfold_210 : decode prog_14_method_25_code 210 = .ok (.aload_n 0, 1) := gd_19 db00e_48
theorem d_X12_unfold_211 : decode prog_14_method_25_code 211 = .ok (.getfield 90, 3) := gd_20 db00e_48
theorem d_X12_unfold_214 : decode prog_14_method_25_code 214 = .ok (.aload_n 0, 1) := gd_21 db00e_48
theorem d_X12_unfold_215 : decode prog_14_method_25_code 215 = .ok (.getfield 403, 3) := gd_22 db00e_48
theorem d_X12_unfold_218 : decode prog_14_method_25_code 218 = .ok (.iconst 2, 1) := gd_23 db00e_48
theorem db00e_49 : Ad_ prog_14_method_25_code [(219, .iadd, 1), (220, .iaload, 1), (221, .goto 4, 3), (224, .iconst 0, 1), (225, .iastore, 1), (226, .aload_n 0, 1), (227, .dup, 1), (228, .getfield 410, 3), (231, .iconst 1, 1), (232, .iadd, 1), (233, .putfield 410, 3), (236, .aload_n 0, 1), (237, .dup, 1), (238, .getfield 403, 3), (241, .iload_n 3, 1), (242, .iconst 3, 1), (243, .if_icmp .ne 7, 3), (246, .iconst 1, 1), (247, .goto 13, 3), (250, .iload_n 3, 1), (251, .iconst 2, 1), (252, .if_icmp .ne 7, 3), (255, .iconst 3, 1), (256, .goto 4, 3)] := bch_ok prog_14_method_25_code _ 219 (by decide +kernel)
theorem d_X12_unfold_219 : decode prog_14_method_25_code 219 = .ok (.iadd, 1) := gd_0 db00e_49
theorem d_X12_unfold_220 : decode prog_14_method_25_code 220 = .ok (.iaload, 1) := gd_1 db00e_49
theorem d_X12_unfold_221 : decode prog_14_method_25_code 221 = .ok (.goto 4, 3) := gd_2 db00e_49
theorem d_X12_unfold_224 : decode prog_14_method_25_code 224 = .ok (.iconst 0, 1) := gd_3 db00e_49
theorem d_X12_unfold_225 : decode prog_14_method_25_code 225 = .ok (.iastore, 1) := gd_4 db00e_49
theorem d_X12_unfold_226 : decode prog_14_method_25_code 226 = .ok (.aload_n 0, 1) := gd_5 db00e_49
theorem d_X12_unfold_227 : decode prog_14_method_25_code 227 = .ok (.dup, 1) := gd_6 db00e_49
theorem d_X12_unfold_228 : decode prog_14_method_25_code 228 = .ok (.getfield 410, 3) := gd_7 db00e_49
theorem d_X12_unfold_231 : decode prog_14_method_25_code 231 = .ok (.iconst 1, 1) := gd_8 db00e_49
theorem d_X12_unfold_232 : decode prog_14_method_25_code 232 = .ok (.iadd, 1) := gd_9 db00e_49
theorem d_X12_unfold_233 : decode prog_14_method_25_code 233 = .ok (.putfield 410, 3) := gd_10 db00e_49
theorem d_X12_unfold_236 : decode prog_14_method_25_code 236 = .ok (.aload_n 0, 1) := gd_11 db00e_49
theorem d_X12_unfold_237 : decode prog_14_method_25_code 237 = .ok (.dup, 1) := gd_12 db00e_49
theorem d_X12_unfold_238 : decode prog_14_method_25_code 238 = .ok (.getfield 403, 3) := gd_13 db00e_49
theorem d_X12_unfold_241 : decode prog_14_method_25_code 241 = .ok (.iload_n 3, 1) := gd_14 db00e_49
theorem d_X12_unfold_242 : decode prog_14_method_25_code 242 = .ok (.iconst 3, 1) := gd_15 db00e_49
theorem d_X12_unfold_243 : decode prog_14_method_25_code 243 = .ok (.if_icmp .ne 7, 3) := gd_16 db00e_49
theorem d_X12_unfold_246 : decode prog_14_method_25_code 246 = .ok (.iconst 1, 1) := gd_17 db00e_49
theorem d_X12_unfold_247 : decode prog_14_method_25_code 247 = .ok (.goto 13, 3) := gd_18 db00e_49
theorem d_X12_unfold_250 : decode prog_14_method_25_code 250 = .ok (.iload_n 3, 1) := gd_19 db00e_49
theorem d_X12_unfold_251 : decode prog_14_method_25_code 251 = .ok (.iconst 2, 1) := gd_20 db00e_49
theorem d_X12_unfold_252 : decode prog_14_method_25_code 252 = .ok (.if_icmp .ne 7, 3) := gd_21 db00e_49
theorem d_X12_unfold_255 : decode prog_14_method_25_code 255 = .ok (.iconst 3, 1) := gd_22 db00e_49
theorem d_X12_unfold_256 : decode prog_14_method_25_code 256 = .ok (.goto 4, 3) := gd_23 db00e_49
theorem db00e_50 : Ad_ prog_14_method_25_code [(259, .iconst 2, 1), (260, .iadd, 1), (261, .putfield 403, 3), (264, .goto (-259), 3), (267, .iconst 1, 1), (268, .ireturn, 1)] := bch_ok prog_14_method_25_code _ 259 (by decide +kernel)
theorem d_X12_unfold_259 : decode prog_14_method_25_code 259 = .ok (.iconst 2, 1) := gd_0 db00e_50
theorem d_X12_unfold_260 : decode prog_14_method_25_code 260 = .ok (.iadd, 1) := gd_1 db00e_50
theorem d_X12_unfold_261 : decode prog_14_method_25_code 261 = .ok (.putfield 403, 3) := gd_2 db00e_50
theorem d_X12_unfold_264 : decode prog_14_method_25_code 264 = .ok (.goto (-259), 3) := gd_3 db00e_50
theorem d_X12_unfold_267 : decode prog_14_method_25_code 267 = .ok (.iconst 1, 1) := gd_4 db00e_50
theorem d_X12_unfold_268 : decode prog_14_method_25_code 268 = .ok (.ireturn, 1) := gd_5 db00e_50
theorem db00e_51 : Ad_ prog_14_method_26_code [(0, .aload_n 0, 1), (1, .getfield 413, 3), (4, .bipush 12, 2), (6, .if_icmp .eq 12, 3), (9, .aload_n 0, 1), (10, .iconst 0, 1), (11, .invokevirtual 416, 3), (14, .iconst (-1), 1), (15, .if_icmp .eq 5, 3), (18, .iconst (-1), 1), (19, .ireturn, 1), (20, .aload_n 0, 1), (21, .iconst 0, 1), (22, .putfield 410, 3), (25, .aload_n 0, 1), (26, .iconst 0, 1), (27, .iconst 1, 1), (28, .invokevirtual 406, 3), (31, .ifCond .ne 5, 3), (34, .iconst (-1), 1), (35, .ireturn, 1), (36, .aload_n 0, 1), (37, .getfield 93, 3), (40, .aload_n 0, 1)] := bch_ok prog_14_method_26_code _ 0 (by decide +kernel)
theorem d_X12_beat_0 : decode prog_14_method_26_code 0 = .ok (.aload_n 0, 1) := gd_0 db00e_51
theorem d_X12_beat_1 : decode prog_14_method_26_code 1 = .ok (.getfield 413, 3) := gd_1 db00e_51
theorem d_X12_beat_4 : decode prog_14_method_26_code 4 = .ok (.bipush 12, 2) := gd_2 db00e_51
theorem d_X12_beat_6 : decode prog_14_method_26_code 6 = .ok (.if_icmp .eq 12, 3) := gd_3 db00e_51
theorem d_X12_beat_9 : decode prog_14_method_26_code 9 = .ok (.aload_n 0, 1) := gd_4 db00e_51
theorem d_X12_beat_10 : decode prog_14_method_26_code 10 = .ok (.iconst 0, 1) := gd_5 db00e_51
theorem d_X12_beat_11 : decode prog_14_method_26_code 11 = .ok (.invokevirtual 416, 3) := gd_6 db00e_51
theorem d_X12_beat_14 : decode prog_14_method_26_code 14 = .ok (.iconst (-1), 1) := gd_7 db00e_51
theorem d_X12_beat_15 : decode prog_14_method_26_code 15 = .ok (.if_icmp .eq 5, 3) := gd_8 db00e_51
theorem d_X12_beat_18 : decode prog_14_method_26_code 18 = .ok (.iconst (-1), 1) := gd_9 db00e_51
theorem d_X12_beat_19 : decode prog_14_method_26_code 19 = .ok (.ireturn, 1) := gd_10 db00e_51
theorem d_X12_beat_20 : decode prog_14_method_26_code 20 = .ok (.aload_n 0, 1) := gd_11 db00e_51
theorem d_X12_beat_21 : decode prog_14_method_26_code 21 = .ok (.iconst 0, 1) := gd_12 db00e_51
theorem d_X12_beat_22 : decode prog_14_method_26_code 22 = .ok (.putfield 410, 3) := gd_13 db00e_51
theorem d_X12_beat_25 : decode prog_14_method_26_code 25 = .ok (.aload_n 0, 1) := gd_14 db00e_51
theorem d_X12_beat_26 : decode prog_14_method_26_code 26 = .ok (.iconst 0, 1) := gd_15 db00e_51
theorem d_X12_beat_27 : decode prog_14_method_26_code 27 = .ok (.iconst 1, 1) := gd_16 db00e_51
theorem d_X12_beat_28 : decode prog_14_method_26_code 28 = .ok (.invokevirtual 406, 3) := gd_17 db00e_51
theorem d_X12_beat_31 : decode prog_14_method_26_code 31 = .ok (.ifCond .ne 5, 3) := gd_18 db00e_51
theorem d_X12_beat_34 : decode prog_14_method_26_code 34 = .ok (.iconst (-1), 1) := gd_19 db00e_51
theorem d_X12_beat_35 : decode prog_14_method_26_code 35 = .ok (.ireturn, 1) := gd_20 db00e_51
theorem d_X12_beat_36 : decode prog_14_method_26_code 36 = .ok (.aload_n 0, 1) := gd_21 db00e_51
theorem d_X12_beat_37 : decode prog_14_method_26_code 37 = .ok (.getfield 93, 3) := gd_22 db00e_51
theorem d_X12_beat_40 : decode prog_14_method_26_code 40 = .ok (.aload_n 0, 1) := gd_23 db00e_51
theorem db00e_52 : Ad_ prog_14_method_26_code [(41, .getfield 413, 3), (44, .aload_n 0, 1), (45, .getfield 410, 3), (48, .iastore, 1), (49, .aload_n 0, 1), (50, .dup, 1), (51, .getfield 413, 3), (54, .iconst 1, 1), (55, .iadd, 1), (56, .putfield 413, 3), (59, .aload_n 0, 1), (60, .iconst 0, 1), (61, .putfield 362, 3), (64, .aload_n 0, 1), (65, .getfield 413, 3), (68, .iconst 1, 1), (69, .isub, 1), (70, .ireturn, 1)] := bch_ok prog_14_method_26_code _ 41 (by decide +kernel)
theorem d_X12_beat_41 : decode prog_14_method_26_code 41 = .ok (.getfield 413, 3) := gd_0 db00e_52
theorem d_X12_beat_44 : decode prog_14_method_26_code 44 = .ok (.aload_n 0, 1) := gd_1 db00e_52
theorem d_X12_beat_45 : decode prog_14_method_26_code 45 = .ok (.getfield 410, 3) := gd_2 db00e_52
theorem d_X12_beat_48 : decode prog_14_method_26_code 48 = .ok (.iastore, 1) := gd_3 db00e_52
theorem d_X12_beat_49 : decode prog_14_method_26_code 49 = .ok (.aload_n 0, 1) := gd_4 db00e_52
theorem d_X12_beat_50 : decode prog_14_method_26_code 50 = .ok (.dup, 1) := gd_5 db00e_52
theorem d_X12_beat_51 : decode prog_14_method_26_code 51 = .ok (.getfield 413, 3) := gd_6 db00e_52
theorem d_X12_beat_54 : decode prog_14_method_26_code 54 = .ok (.iconst 1, 1) := gd_7 db00e_52
theorem d_X12_beat_55 : decode prog_14_method_26_code 55 = .ok (.iadd, 1) := gd_8 db00e_52
theorem d_X12_beat_56 : decode prog_14_method_26_code 56 = .ok (.putfield 413, 3) := gd_9 db00e_52
theorem d_X12_beat_59 : decode prog_14_method_26_code 59 = .ok (.aload_n 0, 1) := gd_10 db00e_52
theorem d_X12_beat_60 : decode prog_14_method_26_code 60 = .ok (.iconst 0, 1) := gd_11 db00e_52
theorem d_X12_beat_61 : decode prog_14_method_26_code 61 = .ok (.putfield 362, 3) := gd_12 db00e_52
theorem d_X12_beat_64 : decode prog_14_method_26_code 64 = .ok (.aload_n 0, 1) := gd_13 db00e_52
theorem d_X12_beat_65 : decode prog_14_method_26_code 65 = .ok (.getfield 413, 3) := gd_14 db00e_52
theorem d_X12_beat_68 : decode prog_14_method_26_code 68 = .ok (.iconst 1, 1) := gd_15 db00e_52
theorem d_X12_beat_69 : decode prog_14_method_26_code 69 = .ok (.isub, 1) := gd_16 db00e_52
theorem d_X12_beat_70 : decode prog_14_method_26_code 70 = .ok (.ireturn, 1) := gd_17 db00e_52
theorem db00e_53 : Ad_ prog_14_method_27_code [(0, .iconst 0, 1), (1, .istore_n 2, 1), (2, .sipush 150, 3), (5, .iload_n 1, 1), (6, .imul, 1), (7, .istore_n 3, 1), (8, .iload_n 3, 1), (9, .sipush 150, 3), (12, .iload_n 1, 1), (13, .imul, 1), (14, .aload_n 0, 1), (15, .getfield 93, 3), (18, .iload_n 1, 1), (19, .iaload, 1), (20, .iadd, 1), (21, .if_icmp .ge 27, 3), (24, .iload_n 2, 1), (25, .aload_n 0, 1), (26, .getfield 96, 3), (29, .iload_n 3, 1), (30, .iaload, 1), (31, .iconst 2, 1), (32, .if_icmp .ne 7, 3), (35, .iconst 1, 1)] := bch_ok prog_14_method_27_code _ 0 (by decide +kernel)
theorem d_X12_pointsOf_0 : decode prog_14_method_27_code 0 = .ok (.iconst 0, 1) := gd_0 db00e_53
theorem d_X12_pointsOf_1 : decode prog_14_method_27_code 1 = .ok (.istore_n 2, 1) := gd_1 db00e_53
theorem d_X12_pointsOf_2 : decode prog_14_method_27_code 2 = .ok (.sipush 150, 3) := gd_2 db00e_53
theorem d_X12_pointsOf_5 : decode prog_14_method_27_code 5 = .ok (.iload_n 1, 1) := gd_3 db00e_53
theorem d_X12_pointsOf_6 : decode prog_14_method_27_code 6 = .ok (.imul, 1) := gd_4 db00e_53
theorem d_X12_pointsOf_7 : decode prog_14_method_27_code 7 = .ok (.istore_n 3, 1) := gd_5 db00e_53
theorem d_X12_pointsOf_8 : decode prog_14_method_27_code 8 = .ok (.iload_n 3, 1) := gd_6 db00e_53
theorem d_X12_pointsOf_9 : decode prog_14_method_27_code 9 = .ok (.sipush 150, 3) := gd_7 db00e_53
theorem d_X12_pointsOf_12 : decode prog_14_method_27_code 12 = .ok (.iload_n 1, 1) := gd_8 db00e_53
theorem d_X12_pointsOf_13 : decode prog_14_method_27_code 13 = .ok (.imul, 1) := gd_9 db00e_53
theorem d_X12_pointsOf_14 : decode prog_14_method_27_code 14 = .ok (.aload_n 0, 1) := gd_10 db00e_53
theorem d_X12_pointsOf_15 : decode prog_14_method_27_code 15 = .ok (.getfield 93, 3) := gd_11 db00e_53
theorem d_X12_pointsOf_18 : decode prog_14_method_27_code 18 = .ok (.iload_n 1, 1) := gd_12 db00e_53
theorem d_X12_pointsOf_19 : decode prog_14_method_27_code 19 = .ok (.iaload, 1) := gd_13 db00e_53
theorem d_X12_pointsOf_20 : decode prog_14_method_27_code 20 = .ok (.iadd, 1) := gd_14 db00e_53
theorem d_X12_pointsOf_21 : decode prog_14_method_27_code 21 = .ok (.if_icmp .ge 27, 3) := gd_15 db00e_53
theorem d_X12_pointsOf_24 : decode prog_14_method_27_code 24 = .ok (.iload_n 2, 1) := gd_16 db00e_53
theorem d_X12_pointsOf_25 : decode prog_14_method_27_code 25 = .ok (.aload_n 0, 1) := gd_17 db00e_53
theorem d_X12_pointsOf_26 : decode prog_14_method_27_code 26 = .ok (.getfield 96, 3) := gd_18 db00e_53
theorem d_X12_pointsOf_29 : decode prog_14_method_27_code 29 = .ok (.iload_n 3, 1) := gd_19 db00e_53
theorem d_X12_pointsOf_30 : decode prog_14_method_27_code 30 = .ok (.iaload, 1) := gd_20 db00e_53
theorem d_X12_pointsOf_31 : decode prog_14_method_27_code 31 = .ok (.iconst 2, 1) := gd_21 db00e_53
theorem d_X12_pointsOf_32 : decode prog_14_method_27_code 32 = .ok (.if_icmp .ne 7, 3) := gd_22 db00e_53
theorem d_X12_pointsOf_35 : decode prog_14_method_27_code 35 = .ok (.iconst 1, 1) := gd_23 db00e_53
theorem db00e_54 : Ad_ prog_14_method_27_code [(36, .goto 4, 3), (39, .iconst 0, 1), (40, .iadd, 1), (41, .istore_n 2, 1), (42, .iinc 3 1, 3), (45, .goto (-37), 3), (48, .iload_n 2, 1), (49, .ireturn, 1)] := bch_ok prog_14_method_27_code _ 36 (by decide +kernel)
theorem d_X12_pointsOf_36 : decode prog_14_method_27_code 36 = .ok (.goto 4, 3) := gd_0 db00e_54
theorem d_X12_pointsOf_39 : decode prog_14_method_27_code 39 = .ok (.iconst 0, 1) := gd_1 db00e_54
theorem d_X12_pointsOf_40 : decode prog_14_method_27_code 40 = .ok (.iadd, 1) := gd_2 db00e_54
theorem d_X12_pointsOf_41 : decode prog_14_method_27_code 41 = .ok (.istore_n 2, 1) := gd_3 db00e_54
theorem d_X12_pointsOf_42 : decode prog_14_method_27_code 42 = .ok (.iinc 3 1, 3) := gd_4 db00e_54
theorem d_X12_pointsOf_45 : decode prog_14_method_27_code 45 = .ok (.goto (-37), 3) := gd_5 db00e_54
theorem d_X12_pointsOf_48 : decode prog_14_method_27_code 48 = .ok (.iload_n 2, 1) := gd_6 db00e_54
theorem d_X12_pointsOf_49 : decode prog_14_method_27_code 49 = .ok (.ireturn, 1) := gd_7 db00e_54
theorem db00e_55 : Ad_ prog_14_method_28_code [(0, .iload_n 1, 1), (1, .iconst 0, 1), (2, .aload_n 0, 1), (3, .getfield 413, 3), (6, .iconst 1, 1), (7, .isub, 1), (8, .invokestatic 323, 3), (11, .ifCond .eq 12, 3), (14, .iload_n 2, 1), (15, .iconst 0, 1), (16, .iconst 1, 1), (17, .invokestatic 323, 3), (20, .ifCond .ne 5, 3), (23, .iconst (-1), 1), (24, .ireturn, 1), (25, .iload_n 2, 1), (26, .ifCond .ne 12, 3), (29, .aload_n 0, 1), (30, .getfield 93, 3), (33, .iload_n 1, 1), (34, .iaload, 1), (35, .goto 8, 3), (38, .aload_n 0, 1), (39, .iload_n 1, 1)] := bch_ok prog_14_method_28_code _ 0 (by decide +kernel)
theorem d_X12_beaten_0 : decode prog_14_method_28_code 0 = .ok (.iload_n 1, 1) := gd_0 db00e_55
theorem d_X12_beaten_1 : decode prog_14_method_28_code 1 = .ok (.iconst 0, 1) := gd_1 db00e_55
theorem d_X12_beaten_2 : decode prog_14_method_28_code 2 = .ok (.aload_n 0, 1) := gd_2 db00e_55
theorem d_X12_beaten_3 : decode prog_14_method_28_code 3 = .ok (.getfield 413, 3) := gd_3 db00e_55
theorem d_X12_beaten_6 : decode prog_14_method_28_code 6 = .ok (.iconst 1, 1) := gd_4 db00e_55
theorem d_X12_beaten_7 : decode prog_14_method_28_code 7 = .ok (.isub, 1) := gd_5 db00e_55
theorem d_X12_beaten_8 : decode prog_14_method_28_code 8 = .ok (.invokestatic 323, 3) := gd_6 db00e_55
theorem d_X12_beaten_11 : decode prog_14_method_28_code 11 = .ok (.ifCond .eq 12, 3) := gd_7 db00e_55
theorem d_X12_beaten_14 : decode prog_14_method_28_code 14 = .ok (.iload_n 2, 1) := gd_8 db00e_55
theorem d_X12_beaten_15 : decode prog_14_method_28_code 15 = .ok (.iconst 0, 1) := gd_9 db00e_55
theorem d_X12_beaten_16 : decode prog_14_method_28_code 16 = .ok (.iconst 1, 1) := gd_10 db00e_55
theorem d_X12_beaten_17 : decode prog_14_method_28_code 17 = .ok (.invokestatic 323, 3) := gd_11 db00e_55
theorem d_X12_beaten_20 : decode prog_14_method_28_code 20 = .ok (.ifCond .ne 5, 3) := gd_12 db00e_55
theorem d_X12_beaten_23 : decode prog_14_method_28_code 23 = .ok (.iconst (-1), 1) := gd_13 db00e_55
theorem d_X12_beaten_24 : decode prog_14_method_28_code 24 = .ok (.ireturn, 1) := gd_14 db00e_55
theorem d_X12_beaten_25 : decode prog_14_method_28_code 25 = .ok (.iload_n 2, 1) := gd_15 db00e_55
theorem d_X12_beaten_26 : decode prog_14_method_28_code 26 = .ok (.ifCond .ne 12, 3) := gd_16 db00e_55
theorem d_X12_beaten_29 : decode prog_14_method_28_code 29 = .ok (.aload_n 0, 1) := gd_17 db00e_55
theorem d_X12_beaten_30 : decode prog_14_method_28_code 30 = .ok (.getfield 93, 3) := gd_18 db00e_55
theorem d_X12_beaten_33 : decode prog_14_method_28_code 33 = .ok (.iload_n 1, 1) := gd_19 db00e_55
theorem d_X12_beaten_34 : decode prog_14_method_28_code 34 = .ok (.iaload, 1) := gd_20 db00e_55
theorem d_X12_beaten_35 : decode prog_14_method_28_code 35 = .ok (.goto 8, 3) := gd_21 db00e_55
theorem d_X12_beaten_38 : decode prog_14_method_28_code 38 = .ok (.aload_n 0, 1) := gd_22 db00e_55
theorem d_X12_beaten_39 : decode prog_14_method_28_code 39 = .ok (.iload_n 1, 1) := gd_23 db00e_55
theorem d_X12_beaten_40 : decode prog_14_method_28_code 40 = .ok (.invokevirtual 420, 3) := by decide +kernel
theorem d_X12_beaten_43 : decode prog_14_method_28_code 43 = .ok (.ireturn, 1) := by decide +kernel
theorem d_X12_isLetter_1 : decode prog_14_method_29_code 1 = .ok (.tableswitch 139 97 121 #[128, 139, 115, 117, 117, 139, 139, 117, 139, 139, 117, 139, 128, 117, 139, 117, 139, 139, 139, 115, 139, 139, 117, 128, 128], 115) := by decide +kernel
theorem db00e_56 : Ad_ prog_14_method_29_code [(0, .iload_n 0, 1), (116, .iconst 1, 1), (117, .ireturn, 1), (118, .iload_n 1, 1), (119, .iconst 1, 1), (120, .if_icmp .ne 7, 3), (123, .iconst 1, 1), (124, .goto 4, 3), (127, .iconst 0, 1), (128, .ireturn, 1), (129, .iload_n 1, 1), (130, .iconst 2, 1), (131, .if_icmp .ne 7, 3), (134, .iconst 1, 1), (135, .goto 4, 3), (138, .iconst 0, 1), (139, .ireturn, 1), (140, .iconst 0, 1), (141, .ireturn, 1)] := bch_ok prog_14_method_29_code _ 0 (by decide +kernel)
theorem d_X12_isLetter_0 : decode prog_14_method_29_code 0 = .ok (.iload_n 0, 1) := gd_0 db00e_56
theorem d_X12_isLetter_116 : decode prog_14_method_29_code 116 = .ok (.iconst 1, 1) := gd_1 db00e_56
theorem d_X12_isLetter_117 : decode prog_14_method_29_code 117 = .ok (.ireturn, 1) := gd_2 db00e_56
theorem d_X12_isLetter_118 : decode prog_14_method_29_code 118 = .ok (.iload_n 1, 1) := gd_3 db00e_56
theorem d_X12_isLetter_119 : decode prog_14_method_29_code 119 = .ok (.iconst 1, 1) := gd_4 db00e_56
theorem d_X12_isLetter_120 : decode prog_14_method_29_code 120 = .ok (.if_icmp .ne 7, 3) := gd_5 db00e_56
theorem d_X12_isLetter_123 : decode prog_14_method_29_code 123 = .ok (.iconst 1, 1) := gd_6 db00e_56
theorem d_X12_isLetter_124 : decode prog_14_method_29_code 124 = .ok (.goto 4, 3) := gd_7 db00e_56
theorem d_X12_isLetter_127 : decode prog_14_method_29_code 127 = .ok (.iconst 0, 1) := gd_8 db00e_56
theorem d_X12_isLetter_128 : decode prog_14_method_29_code 128 = .ok (.ireturn, 1) := gd_9 db00e_56
theorem d_X12_isLetter_129 : decode prog_14_method_29_code 129 = .ok (.iload_n 1, 1) := gd_10 db00e_56
theorem d_X12_isLetter_130 : decode prog_14_method_29_code 130 = .ok (.iconst 2, 1) := gd_11 db00e_56
theorem d_X12_isLetter_131 : decode prog_14_method_29_code 131 = .ok (.if_icmp .ne 7, 3) := gd_12 db00e_56
theorem d_X12_isLetter_134 : decode prog_14_method_29_code 134 = .ok (.iconst 1, 1) := gd_13 db00e_56
theorem d_X12_isLetter_135 : decode prog_14_method_29_code 135 = .ok (.goto 4, 3) := gd_14 db00e_56
theorem d_X12_isLetter_138 : decode prog_14_method_29_code 138 = .ok (.iconst 0, 1) := gd_15 db00e_56
theorem d_X12_isLetter_139 : decode prog_14_method_29_code 139 = .ok (.ireturn, 1) := gd_16 db00e_56
theorem d_X12_isLetter_140 : decode prog_14_method_29_code 140 = .ok (.iconst 0, 1) := gd_17 db00e_56
theorem d_X12_isLetter_141 : decode prog_14_method_29_code 141 = .ok (.ireturn, 1) := gd_18 db00e_56
theorem db00e_57 : Ad_ prog_14_method_30_code [(0, .aload_n 0, 1), (1, .getfield 397, 3), (4, .bipush 6, 2), (6, .if_icmp .ne 9, 3), (9, .aload_n 0, 1), (10, .invokevirtual 381, 3), (13, .iconst 0, 1), (14, .ireturn, 1), (15, .aload_n 0, 1), (16, .dup, 1), (17, .getfield 397, 3), (20, .iconst 1, 1), (21, .iadd, 1), (22, .putfield 397, 3), (25, .aload_n 0, 1), (26, .dup, 1), (27, .getfield 365, 3), (30, .iconst 1, 1), (31, .iadd, 1), (32, .putfield 365, 3), (35, .iconst 1, 1), (36, .ireturn, 1)] := bch_ok prog_14_method_30_code _ 0 (by decide +kernel)
theorem d_X12_opens_0 : decode prog_14_method_30_code 0 = .ok (.aload_n 0, 1) := gd_0 db00e_57
theorem d_X12_opens_1 : decode prog_14_method_30_code 1 = .ok (.getfield 397, 3) := gd_1 db00e_57
theorem d_X12_opens_4 : decode prog_14_method_30_code 4 = .ok (.bipush 6, 2) := gd_2 db00e_57
theorem d_X12_opens_6 : decode prog_14_method_30_code 6 = .ok (.if_icmp .ne 9, 3) := gd_3 db00e_57
theorem d_X12_opens_9 : decode prog_14_method_30_code 9 = .ok (.aload_n 0, 1) := gd_4 db00e_57
theorem d_X12_opens_10 : decode prog_14_method_30_code 10 = .ok (.invokevirtual 381, 3) := gd_5 db00e_57
theorem d_X12_opens_13 : decode prog_14_method_30_code 13 = .ok (.iconst 0, 1) := gd_6 db00e_57
theorem d_X12_opens_14 : decode prog_14_method_30_code 14 = .ok (.ireturn, 1) := gd_7 db00e_57
theorem d_X12_opens_15 : decode prog_14_method_30_code 15 = .ok (.aload_n 0, 1) := gd_8 db00e_57
theorem d_X12_opens_16 : decode prog_14_method_30_code 16 = .ok (.dup, 1) := gd_9 db00e_57
theorem d_X12_opens_17 : decode prog_14_method_30_code 17 = .ok (.getfield 397, 3) := gd_10 db00e_57
theorem d_X12_opens_20 : decode prog_14_method_30_code 20 = .ok (.iconst 1, 1) := gd_11 db00e_57
theorem d_X12_opens_21 : decode prog_14_method_30_code 21 = .ok (.iadd, 1) := gd_12 db00e_57
theorem d_X12_opens_22 : decode prog_14_method_30_code 22 = .ok (.putfield 397, 3) := gd_13 db00e_57
theorem d_X12_opens_25 : decode prog_14_method_30_code 25 = .ok (.aload_n 0, 1) := gd_14 db00e_57
theorem d_X12_opens_26 : decode prog_14_method_30_code 26 = .ok (.dup, 1) := gd_15 db00e_57
theorem d_X12_opens_27 : decode prog_14_method_30_code 27 = .ok (.getfield 365, 3) := gd_16 db00e_57
theorem d_X12_opens_30 : decode prog_14_method_30_code 30 = .ok (.iconst 1, 1) := gd_17 db00e_57
theorem d_X12_opens_31 : decode prog_14_method_30_code 31 = .ok (.iadd, 1) := gd_18 db00e_57
theorem d_X12_opens_32 : decode prog_14_method_30_code 32 = .ok (.putfield 365, 3) := gd_19 db00e_57
theorem d_X12_opens_35 : decode prog_14_method_30_code 35 = .ok (.iconst 1, 1) := gd_20 db00e_57
theorem d_X12_opens_36 : decode prog_14_method_30_code 36 = .ok (.ireturn, 1) := gd_21 db00e_57
theorem db00e_58 : Ad_ prog_14_method_31_code [(0, .aload_n 0, 1), (1, .getfield 368, 3), (4, .iconst (-1), 1), (5, .if_icmp .ne 15, 3), (8, .aload_n 0, 1), (9, .invokevirtual 374, 3), (12, .iload_n 1, 1), (13, .if_icmp .eq 7, 3), (16, .aload_n 0, 1), (17, .invokevirtual 381, 3), (20, .aload_n 0, 1), (21, .dup, 1), (22, .getfield 365, 3), (25, .iconst 1, 1), (26, .iadd, 1), (27, .putfield 365, 3), (30, .aload_n 0, 1), (31, .dup, 1), (32, .getfield 397, 3), (35, .iconst 1, 1), (36, .isub, 1), (37, .putfield 397, 3), (40, .return_, 1)] := bch_ok prog_14_method_31_code _ 0 (by decide +kernel)
theorem d_X12_closes_0 : decode prog_14_method_31_code 0 = .ok (.aload_n 0, 1) := gd_0 db00e_58
theorem d_X12_closes_1 : decode prog_14_method_31_code 1 = .ok (.getfield 368, 3) := gd_1 db00e_58
theorem d_X12_closes_4 : decode prog_14_method_31_code 4 = .ok (.iconst (-1), 1) := gd_2 db00e_58
theorem d_X12_closes_5 : decode prog_14_method_31_code 5 = .ok (.if_icmp .ne 15, 3) := gd_3 db00e_58
theorem d_X12_closes_8 : decode prog_14_method_31_code 8 = .ok (.aload_n 0, 1) := gd_4 db00e_58
theorem d_X12_closes_9 : decode prog_14_method_31_code 9 = .ok (.invokevirtual 374, 3) := gd_5 db00e_58
theorem d_X12_closes_12 : decode prog_14_method_31_code 12 = .ok (.iload_n 1, 1) := gd_6 db00e_58
theorem d_X12_closes_13 : decode prog_14_method_31_code 13 = .ok (.if_icmp .eq 7, 3) := gd_7 db00e_58
theorem d_X12_closes_16 : decode prog_14_method_31_code 16 = .ok (.aload_n 0, 1) := gd_8 db00e_58
theorem d_X12_closes_17 : decode prog_14_method_31_code 17 = .ok (.invokevirtual 381, 3) := gd_9 db00e_58
theorem d_X12_closes_20 : decode prog_14_method_31_code 20 = .ok (.aload_n 0, 1) := gd_10 db00e_58
theorem d_X12_closes_21 : decode prog_14_method_31_code 21 = .ok (.dup, 1) := gd_11 db00e_58
theorem d_X12_closes_22 : decode prog_14_method_31_code 22 = .ok (.getfield 365, 3) := gd_12 db00e_58
theorem d_X12_closes_25 : decode prog_14_method_31_code 25 = .ok (.iconst 1, 1) := gd_13 db00e_58
theorem d_X12_closes_26 : decode prog_14_method_31_code 26 = .ok (.iadd, 1) := gd_14 db00e_58
theorem d_X12_closes_27 : decode prog_14_method_31_code 27 = .ok (.putfield 365, 3) := gd_15 db00e_58
theorem d_X12_closes_30 : decode prog_14_method_31_code 30 = .ok (.aload_n 0, 1) := gd_16 db00e_58
theorem d_X12_closes_31 : decode prog_14_method_31_code 31 = .ok (.dup, 1) := gd_17 db00e_58
theorem d_X12_closes_32 : decode prog_14_method_31_code 32 = .ok (.getfield 397, 3) := gd_18 db00e_58
theorem d_X12_closes_35 : decode prog_14_method_31_code 35 = .ok (.iconst 1, 1) := gd_19 db00e_58
theorem d_X12_closes_36 : decode prog_14_method_31_code 36 = .ok (.isub, 1) := gd_20 db00e_58
theorem d_X12_closes_37 : decode prog_14_method_31_code 37 = .ok (.putfield 397, 3) := gd_21 db00e_58
theorem d_X12_closes_40 : decode prog_14_method_31_code 40 = .ok (.return_, 1) := gd_22 db00e_58
theorem db00e_59 : Ad_ prog_14_method_32_code [(0, .aload_n 0, 1), (1, .invokevirtual 374, 3), (4, .istore_n 1, 1), (5, .iload_n 1, 1), (6, .bipush 91, 2), (8, .if_icmp .ne 23, 3), (11, .aload_n 0, 1), (12, .invokevirtual 423, 3), (15, .ifCond .eq 65, 3), (18, .aload_n 0, 1), (19, .invokevirtual 427, 3), (22, .aload_n 0, 1), (23, .bipush 93, 2), (25, .invokevirtual 430, 3), (28, .goto 52, 3), (31, .iload_n 1, 1), (32, .aload_n 0, 1), (33, .getfield 433, 3), (36, .invokestatic 436, 3), (39, .ifCond .eq 26, 3), (42, .aload_n 0, 1), (43, .dup, 1), (44, .getfield 365, 3), (47, .iconst 1, 1)] := bch_ok prog_14_method_32_code _ 0 (by decide +kernel)
theorem d_X12_atom_0 : decode prog_14_method_32_code 0 = .ok (.aload_n 0, 1) := gd_0 db00e_59
theorem d_X12_atom_1 : decode prog_14_method_32_code 1 = .ok (.invokevirtual 374, 3) := gd_1 db00e_59
theorem d_X12_atom_4 : decode prog_14_method_32_code 4 = .ok (.istore_n 1, 1) := gd_2 db00e_59
theorem d_X12_atom_5 : decode prog_14_method_32_code 5 = .ok (.iload_n 1, 1) := gd_3 db00e_59
theorem d_X12_atom_6 : decode prog_14_method_32_code 6 = .ok (.bipush 91, 2) := gd_4 db00e_59
theorem d_X12_atom_8 : decode prog_14_method_32_code 8 = .ok (.if_icmp .ne 23, 3) := gd_5 db00e_59
theorem d_X12_atom_11 : decode prog_14_method_32_code 11 = .ok (.aload_n 0, 1) := gd_6 db00e_59
theorem d_X12_atom_12 : decode prog_14_method_32_code 12 = .ok (.invokevirtual 423, 3) := gd_7 db00e_59
theorem d_X12_atom_15 : decode prog_14_method_32_code 15 = .ok (.ifCond .eq 65, 3) := gd_8 db00e_59
theorem d_X12_atom_18 : decode prog_14_method_32_code 18 = .ok (.aload_n 0, 1) := gd_9 db00e_59
theorem d_X12_atom_19 : decode prog_14_method_32_code 19 = .ok (.invokevirtual 427, 3) := gd_10 db00e_59
theorem d_X12_atom_22 : decode prog_14_method_32_code 22 = .ok (.aload_n 0, 1) := gd_11 db00e_59
theorem d_X12_atom_23 : decode prog_14_method_32_code 23 = .ok (.bipush 93, 2) := gd_12 db00e_59
theorem d_X12_atom_25 : decode prog_14_method_32_code 25 = .ok (.invokevirtual 430, 3) := gd_13 db00e_59
theorem d_X12_atom_28 : decode prog_14_method_32_code 28 = .ok (.goto 52, 3) := gd_14 db00e_59
theorem d_X12_atom_31 : decode prog_14_method_32_code 31 = .ok (.iload_n 1, 1) := gd_15 db00e_59
theorem d_X12_atom_32 : decode prog_14_method_32_code 32 = .ok (.aload_n 0, 1) := gd_16 db00e_59
theorem d_X12_atom_33 : decode prog_14_method_32_code 33 = .ok (.getfield 433, 3) := gd_17 db00e_59
theorem d_X12_atom_36 : decode prog_14_method_32_code 36 = .ok (.invokestatic 436, 3) := gd_18 db00e_59
theorem d_X12_atom_39 : decode prog_14_method_32_code 39 = .ok (.ifCond .eq 26, 3) := gd_19 db00e_59
theorem d_X12_atom_42 : decode prog_14_method_32_code 42 = .ok (.aload_n 0, 1) := gd_20 db00e_59
theorem d_X12_atom_43 : decode prog_14_method_32_code 43 = .ok (.dup, 1) := gd_21 db00e_59
theorem d_X12_atom_44 : decode prog_14_method_32_code 44 = .ok (.getfield 365, 3) := gd_22 db00e_59
theorem d_X12_atom_47 : decode prog_14_method_32_code 47 = .ok (.iconst 1, 1) := gd_23 db00e_59
theorem db00e_60 : Ad_ prog_14_method_32_code [(48, .iadd, 1), (49, .putfield 365, 3), (52, .aload_n 0, 1), (53, .iconst 1, 1), (54, .invokevirtual 390, 3), (57, .aload_n 0, 1), (58, .iload_n 1, 1), (59, .invokevirtual 390, 3), (62, .goto 18, 3), (65, .aload_n 0, 1), (66, .invokevirtual 384, 3), (69, .istore_n 2, 1), (70, .aload_n 0, 1), (71, .iconst 0, 1), (72, .invokevirtual 390, 3), (75, .aload_n 0, 1), (76, .iload_n 2, 1), (77, .invokevirtual 390, 3), (80, .return_, 1)] := bch_ok prog_14_method_32_code _ 48 (by decide +kernel)
theorem d_X12_atom_48 : decode prog_14_method_32_code 48 = .ok (.iadd, 1) := gd_0 db00e_60
theorem d_X12_atom_49 : decode prog_14_method_32_code 49 = .ok (.putfield 365, 3) := gd_1 db00e_60
theorem d_X12_atom_52 : decode prog_14_method_32_code 52 = .ok (.aload_n 0, 1) := gd_2 db00e_60
theorem d_X12_atom_53 : decode prog_14_method_32_code 53 = .ok (.iconst 1, 1) := gd_3 db00e_60
theorem d_X12_atom_54 : decode prog_14_method_32_code 54 = .ok (.invokevirtual 390, 3) := gd_4 db00e_60
theorem d_X12_atom_57 : decode prog_14_method_32_code 57 = .ok (.aload_n 0, 1) := gd_5 db00e_60
theorem d_X12_atom_58 : decode prog_14_method_32_code 58 = .ok (.iload_n 1, 1) := gd_6 db00e_60
theorem d_X12_atom_59 : decode prog_14_method_32_code 59 = .ok (.invokevirtual 390, 3) := gd_7 db00e_60
theorem d_X12_atom_62 : decode prog_14_method_32_code 62 = .ok (.goto 18, 3) := gd_8 db00e_60
theorem d_X12_atom_65 : decode prog_14_method_32_code 65 = .ok (.aload_n 0, 1) := gd_9 db00e_60
theorem d_X12_atom_66 : decode prog_14_method_32_code 66 = .ok (.invokevirtual 384, 3) := gd_10 db00e_60
theorem d_X12_atom_69 : decode prog_14_method_32_code 69 = .ok (.istore_n 2, 1) := gd_11 db00e_60
theorem d_X12_atom_70 : decode prog_14_method_32_code 70 = .ok (.aload_n 0, 1) := gd_12 db00e_60
theorem d_X12_atom_71 : decode prog_14_method_32_code 71 = .ok (.iconst 0, 1) := gd_13 db00e_60
theorem d_X12_atom_72 : decode prog_14_method_32_code 72 = .ok (.invokevirtual 390, 3) := gd_14 db00e_60
theorem d_X12_atom_75 : decode prog_14_method_32_code 75 = .ok (.aload_n 0, 1) := gd_15 db00e_60
theorem d_X12_atom_76 : decode prog_14_method_32_code 76 = .ok (.iload_n 2, 1) := gd_16 db00e_60
theorem d_X12_atom_77 : decode prog_14_method_32_code 77 = .ok (.invokevirtual 390, 3) := gd_17 db00e_60
theorem d_X12_atom_80 : decode prog_14_method_32_code 80 = .ok (.return_, 1) := gd_18 db00e_60
theorem db00e_61 : Ad_ prog_14_method_33_code [(0, .aload_n 0, 1), (1, .invokevirtual 440, 3), (4, .aload_n 0, 1), (5, .getfield 368, 3), (8, .iconst (-1), 1), (9, .if_icmp .ne 35, 3), (12, .aload_n 0, 1), (13, .invokevirtual 374, 3), (16, .bipush 42, 2), (18, .if_icmp .ne 26, 3), (21, .aload_n 0, 1), (22, .dup, 1), (23, .getfield 365, 3), (26, .iconst 1, 1), (27, .iadd, 1), (28, .putfield 365, 3), (31, .aload_n 0, 1), (32, .invokevirtual 440, 3), (35, .aload_n 0, 1), (36, .bipush 42, 2), (38, .invokevirtual 390, 3), (41, .goto (-37), 3), (44, .return_, 1)] := bch_ok prog_14_method_33_code _ 0 (by decide +kernel)
theorem d_X12_term_0 : decode prog_14_method_33_code 0 = .ok (.aload_n 0, 1) := gd_0 db00e_61
theorem d_X12_term_1 : decode prog_14_method_33_code 1 = .ok (.invokevirtual 440, 3) := gd_1 db00e_61
theorem d_X12_term_4 : decode prog_14_method_33_code 4 = .ok (.aload_n 0, 1) := gd_2 db00e_61
theorem d_X12_term_5 : decode prog_14_method_33_code 5 = .ok (.getfield 368, 3) := gd_3 db00e_61
theorem d_X12_term_8 : decode prog_14_method_33_code 8 = .ok (.iconst (-1), 1) := gd_4 db00e_61
theorem d_X12_term_9 : decode prog_14_method_33_code 9 = .ok (.if_icmp .ne 35, 3) := gd_5 db00e_61
theorem d_X12_term_12 : decode prog_14_method_33_code 12 = .ok (.aload_n 0, 1) := gd_6 db00e_61
theorem d_X12_term_13 : decode prog_14_method_33_code 13 = .ok (.invokevirtual 374, 3) := gd_7 db00e_61
theorem d_X12_term_16 : decode prog_14_method_33_code 16 = .ok (.bipush 42, 2) := gd_8 db00e_61
theorem d_X12_term_18 : decode prog_14_method_33_code 18 = .ok (.if_icmp .ne 26, 3) := gd_9 db00e_61
theorem d_X12_term_21 : decode prog_14_method_33_code 21 = .ok (.aload_n 0, 1) := gd_10 db00e_61
theorem d_X12_term_22 : decode prog_14_method_33_code 22 = .ok (.dup, 1) := gd_11 db00e_61
theorem d_X12_term_23 : decode prog_14_method_33_code 23 = .ok (.getfield 365, 3) := gd_12 db00e_61
theorem d_X12_term_26 : decode prog_14_method_33_code 26 = .ok (.iconst 1, 1) := gd_13 db00e_61
theorem d_X12_term_27 : decode prog_14_method_33_code 27 = .ok (.iadd, 1) := gd_14 db00e_61
theorem d_X12_term_28 : decode prog_14_method_33_code 28 = .ok (.putfield 365, 3) := gd_15 db00e_61
theorem d_X12_term_31 : decode prog_14_method_33_code 31 = .ok (.aload_n 0, 1) := gd_16 db00e_61
theorem d_X12_term_32 : decode prog_14_method_33_code 32 = .ok (.invokevirtual 440, 3) := gd_17 db00e_61
theorem d_X12_term_35 : decode prog_14_method_33_code 35 = .ok (.aload_n 0, 1) := gd_18 db00e_61
theorem d_X12_term_36 : decode prog_14_method_33_code 36 = .ok (.bipush 42, 2) := gd_19 db00e_61
theorem d_X12_term_38 : decode prog_14_method_33_code 38 = .ok (.invokevirtual 390, 3) := gd_20 db00e_61
theorem d_X12_term_41 : decode prog_14_method_33_code 41 = .ok (.goto (-37), 3) := gd_21 db00e_61
theorem d_X12_term_44 : decode prog_14_method_33_code 44 = .ok (.return_, 1) := gd_22 db00e_61
theorem db00e_62 : Ad_ prog_14_method_34_code [(0, .aload_n 0, 1), (1, .invokevirtual 443, 3), (4, .aload_n 0, 1), (5, .invokevirtual 374, 3), (8, .istore_n 1, 1), (9, .aload_n 0, 1), (10, .getfield 368, 3), (13, .iconst (-1), 1), (14, .if_icmp .ne 42, 3), (17, .iload_n 1, 1), (18, .bipush 43, 2), (20, .if_icmp .eq 9, 3), (23, .iload_n 1, 1), (24, .bipush 45, 2), (26, .if_icmp .ne 30, 3), (29, .aload_n 0, 1), (30, .dup, 1), (31, .getfield 365, 3), (34, .iconst 1, 1), (35, .iadd, 1), (36, .putfield 365, 3), (39, .aload_n 0, 1), (40, .invokevirtual 443, 3), (43, .aload_n 0, 1)] := bch_ok prog_14_method_34_code _ 0 (by decide +kernel)
theorem d_X12_sum_0 : decode prog_14_method_34_code 0 = .ok (.aload_n 0, 1) := gd_0 db00e_62
theorem d_X12_sum_1 : decode prog_14_method_34_code 1 = .ok (.invokevirtual 443, 3) := gd_1 db00e_62
theorem d_X12_sum_4 : decode prog_14_method_34_code 4 = .ok (.aload_n 0, 1) := gd_2 db00e_62
theorem d_X12_sum_5 : decode prog_14_method_34_code 5 = .ok (.invokevirtual 374, 3) := gd_3 db00e_62
theorem d_X12_sum_8 : decode prog_14_method_34_code 8 = .ok (.istore_n 1, 1) := gd_4 db00e_62
theorem d_X12_sum_9 : decode prog_14_method_34_code 9 = .ok (.aload_n 0, 1) := gd_5 db00e_62
theorem d_X12_sum_10 : decode prog_14_method_34_code 10 = .ok (.getfield 368, 3) := gd_6 db00e_62
theorem d_X12_sum_13 : decode prog_14_method_34_code 13 = .ok (.iconst (-1), 1) := gd_7 db00e_62
theorem d_X12_sum_14 : decode prog_14_method_34_code 14 = .ok (.if_icmp .ne 42, 3) := gd_8 db00e_62
theorem d_X12_sum_17 : decode prog_14_method_34_code 17 = .ok (.iload_n 1, 1) := gd_9 db00e_62
theorem d_X12_sum_18 : decode prog_14_method_34_code 18 = .ok (.bipush 43, 2) := gd_10 db00e_62
theorem d_X12_sum_20 : decode prog_14_method_34_code 20 = .ok (.if_icmp .eq 9, 3) := gd_11 db00e_62
theorem d_X12_sum_23 : decode prog_14_method_34_code 23 = .ok (.iload_n 1, 1) := gd_12 db00e_62
theorem d_X12_sum_24 : decode prog_14_method_34_code 24 = .ok (.bipush 45, 2) := gd_13 db00e_62
theorem d_X12_sum_26 : decode prog_14_method_34_code 26 = .ok (.if_icmp .ne 30, 3) := gd_14 db00e_62
theorem d_X12_sum_29 : decode prog_14_method_34_code 29 = .ok (.aload_n 0, 1) := gd_15 db00e_62
theorem d_X12_sum_30 : decode prog_14_method_34_code 30 = .ok (.dup, 1) := gd_16 db00e_62
theorem d_X12_sum_31 : decode prog_14_method_34_code 31 = .ok (.getfield 365, 3) := gd_17 db00e_62
theorem d_X12_sum_34 : decode prog_14_method_34_code 34 = .ok (.iconst 1, 1) := gd_18 db00e_62
theorem d_X12_sum_35 : decode prog_14_method_34_code 35 = .ok (.iadd, 1) := gd_19 db00e_62
theorem d_X12_sum_36 : decode prog_14_method_34_code 36 = .ok (.putfield 365, 3) := gd_20 db00e_62
theorem d_X12_sum_39 : decode prog_14_method_34_code 39 = .ok (.aload_n 0, 1) := gd_21 db00e_62
theorem d_X12_sum_40 : decode prog_14_method_34_code 40 = .ok (.invokevirtual 443, 3) := gd_22 db00e_62
theorem d_X12_sum_43 : decode prog_14_method_34_code 43 = .ok (.aload_n 0, 1) := gd_23 db00e_62
theorem db00e_63 : Ad_ prog_14_method_34_code [(44, .iload_n 1, 1), (45, .invokevirtual 390, 3), (48, .aload_n 0, 1), (49, .invokevirtual 374, 3), (52, .istore_n 1, 1), (53, .goto (-44), 3), (56, .return_, 1)] := bch_ok prog_14_method_34_code _ 44 (by decide +kernel)
theorem d_X12_sum_44 : decode prog_14_method_34_code 44 = .ok (.iload_n 1, 1) := gd_0 db00e_63
theorem d_X12_sum_45 : decode prog_14_method_34_code 45 = .ok (.invokevirtual 390, 3) := gd_1 db00e_63
theorem d_X12_sum_48 : decode prog_14_method_34_code 48 = .ok (.aload_n 0, 1) := gd_2 db00e_63
theorem d_X12_sum_49 : decode prog_14_method_34_code 49 = .ok (.invokevirtual 374, 3) := gd_3 db00e_63
theorem d_X12_sum_52 : decode prog_14_method_34_code 52 = .ok (.istore_n 1, 1) := gd_4 db00e_63
theorem d_X12_sum_53 : decode prog_14_method_34_code 53 = .ok (.goto (-44), 3) := gd_5 db00e_63
theorem d_X12_sum_56 : decode prog_14_method_34_code 56 = .ok (.return_, 1) := gd_6 db00e_63
theorem db00e_64 : Ad_ prog_14_method_35_code [(0, .iload_n 0, 1), (1, .bipush 61, 2), (3, .if_icmp .eq 15, 3), (6, .iload_n 0, 1), (7, .bipush 60, 2), (9, .if_icmp .eq 9, 3), (12, .iload_n 0, 1), (13, .bipush 62, 2), (15, .if_icmp .ne 7, 3), (18, .iconst 1, 1), (19, .goto 4, 3), (22, .iconst 0, 1), (23, .ireturn, 1)] := bch_ok prog_14_method_35_code _ 0 (by decide +kernel)
theorem d_X12_isSign_0 : decode prog_14_method_35_code 0 = .ok (.iload_n 0, 1) := gd_0 db00e_64
theorem d_X12_isSign_1 : decode prog_14_method_35_code 1 = .ok (.bipush 61, 2) := gd_1 db00e_64
theorem d_X12_isSign_3 : decode prog_14_method_35_code 3 = .ok (.if_icmp .eq 15, 3) := gd_2 db00e_64
theorem d_X12_isSign_6 : decode prog_14_method_35_code 6 = .ok (.iload_n 0, 1) := gd_3 db00e_64
theorem d_X12_isSign_7 : decode prog_14_method_35_code 7 = .ok (.bipush 60, 2) := gd_4 db00e_64
theorem d_X12_isSign_9 : decode prog_14_method_35_code 9 = .ok (.if_icmp .eq 9, 3) := gd_5 db00e_64
theorem d_X12_isSign_12 : decode prog_14_method_35_code 12 = .ok (.iload_n 0, 1) := gd_6 db00e_64
theorem d_X12_isSign_13 : decode prog_14_method_35_code 13 = .ok (.bipush 62, 2) := gd_7 db00e_64
theorem d_X12_isSign_15 : decode prog_14_method_35_code 15 = .ok (.if_icmp .ne 7, 3) := gd_8 db00e_64
theorem d_X12_isSign_18 : decode prog_14_method_35_code 18 = .ok (.iconst 1, 1) := gd_9 db00e_64
theorem d_X12_isSign_19 : decode prog_14_method_35_code 19 = .ok (.goto 4, 3) := gd_10 db00e_64
theorem d_X12_isSign_22 : decode prog_14_method_35_code 22 = .ok (.iconst 0, 1) := gd_11 db00e_64
theorem d_X12_isSign_23 : decode prog_14_method_35_code 23 = .ok (.ireturn, 1) := gd_12 db00e_64
theorem db00e_65 : Ad_ prog_14_method_36_code [(0, .aload_n 0, 1), (1, .getfield 368, 3), (4, .iconst (-1), 1), (5, .if_icmp .ne 10, 3), (8, .aload_n 0, 1), (9, .invokevirtual 374, 3), (12, .goto 4, 3), (15, .iconst (-1), 1), (16, .istore_n 1, 1), (17, .iload_n 1, 1), (18, .invokestatic 446, 3), (21, .ifCond .ne 8, 3), (24, .aload_n 0, 1), (25, .invokevirtual 381, 3), (28, .return_, 1), (29, .aload_n 0, 1), (30, .dup, 1), (31, .getfield 365, 3), (34, .iconst 1, 1), (35, .iadd, 1), (36, .putfield 365, 3), (39, .aload_n 0, 1), (40, .invokevirtual 427, 3), (43, .aload_n 0, 1)] := bch_ok prog_14_method_36_code _ 0 (by decide +kernel)
theorem d_X12_compare_0 : decode prog_14_method_36_code 0 = .ok (.aload_n 0, 1) := gd_0 db00e_65
theorem d_X12_compare_1 : decode prog_14_method_36_code 1 = .ok (.getfield 368, 3) := gd_1 db00e_65
theorem d_X12_compare_4 : decode prog_14_method_36_code 4 = .ok (.iconst (-1), 1) := gd_2 db00e_65
theorem d_X12_compare_5 : decode prog_14_method_36_code 5 = .ok (.if_icmp .ne 10, 3) := gd_3 db00e_65
theorem d_X12_compare_8 : decode prog_14_method_36_code 8 = .ok (.aload_n 0, 1) := gd_4 db00e_65
theorem d_X12_compare_9 : decode prog_14_method_36_code 9 = .ok (.invokevirtual 374, 3) := gd_5 db00e_65
theorem d_X12_compare_12 : decode prog_14_method_36_code 12 = .ok (.goto 4, 3) := gd_6 db00e_65
theorem d_X12_compare_15 : decode prog_14_method_36_code 15 = .ok (.iconst (-1), 1) := gd_7 db00e_65
theorem d_X12_compare_16 : decode prog_14_method_36_code 16 = .ok (.istore_n 1, 1) := gd_8 db00e_65
theorem d_X12_compare_17 : decode prog_14_method_36_code 17 = .ok (.iload_n 1, 1) := gd_9 db00e_65
theorem d_X12_compare_18 : decode prog_14_method_36_code 18 = .ok (.invokestatic 446, 3) := gd_10 db00e_65
theorem d_X12_compare_21 : decode prog_14_method_36_code 21 = .ok (.ifCond .ne 8, 3) := gd_11 db00e_65
theorem d_X12_compare_24 : decode prog_14_method_36_code 24 = .ok (.aload_n 0, 1) := gd_12 db00e_65
theorem d_X12_compare_25 : decode prog_14_method_36_code 25 = .ok (.invokevirtual 381, 3) := gd_13 db00e_65
theorem d_X12_compare_28 : decode prog_14_method_36_code 28 = .ok (.return_, 1) := gd_14 db00e_65
theorem d_X12_compare_29 : decode prog_14_method_36_code 29 = .ok (.aload_n 0, 1) := gd_15 db00e_65
theorem d_X12_compare_30 : decode prog_14_method_36_code 30 = .ok (.dup, 1) := gd_16 db00e_65
theorem d_X12_compare_31 : decode prog_14_method_36_code 31 = .ok (.getfield 365, 3) := gd_17 db00e_65
theorem d_X12_compare_34 : decode prog_14_method_36_code 34 = .ok (.iconst 1, 1) := gd_18 db00e_65
theorem d_X12_compare_35 : decode prog_14_method_36_code 35 = .ok (.iadd, 1) := gd_19 db00e_65
theorem d_X12_compare_36 : decode prog_14_method_36_code 36 = .ok (.putfield 365, 3) := gd_20 db00e_65
theorem d_X12_compare_39 : decode prog_14_method_36_code 39 = .ok (.aload_n 0, 1) := gd_21 db00e_65
theorem d_X12_compare_40 : decode prog_14_method_36_code 40 = .ok (.invokevirtual 427, 3) := gd_22 db00e_65
theorem d_X12_compare_43 : decode prog_14_method_36_code 43 = .ok (.aload_n 0, 1) := gd_23 db00e_65
theorem db00e_66 : Ad_ prog_14_method_36_code [(44, .iload_n 1, 1), (45, .invokevirtual 390, 3), (48, .return_, 1)] := bch_ok prog_14_method_36_code _ 44 (by decide +kernel)
theorem d_X12_compare_44 : decode prog_14_method_36_code 44 = .ok (.iload_n 1, 1) := gd_0 db00e_66
theorem d_X12_compare_45 : decode prog_14_method_36_code 45 = .ok (.invokevirtual 390, 3) := gd_1 db00e_66
theorem d_X12_compare_48 : decode prog_14_method_36_code 48 = .ok (.return_, 1) := gd_2 db00e_66
theorem db00e_67 : Ad_ prog_14_method_37_code [(0, .aload_n 0, 1), (1, .invokevirtual 374, 3), (4, .istore_n 1, 1), (5, .iload_n 1, 1), (6, .bipush 33, 2), (8, .if_icmp .ne 33, 3), (11, .aload_n 0, 1), (12, .invokevirtual 423, 3), (15, .ifCond .eq 61, 3), (18, .aload_n 0, 1), (19, .invokevirtual 449, 3), (22, .aload_n 0, 1), (23, .dup, 1), (24, .getfield 397, 3), (27, .iconst 1, 1), (28, .isub, 1), (29, .putfield 397, 3), (32, .aload_n 0, 1), (33, .bipush 33, 2), (35, .invokevirtual 390, 3), (38, .goto 38, 3), (41, .iload_n 1, 1), (42, .bipush 40, 2), (44, .if_icmp .ne 24, 3)] := bch_ok prog_14_method_37_code _ 0 (by decide +kernel)
theorem d_X12_unit_0 : decode prog_14_method_37_code 0 = .ok (.aload_n 0, 1) := gd_0 db00e_67
theorem d_X12_unit_1 : decode prog_14_method_37_code 1 = .ok (.invokevirtual 374, 3) := gd_1 db00e_67
theorem d_X12_unit_4 : decode prog_14_method_37_code 4 = .ok (.istore_n 1, 1) := gd_2 db00e_67
theorem d_X12_unit_5 : decode prog_14_method_37_code 5 = .ok (.iload_n 1, 1) := gd_3 db00e_67
theorem d_X12_unit_6 : decode prog_14_method_37_code 6 = .ok (.bipush 33, 2) := gd_4 db00e_67
theorem d_X12_unit_8 : decode prog_14_method_37_code 8 = .ok (.if_icmp .ne 33, 3) := gd_5 db00e_67
theorem d_X12_unit_11 : decode prog_14_method_37_code 11 = .ok (.aload_n 0, 1) := gd_6 db00e_67
theorem d_X12_unit_12 : decode prog_14_method_37_code 12 = .ok (.invokevirtual 423, 3) := gd_7 db00e_67
theorem d_X12_unit_15 : decode prog_14_method_37_code 15 = .ok (.ifCond .eq 61, 3) := gd_8 db00e_67
theorem d_X12_unit_18 : decode prog_14_method_37_code 18 = .ok (.aload_n 0, 1) := gd_9 db00e_67
theorem d_X12_unit_19 : decode prog_14_method_37_code 19 = .ok (.invokevirtual 449, 3) := gd_10 db00e_67
theorem d_X12_unit_22 : decode prog_14_method_37_code 22 = .ok (.aload_n 0, 1) := gd_11 db00e_67
theorem d_X12_unit_23 : decode prog_14_method_37_code 23 = .ok (.dup, 1) := gd_12 db00e_67
theorem d_X12_unit_24 : decode prog_14_method_37_code 24 = .ok (.getfield 397, 3) := gd_13 db00e_67
theorem d_X12_unit_27 : decode prog_14_method_37_code 27 = .ok (.iconst 1, 1) := gd_14 db00e_67
theorem d_X12_unit_28 : decode prog_14_method_37_code 28 = .ok (.isub, 1) := gd_15 db00e_67
theorem d_X12_unit_29 : decode prog_14_method_37_code 29 = .ok (.putfield 397, 3) := gd_16 db00e_67
theorem d_X12_unit_32 : decode prog_14_method_37_code 32 = .ok (.aload_n 0, 1) := gd_17 db00e_67
theorem d_X12_unit_33 : decode prog_14_method_37_code 33 = .ok (.bipush 33, 2) := gd_18 db00e_67
theorem d_X12_unit_35 : decode prog_14_method_37_code 35 = .ok (.invokevirtual 390, 3) := gd_19 db00e_67
theorem d_X12_unit_38 : decode prog_14_method_37_code 38 = .ok (.goto 38, 3) := gd_20 db00e_67
theorem d_X12_unit_41 : decode prog_14_method_37_code 41 = .ok (.iload_n 1, 1) := gd_21 db00e_67
theorem d_X12_unit_42 : decode prog_14_method_37_code 42 = .ok (.bipush 40, 2) := gd_22 db00e_67
theorem d_X12_unit_44 : decode prog_14_method_37_code 44 = .ok (.if_icmp .ne 24, 3) := gd_23 db00e_67
theorem db00e_68 : Ad_ prog_14_method_37_code [(47, .aload_n 0, 1), (48, .invokevirtual 423, 3), (51, .ifCond .eq 25, 3), (54, .aload_n 0, 1), (55, .iconst 0, 1), (56, .invokevirtual 452, 3), (59, .aload_n 0, 1), (60, .bipush 41, 2), (62, .invokevirtual 430, 3), (65, .goto 11, 3), (68, .aload_n 0, 1), (69, .invokevirtual 427, 3), (72, .aload_n 0, 1), (73, .invokevirtual 456, 3), (76, .return_, 1)] := bch_ok prog_14_method_37_code _ 47 (by decide +kernel)
theorem d_X12_unit_47 : decode prog_14_method_37_code 47 = .ok (.aload_n 0, 1) := gd_0 db00e_68
theorem d_X12_unit_48 : decode prog_14_method_37_code 48 = .ok (.invokevirtual 423, 3) := gd_1 db00e_68
theorem d_X12_unit_51 : decode prog_14_method_37_code 51 = .ok (.ifCond .eq 25, 3) := gd_2 db00e_68
theorem d_X12_unit_54 : decode prog_14_method_37_code 54 = .ok (.aload_n 0, 1) := gd_3 db00e_68
theorem d_X12_unit_55 : decode prog_14_method_37_code 55 = .ok (.iconst 0, 1) := gd_4 db00e_68
theorem d_X12_unit_56 : decode prog_14_method_37_code 56 = .ok (.invokevirtual 452, 3) := gd_5 db00e_68
theorem d_X12_unit_59 : decode prog_14_method_37_code 59 = .ok (.aload_n 0, 1) := gd_6 db00e_68
theorem d_X12_unit_60 : decode prog_14_method_37_code 60 = .ok (.bipush 41, 2) := gd_7 db00e_68
theorem d_X12_unit_62 : decode prog_14_method_37_code 62 = .ok (.invokevirtual 430, 3) := gd_8 db00e_68
theorem d_X12_unit_65 : decode prog_14_method_37_code 65 = .ok (.goto 11, 3) := gd_9 db00e_68
theorem d_X12_unit_68 : decode prog_14_method_37_code 68 = .ok (.aload_n 0, 1) := gd_10 db00e_68
theorem d_X12_unit_69 : decode prog_14_method_37_code 69 = .ok (.invokevirtual 427, 3) := gd_11 db00e_68
theorem d_X12_unit_72 : decode prog_14_method_37_code 72 = .ok (.aload_n 0, 1) := gd_12 db00e_68
theorem d_X12_unit_73 : decode prog_14_method_37_code 73 = .ok (.invokevirtual 456, 3) := gd_13 db00e_68
theorem d_X12_unit_76 : decode prog_14_method_37_code 76 = .ok (.return_, 1) := gd_14 db00e_68
theorem db00e_69 : Ad_ prog_14_method_38_code [(0, .iload_n 1, 1), (1, .ifCond .eq 10, 3), (4, .aload_n 0, 1), (5, .invokevirtual 456, 3), (8, .goto 7, 3), (11, .aload_n 0, 1), (12, .invokevirtual 449, 3), (15, .aload_n 0, 1), (16, .getfield 368, 3), (19, .iconst (-1), 1), (20, .if_icmp .ne 35, 3), (23, .aload_n 0, 1), (24, .invokevirtual 374, 3), (27, .bipush 38, 2), (29, .if_icmp .ne 26, 3), (32, .aload_n 0, 1), (33, .dup, 1), (34, .getfield 365, 3), (37, .iconst 1, 1), (38, .iadd, 1), (39, .putfield 365, 3), (42, .aload_n 0, 1), (43, .invokevirtual 449, 3), (46, .aload_n 0, 1)] := bch_ok prog_14_method_38_code _ 0 (by decide +kernel)
theorem d_X12_part_0 : decode prog_14_method_38_code 0 = .ok (.iload_n 1, 1) := gd_0 db00e_69
theorem d_X12_part_1 : decode prog_14_method_38_code 1 = .ok (.ifCond .eq 10, 3) := gd_1 db00e_69
theorem d_X12_part_4 : decode prog_14_method_38_code 4 = .ok (.aload_n 0, 1) := gd_2 db00e_69
theorem d_X12_part_5 : decode prog_14_method_38_code 5 = .ok (.invokevirtual 456, 3) := gd_3 db00e_69
theorem d_X12_part_8 : decode prog_14_method_38_code 8 = .ok (.goto 7, 3) := gd_4 db00e_69
theorem d_X12_part_11 : decode prog_14_method_38_code 11 = .ok (.aload_n 0, 1) := gd_5 db00e_69
theorem d_X12_part_12 : decode prog_14_method_38_code 12 = .ok (.invokevirtual 449, 3) := gd_6 db00e_69
theorem d_X12_part_15 : decode prog_14_method_38_code 15 = .ok (.aload_n 0, 1) := gd_7 db00e_69
theorem d_X12_part_16 : decode prog_14_method_38_code 16 = .ok (.getfield 368, 3) := gd_8 db00e_69
theorem d_X12_part_19 : decode prog_14_method_38_code 19 = .ok (.iconst (-1), 1) := gd_9 db00e_69
theorem d_X12_part_20 : decode prog_14_method_38_code 20 = .ok (.if_icmp .ne 35, 3) := gd_10 db00e_69
theorem d_X12_part_23 : decode prog_14_method_38_code 23 = .ok (.aload_n 0, 1) := gd_11 db00e_69
theorem d_X12_part_24 : decode prog_14_method_38_code 24 = .ok (.invokevirtual 374, 3) := gd_12 db00e_69
theorem d_X12_part_27 : decode prog_14_method_38_code 27 = .ok (.bipush 38, 2) := gd_13 db00e_69
theorem d_X12_part_29 : decode prog_14_method_38_code 29 = .ok (.if_icmp .ne 26, 3) := gd_14 db00e_69
theorem d_X12_part_32 : decode prog_14_method_38_code 32 = .ok (.aload_n 0, 1) := gd_15 db00e_69
theorem d_X12_part_33 : decode prog_14_method_38_code 33 = .ok (.dup, 1) := gd_16 db00e_69
theorem d_X12_part_34 : decode prog_14_method_38_code 34 = .ok (.getfield 365, 3) := gd_17 db00e_69
theorem d_X12_part_37 : decode prog_14_method_38_code 37 = .ok (.iconst 1, 1) := gd_18 db00e_69
theorem d_X12_part_38 : decode prog_14_method_38_code 38 = .ok (.iadd, 1) := gd_19 db00e_69
theorem d_X12_part_39 : decode prog_14_method_38_code 39 = .ok (.putfield 365, 3) := gd_20 db00e_69
theorem d_X12_part_42 : decode prog_14_method_38_code 42 = .ok (.aload_n 0, 1) := gd_21 db00e_69
theorem d_X12_part_43 : decode prog_14_method_38_code 43 = .ok (.invokevirtual 449, 3) := gd_22 db00e_69
theorem d_X12_part_46 : decode prog_14_method_38_code 46 = .ok (.aload_n 0, 1) := gd_23 db00e_69
theorem db00e_70 : Ad_ prog_14_method_38_code [(47, .bipush 38, 2), (49, .invokevirtual 390, 3), (52, .goto (-37), 3), (55, .return_, 1)] := bch_ok prog_14_method_38_code _ 47 (by decide +kernel)
theorem d_X12_part_47 : decode prog_14_method_38_code 47 = .ok (.bipush 38, 2) := gd_0 db00e_70
theorem d_X12_part_49 : decode prog_14_method_38_code 49 = .ok (.invokevirtual 390, 3) := gd_1 db00e_70
theorem d_X12_part_52 : decode prog_14_method_38_code 52 = .ok (.goto (-37), 3) := gd_2 db00e_70
theorem d_X12_part_55 : decode prog_14_method_38_code 55 = .ok (.return_, 1) := gd_3 db00e_70
theorem db00e_71 : Ad_ prog_14_method_39_code [(0, .aload_n 0, 1), (1, .iload_n 1, 1), (2, .invokevirtual 459, 3), (5, .aload_n 0, 1), (6, .getfield 368, 3), (9, .iconst (-1), 1), (10, .if_icmp .ne 36, 3), (13, .aload_n 0, 1), (14, .invokevirtual 374, 3), (17, .bipush 124, 2), (19, .if_icmp .ne 27, 3), (22, .aload_n 0, 1), (23, .dup, 1), (24, .getfield 365, 3), (27, .iconst 1, 1), (28, .iadd, 1), (29, .putfield 365, 3), (32, .aload_n 0, 1), (33, .iconst 0, 1), (34, .invokevirtual 459, 3), (37, .aload_n 0, 1), (38, .bipush 124, 2), (40, .invokevirtual 390, 3), (43, .goto (-38), 3)] := bch_ok prog_14_method_39_code _ 0 (by decide +kernel)
theorem d_X12_condition_0 : decode prog_14_method_39_code 0 = .ok (.aload_n 0, 1) := gd_0 db00e_71
theorem d_X12_condition_1 : decode prog_14_method_39_code 1 = .ok (.iload_n 1, 1) := gd_1 db00e_71
theorem d_X12_condition_2 : decode prog_14_method_39_code 2 = .ok (.invokevirtual 459, 3) := gd_2 db00e_71
theorem d_X12_condition_5 : decode prog_14_method_39_code 5 = .ok (.aload_n 0, 1) := gd_3 db00e_71
theorem d_X12_condition_6 : decode prog_14_method_39_code 6 = .ok (.getfield 368, 3) := gd_4 db00e_71
theorem d_X12_condition_9 : decode prog_14_method_39_code 9 = .ok (.iconst (-1), 1) := gd_5 db00e_71
theorem d_X12_condition_10 : decode prog_14_method_39_code 10 = .ok (.if_icmp .ne 36, 3) := gd_6 db00e_71
theorem d_X12_condition_13 : decode prog_14_method_39_code 13 = .ok (.aload_n 0, 1) := gd_7 db00e_71
theorem d_X12_condition_14 : decode prog_14_method_39_code 14 = .ok (.invokevirtual 374, 3) := gd_8 db00e_71
theorem d_X12_condition_17 : decode prog_14_method_39_code 17 = .ok (.bipush 124, 2) := gd_9 db00e_71
theorem d_X12_condition_19 : decode prog_14_method_39_code 19 = .ok (.if_icmp .ne 27, 3) := gd_10 db00e_71
theorem d_X12_condition_22 : decode prog_14_method_39_code 22 = .ok (.aload_n 0, 1) := gd_11 db00e_71
theorem d_X12_condition_23 : decode prog_14_method_39_code 23 = .ok (.dup, 1) := gd_12 db00e_71
theorem d_X12_condition_24 : decode prog_14_method_39_code 24 = .ok (.getfield 365, 3) := gd_13 db00e_71
theorem d_X12_condition_27 : decode prog_14_method_39_code 27 = .ok (.iconst 1, 1) := gd_14 db00e_71
theorem d_X12_condition_28 : decode prog_14_method_39_code 28 = .ok (.iadd, 1) := gd_15 db00e_71
theorem d_X12_condition_29 : decode prog_14_method_39_code 29 = .ok (.putfield 365, 3) := gd_16 db00e_71
theorem d_X12_condition_32 : decode prog_14_method_39_code 32 = .ok (.aload_n 0, 1) := gd_17 db00e_71
theorem d_X12_condition_33 : decode prog_14_method_39_code 33 = .ok (.iconst 0, 1) := gd_18 db00e_71
theorem d_X12_condition_34 : decode prog_14_method_39_code 34 = .ok (.invokevirtual 459, 3) := gd_19 db00e_71
theorem d_X12_condition_37 : decode prog_14_method_39_code 37 = .ok (.aload_n 0, 1) := gd_20 db00e_71
theorem d_X12_condition_38 : decode prog_14_method_39_code 38 = .ok (.bipush 124, 2) := gd_21 db00e_71
theorem d_X12_condition_40 : decode prog_14_method_39_code 40 = .ok (.invokevirtual 390, 3) := gd_22 db00e_71
theorem d_X12_condition_43 : decode prog_14_method_39_code 43 = .ok (.goto (-38), 3) := gd_23 db00e_71
theorem d_X12_condition_46 : decode prog_14_method_39_code 46 = .ok (.return_, 1) := by decide +kernel
theorem db00e_72 : Ad_ prog_14_method_40_code [(0, .aload_n 0, 1), (1, .getfield 368, 3), (4, .iconst (-1), 1), (5, .if_icmp .ne 16, 3), (8, .aload_n 0, 1), (9, .invokevirtual 374, 3), (12, .bipush 63, 2), (14, .if_icmp .eq 7, 3), (17, .aload_n 0, 1), (18, .invokevirtual 381, 3), (21, .aload_n 0, 1), (22, .dup, 1), (23, .getfield 365, 3), (26, .iconst 1, 1), (27, .iadd, 1), (28, .putfield 365, 3), (31, .aload_n 0, 1), (32, .iconst 2, 1), (33, .invokevirtual 390, 3), (36, .return_, 1)] := bch_ok prog_14_method_40_code _ 0 (by decide +kernel)
theorem d_X12_ask_0 : decode prog_14_method_40_code 0 = .ok (.aload_n 0, 1) := gd_0 db00e_72
theorem d_X12_ask_1 : decode prog_14_method_40_code 1 = .ok (.getfield 368, 3) := gd_1 db00e_72
theorem d_X12_ask_4 : decode prog_14_method_40_code 4 = .ok (.iconst (-1), 1) := gd_2 db00e_72
theorem d_X12_ask_5 : decode prog_14_method_40_code 5 = .ok (.if_icmp .ne 16, 3) := gd_3 db00e_72
theorem d_X12_ask_8 : decode prog_14_method_40_code 8 = .ok (.aload_n 0, 1) := gd_4 db00e_72
theorem d_X12_ask_9 : decode prog_14_method_40_code 9 = .ok (.invokevirtual 374, 3) := gd_5 db00e_72
theorem d_X12_ask_12 : decode prog_14_method_40_code 12 = .ok (.bipush 63, 2) := gd_6 db00e_72
theorem d_X12_ask_14 : decode prog_14_method_40_code 14 = .ok (.if_icmp .eq 7, 3) := gd_7 db00e_72
theorem d_X12_ask_17 : decode prog_14_method_40_code 17 = .ok (.aload_n 0, 1) := gd_8 db00e_72
theorem d_X12_ask_18 : decode prog_14_method_40_code 18 = .ok (.invokevirtual 381, 3) := gd_9 db00e_72
theorem d_X12_ask_21 : decode prog_14_method_40_code 21 = .ok (.aload_n 0, 1) := gd_10 db00e_72
theorem d_X12_ask_22 : decode prog_14_method_40_code 22 = .ok (.dup, 1) := gd_11 db00e_72
theorem d_X12_ask_23 : decode prog_14_method_40_code 23 = .ok (.getfield 365, 3) := gd_12 db00e_72
theorem d_X12_ask_26 : decode prog_14_method_40_code 26 = .ok (.iconst 1, 1) := gd_13 db00e_72
theorem d_X12_ask_27 : decode prog_14_method_40_code 27 = .ok (.iadd, 1) := gd_14 db00e_72
theorem d_X12_ask_28 : decode prog_14_method_40_code 28 = .ok (.putfield 365, 3) := gd_15 db00e_72
theorem d_X12_ask_31 : decode prog_14_method_40_code 31 = .ok (.aload_n 0, 1) := gd_16 db00e_72
theorem d_X12_ask_32 : decode prog_14_method_40_code 32 = .ok (.iconst 2, 1) := gd_17 db00e_72
theorem d_X12_ask_33 : decode prog_14_method_40_code 33 = .ok (.invokevirtual 390, 3) := gd_18 db00e_72
theorem d_X12_ask_36 : decode prog_14_method_40_code 36 = .ok (.return_, 1) := gd_19 db00e_72
theorem db00e_73 : Ad_ prog_14_method_41_code [(0, .aload_n 0, 1), (1, .invokevirtual 374, 3), (4, .istore_n 1, 1), (5, .aload_n 0, 1), (6, .getfield 433, 3), (9, .iconst 1, 1), (10, .if_icmp .ne 111, 3), (13, .aload_n 0, 1), (14, .iconst 0, 1), (15, .invokevirtual 452, 3), (18, .aload_n 0, 1), (19, .invokevirtual 462, 3), (22, .aload_n 0, 1), (23, .getfield 368, 3), (26, .iconst (-1), 1), (27, .if_icmp .eq 4, 3), (30, .return_, 1), (31, .aload_n 0, 1), (32, .invokevirtual 374, 3), (35, .istore_n 2, 1), (36, .iload_n 2, 1), (37, .bipush 120, 2), (39, .if_icmp .eq 26, 3), (42, .iload_n 2, 1)] := bch_ok prog_14_method_41_code _ 0 (by decide +kernel)
theorem d_X12_clause_0 : decode prog_14_method_41_code 0 = .ok (.aload_n 0, 1) := gd_0 db00e_73
theorem d_X12_clause_1 : decode prog_14_method_41_code 1 = .ok (.invokevirtual 374, 3) := gd_1 db00e_73
theorem d_X12_clause_4 : decode prog_14_method_41_code 4 = .ok (.istore_n 1, 1) := gd_2 db00e_73
theorem d_X12_clause_5 : decode prog_14_method_41_code 5 = .ok (.aload_n 0, 1) := gd_3 db00e_73
theorem d_X12_clause_6 : decode prog_14_method_41_code 6 = .ok (.getfield 433, 3) := gd_4 db00e_73
theorem d_X12_clause_9 : decode prog_14_method_41_code 9 = .ok (.iconst 1, 1) := gd_5 db00e_73
theorem d_X12_clause_10 : decode prog_14_method_41_code 10 = .ok (.if_icmp .ne 111, 3) := gd_6 db00e_73
theorem d_X12_clause_13 : decode prog_14_method_41_code 13 = .ok (.aload_n 0, 1) := gd_7 db00e_73
theorem d_X12_clause_14 : decode prog_14_method_41_code 14 = .ok (.iconst 0, 1) := gd_8 db00e_73
theorem d_X12_clause_15 : decode prog_14_method_41_code 15 = .ok (.invokevirtual 452, 3) := gd_9 db00e_73
theorem d_X12_clause_18 : decode prog_14_method_41_code 18 = .ok (.aload_n 0, 1) := gd_10 db00e_73
theorem d_X12_clause_19 : decode prog_14_method_41_code 19 = .ok (.invokevirtual 462, 3) := gd_11 db00e_73
theorem d_X12_clause_22 : decode prog_14_method_41_code 22 = .ok (.aload_n 0, 1) := gd_12 db00e_73
theorem d_X12_clause_23 : decode prog_14_method_41_code 23 = .ok (.getfield 368, 3) := gd_13 db00e_73
theorem d_X12_clause_26 : decode prog_14_method_41_code 26 = .ok (.iconst (-1), 1) := gd_14 db00e_73
theorem d_X12_clause_27 : decode prog_14_method_41_code 27 = .ok (.if_icmp .eq 4, 3) := gd_15 db00e_73
theorem d_X12_clause_30 : decode prog_14_method_41_code 30 = .ok (.return_, 1) := gd_16 db00e_73
theorem d_X12_clause_31 : decode prog_14_method_41_code 31 = .ok (.aload_n 0, 1) := gd_17 db00e_73
theorem d_X12_clause_32 : decode prog_14_method_41_code 32 = .ok (.invokevirtual 374, 3) := gd_18 db00e_73
theorem d_X12_clause_35 : decode prog_14_method_41_code 35 = .ok (.istore_n 2, 1) := gd_19 db00e_73
theorem d_X12_clause_36 : decode prog_14_method_41_code 36 = .ok (.iload_n 2, 1) := gd_20 db00e_73
theorem d_X12_clause_37 : decode prog_14_method_41_code 37 = .ok (.bipush 120, 2) := gd_21 db00e_73
theorem d_X12_clause_39 : decode prog_14_method_41_code 39 = .ok (.if_icmp .eq 26, 3) := gd_22 db00e_73
theorem d_X12_clause_42 : decode prog_14_method_41_code 42 = .ok (.iload_n 2, 1) := gd_23 db00e_73
theorem db00e_74 : Ad_ prog_14_method_41_code [(43, .bipush 110, 2), (45, .if_icmp .eq 20, 3), (48, .iload_n 2, 1), (49, .bipush 114, 2), (51, .if_icmp .eq 14, 3), (54, .iload_n 2, 1), (55, .bipush 116, 2), (57, .if_icmp .eq 8, 3), (60, .aload_n 0, 1), (61, .invokevirtual 381, 3), (64, .return_, 1), (65, .aload_n 0, 1), (66, .dup, 1), (67, .getfield 365, 3), (70, .iconst 1, 1), (71, .iadd, 1), (72, .putfield 365, 3), (75, .aload_n 0, 1), (76, .iconst 0, 1), (77, .invokevirtual 390, 3), (80, .aload_n 0, 1), (81, .iload_n 2, 1), (82, .bipush 120, 2), (84, .if_icmp .ne 7, 3)] := bch_ok prog_14_method_41_code _ 43 (by decide +kernel)
theorem d_X12_clause_43 : decode prog_14_method_41_code 43 = .ok (.bipush 110, 2) := gd_0 db00e_74
theorem d_X12_clause_45 : decode prog_14_method_41_code 45 = .ok (.if_icmp .eq 20, 3) := gd_1 db00e_74
theorem d_X12_clause_48 : decode prog_14_method_41_code 48 = .ok (.iload_n 2, 1) := gd_2 db00e_74
theorem d_X12_clause_49 : decode prog_14_method_41_code 49 = .ok (.bipush 114, 2) := gd_3 db00e_74
theorem d_X12_clause_51 : decode prog_14_method_41_code 51 = .ok (.if_icmp .eq 14, 3) := gd_4 db00e_74
theorem d_X12_clause_54 : decode prog_14_method_41_code 54 = .ok (.iload_n 2, 1) := gd_5 db00e_74
theorem d_X12_clause_55 : decode prog_14_method_41_code 55 = .ok (.bipush 116, 2) := gd_6 db00e_74
theorem d_X12_clause_57 : decode prog_14_method_41_code 57 = .ok (.if_icmp .eq 8, 3) := gd_7 db00e_74
theorem d_X12_clause_60 : decode prog_14_method_41_code 60 = .ok (.aload_n 0, 1) := gd_8 db00e_74
theorem d_X12_clause_61 : decode prog_14_method_41_code 61 = .ok (.invokevirtual 381, 3) := gd_9 db00e_74
theorem d_X12_clause_64 : decode prog_14_method_41_code 64 = .ok (.return_, 1) := gd_10 db00e_74
theorem d_X12_clause_65 : decode prog_14_method_41_code 65 = .ok (.aload_n 0, 1) := gd_11 db00e_74
theorem d_X12_clause_66 : decode prog_14_method_41_code 66 = .ok (.dup, 1) := gd_12 db00e_74
theorem d_X12_clause_67 : decode prog_14_method_41_code 67 = .ok (.getfield 365, 3) := gd_13 db00e_74
theorem d_X12_clause_70 : decode prog_14_method_41_code 70 = .ok (.iconst 1, 1) := gd_14 db00e_74
theorem d_X12_clause_71 : decode prog_14_method_41_code 71 = .ok (.iadd, 1) := gd_15 db00e_74
theorem d_X12_clause_72 : decode prog_14_method_41_code 72 = .ok (.putfield 365, 3) := gd_16 db00e_74
theorem d_X12_clause_75 : decode prog_14_method_41_code 75 = .ok (.aload_n 0, 1) := gd_17 db00e_74
theorem d_X12_clause_76 : decode prog_14_method_41_code 76 = .ok (.iconst 0, 1) := gd_18 db00e_74
theorem d_X12_clause_77 : decode prog_14_method_41_code 77 = .ok (.invokevirtual 390, 3) := gd_19 db00e_74
theorem d_X12_clause_80 : decode prog_14_method_41_code 80 = .ok (.aload_n 0, 1) := gd_20 db00e_74
theorem d_X12_clause_81 : decode prog_14_method_41_code 81 = .ok (.iload_n 2, 1) := gd_21 db00e_74
theorem d_X12_clause_82 : decode prog_14_method_41_code 82 = .ok (.bipush 120, 2) := gd_22 db00e_74
theorem d_X12_clause_84 : decode prog_14_method_41_code 84 = .ok (.if_icmp .ne 7, 3) := gd_23 db00e_74
theorem db00e_75 : Ad_ prog_14_method_41_code [(87, .iconst 0, 1), (88, .goto 24, 3), (91, .iload_n 2, 1), (92, .bipush 110, 2), (94, .if_icmp .ne 7, 3), (97, .iconst 1, 1), (98, .goto 14, 3), (101, .iload_n 2, 1), (102, .bipush 114, 2), (104, .if_icmp .ne 7, 3), (107, .iconst 2, 1), (108, .goto 4, 3), (111, .iconst 3, 1), (112, .invokevirtual 390, 3), (115, .aload_n 0, 1), (116, .iconst 3, 1), (117, .invokevirtual 390, 3), (120, .return_, 1), (121, .iload_n 1, 1), (122, .bipush 33, 2), (124, .if_icmp .eq 13, 3), (127, .iload_n 1, 1), (128, .bipush 40, 2), (130, .if_icmp .eq 7, 3)] := bch_ok prog_14_method_41_code _ 87 (by decide +kernel)
theorem d_X12_clause_87 : decode prog_14_method_41_code 87 = .ok (.iconst 0, 1) := gd_0 db00e_75
theorem d_X12_clause_88 : decode prog_14_method_41_code 88 = .ok (.goto 24, 3) := gd_1 db00e_75
theorem d_X12_clause_91 : decode prog_14_method_41_code 91 = .ok (.iload_n 2, 1) := gd_2 db00e_75
theorem d_X12_clause_92 : decode prog_14_method_41_code 92 = .ok (.bipush 110, 2) := gd_3 db00e_75
theorem d_X12_clause_94 : decode prog_14_method_41_code 94 = .ok (.if_icmp .ne 7, 3) := gd_4 db00e_75
theorem d_X12_clause_97 : decode prog_14_method_41_code 97 = .ok (.iconst 1, 1) := gd_5 db00e_75
theorem d_X12_clause_98 : decode prog_14_method_41_code 98 = .ok (.goto 14, 3) := gd_6 db00e_75
theorem d_X12_clause_101 : decode prog_14_method_41_code 101 = .ok (.iload_n 2, 1) := gd_7 db00e_75
theorem d_X12_clause_102 : decode prog_14_method_41_code 102 = .ok (.bipush 114, 2) := gd_8 db00e_75
theorem d_X12_clause_104 : decode prog_14_method_41_code 104 = .ok (.if_icmp .ne 7, 3) := gd_9 db00e_75
theorem d_X12_clause_107 : decode prog_14_method_41_code 107 = .ok (.iconst 2, 1) := gd_10 db00e_75
theorem d_X12_clause_108 : decode prog_14_method_41_code 108 = .ok (.goto 4, 3) := gd_11 db00e_75
theorem d_X12_clause_111 : decode prog_14_method_41_code 111 = .ok (.iconst 3, 1) := gd_12 db00e_75
theorem d_X12_clause_112 : decode prog_14_method_41_code 112 = .ok (.invokevirtual 390, 3) := gd_13 db00e_75
theorem d_X12_clause_115 : decode prog_14_method_41_code 115 = .ok (.aload_n 0, 1) := gd_14 db00e_75
theorem d_X12_clause_116 : decode prog_14_method_41_code 116 = .ok (.iconst 3, 1) := gd_15 db00e_75
theorem d_X12_clause_117 : decode prog_14_method_41_code 117 = .ok (.invokevirtual 390, 3) := gd_16 db00e_75
theorem d_X12_clause_120 : decode prog_14_method_41_code 120 = .ok (.return_, 1) := gd_17 db00e_75
theorem d_X12_clause_121 : decode prog_14_method_41_code 121 = .ok (.iload_n 1, 1) := gd_18 db00e_75
theorem d_X12_clause_122 : decode prog_14_method_41_code 122 = .ok (.bipush 33, 2) := gd_19 db00e_75
theorem d_X12_clause_124 : decode prog_14_method_41_code 124 = .ok (.if_icmp .eq 13, 3) := gd_20 db00e_75
theorem d_X12_clause_127 : decode prog_14_method_41_code 127 = .ok (.iload_n 1, 1) := gd_21 db00e_75
theorem d_X12_clause_128 : decode prog_14_method_41_code 128 = .ok (.bipush 40, 2) := gd_22 db00e_75
theorem d_X12_clause_130 : decode prog_14_method_41_code 130 = .ok (.if_icmp .eq 7, 3) := gd_23 db00e_75
theorem db00e_76 : Ad_ prog_14_method_41_code [(133, .iconst 1, 1), (134, .goto 4, 3), (137, .iconst 0, 1), (138, .istore_n 2, 1), (139, .iload_n 2, 1), (140, .ifCond .eq 108, 3), (143, .aload_n 0, 1), (144, .getfield 371, 3), (147, .istore_n 3, 1), (148, .aload_n 0, 1), (149, .invokevirtual 427, 3), (152, .aload_n 0, 1), (153, .getfield 368, 3), (156, .iconst (-1), 1), (157, .if_icmp .eq 4, 3), (160, .return_, 1), (161, .aload_n 0, 1), (162, .invokevirtual 374, 3), (165, .invokestatic 446, 3), (168, .ifCond .ne 80, 3), (171, .aload_n 0, 1), (172, .getfield 371, 3), (175, .iconst 1, 1), (176, .isub, 1)] := bch_ok prog_14_method_41_code _ 133 (by decide +kernel)
theorem d_X12_clause_133 : decode prog_14_method_41_code 133 = .ok (.iconst 1, 1) := gd_0 db00e_76
theorem d_X12_clause_134 : decode prog_14_method_41_code 134 = .ok (.goto 4, 3) := gd_1 db00e_76
theorem d_X12_clause_137 : decode prog_14_method_41_code 137 = .ok (.iconst 0, 1) := gd_2 db00e_76
theorem d_X12_clause_138 : decode prog_14_method_41_code 138 = .ok (.istore_n 2, 1) := gd_3 db00e_76
theorem d_X12_clause_139 : decode prog_14_method_41_code 139 = .ok (.iload_n 2, 1) := gd_4 db00e_76
theorem d_X12_clause_140 : decode prog_14_method_41_code 140 = .ok (.ifCond .eq 108, 3) := gd_5 db00e_76
theorem d_X12_clause_143 : decode prog_14_method_41_code 143 = .ok (.aload_n 0, 1) := gd_6 db00e_76
theorem d_X12_clause_144 : decode prog_14_method_41_code 144 = .ok (.getfield 371, 3) := gd_7 db00e_76
theorem d_X12_clause_147 : decode prog_14_method_41_code 147 = .ok (.istore_n 3, 1) := gd_8 db00e_76
theorem d_X12_clause_148 : decode prog_14_method_41_code 148 = .ok (.aload_n 0, 1) := gd_9 db00e_76
theorem d_X12_clause_149 : decode prog_14_method_41_code 149 = .ok (.invokevirtual 427, 3) := gd_10 db00e_76
theorem d_X12_clause_152 : decode prog_14_method_41_code 152 = .ok (.aload_n 0, 1) := gd_11 db00e_76
theorem d_X12_clause_153 : decode prog_14_method_41_code 153 = .ok (.getfield 368, 3) := gd_12 db00e_76
theorem d_X12_clause_156 : decode prog_14_method_41_code 156 = .ok (.iconst (-1), 1) := gd_13 db00e_76
theorem d_X12_clause_157 : decode prog_14_method_41_code 157 = .ok (.if_icmp .eq 4, 3) := gd_14 db00e_76
theorem d_X12_clause_160 : decode prog_14_method_41_code 160 = .ok (.return_, 1) := gd_15 db00e_76
theorem d_X12_clause_161 : decode prog_14_method_41_code 161 = .ok (.aload_n 0, 1) := gd_16 db00e_76
theorem d_X12_clause_162 : decode prog_14_method_41_code 162 = .ok (.invokevirtual 374, 3) := gd_17 db00e_76
theorem d_X12_clause_165 : decode prog_14_method_41_code 165 = .ok (.invokestatic 446, 3) := gd_18 db00e_76
theorem d_X12_clause_168 : decode prog_14_method_41_code 168 = .ok (.ifCond .ne 80, 3) := gd_19 db00e_76
theorem d_X12_clause_171 : decode prog_14_method_41_code 171 = .ok (.aload_n 0, 1) := gd_20 db00e_76
theorem d_X12_clause_172 : decode prog_14_method_41_code 172 = .ok (.getfield 371, 3) := gd_21 db00e_76
theorem d_X12_clause_175 : decode prog_14_method_41_code 175 = .ok (.iconst 1, 1) := gd_22 db00e_76
theorem d_X12_clause_176 : decode prog_14_method_41_code 176 = .ok (.isub, 1) := gd_23 db00e_76
theorem db00e_77 : Ad_ prog_14_method_41_code [(177, .istore 4, 2), (179, .iload 4, 2), (181, .iload_n 3, 1), (182, .if_icmp .lt 25, 3), (185, .aload_n 0, 1), (186, .getfield 90, 3), (189, .iload 4, 2), (191, .iconst 3, 1), (192, .iadd, 1), (193, .aload_n 0, 1), (194, .getfield 90, 3), (197, .iload 4, 2), (199, .iaload, 1), (200, .iastore, 1), (201, .iinc 4 (-1), 3), (204, .goto (-25), 3), (207, .aload_n 0, 1), (208, .getfield 90, 3), (211, .iload_n 3, 1), (212, .iconst 0, 1), (213, .iastore, 1), (214, .aload_n 0, 1), (215, .getfield 90, 3), (218, .iload_n 3, 1)] := bch_ok prog_14_method_41_code _ 177 (by decide +kernel)
theorem d_X12_clause_177 : decode prog_14_method_41_code 177 = .ok (.istore 4, 2) := gd_0 db00e_77
theorem d_X12_clause_179 : decode prog_14_method_41_code 179 = .ok (.iload 4, 2) := gd_1 db00e_77
theorem d_X12_clause_181 : decode prog_14_method_41_code 181 = .ok (.iload_n 3, 1) := gd_2 db00e_77
theorem d_X12_clause_182 : decode prog_14_method_41_code 182 = .ok (.if_icmp .lt 25, 3) := gd_3 db00e_77
theorem d_X12_clause_185 : decode prog_14_method_41_code 185 = .ok (.aload_n 0, 1) := gd_4 db00e_77
theorem d_X12_clause_186 : decode prog_14_method_41_code 186 = .ok (.getfield 90, 3) := gd_5 db00e_77
theorem d_X12_clause_189 : decode prog_14_method_41_code 189 = .ok (.iload 4, 2) := gd_6 db00e_77
theorem d_X12_clause_191 : decode prog_14_method_41_code 191 = .ok (.iconst 3, 1) := gd_7 db00e_77
theorem d_X12_clause_192 : decode prog_14_method_41_code 192 = .ok (.iadd, 1) := gd_8 db00e_77
theorem d_X12_clause_193 : decode prog_14_method_41_code 193 = .ok (.aload_n 0, 1) := gd_9 db00e_77
theorem d_X12_clause_194 : decode prog_14_method_41_code 194 = .ok (.getfield 90, 3) := gd_10 db00e_77
theorem d_X12_clause_197 : decode prog_14_method_41_code 197 = .ok (.iload 4, 2) := gd_11 db00e_77
theorem d_X12_clause_199 : decode prog_14_method_41_code 199 = .ok (.iaload, 1) := gd_12 db00e_77
theorem d_X12_clause_200 : decode prog_14_method_41_code 200 = .ok (.iastore, 1) := gd_13 db00e_77
theorem d_X12_clause_201 : decode prog_14_method_41_code 201 = .ok (.iinc 4 (-1), 3) := gd_14 db00e_77
theorem d_X12_clause_204 : decode prog_14_method_41_code 204 = .ok (.goto (-25), 3) := gd_15 db00e_77
theorem d_X12_clause_207 : decode prog_14_method_41_code 207 = .ok (.aload_n 0, 1) := gd_16 db00e_77
theorem d_X12_clause_208 : decode prog_14_method_41_code 208 = .ok (.getfield 90, 3) := gd_17 db00e_77
theorem d_X12_clause_211 : decode prog_14_method_41_code 211 = .ok (.iload_n 3, 1) := gd_18 db00e_77
theorem d_X12_clause_212 : decode prog_14_method_41_code 212 = .ok (.iconst 0, 1) := gd_19 db00e_77
theorem d_X12_clause_213 : decode prog_14_method_41_code 213 = .ok (.iastore, 1) := gd_20 db00e_77
theorem d_X12_clause_214 : decode prog_14_method_41_code 214 = .ok (.aload_n 0, 1) := gd_21 db00e_77
theorem d_X12_clause_215 : decode prog_14_method_41_code 215 = .ok (.getfield 90, 3) := gd_22 db00e_77
theorem d_X12_clause_218 : decode prog_14_method_41_code 218 = .ok (.iload_n 3, 1) := gd_23 db00e_77
theorem db00e_78 : Ad_ prog_14_method_41_code [(219, .iconst 1, 1), (220, .iadd, 1), (221, .iconst 1, 1), (222, .iastore, 1), (223, .aload_n 0, 1), (224, .getfield 90, 3), (227, .iload_n 3, 1), (228, .iconst 2, 1), (229, .iadd, 1), (230, .iconst 2, 1), (231, .iastore, 1), (232, .aload_n 0, 1), (233, .dup, 1), (234, .getfield 371, 3), (237, .iconst 3, 1), (238, .iadd, 1), (239, .putfield 371, 3), (242, .aload_n 0, 1), (243, .iconst 3, 1), (244, .invokevirtual 390, 3), (247, .return_, 1), (248, .aload_n 0, 1), (249, .iload_n 2, 1), (250, .invokevirtual 452, 3)] := bch_ok prog_14_method_41_code _ 219 (by decide +kernel)
theorem d_X12_clause_219 : decode prog_14_method_41_code 219 = .ok (.iconst 1, 1) := gd_0 db00e_78
theorem d_X12_clause_220 : decode prog_14_method_41_code 220 = .ok (.iadd, 1) := gd_1 db00e_78
theorem d_X12_clause_221 : decode prog_14_method_41_code 221 = .ok (.iconst 1, 1) := gd_2 db00e_78
theorem d_X12_clause_222 : decode prog_14_method_41_code 222 = .ok (.iastore, 1) := gd_3 db00e_78
theorem d_X12_clause_223 : decode prog_14_method_41_code 223 = .ok (.aload_n 0, 1) := gd_4 db00e_78
theorem d_X12_clause_224 : decode prog_14_method_41_code 224 = .ok (.getfield 90, 3) := gd_5 db00e_78
theorem d_X12_clause_227 : decode prog_14_method_41_code 227 = .ok (.iload_n 3, 1) := gd_6 db00e_78
theorem d_X12_clause_228 : decode prog_14_method_41_code 228 = .ok (.iconst 2, 1) := gd_7 db00e_78
theorem d_X12_clause_229 : decode prog_14_method_41_code 229 = .ok (.iadd, 1) := gd_8 db00e_78
theorem d_X12_clause_230 : decode prog_14_method_41_code 230 = .ok (.iconst 2, 1) := gd_9 db00e_78
theorem d_X12_clause_231 : decode prog_14_method_41_code 231 = .ok (.iastore, 1) := gd_10 db00e_78
theorem d_X12_clause_232 : decode prog_14_method_41_code 232 = .ok (.aload_n 0, 1) := gd_11 db00e_78
theorem d_X12_clause_233 : decode prog_14_method_41_code 233 = .ok (.dup, 1) := gd_12 db00e_78
theorem d_X12_clause_234 : decode prog_14_method_41_code 234 = .ok (.getfield 371, 3) := gd_13 db00e_78
theorem d_X12_clause_237 : decode prog_14_method_41_code 237 = .ok (.iconst 3, 1) := gd_14 db00e_78
theorem d_X12_clause_238 : decode prog_14_method_41_code 238 = .ok (.iadd, 1) := gd_15 db00e_78
theorem d_X12_clause_239 : decode prog_14_method_41_code 239 = .ok (.putfield 371, 3) := gd_16 db00e_78
theorem d_X12_clause_242 : decode prog_14_method_41_code 242 = .ok (.aload_n 0, 1) := gd_17 db00e_78
theorem d_X12_clause_243 : decode prog_14_method_41_code 243 = .ok (.iconst 3, 1) := gd_18 db00e_78
theorem d_X12_clause_244 : decode prog_14_method_41_code 244 = .ok (.invokevirtual 390, 3) := gd_19 db00e_78
theorem d_X12_clause_247 : decode prog_14_method_41_code 247 = .ok (.return_, 1) := gd_20 db00e_78
theorem d_X12_clause_248 : decode prog_14_method_41_code 248 = .ok (.aload_n 0, 1) := gd_21 db00e_78
theorem d_X12_clause_249 : decode prog_14_method_41_code 249 = .ok (.iload_n 2, 1) := gd_22 db00e_78
theorem d_X12_clause_250 : decode prog_14_method_41_code 250 = .ok (.invokevirtual 452, 3) := gd_23 db00e_78
theorem db00e_79 : Ad_ prog_14_method_41_code [(253, .aload_n 0, 1), (254, .invokevirtual 462, 3), (257, .aload_n 0, 1), (258, .getfield 368, 3), (261, .iconst (-1), 1), (262, .if_icmp .ne 12, 3), (265, .aload_n 0, 1), (266, .invokevirtual 427, 3), (269, .aload_n 0, 1), (270, .iconst 3, 1), (271, .invokevirtual 390, 3), (274, .return_, 1)] := bch_ok prog_14_method_41_code _ 253 (by decide +kernel)
theorem d_X12_clause_253 : decode prog_14_method_41_code 253 = .ok (.aload_n 0, 1) := gd_0 db00e_79
theorem d_X12_clause_254 : decode prog_14_method_41_code 254 = .ok (.invokevirtual 462, 3) := gd_1 db00e_79
theorem d_X12_clause_257 : decode prog_14_method_41_code 257 = .ok (.aload_n 0, 1) := gd_2 db00e_79
theorem d_X12_clause_258 : decode prog_14_method_41_code 258 = .ok (.getfield 368, 3) := gd_3 db00e_79
theorem d_X12_clause_261 : decode prog_14_method_41_code 261 = .ok (.iconst (-1), 1) := gd_4 db00e_79
theorem d_X12_clause_262 : decode prog_14_method_41_code 262 = .ok (.if_icmp .ne 12, 3) := gd_5 db00e_79
theorem d_X12_clause_265 : decode prog_14_method_41_code 265 = .ok (.aload_n 0, 1) := gd_6 db00e_79
theorem d_X12_clause_266 : decode prog_14_method_41_code 266 = .ok (.invokevirtual 427, 3) := gd_7 db00e_79
theorem d_X12_clause_269 : decode prog_14_method_41_code 269 = .ok (.aload_n 0, 1) := gd_8 db00e_79
theorem d_X12_clause_270 : decode prog_14_method_41_code 270 = .ok (.iconst 3, 1) := gd_9 db00e_79
theorem d_X12_clause_271 : decode prog_14_method_41_code 271 = .ok (.invokevirtual 390, 3) := gd_10 db00e_79
theorem d_X12_clause_274 : decode prog_14_method_41_code 274 = .ok (.return_, 1) := gd_11 db00e_79
theorem db00e_80 : Ad_ prog_14_method_42_code [(0, .iload_n 1, 1), (1, .iconst 0, 1), (2, .iconst 2, 1), (3, .invokestatic 323, 3), (6, .ifCond .ne 6, 3), (9, .bipush (-2), 2), (11, .ireturn, 1), (12, .aload_n 0, 1), (13, .iload_n 1, 1), (14, .putfield 433, 3), (17, .aload_n 0, 1), (18, .iconst 0, 1), (19, .putfield 365, 3), (22, .aload_n 0, 1), (23, .iconst (-1), 1), (24, .putfield 368, 3), (27, .aload_n 0, 1), (28, .iconst 0, 1), (29, .putfield 397, 3), (32, .aload_n 0, 1), (33, .iconst 0, 1), (34, .putfield 371, 3), (37, .iload_n 1, 1), (38, .ifCond .ne 10, 3)] := bch_ok prog_14_method_42_code _ 0 (by decide +kernel)
theorem d_X12_fault_0 : decode prog_14_method_42_code 0 = .ok (.iload_n 1, 1) := gd_0 db00e_80
theorem d_X12_fault_1 : decode prog_14_method_42_code 1 = .ok (.iconst 0, 1) := gd_1 db00e_80
theorem d_X12_fault_2 : decode prog_14_method_42_code 2 = .ok (.iconst 2, 1) := gd_2 db00e_80
theorem d_X12_fault_3 : decode prog_14_method_42_code 3 = .ok (.invokestatic 323, 3) := gd_3 db00e_80
theorem d_X12_fault_6 : decode prog_14_method_42_code 6 = .ok (.ifCond .ne 6, 3) := gd_4 db00e_80
theorem d_X12_fault_9 : decode prog_14_method_42_code 9 = .ok (.bipush (-2), 2) := gd_5 db00e_80
theorem d_X12_fault_11 : decode prog_14_method_42_code 11 = .ok (.ireturn, 1) := gd_6 db00e_80
theorem d_X12_fault_12 : decode prog_14_method_42_code 12 = .ok (.aload_n 0, 1) := gd_7 db00e_80
theorem d_X12_fault_13 : decode prog_14_method_42_code 13 = .ok (.iload_n 1, 1) := gd_8 db00e_80
theorem d_X12_fault_14 : decode prog_14_method_42_code 14 = .ok (.putfield 433, 3) := gd_9 db00e_80
theorem d_X12_fault_17 : decode prog_14_method_42_code 17 = .ok (.aload_n 0, 1) := gd_10 db00e_80
theorem d_X12_fault_18 : decode prog_14_method_42_code 18 = .ok (.iconst 0, 1) := gd_11 db00e_80
theorem d_X12_fault_19 : decode prog_14_method_42_code 19 = .ok (.putfield 365, 3) := gd_12 db00e_80
theorem d_X12_fault_22 : decode prog_14_method_42_code 22 = .ok (.aload_n 0, 1) := gd_13 db00e_80
theorem d_X12_fault_23 : decode prog_14_method_42_code 23 = .ok (.iconst (-1), 1) := gd_14 db00e_80
theorem d_X12_fault_24 : decode prog_14_method_42_code 24 = .ok (.putfield 368, 3) := gd_15 db00e_80
theorem d_X12_fault_27 : decode prog_14_method_42_code 27 = .ok (.aload_n 0, 1) := gd_16 db00e_80
theorem d_X12_fault_28 : decode prog_14_method_42_code 28 = .ok (.iconst 0, 1) := gd_17 db00e_80
theorem d_X12_fault_29 : decode prog_14_method_42_code 29 = .ok (.putfield 397, 3) := gd_18 db00e_80
theorem d_X12_fault_32 : decode prog_14_method_42_code 32 = .ok (.aload_n 0, 1) := gd_19 db00e_80
theorem d_X12_fault_33 : decode prog_14_method_42_code 33 = .ok (.iconst 0, 1) := gd_20 db00e_80
theorem d_X12_fault_34 : decode prog_14_method_42_code 34 = .ok (.putfield 371, 3) := gd_21 db00e_80
theorem d_X12_fault_37 : decode prog_14_method_42_code 37 = .ok (.iload_n 1, 1) := gd_22 db00e_80
theorem d_X12_fault_38 : decode prog_14_method_42_code 38 = .ok (.ifCond .ne 10, 3) := gd_23 db00e_80
theorem db00e_81 : Ad_ prog_14_method_42_code [(41, .aload_n 0, 1), (42, .invokevirtual 400, 3), (45, .goto 41, 3), (48, .aload_n 0, 1), (49, .invokevirtual 465, 3), (52, .aload_n 0, 1), (53, .getfield 368, 3), (56, .iconst (-1), 1), (57, .if_icmp .ne 29, 3), (60, .aload_n 0, 1), (61, .invokevirtual 374, 3), (64, .bipush 59, 2), (66, .if_icmp .ne 20, 3), (69, .aload_n 0, 1), (70, .dup, 1), (71, .getfield 365, 3), (74, .iconst 1, 1), (75, .iadd, 1), (76, .putfield 365, 3), (79, .aload_n 0, 1), (80, .invokevirtual 465, 3), (83, .goto (-31), 3), (86, .aload_n 0, 1), (87, .getfield 368, 3)] := bch_ok prog_14_method_42_code _ 41 (by decide +kernel)
theorem d_X12_fault_41 : decode prog_14_method_42_code 41 = .ok (.aload_n 0, 1) := gd_0 db00e_81
theorem d_X12_fault_42 : decode prog_14_method_42_code 42 = .ok (.invokevirtual 400, 3) := gd_1 db00e_81
theorem d_X12_fault_45 : decode prog_14_method_42_code 45 = .ok (.goto 41, 3) := gd_2 db00e_81
theorem d_X12_fault_48 : decode prog_14_method_42_code 48 = .ok (.aload_n 0, 1) := gd_3 db00e_81
theorem d_X12_fault_49 : decode prog_14_method_42_code 49 = .ok (.invokevirtual 465, 3) := gd_4 db00e_81
theorem d_X12_fault_52 : decode prog_14_method_42_code 52 = .ok (.aload_n 0, 1) := gd_5 db00e_81
theorem d_X12_fault_53 : decode prog_14_method_42_code 53 = .ok (.getfield 368, 3) := gd_6 db00e_81
theorem d_X12_fault_56 : decode prog_14_method_42_code 56 = .ok (.iconst (-1), 1) := gd_7 db00e_81
theorem d_X12_fault_57 : decode prog_14_method_42_code 57 = .ok (.if_icmp .ne 29, 3) := gd_8 db00e_81
theorem d_X12_fault_60 : decode prog_14_method_42_code 60 = .ok (.aload_n 0, 1) := gd_9 db00e_81
theorem d_X12_fault_61 : decode prog_14_method_42_code 61 = .ok (.invokevirtual 374, 3) := gd_10 db00e_81
theorem d_X12_fault_64 : decode prog_14_method_42_code 64 = .ok (.bipush 59, 2) := gd_11 db00e_81
theorem d_X12_fault_66 : decode prog_14_method_42_code 66 = .ok (.if_icmp .ne 20, 3) := gd_12 db00e_81
theorem d_X12_fault_69 : decode prog_14_method_42_code 69 = .ok (.aload_n 0, 1) := gd_13 db00e_81
theorem d_X12_fault_70 : decode prog_14_method_42_code 70 = .ok (.dup, 1) := gd_14 db00e_81
theorem d_X12_fault_71 : decode prog_14_method_42_code 71 = .ok (.getfield 365, 3) := gd_15 db00e_81
theorem d_X12_fault_74 : decode prog_14_method_42_code 74 = .ok (.iconst 1, 1) := gd_16 db00e_81
theorem d_X12_fault_75 : decode prog_14_method_42_code 75 = .ok (.iadd, 1) := gd_17 db00e_81
theorem d_X12_fault_76 : decode prog_14_method_42_code 76 = .ok (.putfield 365, 3) := gd_18 db00e_81
theorem d_X12_fault_79 : decode prog_14_method_42_code 79 = .ok (.aload_n 0, 1) := gd_19 db00e_81
theorem d_X12_fault_80 : decode prog_14_method_42_code 80 = .ok (.invokevirtual 465, 3) := gd_20 db00e_81
theorem d_X12_fault_83 : decode prog_14_method_42_code 83 = .ok (.goto (-31), 3) := gd_21 db00e_81
theorem d_X12_fault_86 : decode prog_14_method_42_code 86 = .ok (.aload_n 0, 1) := gd_22 db00e_81
theorem d_X12_fault_87 : decode prog_14_method_42_code 87 = .ok (.getfield 368, 3) := gd_23 db00e_81
theorem db00e_82 : Ad_ prog_14_method_42_code [(90, .iconst (-1), 1), (91, .if_icmp .ne 15, 3), (94, .aload_n 0, 1), (95, .invokevirtual 374, 3), (98, .iconst (-1), 1), (99, .if_icmp .eq 7, 3), (102, .aload_n 0, 1), (103, .invokevirtual 381, 3), (106, .aload_n 0, 1), (107, .getfield 368, 3), (110, .ireturn, 1)] := bch_ok prog_14_method_42_code _ 90 (by decide +kernel)
theorem d_X12_fault_90 : decode prog_14_method_42_code 90 = .ok (.iconst (-1), 1) := gd_0 db00e_82
theorem d_X12_fault_91 : decode prog_14_method_42_code 91 = .ok (.if_icmp .ne 15, 3) := gd_1 db00e_82
theorem d_X12_fault_94 : decode prog_14_method_42_code 94 = .ok (.aload_n 0, 1) := gd_2 db00e_82
theorem d_X12_fault_95 : decode prog_14_method_42_code 95 = .ok (.invokevirtual 374, 3) := gd_3 db00e_82
theorem d_X12_fault_98 : decode prog_14_method_42_code 98 = .ok (.iconst (-1), 1) := gd_4 db00e_82
theorem d_X12_fault_99 : decode prog_14_method_42_code 99 = .ok (.if_icmp .eq 7, 3) := gd_5 db00e_82
theorem d_X12_fault_102 : decode prog_14_method_42_code 102 = .ok (.aload_n 0, 1) := gd_6 db00e_82
theorem d_X12_fault_103 : decode prog_14_method_42_code 103 = .ok (.invokevirtual 381, 3) := gd_7 db00e_82
theorem d_X12_fault_106 : decode prog_14_method_42_code 106 = .ok (.aload_n 0, 1) := gd_8 db00e_82
theorem d_X12_fault_107 : decode prog_14_method_42_code 107 = .ok (.getfield 368, 3) := gd_9 db00e_82
theorem d_X12_fault_110 : decode prog_14_method_42_code 110 = .ok (.ireturn, 1) := gd_10 db00e_82
theorem db00e_83 : Ad_ prog_14_method_43_code [(0, .iload_n 2, 1), (1, .iconst 0, 1), (2, .bipush 30, 2), (4, .invokestatic 323, 3), (7, .ifCond .eq 25, 3), (10, .aload_n 0, 1), (11, .getfield 117, 3), (14, .iload_n 1, 1), (15, .iaload, 1), (16, .bipush 20, 2), (18, .if_icmp .eq 14, 3), (21, .aload_n 0, 1), (22, .iload_n 1, 1), (23, .iconst 1, 1), (24, .iadd, 1), (25, .invokevirtual 416, 3), (28, .iconst (-1), 1), (29, .if_icmp .eq 5, 3), (32, .iconst (-1), 1), (33, .ireturn, 1), (34, .bipush 20, 2), (36, .iload_n 1, 1), (37, .imul, 1), (38, .aload_n 0, 1)] := bch_ok prog_14_method_43_code _ 0 (by decide +kernel)
theorem d_X12_text_0 : decode prog_14_method_43_code 0 = .ok (.iload_n 2, 1) := gd_0 db00e_83
theorem d_X12_text_1 : decode prog_14_method_43_code 1 = .ok (.iconst 0, 1) := gd_1 db00e_83
theorem d_X12_text_2 : decode prog_14_method_43_code 2 = .ok (.bipush 30, 2) := gd_2 db00e_83
theorem d_X12_text_4 : decode prog_14_method_43_code 4 = .ok (.invokestatic 323, 3) := gd_3 db00e_83
theorem d_X12_text_7 : decode prog_14_method_43_code 7 = .ok (.ifCond .eq 25, 3) := gd_4 db00e_83
theorem d_X12_text_10 : decode prog_14_method_43_code 10 = .ok (.aload_n 0, 1) := gd_5 db00e_83
theorem d_X12_text_11 : decode prog_14_method_43_code 11 = .ok (.getfield 117, 3) := gd_6 db00e_83
theorem d_X12_text_14 : decode prog_14_method_43_code 14 = .ok (.iload_n 1, 1) := gd_7 db00e_83
theorem d_X12_text_15 : decode prog_14_method_43_code 15 = .ok (.iaload, 1) := gd_8 db00e_83
theorem d_X12_text_16 : decode prog_14_method_43_code 16 = .ok (.bipush 20, 2) := gd_9 db00e_83
theorem d_X12_text_18 : decode prog_14_method_43_code 18 = .ok (.if_icmp .eq 14, 3) := gd_10 db00e_83
theorem d_X12_text_21 : decode prog_14_method_43_code 21 = .ok (.aload_n 0, 1) := gd_11 db00e_83
theorem d_X12_text_22 : decode prog_14_method_43_code 22 = .ok (.iload_n 1, 1) := gd_12 db00e_83
theorem d_X12_text_23 : decode prog_14_method_43_code 23 = .ok (.iconst 1, 1) := gd_13 db00e_83
theorem d_X12_text_24 : decode prog_14_method_43_code 24 = .ok (.iadd, 1) := gd_14 db00e_83
theorem d_X12_text_25 : decode prog_14_method_43_code 25 = .ok (.invokevirtual 416, 3) := gd_15 db00e_83
theorem d_X12_text_28 : decode prog_14_method_43_code 28 = .ok (.iconst (-1), 1) := gd_16 db00e_83
theorem d_X12_text_29 : decode prog_14_method_43_code 29 = .ok (.if_icmp .eq 5, 3) := gd_17 db00e_83
theorem d_X12_text_32 : decode prog_14_method_43_code 32 = .ok (.iconst (-1), 1) := gd_18 db00e_83
theorem d_X12_text_33 : decode prog_14_method_43_code 33 = .ok (.ireturn, 1) := gd_19 db00e_83
theorem d_X12_text_34 : decode prog_14_method_43_code 34 = .ok (.bipush 20, 2) := gd_20 db00e_83
theorem d_X12_text_36 : decode prog_14_method_43_code 36 = .ok (.iload_n 1, 1) := gd_21 db00e_83
theorem d_X12_text_37 : decode prog_14_method_43_code 37 = .ok (.imul, 1) := gd_22 db00e_83
theorem d_X12_text_38 : decode prog_14_method_43_code 38 = .ok (.aload_n 0, 1) := gd_23 db00e_83
theorem db00e_84 : Ad_ prog_14_method_43_code [(39, .getfield 117, 3), (42, .iload_n 1, 1), (43, .iaload, 1), (44, .iadd, 1), (45, .istore_n 3, 1), (46, .iconst 0, 1), (47, .istore 4, 2), (49, .iload 4, 2), (51, .aload_n 0, 1), (52, .getfield 371, 3), (55, .if_icmp .ge 29, 3), (58, .aload_n 0, 1), (59, .getfield 105, 3), (62, .sipush 560, 3), (65, .iload_n 3, 1), (66, .imul, 1), (67, .iload 4, 2), (69, .iadd, 1), (70, .aload_n 0, 1), (71, .getfield 90, 3), (74, .iload 4, 2), (76, .iaload, 1), (77, .iastore, 1), (78, .iinc 4 1, 3)] := bch_ok prog_14_method_43_code _ 39 (by decide +kernel)
theorem d_X12_text_39 : decode prog_14_method_43_code 39 = .ok (.getfield 117, 3) := gd_0 db00e_84
theorem d_X12_text_42 : decode prog_14_method_43_code 42 = .ok (.iload_n 1, 1) := gd_1 db00e_84
theorem d_X12_text_43 : decode prog_14_method_43_code 43 = .ok (.iaload, 1) := gd_2 db00e_84
theorem d_X12_text_44 : decode prog_14_method_43_code 44 = .ok (.iadd, 1) := gd_3 db00e_84
theorem d_X12_text_45 : decode prog_14_method_43_code 45 = .ok (.istore_n 3, 1) := gd_4 db00e_84
theorem d_X12_text_46 : decode prog_14_method_43_code 46 = .ok (.iconst 0, 1) := gd_5 db00e_84
theorem d_X12_text_47 : decode prog_14_method_43_code 47 = .ok (.istore 4, 2) := gd_6 db00e_84
theorem d_X12_text_49 : decode prog_14_method_43_code 49 = .ok (.iload 4, 2) := gd_7 db00e_84
theorem d_X12_text_51 : decode prog_14_method_43_code 51 = .ok (.aload_n 0, 1) := gd_8 db00e_84
theorem d_X12_text_52 : decode prog_14_method_43_code 52 = .ok (.getfield 371, 3) := gd_9 db00e_84
theorem d_X12_text_55 : decode prog_14_method_43_code 55 = .ok (.if_icmp .ge 29, 3) := gd_10 db00e_84
theorem d_X12_text_58 : decode prog_14_method_43_code 58 = .ok (.aload_n 0, 1) := gd_11 db00e_84
theorem d_X12_text_59 : decode prog_14_method_43_code 59 = .ok (.getfield 105, 3) := gd_12 db00e_84
theorem d_X12_text_62 : decode prog_14_method_43_code 62 = .ok (.sipush 560, 3) := gd_13 db00e_84
theorem d_X12_text_65 : decode prog_14_method_43_code 65 = .ok (.iload_n 3, 1) := gd_14 db00e_84
theorem d_X12_text_66 : decode prog_14_method_43_code 66 = .ok (.imul, 1) := gd_15 db00e_84
theorem d_X12_text_67 : decode prog_14_method_43_code 67 = .ok (.iload 4, 2) := gd_16 db00e_84
theorem d_X12_text_69 : decode prog_14_method_43_code 69 = .ok (.iadd, 1) := gd_17 db00e_84
theorem d_X12_text_70 : decode prog_14_method_43_code 70 = .ok (.aload_n 0, 1) := gd_18 db00e_84
theorem d_X12_text_71 : decode prog_14_method_43_code 71 = .ok (.getfield 90, 3) := gd_19 db00e_84
theorem d_X12_text_74 : decode prog_14_method_43_code 74 = .ok (.iload 4, 2) := gd_20 db00e_84
theorem d_X12_text_76 : decode prog_14_method_43_code 76 = .ok (.iaload, 1) := gd_21 db00e_84
theorem d_X12_text_77 : decode prog_14_method_43_code 77 = .ok (.iastore, 1) := gd_22 db00e_84
theorem d_X12_text_78 : decode prog_14_method_43_code 78 = .ok (.iinc 4 1, 3) := gd_23 db00e_84
theorem db00e_85 : Ad_ prog_14_method_43_code [(81, .goto (-32), 3), (84, .aload_n 0, 1), (85, .getfield 108, 3), (88, .iload_n 3, 1), (89, .aload_n 0, 1), (90, .getfield 371, 3), (93, .iastore, 1), (94, .aload_n 0, 1), (95, .getfield 111, 3), (98, .iload_n 3, 1), (99, .iload_n 2, 1), (100, .iastore, 1), (101, .aload_n 0, 1), (102, .getfield 114, 3), (105, .iload_n 3, 1), (106, .aload_n 0, 1), (107, .getfield 342, 3), (110, .iastore, 1), (111, .aload_n 0, 1), (112, .getfield 117, 3), (115, .iload_n 1, 1), (116, .dup2, 1), (117, .iaload, 1), (118, .iconst 1, 1)] := bch_ok prog_14_method_43_code _ 81 (by decide +kernel)
theorem d_X12_text_81 : decode prog_14_method_43_code 81 = .ok (.goto (-32), 3) := gd_0 db00e_85
theorem d_X12_text_84 : decode prog_14_method_43_code 84 = .ok (.aload_n 0, 1) := gd_1 db00e_85
theorem d_X12_text_85 : decode prog_14_method_43_code 85 = .ok (.getfield 108, 3) := gd_2 db00e_85
theorem d_X12_text_88 : decode prog_14_method_43_code 88 = .ok (.iload_n 3, 1) := gd_3 db00e_85
theorem d_X12_text_89 : decode prog_14_method_43_code 89 = .ok (.aload_n 0, 1) := gd_4 db00e_85
theorem d_X12_text_90 : decode prog_14_method_43_code 90 = .ok (.getfield 371, 3) := gd_5 db00e_85
theorem d_X12_text_93 : decode prog_14_method_43_code 93 = .ok (.iastore, 1) := gd_6 db00e_85
theorem d_X12_text_94 : decode prog_14_method_43_code 94 = .ok (.aload_n 0, 1) := gd_7 db00e_85
theorem d_X12_text_95 : decode prog_14_method_43_code 95 = .ok (.getfield 111, 3) := gd_8 db00e_85
theorem d_X12_text_98 : decode prog_14_method_43_code 98 = .ok (.iload_n 3, 1) := gd_9 db00e_85
theorem d_X12_text_99 : decode prog_14_method_43_code 99 = .ok (.iload_n 2, 1) := gd_10 db00e_85
theorem d_X12_text_100 : decode prog_14_method_43_code 100 = .ok (.iastore, 1) := gd_11 db00e_85
theorem d_X12_text_101 : decode prog_14_method_43_code 101 = .ok (.aload_n 0, 1) := gd_12 db00e_85
theorem d_X12_text_102 : decode prog_14_method_43_code 102 = .ok (.getfield 114, 3) := gd_13 db00e_85
theorem d_X12_text_105 : decode prog_14_method_43_code 105 = .ok (.iload_n 3, 1) := gd_14 db00e_85
theorem d_X12_text_106 : decode prog_14_method_43_code 106 = .ok (.aload_n 0, 1) := gd_15 db00e_85
theorem d_X12_text_107 : decode prog_14_method_43_code 107 = .ok (.getfield 342, 3) := gd_16 db00e_85
theorem d_X12_text_110 : decode prog_14_method_43_code 110 = .ok (.iastore, 1) := gd_17 db00e_85
theorem d_X12_text_111 : decode prog_14_method_43_code 111 = .ok (.aload_n 0, 1) := gd_18 db00e_85
theorem d_X12_text_112 : decode prog_14_method_43_code 112 = .ok (.getfield 117, 3) := gd_19 db00e_85
theorem d_X12_text_115 : decode prog_14_method_43_code 115 = .ok (.iload_n 1, 1) := gd_20 db00e_85
theorem d_X12_text_116 : decode prog_14_method_43_code 116 = .ok (.dup2, 1) := gd_21 db00e_85
theorem d_X12_text_117 : decode prog_14_method_43_code 117 = .ok (.iaload, 1) := gd_22 db00e_85
theorem d_X12_text_118 : decode prog_14_method_43_code 118 = .ok (.iconst 1, 1) := gd_23 db00e_85
theorem db00e_86 : Ad_ prog_14_method_43_code [(119, .iadd, 1), (120, .iastore, 1), (121, .aload_n 0, 1), (122, .iconst 0, 1), (123, .putfield 362, 3), (126, .aload_n 0, 1), (127, .getfield 117, 3), (130, .iload_n 1, 1), (131, .iaload, 1), (132, .iconst 1, 1), (133, .isub, 1), (134, .ireturn, 1)] := bch_ok prog_14_method_43_code _ 119 (by decide +kernel)
theorem d_X12_text_119 : decode prog_14_method_43_code 119 = .ok (.iadd, 1) := gd_0 db00e_86
theorem d_X12_text_120 : decode prog_14_method_43_code 120 = .ok (.iastore, 1) := gd_1 db00e_86
theorem d_X12_text_121 : decode prog_14_method_43_code 121 = .ok (.aload_n 0, 1) := gd_2 db00e_86
theorem d_X12_text_122 : decode prog_14_method_43_code 122 = .ok (.iconst 0, 1) := gd_3 db00e_86
theorem d_X12_text_123 : decode prog_14_method_43_code 123 = .ok (.putfield 362, 3) := gd_4 db00e_86
theorem d_X12_text_126 : decode prog_14_method_43_code 126 = .ok (.aload_n 0, 1) := gd_5 db00e_86
theorem d_X12_text_127 : decode prog_14_method_43_code 127 = .ok (.getfield 117, 3) := gd_6 db00e_86
theorem d_X12_text_130 : decode prog_14_method_43_code 130 = .ok (.iload_n 1, 1) := gd_7 db00e_86
theorem d_X12_text_131 : decode prog_14_method_43_code 131 = .ok (.iaload, 1) := gd_8 db00e_86
theorem d_X12_text_132 : decode prog_14_method_43_code 132 = .ok (.iconst 1, 1) := gd_9 db00e_86
theorem d_X12_text_133 : decode prog_14_method_43_code 133 = .ok (.isub, 1) := gd_10 db00e_86
theorem d_X12_text_134 : decode prog_14_method_43_code 134 = .ok (.ireturn, 1) := gd_11 db00e_86
theorem db00e_87 : Ad_ prog_14_method_44_code [(0, .aload_n 0, 1), (1, .iconst 0, 1), (2, .iload_n 1, 1), (3, .invokevirtual 468, 3), (6, .ireturn, 1)] := bch_ok prog_14_method_44_code _ 0 (by decide +kernel)
theorem d_X12_act_0 : decode prog_14_method_44_code 0 = .ok (.aload_n 0, 1) := gd_0 db00e_87
theorem d_X12_act_1 : decode prog_14_method_44_code 1 = .ok (.iconst 0, 1) := gd_1 db00e_87
theorem d_X12_act_2 : decode prog_14_method_44_code 2 = .ok (.iload_n 1, 1) := gd_2 db00e_87
theorem d_X12_act_3 : decode prog_14_method_44_code 3 = .ok (.invokevirtual 468, 3) := gd_3 db00e_87
theorem d_X12_act_6 : decode prog_14_method_44_code 6 = .ok (.ireturn, 1) := gd_4 db00e_87
theorem db00e_88 : Ad_ prog_14_method_45_code [(0, .aload_n 0, 1), (1, .iconst 1, 1), (2, .iload_n 1, 1), (3, .invokevirtual 468, 3), (6, .ireturn, 1)] := bch_ok prog_14_method_45_code _ 0 (by decide +kernel)
theorem d_X12_pay_0 : decode prog_14_method_45_code 0 = .ok (.aload_n 0, 1) := gd_0 db00e_88
theorem d_X12_pay_1 : decode prog_14_method_45_code 1 = .ok (.iconst 1, 1) := gd_1 db00e_88
theorem d_X12_pay_2 : decode prog_14_method_45_code 2 = .ok (.iload_n 1, 1) := gd_2 db00e_88
theorem d_X12_pay_3 : decode prog_14_method_45_code 3 = .ok (.invokevirtual 468, 3) := gd_3 db00e_88
theorem d_X12_pay_6 : decode prog_14_method_45_code 6 = .ok (.ireturn, 1) := gd_4 db00e_88
theorem db00e_89 : Ad_ prog_14_method_46_code [(0, .iconst (-1), 1), (1, .istore 4, 2), (3, .iconst 0, 1), (4, .istore 5, 2), (6, .iload 5, 2), (8, .aload_n 0, 1), (9, .getfield 117, 3), (12, .iload_n 1, 1), (13, .iaload, 1), (14, .if_icmp .ge 72, 3), (17, .bipush 20, 2), (19, .iload_n 1, 1), (20, .imul, 1), (21, .iload 5, 2), (23, .iadd, 1), (24, .istore 6, 2), (26, .aload_n 0, 1), (27, .getfield 114, 3), (30, .iload 6, 2), (32, .iaload, 1), (33, .iload_n 3, 1), (34, .if_icmp .gt 46, 3), (37, .aload_n 0, 1), (38, .getfield 111, 3)] := bch_ok prog_14_method_46_code _ 0 (by decide +kernel)
theorem d_X12_forceOf_0 : decode prog_14_method_46_code 0 = .ok (.iconst (-1), 1) := gd_0 db00e_89
theorem d_X12_forceOf_1 : decode prog_14_method_46_code 1 = .ok (.istore 4, 2) := gd_1 db00e_89
theorem d_X12_forceOf_3 : decode prog_14_method_46_code 3 = .ok (.iconst 0, 1) := gd_2 db00e_89
theorem d_X12_forceOf_4 : decode prog_14_method_46_code 4 = .ok (.istore 5, 2) := gd_3 db00e_89
theorem d_X12_forceOf_6 : decode prog_14_method_46_code 6 = .ok (.iload 5, 2) := gd_4 db00e_89
theorem d_X12_forceOf_8 : decode prog_14_method_46_code 8 = .ok (.aload_n 0, 1) := gd_5 db00e_89
theorem d_X12_forceOf_9 : decode prog_14_method_46_code 9 = .ok (.getfield 117, 3) := gd_6 db00e_89
theorem d_X12_forceOf_12 : decode prog_14_method_46_code 12 = .ok (.iload_n 1, 1) := gd_7 db00e_89
theorem d_X12_forceOf_13 : decode prog_14_method_46_code 13 = .ok (.iaload, 1) := gd_8 db00e_89
theorem d_X12_forceOf_14 : decode prog_14_method_46_code 14 = .ok (.if_icmp .ge 72, 3) := gd_9 db00e_89
theorem d_X12_forceOf_17 : decode prog_14_method_46_code 17 = .ok (.bipush 20, 2) := gd_10 db00e_89
theorem d_X12_forceOf_19 : decode prog_14_method_46_code 19 = .ok (.iload_n 1, 1) := gd_11 db00e_89
theorem d_X12_forceOf_20 : decode prog_14_method_46_code 20 = .ok (.imul, 1) := gd_12 db00e_89
theorem d_X12_forceOf_21 : decode prog_14_method_46_code 21 = .ok (.iload 5, 2) := gd_13 db00e_89
theorem d_X12_forceOf_23 : decode prog_14_method_46_code 23 = .ok (.iadd, 1) := gd_14 db00e_89
theorem d_X12_forceOf_24 : decode prog_14_method_46_code 24 = .ok (.istore 6, 2) := gd_15 db00e_89
theorem d_X12_forceOf_26 : decode prog_14_method_46_code 26 = .ok (.aload_n 0, 1) := gd_16 db00e_89
theorem d_X12_forceOf_27 : decode prog_14_method_46_code 27 = .ok (.getfield 114, 3) := gd_17 db00e_89
theorem d_X12_forceOf_30 : decode prog_14_method_46_code 30 = .ok (.iload 6, 2) := gd_18 db00e_89
theorem d_X12_forceOf_32 : decode prog_14_method_46_code 32 = .ok (.iaload, 1) := gd_19 db00e_89
theorem d_X12_forceOf_33 : decode prog_14_method_46_code 33 = .ok (.iload_n 3, 1) := gd_20 db00e_89
theorem d_X12_forceOf_34 : decode prog_14_method_46_code 34 = .ok (.if_icmp .gt 46, 3) := gd_21 db00e_89
theorem d_X12_forceOf_37 : decode prog_14_method_46_code 37 = .ok (.aload_n 0, 1) := gd_22 db00e_89
theorem d_X12_forceOf_38 : decode prog_14_method_46_code 38 = .ok (.getfield 111, 3) := gd_23 db00e_89
theorem db00e_90 : Ad_ prog_14_method_46_code [(41, .iload 6, 2), (43, .iaload, 1), (44, .iload_n 2, 1), (45, .if_icmp .gt 35, 3), (48, .iload 4, 2), (50, .iconst (-1), 1), (51, .if_icmp .eq 25, 3), (54, .aload_n 0, 1), (55, .getfield 111, 3), (58, .iload 6, 2), (60, .iaload, 1), (61, .aload_n 0, 1), (62, .getfield 111, 3), (65, .bipush 20, 2), (67, .iload_n 1, 1), (68, .imul, 1), (69, .iload 4, 2), (71, .iadd, 1), (72, .iaload, 1), (73, .if_icmp .lt 7, 3), (76, .iload 5, 2), (78, .istore 4, 2), (80, .iinc 5 1, 3), (83, .goto (-77), 3)] := bch_ok prog_14_method_46_code _ 41 (by decide +kernel)
theorem d_X12_forceOf_41 : decode prog_14_method_46_code 41 = .ok (.iload 6, 2) := gd_0 db00e_90
theorem d_X12_forceOf_43 : decode prog_14_method_46_code 43 = .ok (.iaload, 1) := gd_1 db00e_90
theorem d_X12_forceOf_44 : decode prog_14_method_46_code 44 = .ok (.iload_n 2, 1) := gd_2 db00e_90
theorem d_X12_forceOf_45 : decode prog_14_method_46_code 45 = .ok (.if_icmp .gt 35, 3) := gd_3 db00e_90
theorem d_X12_forceOf_48 : decode prog_14_method_46_code 48 = .ok (.iload 4, 2) := gd_4 db00e_90
theorem d_X12_forceOf_50 : decode prog_14_method_46_code 50 = .ok (.iconst (-1), 1) := gd_5 db00e_90
theorem d_X12_forceOf_51 : decode prog_14_method_46_code 51 = .ok (.if_icmp .eq 25, 3) := gd_6 db00e_90
theorem d_X12_forceOf_54 : decode prog_14_method_46_code 54 = .ok (.aload_n 0, 1) := gd_7 db00e_90
theorem d_X12_forceOf_55 : decode prog_14_method_46_code 55 = .ok (.getfield 111, 3) := gd_8 db00e_90
theorem d_X12_forceOf_58 : decode prog_14_method_46_code 58 = .ok (.iload 6, 2) := gd_9 db00e_90
theorem d_X12_forceOf_60 : decode prog_14_method_46_code 60 = .ok (.iaload, 1) := gd_10 db00e_90
theorem d_X12_forceOf_61 : decode prog_14_method_46_code 61 = .ok (.aload_n 0, 1) := gd_11 db00e_90
theorem d_X12_forceOf_62 : decode prog_14_method_46_code 62 = .ok (.getfield 111, 3) := gd_12 db00e_90
theorem d_X12_forceOf_65 : decode prog_14_method_46_code 65 = .ok (.bipush 20, 2) := gd_13 db00e_90
theorem d_X12_forceOf_67 : decode prog_14_method_46_code 67 = .ok (.iload_n 1, 1) := gd_14 db00e_90
theorem d_X12_forceOf_68 : decode prog_14_method_46_code 68 = .ok (.imul, 1) := gd_15 db00e_90
theorem d_X12_forceOf_69 : decode prog_14_method_46_code 69 = .ok (.iload 4, 2) := gd_16 db00e_90
theorem d_X12_forceOf_71 : decode prog_14_method_46_code 71 = .ok (.iadd, 1) := gd_17 db00e_90
theorem d_X12_forceOf_72 : decode prog_14_method_46_code 72 = .ok (.iaload, 1) := gd_18 db00e_90
theorem d_X12_forceOf_73 : decode prog_14_method_46_code 73 = .ok (.if_icmp .lt 7, 3) := gd_19 db00e_90
theorem d_X12_forceOf_76 : decode prog_14_method_46_code 76 = .ok (.iload 5, 2) := gd_20 db00e_90
theorem d_X12_forceOf_78 : decode prog_14_method_46_code 78 = .ok (.istore 4, 2) := gd_21 db00e_90
theorem d_X12_forceOf_80 : decode prog_14_method_46_code 80 = .ok (.iinc 5 1, 3) := gd_22 db00e_90
theorem d_X12_forceOf_83 : decode prog_14_method_46_code 83 = .ok (.goto (-77), 3) := gd_23 db00e_90
theorem d_X12_forceOf_86 : decode prog_14_method_46_code 86 = .ok (.iload 4, 2) := by decide +kernel
theorem d_X12_forceOf_88 : decode prog_14_method_46_code 88 = .ok (.ireturn, 1) := by decide +kernel
theorem d_X12_bounded_0 : decode prog_14_method_48_code 0 = .ok (.ldc2_w 474, 3) := by decide +kernel
theorem d_X12_bounded_3 : decode prog_14_method_48_code 3 = .ok (.ldc2_w 476, 3) := by decide +kernel
theorem db00e_91 : Ad_ prog_14_method_47_code [(0, .iload_n 1, 1), (1, .iconst 0, 1), (2, .bipush 30, 2), (4, .invokestatic 323, 3), (7, .ifCond .eq 21, 3), (10, .aload_n 0, 1), (11, .iload_n 2, 1), (12, .invokevirtual 351, 3), (15, .ifCond .eq 13, 3), (18, .aload_n 0, 1), (19, .iconst 0, 1), (20, .iload_n 1, 1), (21, .iload_n 2, 1), (22, .invokevirtual 471, 3), (25, .goto 4, 3), (28, .iconst (-1), 1), (29, .ireturn, 1)] := bch_ok prog_14_method_47_code _ 0 (by decide +kernel)
theorem d_X12_force_0 : decode prog_14_method_47_code 0 = .ok (.iload_n 1, 1) := gd_0 db00e_91
theorem d_X12_force_1 : decode prog_14_method_47_code 1 = .ok (.iconst 0, 1) := gd_1 db00e_91
theorem d_X12_force_2 : decode prog_14_method_47_code 2 = .ok (.bipush 30, 2) := gd_2 db00e_91
theorem d_X12_force_4 : decode prog_14_method_47_code 4 = .ok (.invokestatic 323, 3) := gd_3 db00e_91
theorem d_X12_force_7 : decode prog_14_method_47_code 7 = .ok (.ifCond .eq 21, 3) := gd_4 db00e_91
theorem d_X12_force_10 : decode prog_14_method_47_code 10 = .ok (.aload_n 0, 1) := gd_5 db00e_91
theorem d_X12_force_11 : decode prog_14_method_47_code 11 = .ok (.iload_n 2, 1) := gd_6 db00e_91
theorem d_X12_force_12 : decode prog_14_method_47_code 12 = .ok (.invokevirtual 351, 3) := gd_7 db00e_91
theorem d_X12_force_15 : decode prog_14_method_47_code 15 = .ok (.ifCond .eq 13, 3) := gd_8 db00e_91
theorem d_X12_force_18 : decode prog_14_method_47_code 18 = .ok (.aload_n 0, 1) := gd_9 db00e_91
theorem d_X12_force_19 : decode prog_14_method_47_code 19 = .ok (.iconst 0, 1) := gd_10 db00e_91
theorem d_X12_force_20 : decode prog_14_method_47_code 20 = .ok (.iload_n 1, 1) := gd_11 db00e_91
theorem d_X12_force_21 : decode prog_14_method_47_code 21 = .ok (.iload_n 2, 1) := gd_12 db00e_91
theorem d_X12_force_22 : decode prog_14_method_47_code 22 = .ok (.invokevirtual 471, 3) := gd_13 db00e_91
theorem d_X12_force_25 : decode prog_14_method_47_code 25 = .ok (.goto 4, 3) := gd_14 db00e_91
theorem d_X12_force_28 : decode prog_14_method_47_code 28 = .ok (.iconst (-1), 1) := gd_15 db00e_91
theorem d_X12_force_29 : decode prog_14_method_47_code 29 = .ok (.ireturn, 1) := gd_16 db00e_91
theorem d_X12_bounded_13 : decode prog_14_method_48_code 13 = .ok (.l2i, 1) := by decide +kernel
theorem db00e_92 : Ad_ prog_14_method_48_code [(6, .lload_n 0, 1), (7, .invokestatic 478, 3), (10, .invokestatic 484, 3), (14, .ireturn, 1)] := bch_ok prog_14_method_48_code _ 6 (by decide +kernel)
theorem d_X12_bounded_6 : decode prog_14_method_48_code 6 = .ok (.lload_n 0, 1) := gd_0 db00e_92
theorem d_X12_bounded_7 : decode prog_14_method_48_code 7 = .ok (.invokestatic 478, 3) := gd_1 db00e_92
theorem d_X12_bounded_10 : decode prog_14_method_48_code 10 = .ok (.invokestatic 484, 3) := gd_2 db00e_92
theorem d_X12_bounded_14 : decode prog_14_method_48_code 14 = .ok (.ireturn, 1) := gd_3 db00e_92
theorem d_X12_both_1 : decode prog_14_method_49_code 1 = .ok (.tableswitch 189 38 62 #[175, 189, 189, 189, 133, 115, 189, 124, 189, 189, 189, 189, 189, 189, 189, 189, 189, 189, 189, 189, 189, 189, 153, 142, 164], 115) := by decide +kernel
theorem d_X12_both_120 : decode prog_14_method_49_code 120 = .ok (.ladd, 1) := by decide +kernel
theorem d_X12_both_129 : decode prog_14_method_49_code 129 = .ok (.lsub, 1) := by decide +kernel
theorem d_X12_both_138 : decode prog_14_method_49_code 138 = .ok (.lmul, 1) := by decide +kernel
theorem db00e_93 : Ad_ prog_14_method_49_code [(0, .iload_n 0, 1), (116, .iload_n 1, 1), (117, .i2l, 1), (118, .iload_n 2, 1), (119, .i2l, 1), (121, .invokestatic 487, 3), (124, .ireturn, 1), (125, .iload_n 1, 1), (126, .i2l, 1), (127, .iload_n 2, 1), (128, .i2l, 1), (130, .invokestatic 487, 3), (133, .ireturn, 1), (134, .iload_n 1, 1), (135, .i2l, 1), (136, .iload_n 2, 1), (137, .i2l, 1), (139, .invokestatic 487, 3), (142, .ireturn, 1), (143, .iload_n 1, 1), (144, .iload_n 2, 1), (145, .if_icmp .ne 7, 3), (148, .iconst 1, 1), (149, .goto 4, 3)] := bch_ok prog_14_method_49_code _ 0 (by decide +kernel)
theorem d_X12_both_0 : decode prog_14_method_49_code 0 = .ok (.iload_n 0, 1) := gd_0 db00e_93
theorem d_X12_both_116 : decode prog_14_method_49_code 116 = .ok (.iload_n 1, 1) := gd_1 db00e_93
theorem d_X12_both_117 : decode prog_14_method_49_code 117 = .ok (.i2l, 1) := gd_2 db00e_93
theorem d_X12_both_118 : decode prog_14_method_49_code 118 = .ok (.iload_n 2, 1) := gd_3 db00e_93
theorem d_X12_both_119 : decode prog_14_method_49_code 119 = .ok (.i2l, 1) := gd_4 db00e_93
theorem d_X12_both_121 : decode prog_14_method_49_code 121 = .ok (.invokestatic 487, 3) := gd_5 db00e_93
theorem d_X12_both_124 : decode prog_14_method_49_code 124 = .ok (.ireturn, 1) := gd_6 db00e_93
theorem d_X12_both_125 : decode prog_14_method_49_code 125 = .ok (.iload_n 1, 1) := gd_7 db00e_93
theorem d_X12_both_126 : decode prog_14_method_49_code 126 = .ok (.i2l, 1) := gd_8 db00e_93
theorem d_X12_both_127 : decode prog_14_method_49_code 127 = .ok (.iload_n 2, 1) := gd_9 db00e_93
theorem d_X12_both_128 : decode prog_14_method_49_code 128 = .ok (.i2l, 1) := gd_10 db00e_93
theorem d_X12_both_130 : decode prog_14_method_49_code 130 = .ok (.invokestatic 487, 3) := gd_11 db00e_93
theorem d_X12_both_133 : decode prog_14_method_49_code 133 = .ok (.ireturn, 1) := gd_12 db00e_93
theorem d_X12_both_134 : decode prog_14_method_49_code 134 = .ok (.iload_n 1, 1) := gd_13 db00e_93
theorem d_X12_both_135 : decode prog_14_method_49_code 135 = .ok (.i2l, 1) := gd_14 db00e_93
theorem d_X12_both_136 : decode prog_14_method_49_code 136 = .ok (.iload_n 2, 1) := gd_15 db00e_93
theorem d_X12_both_137 : decode prog_14_method_49_code 137 = .ok (.i2l, 1) := gd_16 db00e_93
theorem d_X12_both_139 : decode prog_14_method_49_code 139 = .ok (.invokestatic 487, 3) := gd_17 db00e_93
theorem d_X12_both_142 : decode prog_14_method_49_code 142 = .ok (.ireturn, 1) := gd_18 db00e_93
theorem d_X12_both_143 : decode prog_14_method_49_code 143 = .ok (.iload_n 1, 1) := gd_19 db00e_93
theorem d_X12_both_144 : decode prog_14_method_49_code 144 = .ok (.iload_n 2, 1) := gd_20 db00e_93
theorem d_X12_both_145 : decode prog_14_method_49_code 145 = .ok (.if_icmp .ne 7, 3) := gd_21 db00e_93
theorem d_X12_both_148 : decode prog_14_method_49_code 148 = .ok (.iconst 1, 1) := gd_22 db00e_93
theorem d_X12_both_149 : decode prog_14_method_49_code 149 = .ok (.goto 4, 3) := gd_23 db00e_93
theorem db00e_94 : Ad_ prog_14_method_49_code [(152, .iconst 0, 1), (153, .ireturn, 1), (154, .iload_n 1, 1), (155, .iload_n 2, 1), (156, .if_icmp .ge 7, 3), (159, .iconst 1, 1), (160, .goto 4, 3), (163, .iconst 0, 1), (164, .ireturn, 1), (165, .iload_n 1, 1), (166, .iload_n 2, 1), (167, .if_icmp .le 7, 3), (170, .iconst 1, 1), (171, .goto 4, 3), (174, .iconst 0, 1), (175, .ireturn, 1), (176, .iload_n 1, 1), (177, .ifCond .eq 11, 3), (180, .iload_n 2, 1), (181, .ifCond .eq 7, 3), (184, .iconst 1, 1), (185, .goto 4, 3), (188, .iconst 0, 1), (189, .ireturn, 1)] := bch_ok prog_14_method_49_code _ 152 (by decide +kernel)
theorem d_X12_both_152 : decode prog_14_method_49_code 152 = .ok (.iconst 0, 1) := gd_0 db00e_94
theorem d_X12_both_153 : decode prog_14_method_49_code 153 = .ok (.ireturn, 1) := gd_1 db00e_94
theorem d_X12_both_154 : decode prog_14_method_49_code 154 = .ok (.iload_n 1, 1) := gd_2 db00e_94
theorem d_X12_both_155 : decode prog_14_method_49_code 155 = .ok (.iload_n 2, 1) := gd_3 db00e_94
theorem d_X12_both_156 : decode prog_14_method_49_code 156 = .ok (.if_icmp .ge 7, 3) := gd_4 db00e_94
theorem d_X12_both_159 : decode prog_14_method_49_code 159 = .ok (.iconst 1, 1) := gd_5 db00e_94
theorem d_X12_both_160 : decode prog_14_method_49_code 160 = .ok (.goto 4, 3) := gd_6 db00e_94
theorem d_X12_both_163 : decode prog_14_method_49_code 163 = .ok (.iconst 0, 1) := gd_7 db00e_94
theorem d_X12_both_164 : decode prog_14_method_49_code 164 = .ok (.ireturn, 1) := gd_8 db00e_94
theorem d_X12_both_165 : decode prog_14_method_49_code 165 = .ok (.iload_n 1, 1) := gd_9 db00e_94
theorem d_X12_both_166 : decode prog_14_method_49_code 166 = .ok (.iload_n 2, 1) := gd_10 db00e_94
theorem d_X12_both_167 : decode prog_14_method_49_code 167 = .ok (.if_icmp .le 7, 3) := gd_11 db00e_94
theorem d_X12_both_170 : decode prog_14_method_49_code 170 = .ok (.iconst 1, 1) := gd_12 db00e_94
theorem d_X12_both_171 : decode prog_14_method_49_code 171 = .ok (.goto 4, 3) := gd_13 db00e_94
theorem d_X12_both_174 : decode prog_14_method_49_code 174 = .ok (.iconst 0, 1) := gd_14 db00e_94
theorem d_X12_both_175 : decode prog_14_method_49_code 175 = .ok (.ireturn, 1) := gd_15 db00e_94
theorem d_X12_both_176 : decode prog_14_method_49_code 176 = .ok (.iload_n 1, 1) := gd_16 db00e_94
theorem d_X12_both_177 : decode prog_14_method_49_code 177 = .ok (.ifCond .eq 11, 3) := gd_17 db00e_94
theorem d_X12_both_180 : decode prog_14_method_49_code 180 = .ok (.iload_n 2, 1) := gd_18 db00e_94
theorem d_X12_both_181 : decode prog_14_method_49_code 181 = .ok (.ifCond .eq 7, 3) := gd_19 db00e_94
theorem d_X12_both_184 : decode prog_14_method_49_code 184 = .ok (.iconst 1, 1) := gd_20 db00e_94
theorem d_X12_both_185 : decode prog_14_method_49_code 185 = .ok (.goto 4, 3) := gd_21 db00e_94
theorem d_X12_both_188 : decode prog_14_method_49_code 188 = .ok (.iconst 0, 1) := gd_22 db00e_94
theorem d_X12_both_189 : decode prog_14_method_49_code 189 = .ok (.ireturn, 1) := gd_23 db00e_94
theorem db00e_95 : Ad_ prog_14_method_49_code [(190, .iload_n 1, 1), (191, .ifCond .ne 7, 3), (194, .iload_n 2, 1), (195, .ifCond .eq 7, 3), (198, .iconst 1, 1), (199, .goto 4, 3), (202, .iconst 0, 1), (203, .ireturn, 1)] := bch_ok prog_14_method_49_code _ 190 (by decide +kernel)
theorem d_X12_both_190 : decode prog_14_method_49_code 190 = .ok (.iload_n 1, 1) := gd_0 db00e_95
theorem d_X12_both_191 : decode prog_14_method_49_code 191 = .ok (.ifCond .ne 7, 3) := gd_1 db00e_95
theorem d_X12_both_194 : decode prog_14_method_49_code 194 = .ok (.iload_n 2, 1) := gd_2 db00e_95
theorem d_X12_both_195 : decode prog_14_method_49_code 195 = .ok (.ifCond .eq 7, 3) := gd_3 db00e_95
theorem d_X12_both_198 : decode prog_14_method_49_code 198 = .ok (.iconst 1, 1) := gd_4 db00e_95
theorem d_X12_both_199 : decode prog_14_method_49_code 199 = .ok (.goto 4, 3) := gd_5 db00e_95
theorem d_X12_both_202 : decode prog_14_method_49_code 202 = .ok (.iconst 0, 1) := gd_6 db00e_95
theorem d_X12_both_203 : decode prog_14_method_49_code 203 = .ok (.ireturn, 1) := gd_7 db00e_95
theorem db00e_96 : Ad_ prog_14_method_50_code [(0, .iconst 0, 1), (1, .istore_n 1, 1), (2, .aload_n 0, 1), (3, .getfield 105, 3), (6, .aload_n 0, 1), (7, .getfield 491, 3), (10, .iaload, 1), (11, .iconst 2, 1), (12, .if_icmp .eq 162, 3), (15, .aload_n 0, 1), (16, .getfield 105, 3), (19, .aload_n 0, 1), (20, .getfield 491, 3), (23, .iaload, 1), (24, .iconst 3, 1), (25, .if_icmp .eq 149, 3), (28, .aload_n 0, 1), (29, .getfield 105, 3), (32, .aload_n 0, 1), (33, .getfield 491, 3), (36, .iaload, 1), (37, .istore_n 2, 1), (38, .aload_n 0, 1), (39, .dup, 1)] := bch_ok prog_14_method_50_code _ 0 (by decide +kernel)
theorem d_X12_work_0 : decode prog_14_method_50_code 0 = .ok (.iconst 0, 1) := gd_0 db00e_96
theorem d_X12_work_1 : decode prog_14_method_50_code 1 = .ok (.istore_n 1, 1) := gd_1 db00e_96
theorem d_X12_work_2 : decode prog_14_method_50_code 2 = .ok (.aload_n 0, 1) := gd_2 db00e_96
theorem d_X12_work_3 : decode prog_14_method_50_code 3 = .ok (.getfield 105, 3) := gd_3 db00e_96
theorem d_X12_work_6 : decode prog_14_method_50_code 6 = .ok (.aload_n 0, 1) := gd_4 db00e_96
theorem d_X12_work_7 : decode prog_14_method_50_code 7 = .ok (.getfield 491, 3) := gd_5 db00e_96
theorem d_X12_work_10 : decode prog_14_method_50_code 10 = .ok (.iaload, 1) := gd_6 db00e_96
theorem d_X12_work_11 : decode prog_14_method_50_code 11 = .ok (.iconst 2, 1) := gd_7 db00e_96
theorem d_X12_work_12 : decode prog_14_method_50_code 12 = .ok (.if_icmp .eq 162, 3) := gd_8 db00e_96
theorem d_X12_work_15 : decode prog_14_method_50_code 15 = .ok (.aload_n 0, 1) := gd_9 db00e_96
theorem d_X12_work_16 : decode prog_14_method_50_code 16 = .ok (.getfield 105, 3) := gd_10 db00e_96
theorem d_X12_work_19 : decode prog_14_method_50_code 19 = .ok (.aload_n 0, 1) := gd_11 db00e_96
theorem d_X12_work_20 : decode prog_14_method_50_code 20 = .ok (.getfield 491, 3) := gd_12 db00e_96
theorem d_X12_work_23 : decode prog_14_method_50_code 23 = .ok (.iaload, 1) := gd_13 db00e_96
theorem d_X12_work_24 : decode prog_14_method_50_code 24 = .ok (.iconst 3, 1) := gd_14 db00e_96
theorem d_X12_work_25 : decode prog_14_method_50_code 25 = .ok (.if_icmp .eq 149, 3) := gd_15 db00e_96
theorem d_X12_work_28 : decode prog_14_method_50_code 28 = .ok (.aload_n 0, 1) := gd_16 db00e_96
theorem d_X12_work_29 : decode prog_14_method_50_code 29 = .ok (.getfield 105, 3) := gd_17 db00e_96
theorem d_X12_work_32 : decode prog_14_method_50_code 32 = .ok (.aload_n 0, 1) := gd_18 db00e_96
theorem d_X12_work_33 : decode prog_14_method_50_code 33 = .ok (.getfield 491, 3) := gd_19 db00e_96
theorem d_X12_work_36 : decode prog_14_method_50_code 36 = .ok (.iaload, 1) := gd_20 db00e_96
theorem d_X12_work_37 : decode prog_14_method_50_code 37 = .ok (.istore_n 2, 1) := gd_21 db00e_96
theorem d_X12_work_38 : decode prog_14_method_50_code 38 = .ok (.aload_n 0, 1) := gd_22 db00e_96
theorem d_X12_work_39 : decode prog_14_method_50_code 39 = .ok (.dup, 1) := gd_23 db00e_96
theorem db00e_97 : Ad_ prog_14_method_50_code [(40, .getfield 491, 3), (43, .iconst 1, 1), (44, .iadd, 1), (45, .putfield 491, 3), (48, .iload_n 2, 1), (49, .ifCond .eq 8, 3), (52, .iload_n 2, 1), (53, .iconst 1, 1), (54, .if_icmp .ne 55, 3), (57, .aload_n 0, 1), (58, .getfield 123, 3), (61, .iload_n 1, 1), (62, .iload_n 2, 1), (63, .ifCond .ne 15, 3), (66, .aload_n 0, 1), (67, .getfield 105, 3), (70, .aload_n 0, 1), (71, .getfield 491, 3), (74, .iaload, 1), (75, .goto 17, 3), (78, .aload_n 0, 1), (79, .getfield 120, 3), (82, .aload_n 0, 1), (83, .getfield 105, 3)] := bch_ok prog_14_method_50_code _ 40 (by decide +kernel)
theorem d_X12_work_40 : decode prog_14_method_50_code 40 = .ok (.getfield 491, 3) := gd_0 db00e_97
theorem d_X12_work_43 : decode prog_14_method_50_code 43 = .ok (.iconst 1, 1) := gd_1 db00e_97
theorem d_X12_work_44 : decode prog_14_method_50_code 44 = .ok (.iadd, 1) := gd_2 db00e_97
theorem d_X12_work_45 : decode prog_14_method_50_code 45 = .ok (.putfield 491, 3) := gd_3 db00e_97
theorem d_X12_work_48 : decode prog_14_method_50_code 48 = .ok (.iload_n 2, 1) := gd_4 db00e_97
theorem d_X12_work_49 : decode prog_14_method_50_code 49 = .ok (.ifCond .eq 8, 3) := gd_5 db00e_97
theorem d_X12_work_52 : decode prog_14_method_50_code 52 = .ok (.iload_n 2, 1) := gd_6 db00e_97
theorem d_X12_work_53 : decode prog_14_method_50_code 53 = .ok (.iconst 1, 1) := gd_7 db00e_97
theorem d_X12_work_54 : decode prog_14_method_50_code 54 = .ok (.if_icmp .ne 55, 3) := gd_8 db00e_97
theorem d_X12_work_57 : decode prog_14_method_50_code 57 = .ok (.aload_n 0, 1) := gd_9 db00e_97
theorem d_X12_work_58 : decode prog_14_method_50_code 58 = .ok (.getfield 123, 3) := gd_10 db00e_97
theorem d_X12_work_61 : decode prog_14_method_50_code 61 = .ok (.iload_n 1, 1) := gd_11 db00e_97
theorem d_X12_work_62 : decode prog_14_method_50_code 62 = .ok (.iload_n 2, 1) := gd_12 db00e_97
theorem d_X12_work_63 : decode prog_14_method_50_code 63 = .ok (.ifCond .ne 15, 3) := gd_13 db00e_97
theorem d_X12_work_66 : decode prog_14_method_50_code 66 = .ok (.aload_n 0, 1) := gd_14 db00e_97
theorem d_X12_work_67 : decode prog_14_method_50_code 67 = .ok (.getfield 105, 3) := gd_15 db00e_97
theorem d_X12_work_70 : decode prog_14_method_50_code 70 = .ok (.aload_n 0, 1) := gd_16 db00e_97
theorem d_X12_work_71 : decode prog_14_method_50_code 71 = .ok (.getfield 491, 3) := gd_17 db00e_97
theorem d_X12_work_74 : decode prog_14_method_50_code 74 = .ok (.iaload, 1) := gd_18 db00e_97
theorem d_X12_work_75 : decode prog_14_method_50_code 75 = .ok (.goto 17, 3) := gd_19 db00e_97
theorem d_X12_work_78 : decode prog_14_method_50_code 78 = .ok (.aload_n 0, 1) := gd_20 db00e_97
theorem d_X12_work_79 : decode prog_14_method_50_code 79 = .ok (.getfield 120, 3) := gd_21 db00e_97
theorem d_X12_work_82 : decode prog_14_method_50_code 82 = .ok (.aload_n 0, 1) := gd_22 db00e_97
theorem d_X12_work_83 : decode prog_14_method_50_code 83 = .ok (.getfield 105, 3) := gd_23 db00e_97
theorem db00e_98 : Ad_ prog_14_method_50_code [(86, .aload_n 0, 1), (87, .getfield 491, 3), (90, .iaload, 1), (91, .iaload, 1), (92, .iastore, 1), (93, .aload_n 0, 1), (94, .dup, 1), (95, .getfield 491, 3), (98, .iconst 1, 1), (99, .iadd, 1), (100, .putfield 491, 3), (103, .iinc 1 1, 3), (106, .goto 65, 3), (109, .iload_n 2, 1), (110, .bipush 33, 2), (112, .if_icmp .ne 30, 3), (115, .aload_n 0, 1), (116, .getfield 123, 3), (119, .iload_n 1, 1), (120, .iconst 1, 1), (121, .isub, 1), (122, .aload_n 0, 1), (123, .getfield 123, 3), (126, .iload_n 1, 1)] := bch_ok prog_14_method_50_code _ 86 (by decide +kernel)
theorem d_X12_work_86 : decode prog_14_method_50_code 86 = .ok (.aload_n 0, 1) := gd_0 db00e_98
theorem d_X12_work_87 : decode prog_14_method_50_code 87 = .ok (.getfield 491, 3) := gd_1 db00e_98
theorem d_X12_work_90 : decode prog_14_method_50_code 90 = .ok (.iaload, 1) := gd_2 db00e_98
theorem d_X12_work_91 : decode prog_14_method_50_code 91 = .ok (.iaload, 1) := gd_3 db00e_98
theorem d_X12_work_92 : decode prog_14_method_50_code 92 = .ok (.iastore, 1) := gd_4 db00e_98
theorem d_X12_work_93 : decode prog_14_method_50_code 93 = .ok (.aload_n 0, 1) := gd_5 db00e_98
theorem d_X12_work_94 : decode prog_14_method_50_code 94 = .ok (.dup, 1) := gd_6 db00e_98
theorem d_X12_work_95 : decode prog_14_method_50_code 95 = .ok (.getfield 491, 3) := gd_7 db00e_98
theorem d_X12_work_98 : decode prog_14_method_50_code 98 = .ok (.iconst 1, 1) := gd_8 db00e_98
theorem d_X12_work_99 : decode prog_14_method_50_code 99 = .ok (.iadd, 1) := gd_9 db00e_98
theorem d_X12_work_100 : decode prog_14_method_50_code 100 = .ok (.putfield 491, 3) := gd_10 db00e_98
theorem d_X12_work_103 : decode prog_14_method_50_code 103 = .ok (.iinc 1 1, 3) := gd_11 db00e_98
theorem d_X12_work_106 : decode prog_14_method_50_code 106 = .ok (.goto 65, 3) := gd_12 db00e_98
theorem d_X12_work_109 : decode prog_14_method_50_code 109 = .ok (.iload_n 2, 1) := gd_13 db00e_98
theorem d_X12_work_110 : decode prog_14_method_50_code 110 = .ok (.bipush 33, 2) := gd_14 db00e_98
theorem d_X12_work_112 : decode prog_14_method_50_code 112 = .ok (.if_icmp .ne 30, 3) := gd_15 db00e_98
theorem d_X12_work_115 : decode prog_14_method_50_code 115 = .ok (.aload_n 0, 1) := gd_16 db00e_98
theorem d_X12_work_116 : decode prog_14_method_50_code 116 = .ok (.getfield 123, 3) := gd_17 db00e_98
theorem d_X12_work_119 : decode prog_14_method_50_code 119 = .ok (.iload_n 1, 1) := gd_18 db00e_98
theorem d_X12_work_120 : decode prog_14_method_50_code 120 = .ok (.iconst 1, 1) := gd_19 db00e_98
theorem d_X12_work_121 : decode prog_14_method_50_code 121 = .ok (.isub, 1) := gd_20 db00e_98
theorem d_X12_work_122 : decode prog_14_method_50_code 122 = .ok (.aload_n 0, 1) := gd_21 db00e_98
theorem d_X12_work_123 : decode prog_14_method_50_code 123 = .ok (.getfield 123, 3) := gd_22 db00e_98
theorem d_X12_work_126 : decode prog_14_method_50_code 126 = .ok (.iload_n 1, 1) := gd_23 db00e_98
theorem db00e_99 : Ad_ prog_14_method_50_code [(127, .iconst 1, 1), (128, .isub, 1), (129, .iaload, 1), (130, .ifCond .ne 7, 3), (133, .iconst 1, 1), (134, .goto 4, 3), (137, .iconst 0, 1), (138, .iastore, 1), (139, .goto 32, 3), (142, .iinc 1 (-1), 3), (145, .aload_n 0, 1), (146, .getfield 123, 3), (149, .iload_n 1, 1), (150, .iconst 1, 1), (151, .isub, 1), (152, .iload_n 2, 1), (153, .aload_n 0, 1), (154, .getfield 123, 3), (157, .iload_n 1, 1), (158, .iconst 1, 1), (159, .isub, 1), (160, .iaload, 1), (161, .aload_n 0, 1), (162, .getfield 123, 3)] := bch_ok prog_14_method_50_code _ 127 (by decide +kernel)
theorem d_X12_work_127 : decode prog_14_method_50_code 127 = .ok (.iconst 1, 1) := gd_0 db00e_99
theorem d_X12_work_128 : decode prog_14_method_50_code 128 = .ok (.isub, 1) := gd_1 db00e_99
theorem d_X12_work_129 : decode prog_14_method_50_code 129 = .ok (.iaload, 1) := gd_2 db00e_99
theorem d_X12_work_130 : decode prog_14_method_50_code 130 = .ok (.ifCond .ne 7, 3) := gd_3 db00e_99
theorem d_X12_work_133 : decode prog_14_method_50_code 133 = .ok (.iconst 1, 1) := gd_4 db00e_99
theorem d_X12_work_134 : decode prog_14_method_50_code 134 = .ok (.goto 4, 3) := gd_5 db00e_99
theorem d_X12_work_137 : decode prog_14_method_50_code 137 = .ok (.iconst 0, 1) := gd_6 db00e_99
theorem d_X12_work_138 : decode prog_14_method_50_code 138 = .ok (.iastore, 1) := gd_7 db00e_99
theorem d_X12_work_139 : decode prog_14_method_50_code 139 = .ok (.goto 32, 3) := gd_8 db00e_99
theorem d_X12_work_142 : decode prog_14_method_50_code 142 = .ok (.iinc 1 (-1), 3) := gd_9 db00e_99
theorem d_X12_work_145 : decode prog_14_method_50_code 145 = .ok (.aload_n 0, 1) := gd_10 db00e_99
theorem d_X12_work_146 : decode prog_14_method_50_code 146 = .ok (.getfield 123, 3) := gd_11 db00e_99
theorem d_X12_work_149 : decode prog_14_method_50_code 149 = .ok (.iload_n 1, 1) := gd_12 db00e_99
theorem d_X12_work_150 : decode prog_14_method_50_code 150 = .ok (.iconst 1, 1) := gd_13 db00e_99
theorem d_X12_work_151 : decode prog_14_method_50_code 151 = .ok (.isub, 1) := gd_14 db00e_99
theorem d_X12_work_152 : decode prog_14_method_50_code 152 = .ok (.iload_n 2, 1) := gd_15 db00e_99
theorem d_X12_work_153 : decode prog_14_method_50_code 153 = .ok (.aload_n 0, 1) := gd_16 db00e_99
theorem d_X12_work_154 : decode prog_14_method_50_code 154 = .ok (.getfield 123, 3) := gd_17 db00e_99
theorem d_X12_work_157 : decode prog_14_method_50_code 157 = .ok (.iload_n 1, 1) := gd_18 db00e_99
theorem d_X12_work_158 : decode prog_14_method_50_code 158 = .ok (.iconst 1, 1) := gd_19 db00e_99
theorem d_X12_work_159 : decode prog_14_method_50_code 159 = .ok (.isub, 1) := gd_20 db00e_99
theorem d_X12_work_160 : decode prog_14_method_50_code 160 = .ok (.iaload, 1) := gd_21 db00e_99
theorem d_X12_work_161 : decode prog_14_method_50_code 161 = .ok (.aload_n 0, 1) := gd_22 db00e_99
theorem d_X12_work_162 : decode prog_14_method_50_code 162 = .ok (.getfield 123, 3) := gd_23 db00e_99
theorem db00e_100 : Ad_ prog_14_method_50_code [(165, .iload_n 1, 1), (166, .iaload, 1), (167, .invokestatic 494, 3), (170, .iastore, 1), (171, .goto (-169), 3), (174, .aload_n 0, 1), (175, .dup, 1), (176, .getfield 491, 3), (179, .iconst 1, 1), (180, .iadd, 1), (181, .putfield 491, 3), (184, .aload_n 0, 1), (185, .getfield 123, 3), (188, .iconst 0, 1), (189, .iaload, 1), (190, .ireturn, 1)] := bch_ok prog_14_method_50_code _ 165 (by decide +kernel)
theorem d_X12_work_165 : decode prog_14_method_50_code 165 = .ok (.iload_n 1, 1) := gd_0 db00e_100
theorem d_X12_work_166 : decode prog_14_method_50_code 166 = .ok (.iaload, 1) := gd_1 db00e_100
theorem d_X12_work_167 : decode prog_14_method_50_code 167 = .ok (.invokestatic 494, 3) := gd_2 db00e_100
theorem d_X12_work_170 : decode prog_14_method_50_code 170 = .ok (.iastore, 1) := gd_3 db00e_100
theorem d_X12_work_171 : decode prog_14_method_50_code 171 = .ok (.goto (-169), 3) := gd_4 db00e_100
theorem d_X12_work_174 : decode prog_14_method_50_code 174 = .ok (.aload_n 0, 1) := gd_5 db00e_100
theorem d_X12_work_175 : decode prog_14_method_50_code 175 = .ok (.dup, 1) := gd_6 db00e_100
theorem d_X12_work_176 : decode prog_14_method_50_code 176 = .ok (.getfield 491, 3) := gd_7 db00e_100
theorem d_X12_work_179 : decode prog_14_method_50_code 179 = .ok (.iconst 1, 1) := gd_8 db00e_100
theorem d_X12_work_180 : decode prog_14_method_50_code 180 = .ok (.iadd, 1) := gd_9 db00e_100
theorem d_X12_work_181 : decode prog_14_method_50_code 181 = .ok (.putfield 491, 3) := gd_10 db00e_100
theorem d_X12_work_184 : decode prog_14_method_50_code 184 = .ok (.aload_n 0, 1) := gd_11 db00e_100
theorem d_X12_work_185 : decode prog_14_method_50_code 185 = .ok (.getfield 123, 3) := gd_12 db00e_100
theorem d_X12_work_188 : decode prog_14_method_50_code 188 = .ok (.iconst 0, 1) := gd_13 db00e_100
theorem d_X12_work_189 : decode prog_14_method_50_code 189 = .ok (.iaload, 1) := gd_14 db00e_100
theorem d_X12_work_190 : decode prog_14_method_50_code 190 = .ok (.ireturn, 1) := gd_15 db00e_100
theorem db00e_101 : Ad_ prog_14_method_51_code [(0, .iload_n 2, 1), (1, .iconst (-1), 1), (2, .if_icmp .ne 5, 3), (5, .iconst 0, 1), (6, .ireturn, 1), (7, .bipush 20, 2), (9, .iload_n 1, 1), (10, .imul, 1), (11, .iload_n 2, 1), (12, .iadd, 1), (13, .istore_n 3, 1), (14, .aload_n 0, 1), (15, .sipush 560, 3), (18, .iload_n 3, 1), (19, .imul, 1), (20, .putfield 491, 3), (23, .aload_n 0, 1), (24, .getfield 491, 3), (27, .sipush 560, 3), (30, .iload_n 3, 1), (31, .imul, 1), (32, .aload_n 0, 1), (33, .getfield 108, 3), (36, .iload_n 3, 1)] := bch_ok prog_14_method_51_code _ 0 (by decide +kernel)
theorem d_X12_tell_0 : decode prog_14_method_51_code 0 = .ok (.iload_n 2, 1) := gd_0 db00e_101
theorem d_X12_tell_1 : decode prog_14_method_51_code 1 = .ok (.iconst (-1), 1) := gd_1 db00e_101
theorem d_X12_tell_2 : decode prog_14_method_51_code 2 = .ok (.if_icmp .ne 5, 3) := gd_2 db00e_101
theorem d_X12_tell_5 : decode prog_14_method_51_code 5 = .ok (.iconst 0, 1) := gd_3 db00e_101
theorem d_X12_tell_6 : decode prog_14_method_51_code 6 = .ok (.ireturn, 1) := gd_4 db00e_101
theorem d_X12_tell_7 : decode prog_14_method_51_code 7 = .ok (.bipush 20, 2) := gd_5 db00e_101
theorem d_X12_tell_9 : decode prog_14_method_51_code 9 = .ok (.iload_n 1, 1) := gd_6 db00e_101
theorem d_X12_tell_10 : decode prog_14_method_51_code 10 = .ok (.imul, 1) := gd_7 db00e_101
theorem d_X12_tell_11 : decode prog_14_method_51_code 11 = .ok (.iload_n 2, 1) := gd_8 db00e_101
theorem d_X12_tell_12 : decode prog_14_method_51_code 12 = .ok (.iadd, 1) := gd_9 db00e_101
theorem d_X12_tell_13 : decode prog_14_method_51_code 13 = .ok (.istore_n 3, 1) := gd_10 db00e_101
theorem d_X12_tell_14 : decode prog_14_method_51_code 14 = .ok (.aload_n 0, 1) := gd_11 db00e_101
theorem d_X12_tell_15 : decode prog_14_method_51_code 15 = .ok (.sipush 560, 3) := gd_12 db00e_101
theorem d_X12_tell_18 : decode prog_14_method_51_code 18 = .ok (.iload_n 3, 1) := gd_13 db00e_101
theorem d_X12_tell_19 : decode prog_14_method_51_code 19 = .ok (.imul, 1) := gd_14 db00e_101
theorem d_X12_tell_20 : decode prog_14_method_51_code 20 = .ok (.putfield 491, 3) := gd_15 db00e_101
theorem d_X12_tell_23 : decode prog_14_method_51_code 23 = .ok (.aload_n 0, 1) := gd_16 db00e_101
theorem d_X12_tell_24 : decode prog_14_method_51_code 24 = .ok (.getfield 491, 3) := gd_17 db00e_101
theorem d_X12_tell_27 : decode prog_14_method_51_code 27 = .ok (.sipush 560, 3) := gd_18 db00e_101
theorem d_X12_tell_30 : decode prog_14_method_51_code 30 = .ok (.iload_n 3, 1) := gd_19 db00e_101
theorem d_X12_tell_31 : decode prog_14_method_51_code 31 = .ok (.imul, 1) := gd_20 db00e_101
theorem d_X12_tell_32 : decode prog_14_method_51_code 32 = .ok (.aload_n 0, 1) := gd_21 db00e_101
theorem d_X12_tell_33 : decode prog_14_method_51_code 33 = .ok (.getfield 108, 3) := gd_22 db00e_101
theorem d_X12_tell_36 : decode prog_14_method_51_code 36 = .ok (.iload_n 3, 1) := gd_23 db00e_101
theorem db00e_102 : Ad_ prog_14_method_51_code [(37, .iaload, 1), (38, .iadd, 1), (39, .if_icmp .ge 34, 3), (42, .aload_n 0, 1), (43, .invokevirtual 497, 3), (46, .ifCond .eq 7, 3), (49, .iconst 1, 1), (50, .goto 4, 3), (53, .iconst 0, 1), (54, .istore 4, 2), (56, .aload_n 0, 1), (57, .invokevirtual 497, 3), (60, .istore 5, 2), (62, .iload 4, 2), (64, .ifCond .eq 6, 3), (67, .iload 5, 2), (69, .ireturn, 1), (70, .goto (-47), 3), (73, .iconst 0, 1), (74, .ireturn, 1)] := bch_ok prog_14_method_51_code _ 37 (by decide +kernel)
theorem d_X12_tell_37 : decode prog_14_method_51_code 37 = .ok (.iaload, 1) := gd_0 db00e_102
theorem d_X12_tell_38 : decode prog_14_method_51_code 38 = .ok (.iadd, 1) := gd_1 db00e_102
theorem d_X12_tell_39 : decode prog_14_method_51_code 39 = .ok (.if_icmp .ge 34, 3) := gd_2 db00e_102
theorem d_X12_tell_42 : decode prog_14_method_51_code 42 = .ok (.aload_n 0, 1) := gd_3 db00e_102
theorem d_X12_tell_43 : decode prog_14_method_51_code 43 = .ok (.invokevirtual 497, 3) := gd_4 db00e_102
theorem d_X12_tell_46 : decode prog_14_method_51_code 46 = .ok (.ifCond .eq 7, 3) := gd_5 db00e_102
theorem d_X12_tell_49 : decode prog_14_method_51_code 49 = .ok (.iconst 1, 1) := gd_6 db00e_102
theorem d_X12_tell_50 : decode prog_14_method_51_code 50 = .ok (.goto 4, 3) := gd_7 db00e_102
theorem d_X12_tell_53 : decode prog_14_method_51_code 53 = .ok (.iconst 0, 1) := gd_8 db00e_102
theorem d_X12_tell_54 : decode prog_14_method_51_code 54 = .ok (.istore 4, 2) := gd_9 db00e_102
theorem d_X12_tell_56 : decode prog_14_method_51_code 56 = .ok (.aload_n 0, 1) := gd_10 db00e_102
theorem d_X12_tell_57 : decode prog_14_method_51_code 57 = .ok (.invokevirtual 497, 3) := gd_11 db00e_102
theorem d_X12_tell_60 : decode prog_14_method_51_code 60 = .ok (.istore 5, 2) := gd_12 db00e_102
theorem d_X12_tell_62 : decode prog_14_method_51_code 62 = .ok (.iload 4, 2) := gd_13 db00e_102
theorem d_X12_tell_64 : decode prog_14_method_51_code 64 = .ok (.ifCond .eq 6, 3) := gd_14 db00e_102
theorem d_X12_tell_67 : decode prog_14_method_51_code 67 = .ok (.iload 5, 2) := gd_15 db00e_102
theorem d_X12_tell_69 : decode prog_14_method_51_code 69 = .ok (.ireturn, 1) := gd_16 db00e_102
theorem d_X12_tell_70 : decode prog_14_method_51_code 70 = .ok (.goto (-47), 3) := gd_17 db00e_102
theorem d_X12_tell_73 : decode prog_14_method_51_code 73 = .ok (.iconst 0, 1) := gd_18 db00e_102
theorem d_X12_tell_74 : decode prog_14_method_51_code 74 = .ok (.ireturn, 1) := gd_19 db00e_102
theorem db00e_103 : Ad_ prog_14_method_52_code [(0, .aload_n 0, 1), (1, .getfield 138, 3), (4, .iload_n 1, 1), (5, .aload_n 0, 1), (6, .getfield 342, 3), (9, .iastore, 1), (10, .aload_n 0, 1), (11, .getfield 141, 3), (14, .iload_n 1, 1), (15, .iload_n 2, 1), (16, .iastore, 1), (17, .return_, 1)] := bch_ok prog_14_method_52_code _ 0 (by decide +kernel)
theorem d_X12_miss_0 : decode prog_14_method_52_code 0 = .ok (.aload_n 0, 1) := gd_0 db00e_103
theorem d_X12_miss_1 : decode prog_14_method_52_code 1 = .ok (.getfield 138, 3) := gd_1 db00e_103
theorem d_X12_miss_4 : decode prog_14_method_52_code 4 = .ok (.iload_n 1, 1) := gd_2 db00e_103
theorem d_X12_miss_5 : decode prog_14_method_52_code 5 = .ok (.aload_n 0, 1) := gd_3 db00e_103
theorem d_X12_miss_6 : decode prog_14_method_52_code 6 = .ok (.getfield 342, 3) := gd_4 db00e_103
theorem d_X12_miss_9 : decode prog_14_method_52_code 9 = .ok (.iastore, 1) := gd_5 db00e_103
theorem d_X12_miss_10 : decode prog_14_method_52_code 10 = .ok (.aload_n 0, 1) := gd_6 db00e_103
theorem d_X12_miss_11 : decode prog_14_method_52_code 11 = .ok (.getfield 141, 3) := gd_7 db00e_103
theorem d_X12_miss_14 : decode prog_14_method_52_code 14 = .ok (.iload_n 1, 1) := gd_8 db00e_103
theorem d_X12_miss_15 : decode prog_14_method_52_code 15 = .ok (.iload_n 2, 1) := gd_9 db00e_103
theorem d_X12_miss_16 : decode prog_14_method_52_code 16 = .ok (.iastore, 1) := gd_10 db00e_103
theorem d_X12_miss_17 : decode prog_14_method_52_code 17 = .ok (.return_, 1) := gd_11 db00e_103
theorem db00e_104 : Ad_ prog_14_method_53_code [(0, .aload_n 0, 1), (1, .getfield 58, 3), (4, .iload_n 1, 1), (5, .iaload, 1), (6, .aload_n 0, 1), (7, .getfield 61, 3), (10, .iload_n 1, 1)] := bch_ok prog_14_method_53_code _ 0 (by decide +kernel)
theorem d_X12_drop_0 : decode prog_14_method_53_code 0 = .ok (.aload_n 0, 1) := gd_0 db00e_104
theorem d_X12_drop_1 : decode prog_14_method_53_code 1 = .ok (.getfield 58, 3) := gd_1 db00e_104
theorem d_X12_drop_4 : decode prog_14_method_53_code 4 = .ok (.iload_n 1, 1) := gd_2 db00e_104
theorem d_X12_drop_5 : decode prog_14_method_53_code 5 = .ok (.iaload, 1) := gd_3 db00e_104
theorem d_X12_drop_6 : decode prog_14_method_53_code 6 = .ok (.aload_n 0, 1) := gd_4 db00e_104
theorem d_X12_drop_7 : decode prog_14_method_53_code 7 = .ok (.getfield 61, 3) := gd_5 db00e_104
theorem d_X12_drop_10 : decode prog_14_method_53_code 10 = .ok (.iload_n 1, 1) := gd_6 db00e_104
