theorem db00g_0 : Ad_ prog_14_method_90_code [(37, .iaload, 1), (38, .iload 6, 2), (40, .if_icmp .ne 40, 3), (43, .aload_n 0, 1), (44, .getfield 211, 3), (47, .iload 8, 2), (49, .iaload, 1), (50, .iload_n 1, 1), (51, .if_icmp .ne 29, 3), (54, .aload_n 0, 1), (55, .getfield 214, 3), (58, .iload 8, 2), (60, .iaload, 1), (61, .iload_n 2, 1), (62, .if_icmp .ne 18, 3), (65, .aload_n 0, 1), (66, .getfield 220, 3), (69, .iload 8, 2), (71, .iaload, 1), (72, .iload_n 3, 1), (73, .if_icmp .gt 7, 3), (76, .iload 8, 2), (78, .istore 7, 2), (80, .iinc 8 1, 3)] := bch_ok prog_14_method_90_code _ 37 (by decide +kernel)
theorem d_X12_factOf_37 : decode prog_14_method_90_code 37 = .ok (.iaload, 1) := gd_0 db00g_0
theorem d_X12_factOf_38 : decode prog_14_method_90_code 38 = .ok (.iload 6, 2) := gd_1 db00g_0
theorem d_X12_factOf_40 : decode prog_14_method_90_code 40 = .ok (.if_icmp .ne 40, 3) := gd_2 db00g_0
theorem d_X12_factOf_43 : decode prog_14_method_90_code 43 = .ok (.aload_n 0, 1) := gd_3 db00g_0
theorem d_X12_factOf_44 : decode prog_14_method_90_code 44 = .ok (.getfield 211, 3) := gd_4 db00g_0
theorem d_X12_factOf_47 : decode prog_14_method_90_code 47 = .ok (.iload 8, 2) := gd_5 db00g_0
theorem d_X12_factOf_49 : decode prog_14_method_90_code 49 = .ok (.iaload, 1) := gd_6 db00g_0
theorem d_X12_factOf_50 : decode prog_14_method_90_code 50 = .ok (.iload_n 1, 1) := gd_7 db00g_0
theorem d_X12_factOf_51 : decode prog_14_method_90_code 51 = .ok (.if_icmp .ne 29, 3) := gd_8 db00g_0
theorem d_X12_factOf_54 : decode prog_14_method_90_code 54 = .ok (.aload_n 0, 1) := gd_9 db00g_0
theorem d_X12_factOf_55 : decode prog_14_method_90_code 55 = .ok (.getfield 214, 3) := gd_10 db00g_0
theorem d_X12_factOf_58 : decode prog_14_method_90_code 58 = .ok (.iload 8, 2) := gd_11 db00g_0
theorem d_X12_factOf_60 : decode prog_14_method_90_code 60 = .ok (.iaload, 1) := gd_12 db00g_0
theorem d_X12_factOf_61 : decode prog_14_method_90_code 61 = .ok (.iload_n 2, 1) := gd_13 db00g_0
theorem d_X12_factOf_62 : decode prog_14_method_90_code 62 = .ok (.if_icmp .ne 18, 3) := gd_14 db00g_0
theorem d_X12_factOf_65 : decode prog_14_method_90_code 65 = .ok (.aload_n 0, 1) := gd_15 db00g_0
theorem d_X12_factOf_66 : decode prog_14_method_90_code 66 = .ok (.getfield 220, 3) := gd_16 db00g_0
theorem d_X12_factOf_69 : decode prog_14_method_90_code 69 = .ok (.iload 8, 2) := gd_17 db00g_0
theorem d_X12_factOf_71 : decode prog_14_method_90_code 71 = .ok (.iaload, 1) := gd_18 db00g_0
theorem d_X12_factOf_72 : decode prog_14_method_90_code 72 = .ok (.iload_n 3, 1) := gd_19 db00g_0
theorem d_X12_factOf_73 : decode prog_14_method_90_code 73 = .ok (.if_icmp .gt 7, 3) := gd_20 db00g_0
theorem d_X12_factOf_76 : decode prog_14_method_90_code 76 = .ok (.iload 8, 2) := gd_21 db00g_0
theorem d_X12_factOf_78 : decode prog_14_method_90_code 78 = .ok (.istore 7, 2) := gd_22 db00g_0
theorem d_X12_factOf_80 : decode prog_14_method_90_code 80 = .ok (.iinc 8 1, 3) := gd_23 db00g_0
theorem db00g_1 : Ad_ prog_14_method_90_code [(83, .goto (-61), 3), (86, .iload 7, 2), (88, .iconst (-1), 1), (89, .if_icmp .eq 67, 3), (92, .aload_n 0, 1), (93, .getfield 229, 3), (96, .iload 6, 2), (98, .baload, 1), (99, .ifCond .eq 17, 3), (102, .aload_n 0, 1), (103, .getfield 226, 3), (106, .iload 6, 2), (108, .iaload, 1), (109, .iload_n 3, 1), (110, .if_icmp .gt 6, 3), (113, .goto 43, 3), (116, .iload 4, 2), (118, .aload_n 0, 1), (119, .getfield 223, 3), (122, .iload 7, 2), (124, .baload, 1), (125, .ifCond .eq 7, 3), (128, .iconst 1, 1), (129, .goto 4, 3)] := bch_ok prog_14_method_90_code _ 83 (by decide +kernel)
theorem d_X12_factOf_83 : decode prog_14_method_90_code 83 = .ok (.goto (-61), 3) := gd_0 db00g_1
theorem d_X12_factOf_86 : decode prog_14_method_90_code 86 = .ok (.iload 7, 2) := gd_1 db00g_1
theorem d_X12_factOf_88 : decode prog_14_method_90_code 88 = .ok (.iconst (-1), 1) := gd_2 db00g_1
theorem d_X12_factOf_89 : decode prog_14_method_90_code 89 = .ok (.if_icmp .eq 67, 3) := gd_3 db00g_1
theorem d_X12_factOf_92 : decode prog_14_method_90_code 92 = .ok (.aload_n 0, 1) := gd_4 db00g_1
theorem d_X12_factOf_93 : decode prog_14_method_90_code 93 = .ok (.getfield 229, 3) := gd_5 db00g_1
theorem d_X12_factOf_96 : decode prog_14_method_90_code 96 = .ok (.iload 6, 2) := gd_6 db00g_1
theorem d_X12_factOf_98 : decode prog_14_method_90_code 98 = .ok (.baload, 1) := gd_7 db00g_1
theorem d_X12_factOf_99 : decode prog_14_method_90_code 99 = .ok (.ifCond .eq 17, 3) := gd_8 db00g_1
theorem d_X12_factOf_102 : decode prog_14_method_90_code 102 = .ok (.aload_n 0, 1) := gd_9 db00g_1
theorem d_X12_factOf_103 : decode prog_14_method_90_code 103 = .ok (.getfield 226, 3) := gd_10 db00g_1
theorem d_X12_factOf_106 : decode prog_14_method_90_code 106 = .ok (.iload 6, 2) := gd_11 db00g_1
theorem d_X12_factOf_108 : decode prog_14_method_90_code 108 = .ok (.iaload, 1) := gd_12 db00g_1
theorem d_X12_factOf_109 : decode prog_14_method_90_code 109 = .ok (.iload_n 3, 1) := gd_13 db00g_1
theorem d_X12_factOf_110 : decode prog_14_method_90_code 110 = .ok (.if_icmp .gt 6, 3) := gd_14 db00g_1
theorem d_X12_factOf_113 : decode prog_14_method_90_code 113 = .ok (.goto 43, 3) := gd_15 db00g_1
theorem d_X12_factOf_116 : decode prog_14_method_90_code 116 = .ok (.iload 4, 2) := gd_16 db00g_1
theorem d_X12_factOf_118 : decode prog_14_method_90_code 118 = .ok (.aload_n 0, 1) := gd_17 db00g_1
theorem d_X12_factOf_119 : decode prog_14_method_90_code 119 = .ok (.getfield 223, 3) := gd_18 db00g_1
theorem d_X12_factOf_122 : decode prog_14_method_90_code 122 = .ok (.iload 7, 2) := gd_19 db00g_1
theorem d_X12_factOf_124 : decode prog_14_method_90_code 124 = .ok (.baload, 1) := gd_20 db00g_1
theorem d_X12_factOf_125 : decode prog_14_method_90_code 125 = .ok (.ifCond .eq 7, 3) := gd_21 db00g_1
theorem d_X12_factOf_128 : decode prog_14_method_90_code 128 = .ok (.iconst 1, 1) := gd_22 db00g_1
theorem d_X12_factOf_129 : decode prog_14_method_90_code 129 = .ok (.goto 4, 3) := gd_23 db00g_1
theorem db00g_2 : Ad_ prog_14_method_90_code [(132, .iconst 0, 1), (133, .iadd, 1), (134, .istore 4, 2), (136, .iload 5, 2), (138, .aload_n 0, 1), (139, .getfield 223, 3), (142, .iload 7, 2), (144, .baload, 1), (145, .ifCond .eq 7, 3), (148, .iconst 0, 1), (149, .goto 4, 3), (152, .iconst 1, 1), (153, .iadd, 1), (154, .istore 5, 2), (156, .iinc 6 1, 3), (159, .goto (-150), 3), (162, .iload 4, 2), (164, .ifCond .le 10, 3), (167, .iload 5, 2), (169, .ifCond .le 5, 3), (172, .iconst 3, 1), (173, .ireturn, 1), (174, .iload 4, 2), (176, .aload_n 0, 1)] := bch_ok prog_14_method_90_code _ 132 (by decide +kernel)
theorem d_X12_factOf_132 : decode prog_14_method_90_code 132 = .ok (.iconst 0, 1) := gd_0 db00g_2
theorem d_X12_factOf_133 : decode prog_14_method_90_code 133 = .ok (.iadd, 1) := gd_1 db00g_2
theorem d_X12_factOf_134 : decode prog_14_method_90_code 134 = .ok (.istore 4, 2) := gd_2 db00g_2
theorem d_X12_factOf_136 : decode prog_14_method_90_code 136 = .ok (.iload 5, 2) := gd_3 db00g_2
theorem d_X12_factOf_138 : decode prog_14_method_90_code 138 = .ok (.aload_n 0, 1) := gd_4 db00g_2
theorem d_X12_factOf_139 : decode prog_14_method_90_code 139 = .ok (.getfield 223, 3) := gd_5 db00g_2
theorem d_X12_factOf_142 : decode prog_14_method_90_code 142 = .ok (.iload 7, 2) := gd_6 db00g_2
theorem d_X12_factOf_144 : decode prog_14_method_90_code 144 = .ok (.baload, 1) := gd_7 db00g_2
theorem d_X12_factOf_145 : decode prog_14_method_90_code 145 = .ok (.ifCond .eq 7, 3) := gd_8 db00g_2
theorem d_X12_factOf_148 : decode prog_14_method_90_code 148 = .ok (.iconst 0, 1) := gd_9 db00g_2
theorem d_X12_factOf_149 : decode prog_14_method_90_code 149 = .ok (.goto 4, 3) := gd_10 db00g_2
theorem d_X12_factOf_152 : decode prog_14_method_90_code 152 = .ok (.iconst 1, 1) := gd_11 db00g_2
theorem d_X12_factOf_153 : decode prog_14_method_90_code 153 = .ok (.iadd, 1) := gd_12 db00g_2
theorem d_X12_factOf_154 : decode prog_14_method_90_code 154 = .ok (.istore 5, 2) := gd_13 db00g_2
theorem d_X12_factOf_156 : decode prog_14_method_90_code 156 = .ok (.iinc 6 1, 3) := gd_14 db00g_2
theorem d_X12_factOf_159 : decode prog_14_method_90_code 159 = .ok (.goto (-150), 3) := gd_15 db00g_2
theorem d_X12_factOf_162 : decode prog_14_method_90_code 162 = .ok (.iload 4, 2) := gd_16 db00g_2
theorem d_X12_factOf_164 : decode prog_14_method_90_code 164 = .ok (.ifCond .le 10, 3) := gd_17 db00g_2
theorem d_X12_factOf_167 : decode prog_14_method_90_code 167 = .ok (.iload 5, 2) := gd_18 db00g_2
theorem d_X12_factOf_169 : decode prog_14_method_90_code 169 = .ok (.ifCond .le 5, 3) := gd_19 db00g_2
theorem d_X12_factOf_172 : decode prog_14_method_90_code 172 = .ok (.iconst 3, 1) := gd_20 db00g_2
theorem d_X12_factOf_173 : decode prog_14_method_90_code 173 = .ok (.ireturn, 1) := gd_21 db00g_2
theorem d_X12_factOf_174 : decode prog_14_method_90_code 174 = .ok (.iload 4, 2) := gd_22 db00g_2
theorem d_X12_factOf_176 : decode prog_14_method_90_code 176 = .ok (.aload_n 0, 1) := gd_23 db00g_2
theorem db00g_3 : Ad_ prog_14_method_90_code [(177, .getfield 208, 3), (180, .iload_n 2, 1), (181, .iaload, 1), (182, .if_icmp .lt 7, 3), (185, .iconst 1, 1), (186, .goto 19, 3), (189, .iload 5, 2), (191, .aload_n 0, 1), (192, .getfield 208, 3), (195, .iload_n 2, 1), (196, .iaload, 1), (197, .if_icmp .lt 7, 3), (200, .iconst 2, 1), (201, .goto 4, 3), (204, .iconst 0, 1), (205, .ireturn, 1)] := bch_ok prog_14_method_90_code _ 177 (by decide +kernel)
theorem d_X12_factOf_177 : decode prog_14_method_90_code 177 = .ok (.getfield 208, 3) := gd_0 db00g_3
theorem d_X12_factOf_180 : decode prog_14_method_90_code 180 = .ok (.iload_n 2, 1) := gd_1 db00g_3
theorem d_X12_factOf_181 : decode prog_14_method_90_code 181 = .ok (.iaload, 1) := gd_2 db00g_3
theorem d_X12_factOf_182 : decode prog_14_method_90_code 182 = .ok (.if_icmp .lt 7, 3) := gd_3 db00g_3
theorem d_X12_factOf_185 : decode prog_14_method_90_code 185 = .ok (.iconst 1, 1) := gd_4 db00g_3
theorem d_X12_factOf_186 : decode prog_14_method_90_code 186 = .ok (.goto 19, 3) := gd_5 db00g_3
theorem d_X12_factOf_189 : decode prog_14_method_90_code 189 = .ok (.iload 5, 2) := gd_6 db00g_3
theorem d_X12_factOf_191 : decode prog_14_method_90_code 191 = .ok (.aload_n 0, 1) := gd_7 db00g_3
theorem d_X12_factOf_192 : decode prog_14_method_90_code 192 = .ok (.getfield 208, 3) := gd_8 db00g_3
theorem d_X12_factOf_195 : decode prog_14_method_90_code 195 = .ok (.iload_n 2, 1) := gd_9 db00g_3
theorem d_X12_factOf_196 : decode prog_14_method_90_code 196 = .ok (.iaload, 1) := gd_10 db00g_3
theorem d_X12_factOf_197 : decode prog_14_method_90_code 197 = .ok (.if_icmp .lt 7, 3) := gd_11 db00g_3
theorem d_X12_factOf_200 : decode prog_14_method_90_code 200 = .ok (.iconst 2, 1) := gd_12 db00g_3
theorem d_X12_factOf_201 : decode prog_14_method_90_code 201 = .ok (.goto 4, 3) := gd_13 db00g_3
theorem d_X12_factOf_204 : decode prog_14_method_90_code 204 = .ok (.iconst 0, 1) := gd_14 db00g_3
theorem d_X12_factOf_205 : decode prog_14_method_90_code 205 = .ok (.ireturn, 1) := gd_15 db00g_3
theorem db00g_4 : Ad_ prog_14_method_91_code [(0, .aload_n 0, 1), (1, .iload_n 1, 1), (2, .invokevirtual 588, 3), (5, .ifCond .eq 25, 3), (8, .aload_n 0, 1), (9, .iload_n 2, 1), (10, .invokevirtual 351, 3), (13, .ifCond .eq 17, 3), (16, .aload_n 0, 1), (17, .getfield 202, 3), (20, .iload_n 1, 1), (21, .iaload, 1), (22, .iload_n 2, 1), (23, .if_icmp .gt 7, 3), (26, .iconst 1, 1), (27, .goto 4, 3), (30, .iconst 0, 1), (31, .ireturn, 1)] := bch_ok prog_14_method_91_code _ 0 (by decide +kernel)
theorem d_X12_isOpen_0 : decode prog_14_method_91_code 0 = .ok (.aload_n 0, 1) := gd_0 db00g_4
theorem d_X12_isOpen_1 : decode prog_14_method_91_code 1 = .ok (.iload_n 1, 1) := gd_1 db00g_4
theorem d_X12_isOpen_2 : decode prog_14_method_91_code 2 = .ok (.invokevirtual 588, 3) := gd_2 db00g_4
theorem d_X12_isOpen_5 : decode prog_14_method_91_code 5 = .ok (.ifCond .eq 25, 3) := gd_3 db00g_4
theorem d_X12_isOpen_8 : decode prog_14_method_91_code 8 = .ok (.aload_n 0, 1) := gd_4 db00g_4
theorem d_X12_isOpen_9 : decode prog_14_method_91_code 9 = .ok (.iload_n 2, 1) := gd_5 db00g_4
theorem d_X12_isOpen_10 : decode prog_14_method_91_code 10 = .ok (.invokevirtual 351, 3) := gd_6 db00g_4
theorem d_X12_isOpen_13 : decode prog_14_method_91_code 13 = .ok (.ifCond .eq 17, 3) := gd_7 db00g_4
theorem d_X12_isOpen_16 : decode prog_14_method_91_code 16 = .ok (.aload_n 0, 1) := gd_8 db00g_4
theorem d_X12_isOpen_17 : decode prog_14_method_91_code 17 = .ok (.getfield 202, 3) := gd_9 db00g_4
theorem d_X12_isOpen_20 : decode prog_14_method_91_code 20 = .ok (.iload_n 1, 1) := gd_10 db00g_4
theorem d_X12_isOpen_21 : decode prog_14_method_91_code 21 = .ok (.iaload, 1) := gd_11 db00g_4
theorem d_X12_isOpen_22 : decode prog_14_method_91_code 22 = .ok (.iload_n 2, 1) := gd_12 db00g_4
theorem d_X12_isOpen_23 : decode prog_14_method_91_code 23 = .ok (.if_icmp .gt 7, 3) := gd_13 db00g_4
theorem d_X12_isOpen_26 : decode prog_14_method_91_code 26 = .ok (.iconst 1, 1) := gd_14 db00g_4
theorem d_X12_isOpen_27 : decode prog_14_method_91_code 27 = .ok (.goto 4, 3) := gd_15 db00g_4
theorem d_X12_isOpen_30 : decode prog_14_method_91_code 30 = .ok (.iconst 0, 1) := gd_16 db00g_4
theorem d_X12_isOpen_31 : decode prog_14_method_91_code 31 = .ok (.ireturn, 1) := gd_17 db00g_4
theorem db00g_5 : Ad_ prog_14_method_92_code [(0, .aload_n 0, 1), (1, .iload_n 1, 1), (2, .iload_n 3, 1), (3, .invokevirtual 594, 3), (6, .ifCond .eq 23, 3), (9, .iload_n 2, 1), (10, .iconst 0, 1), (11, .bipush 7, 2), (13, .invokestatic 323, 3), (16, .ifCond .eq 13, 3), (19, .aload_n 0, 1), (20, .iload_n 1, 1), (21, .iload_n 2, 1), (22, .iload_n 3, 1), (23, .invokevirtual 597, 3), (26, .goto 4, 3), (29, .iconst (-1), 1), (30, .ireturn, 1)] := bch_ok prog_14_method_92_code _ 0 (by decide +kernel)
theorem d_X12_fact_0 : decode prog_14_method_92_code 0 = .ok (.aload_n 0, 1) := gd_0 db00g_5
theorem d_X12_fact_1 : decode prog_14_method_92_code 1 = .ok (.iload_n 1, 1) := gd_1 db00g_5
theorem d_X12_fact_2 : decode prog_14_method_92_code 2 = .ok (.iload_n 3, 1) := gd_2 db00g_5
theorem d_X12_fact_3 : decode prog_14_method_92_code 3 = .ok (.invokevirtual 594, 3) := gd_3 db00g_5
theorem d_X12_fact_6 : decode prog_14_method_92_code 6 = .ok (.ifCond .eq 23, 3) := gd_4 db00g_5
theorem d_X12_fact_9 : decode prog_14_method_92_code 9 = .ok (.iload_n 2, 1) := gd_5 db00g_5
theorem d_X12_fact_10 : decode prog_14_method_92_code 10 = .ok (.iconst 0, 1) := gd_6 db00g_5
theorem d_X12_fact_11 : decode prog_14_method_92_code 11 = .ok (.bipush 7, 2) := gd_7 db00g_5
theorem d_X12_fact_13 : decode prog_14_method_92_code 13 = .ok (.invokestatic 323, 3) := gd_8 db00g_5
theorem d_X12_fact_16 : decode prog_14_method_92_code 16 = .ok (.ifCond .eq 13, 3) := gd_9 db00g_5
theorem d_X12_fact_19 : decode prog_14_method_92_code 19 = .ok (.aload_n 0, 1) := gd_10 db00g_5
theorem d_X12_fact_20 : decode prog_14_method_92_code 20 = .ok (.iload_n 1, 1) := gd_11 db00g_5
theorem d_X12_fact_21 : decode prog_14_method_92_code 21 = .ok (.iload_n 2, 1) := gd_12 db00g_5
theorem d_X12_fact_22 : decode prog_14_method_92_code 22 = .ok (.iload_n 3, 1) := gd_13 db00g_5
theorem d_X12_fact_23 : decode prog_14_method_92_code 23 = .ok (.invokevirtual 597, 3) := gd_14 db00g_5
theorem d_X12_fact_26 : decode prog_14_method_92_code 26 = .ok (.goto 4, 3) := gd_15 db00g_5
theorem d_X12_fact_29 : decode prog_14_method_92_code 29 = .ok (.iconst (-1), 1) := gd_16 db00g_5
theorem d_X12_fact_30 : decode prog_14_method_92_code 30 = .ok (.ireturn, 1) := gd_17 db00g_5
theorem db00g_6 : Ad_ prog_14_method_93_code [(0, .iconst 0, 1), (1, .istore 4, 2), (3, .iconst 0, 1), (4, .istore 5, 2), (6, .iload 5, 2), (8, .bipush 8, 2), (10, .if_icmp .ge 34, 3), (13, .iload 4, 2), (15, .aload_n 0, 1), (16, .iload_n 1, 1), (17, .iload 5, 2), (19, .iload_n 3, 1), (20, .invokevirtual 597, 3), (23, .iload_n 2, 1), (24, .if_icmp .ne 10, 3), (27, .iconst 1, 1), (28, .iload 5, 2), (30, .ishl, 1), (31, .goto 4, 3), (34, .iconst 0, 1), (35, .ior, 1), (36, .istore 4, 2), (38, .iinc 5 1, 3), (41, .goto (-35), 3)] := bch_ok prog_14_method_93_code _ 0 (by decide +kernel)
theorem d_X12_factsThat_0 : decode prog_14_method_93_code 0 = .ok (.iconst 0, 1) := gd_0 db00g_6
theorem d_X12_factsThat_1 : decode prog_14_method_93_code 1 = .ok (.istore 4, 2) := gd_1 db00g_6
theorem d_X12_factsThat_3 : decode prog_14_method_93_code 3 = .ok (.iconst 0, 1) := gd_2 db00g_6
theorem d_X12_factsThat_4 : decode prog_14_method_93_code 4 = .ok (.istore 5, 2) := gd_3 db00g_6
theorem d_X12_factsThat_6 : decode prog_14_method_93_code 6 = .ok (.iload 5, 2) := gd_4 db00g_6
theorem d_X12_factsThat_8 : decode prog_14_method_93_code 8 = .ok (.bipush 8, 2) := gd_5 db00g_6
theorem d_X12_factsThat_10 : decode prog_14_method_93_code 10 = .ok (.if_icmp .ge 34, 3) := gd_6 db00g_6
theorem d_X12_factsThat_13 : decode prog_14_method_93_code 13 = .ok (.iload 4, 2) := gd_7 db00g_6
theorem d_X12_factsThat_15 : decode prog_14_method_93_code 15 = .ok (.aload_n 0, 1) := gd_8 db00g_6
theorem d_X12_factsThat_16 : decode prog_14_method_93_code 16 = .ok (.iload_n 1, 1) := gd_9 db00g_6
theorem d_X12_factsThat_17 : decode prog_14_method_93_code 17 = .ok (.iload 5, 2) := gd_10 db00g_6
theorem d_X12_factsThat_19 : decode prog_14_method_93_code 19 = .ok (.iload_n 3, 1) := gd_11 db00g_6
theorem d_X12_factsThat_20 : decode prog_14_method_93_code 20 = .ok (.invokevirtual 597, 3) := gd_12 db00g_6
theorem d_X12_factsThat_23 : decode prog_14_method_93_code 23 = .ok (.iload_n 2, 1) := gd_13 db00g_6
theorem d_X12_factsThat_24 : decode prog_14_method_93_code 24 = .ok (.if_icmp .ne 10, 3) := gd_14 db00g_6
theorem d_X12_factsThat_27 : decode prog_14_method_93_code 27 = .ok (.iconst 1, 1) := gd_15 db00g_6
theorem d_X12_factsThat_28 : decode prog_14_method_93_code 28 = .ok (.iload 5, 2) := gd_16 db00g_6
theorem d_X12_factsThat_30 : decode prog_14_method_93_code 30 = .ok (.ishl, 1) := gd_17 db00g_6
theorem d_X12_factsThat_31 : decode prog_14_method_93_code 31 = .ok (.goto 4, 3) := gd_18 db00g_6
theorem d_X12_factsThat_34 : decode prog_14_method_93_code 34 = .ok (.iconst 0, 1) := gd_19 db00g_6
theorem d_X12_factsThat_35 : decode prog_14_method_93_code 35 = .ok (.ior, 1) := gd_20 db00g_6
theorem d_X12_factsThat_36 : decode prog_14_method_93_code 36 = .ok (.istore 4, 2) := gd_21 db00g_6
theorem d_X12_factsThat_38 : decode prog_14_method_93_code 38 = .ok (.iinc 5 1, 3) := gd_22 db00g_6
theorem d_X12_factsThat_41 : decode prog_14_method_93_code 41 = .ok (.goto (-35), 3) := gd_23 db00g_6
theorem d_X12_factsThat_44 : decode prog_14_method_93_code 44 = .ok (.iload 4, 2) := by decide +kernel
theorem d_X12_factsThat_46 : decode prog_14_method_93_code 46 = .ok (.ireturn, 1) := by decide +kernel
theorem d_X12_lacks_19 : decode prog_14_method_94_code 19 = .ok (.ixor, 1) := by decide +kernel
theorem db00g_7 : Ad_ prog_14_method_94_code [(0, .aload_n 0, 1), (1, .getfield 205, 3), (4, .aload_n 0, 1), (5, .getfield 199, 3), (8, .iload_n 1, 1), (9, .iaload, 1), (10, .iaload, 1), (11, .aload_n 0, 1), (12, .iload_n 1, 1), (13, .iconst 1, 1), (14, .iload_n 2, 1), (15, .invokevirtual 600, 3), (18, .iconst (-1), 1), (20, .iand, 1), (21, .ireturn, 1)] := bch_ok prog_14_method_94_code _ 0 (by decide +kernel)
theorem d_X12_lacks_0 : decode prog_14_method_94_code 0 = .ok (.aload_n 0, 1) := gd_0 db00g_7
theorem d_X12_lacks_1 : decode prog_14_method_94_code 1 = .ok (.getfield 205, 3) := gd_1 db00g_7
theorem d_X12_lacks_4 : decode prog_14_method_94_code 4 = .ok (.aload_n 0, 1) := gd_2 db00g_7
theorem d_X12_lacks_5 : decode prog_14_method_94_code 5 = .ok (.getfield 199, 3) := gd_3 db00g_7
theorem d_X12_lacks_8 : decode prog_14_method_94_code 8 = .ok (.iload_n 1, 1) := gd_4 db00g_7
theorem d_X12_lacks_9 : decode prog_14_method_94_code 9 = .ok (.iaload, 1) := gd_5 db00g_7
theorem d_X12_lacks_10 : decode prog_14_method_94_code 10 = .ok (.iaload, 1) := gd_6 db00g_7
theorem d_X12_lacks_11 : decode prog_14_method_94_code 11 = .ok (.aload_n 0, 1) := gd_7 db00g_7
theorem d_X12_lacks_12 : decode prog_14_method_94_code 12 = .ok (.iload_n 1, 1) := gd_8 db00g_7
theorem d_X12_lacks_13 : decode prog_14_method_94_code 13 = .ok (.iconst 1, 1) := gd_9 db00g_7
theorem d_X12_lacks_14 : decode prog_14_method_94_code 14 = .ok (.iload_n 2, 1) := gd_10 db00g_7
theorem d_X12_lacks_15 : decode prog_14_method_94_code 15 = .ok (.invokevirtual 600, 3) := gd_11 db00g_7
theorem d_X12_lacks_18 : decode prog_14_method_94_code 18 = .ok (.iconst (-1), 1) := gd_12 db00g_7
theorem d_X12_lacks_20 : decode prog_14_method_94_code 20 = .ok (.iand, 1) := gd_13 db00g_7
theorem d_X12_lacks_21 : decode prog_14_method_94_code 21 = .ok (.ireturn, 1) := gd_14 db00g_7
theorem db00g_8 : Ad_ prog_14_method_95_code [(0, .aload_n 0, 1), (1, .getfield 205, 3), (4, .aload_n 0, 1), (5, .getfield 199, 3), (8, .iload_n 1, 1), (9, .iaload, 1), (10, .iaload, 1), (11, .aload_n 0, 1), (12, .iload_n 1, 1), (13, .iconst 2, 1), (14, .iload_n 2, 1), (15, .invokevirtual 600, 3), (18, .iand, 1), (19, .ifCond .eq 5, 3), (22, .iconst 2, 1), (23, .ireturn, 1), (24, .aload_n 0, 1), (25, .iload_n 1, 1), (26, .iload_n 2, 1), (27, .invokevirtual 603, 3), (30, .ifCond .ne 7, 3), (33, .iconst 1, 1), (34, .goto 4, 3), (37, .iconst 0, 1)] := bch_ok prog_14_method_95_code _ 0 (by decide +kernel)
theorem d_X12_whatIs_0 : decode prog_14_method_95_code 0 = .ok (.aload_n 0, 1) := gd_0 db00g_8
theorem d_X12_whatIs_1 : decode prog_14_method_95_code 1 = .ok (.getfield 205, 3) := gd_1 db00g_8
theorem d_X12_whatIs_4 : decode prog_14_method_95_code 4 = .ok (.aload_n 0, 1) := gd_2 db00g_8
theorem d_X12_whatIs_5 : decode prog_14_method_95_code 5 = .ok (.getfield 199, 3) := gd_3 db00g_8
theorem d_X12_whatIs_8 : decode prog_14_method_95_code 8 = .ok (.iload_n 1, 1) := gd_4 db00g_8
theorem d_X12_whatIs_9 : decode prog_14_method_95_code 9 = .ok (.iaload, 1) := gd_5 db00g_8
theorem d_X12_whatIs_10 : decode prog_14_method_95_code 10 = .ok (.iaload, 1) := gd_6 db00g_8
theorem d_X12_whatIs_11 : decode prog_14_method_95_code 11 = .ok (.aload_n 0, 1) := gd_7 db00g_8
theorem d_X12_whatIs_12 : decode prog_14_method_95_code 12 = .ok (.iload_n 1, 1) := gd_8 db00g_8
theorem d_X12_whatIs_13 : decode prog_14_method_95_code 13 = .ok (.iconst 2, 1) := gd_9 db00g_8
theorem d_X12_whatIs_14 : decode prog_14_method_95_code 14 = .ok (.iload_n 2, 1) := gd_10 db00g_8
theorem d_X12_whatIs_15 : decode prog_14_method_95_code 15 = .ok (.invokevirtual 600, 3) := gd_11 db00g_8
theorem d_X12_whatIs_18 : decode prog_14_method_95_code 18 = .ok (.iand, 1) := gd_12 db00g_8
theorem d_X12_whatIs_19 : decode prog_14_method_95_code 19 = .ok (.ifCond .eq 5, 3) := gd_13 db00g_8
theorem d_X12_whatIs_22 : decode prog_14_method_95_code 22 = .ok (.iconst 2, 1) := gd_14 db00g_8
theorem d_X12_whatIs_23 : decode prog_14_method_95_code 23 = .ok (.ireturn, 1) := gd_15 db00g_8
theorem d_X12_whatIs_24 : decode prog_14_method_95_code 24 = .ok (.aload_n 0, 1) := gd_16 db00g_8
theorem d_X12_whatIs_25 : decode prog_14_method_95_code 25 = .ok (.iload_n 1, 1) := gd_17 db00g_8
theorem d_X12_whatIs_26 : decode prog_14_method_95_code 26 = .ok (.iload_n 2, 1) := gd_18 db00g_8
theorem d_X12_whatIs_27 : decode prog_14_method_95_code 27 = .ok (.invokevirtual 603, 3) := gd_19 db00g_8
theorem d_X12_whatIs_30 : decode prog_14_method_95_code 30 = .ok (.ifCond .ne 7, 3) := gd_20 db00g_8
theorem d_X12_whatIs_33 : decode prog_14_method_95_code 33 = .ok (.iconst 1, 1) := gd_21 db00g_8
theorem d_X12_whatIs_34 : decode prog_14_method_95_code 34 = .ok (.goto 4, 3) := gd_22 db00g_8
theorem d_X12_whatIs_37 : decode prog_14_method_95_code 37 = .ok (.iconst 0, 1) := gd_23 db00g_8
theorem d_X12_whatIs_38 : decode prog_14_method_95_code 38 = .ok (.ireturn, 1) := by decide +kernel
theorem db00g_9 : Ad_ prog_14_method_96_code [(0, .aload_n 0, 1), (1, .iload_n 1, 1), (2, .iconst 2, 1), (3, .iload_n 2, 1), (4, .invokevirtual 600, 3), (7, .istore_n 3, 1), (8, .aload_n 0, 1), (9, .iload_n 1, 1), (10, .iconst 1, 1), (11, .iload_n 2, 1), (12, .invokevirtual 600, 3), (15, .istore 4, 2), (17, .iconst 0, 1), (18, .istore 5, 2), (20, .iconst 0, 1), (21, .istore 6, 2), (23, .iload 6, 2), (25, .aload_n 0, 1), (26, .getfield 241, 3), (29, .iload_n 1, 1), (30, .iaload, 1), (31, .if_icmp .ge 79, 3), (34, .bipush 6, 2), (36, .iload_n 1, 1)] := bch_ok prog_14_method_96_code _ 0 (by decide +kernel)
theorem d_X12_standing_0 : decode prog_14_method_96_code 0 = .ok (.aload_n 0, 1) := gd_0 db00g_9
theorem d_X12_standing_1 : decode prog_14_method_96_code 1 = .ok (.iload_n 1, 1) := gd_1 db00g_9
theorem d_X12_standing_2 : decode prog_14_method_96_code 2 = .ok (.iconst 2, 1) := gd_2 db00g_9
theorem d_X12_standing_3 : decode prog_14_method_96_code 3 = .ok (.iload_n 2, 1) := gd_3 db00g_9
theorem d_X12_standing_4 : decode prog_14_method_96_code 4 = .ok (.invokevirtual 600, 3) := gd_4 db00g_9
theorem d_X12_standing_7 : decode prog_14_method_96_code 7 = .ok (.istore_n 3, 1) := gd_5 db00g_9
theorem d_X12_standing_8 : decode prog_14_method_96_code 8 = .ok (.aload_n 0, 1) := gd_6 db00g_9
theorem d_X12_standing_9 : decode prog_14_method_96_code 9 = .ok (.iload_n 1, 1) := gd_7 db00g_9
theorem d_X12_standing_10 : decode prog_14_method_96_code 10 = .ok (.iconst 1, 1) := gd_8 db00g_9
theorem d_X12_standing_11 : decode prog_14_method_96_code 11 = .ok (.iload_n 2, 1) := gd_9 db00g_9
theorem d_X12_standing_12 : decode prog_14_method_96_code 12 = .ok (.invokevirtual 600, 3) := gd_10 db00g_9
theorem d_X12_standing_15 : decode prog_14_method_96_code 15 = .ok (.istore 4, 2) := gd_11 db00g_9
theorem d_X12_standing_17 : decode prog_14_method_96_code 17 = .ok (.iconst 0, 1) := gd_12 db00g_9
theorem d_X12_standing_18 : decode prog_14_method_96_code 18 = .ok (.istore 5, 2) := gd_13 db00g_9
theorem d_X12_standing_20 : decode prog_14_method_96_code 20 = .ok (.iconst 0, 1) := gd_14 db00g_9
theorem d_X12_standing_21 : decode prog_14_method_96_code 21 = .ok (.istore 6, 2) := gd_15 db00g_9
theorem d_X12_standing_23 : decode prog_14_method_96_code 23 = .ok (.iload 6, 2) := gd_16 db00g_9
theorem d_X12_standing_25 : decode prog_14_method_96_code 25 = .ok (.aload_n 0, 1) := gd_17 db00g_9
theorem d_X12_standing_26 : decode prog_14_method_96_code 26 = .ok (.getfield 241, 3) := gd_18 db00g_9
theorem d_X12_standing_29 : decode prog_14_method_96_code 29 = .ok (.iload_n 1, 1) := gd_19 db00g_9
theorem d_X12_standing_30 : decode prog_14_method_96_code 30 = .ok (.iaload, 1) := gd_20 db00g_9
theorem d_X12_standing_31 : decode prog_14_method_96_code 31 = .ok (.if_icmp .ge 79, 3) := gd_21 db00g_9
theorem d_X12_standing_34 : decode prog_14_method_96_code 34 = .ok (.bipush 6, 2) := gd_22 db00g_9
theorem d_X12_standing_36 : decode prog_14_method_96_code 36 = .ok (.iload_n 1, 1) := gd_23 db00g_9
theorem db00g_10 : Ad_ prog_14_method_96_code [(37, .imul, 1), (38, .iload 6, 2), (40, .iadd, 1), (41, .istore 7, 2), (43, .aload_n 0, 1), (44, .getfield 238, 3), (47, .iload 7, 2), (49, .iaload, 1), (50, .iload_n 2, 1), (51, .if_icmp .gt 32, 3), (54, .aload_n 0, 1), (55, .getfield 232, 3), (58, .iload 7, 2), (60, .iaload, 1), (61, .iload_n 3, 1), (62, .iand, 1), (63, .ifCond .ne 20, 3), (66, .aload_n 0, 1), (67, .getfield 235, 3), (70, .iload 7, 2), (72, .iaload, 1), (73, .iload 4, 2), (75, .iand, 1), (76, .ifCond .ne 7, 3)] := bch_ok prog_14_method_96_code _ 37 (by decide +kernel)
theorem d_X12_standing_37 : decode prog_14_method_96_code 37 = .ok (.imul, 1) := gd_0 db00g_10
theorem d_X12_standing_38 : decode prog_14_method_96_code 38 = .ok (.iload 6, 2) := gd_1 db00g_10
theorem d_X12_standing_40 : decode prog_14_method_96_code 40 = .ok (.iadd, 1) := gd_2 db00g_10
theorem d_X12_standing_41 : decode prog_14_method_96_code 41 = .ok (.istore 7, 2) := gd_3 db00g_10
theorem d_X12_standing_43 : decode prog_14_method_96_code 43 = .ok (.aload_n 0, 1) := gd_4 db00g_10
theorem d_X12_standing_44 : decode prog_14_method_96_code 44 = .ok (.getfield 238, 3) := gd_5 db00g_10
theorem d_X12_standing_47 : decode prog_14_method_96_code 47 = .ok (.iload 7, 2) := gd_6 db00g_10
theorem d_X12_standing_49 : decode prog_14_method_96_code 49 = .ok (.iaload, 1) := gd_7 db00g_10
theorem d_X12_standing_50 : decode prog_14_method_96_code 50 = .ok (.iload_n 2, 1) := gd_8 db00g_10
theorem d_X12_standing_51 : decode prog_14_method_96_code 51 = .ok (.if_icmp .gt 32, 3) := gd_9 db00g_10
theorem d_X12_standing_54 : decode prog_14_method_96_code 54 = .ok (.aload_n 0, 1) := gd_10 db00g_10
theorem d_X12_standing_55 : decode prog_14_method_96_code 55 = .ok (.getfield 232, 3) := gd_11 db00g_10
theorem d_X12_standing_58 : decode prog_14_method_96_code 58 = .ok (.iload 7, 2) := gd_12 db00g_10
theorem d_X12_standing_60 : decode prog_14_method_96_code 60 = .ok (.iaload, 1) := gd_13 db00g_10
theorem d_X12_standing_61 : decode prog_14_method_96_code 61 = .ok (.iload_n 3, 1) := gd_14 db00g_10
theorem d_X12_standing_62 : decode prog_14_method_96_code 62 = .ok (.iand, 1) := gd_15 db00g_10
theorem d_X12_standing_63 : decode prog_14_method_96_code 63 = .ok (.ifCond .ne 20, 3) := gd_16 db00g_10
theorem d_X12_standing_66 : decode prog_14_method_96_code 66 = .ok (.aload_n 0, 1) := gd_17 db00g_10
theorem d_X12_standing_67 : decode prog_14_method_96_code 67 = .ok (.getfield 235, 3) := gd_18 db00g_10
theorem d_X12_standing_70 : decode prog_14_method_96_code 70 = .ok (.iload 7, 2) := gd_19 db00g_10
theorem d_X12_standing_72 : decode prog_14_method_96_code 72 = .ok (.iaload, 1) := gd_20 db00g_10
theorem d_X12_standing_73 : decode prog_14_method_96_code 73 = .ok (.iload 4, 2) := gd_21 db00g_10
theorem d_X12_standing_75 : decode prog_14_method_96_code 75 = .ok (.iand, 1) := gd_22 db00g_10
theorem d_X12_standing_76 : decode prog_14_method_96_code 76 = .ok (.ifCond .ne 7, 3) := gd_23 db00g_10
theorem db00g_11 : Ad_ prog_14_method_96_code [(79, .iconst 1, 1), (80, .goto 4, 3), (83, .iconst 0, 1), (84, .istore 8, 2), (86, .iload 5, 2), (88, .iload 8, 2), (90, .ifCond .eq 10, 3), (93, .iconst 1, 1), (94, .iload 6, 2), (96, .ishl, 1), (97, .goto 4, 3), (100, .iconst 0, 1), (101, .ior, 1), (102, .istore 5, 2), (104, .iinc 6 1, 3), (107, .goto (-84), 3), (110, .iload 5, 2), (112, .ireturn, 1)] := bch_ok prog_14_method_96_code _ 79 (by decide +kernel)
theorem d_X12_standing_79 : decode prog_14_method_96_code 79 = .ok (.iconst 1, 1) := gd_0 db00g_11
theorem d_X12_standing_80 : decode prog_14_method_96_code 80 = .ok (.goto 4, 3) := gd_1 db00g_11
theorem d_X12_standing_83 : decode prog_14_method_96_code 83 = .ok (.iconst 0, 1) := gd_2 db00g_11
theorem d_X12_standing_84 : decode prog_14_method_96_code 84 = .ok (.istore 8, 2) := gd_3 db00g_11
theorem d_X12_standing_86 : decode prog_14_method_96_code 86 = .ok (.iload 5, 2) := gd_4 db00g_11
theorem d_X12_standing_88 : decode prog_14_method_96_code 88 = .ok (.iload 8, 2) := gd_5 db00g_11
theorem d_X12_standing_90 : decode prog_14_method_96_code 90 = .ok (.ifCond .eq 10, 3) := gd_6 db00g_11
theorem d_X12_standing_93 : decode prog_14_method_96_code 93 = .ok (.iconst 1, 1) := gd_7 db00g_11
theorem d_X12_standing_94 : decode prog_14_method_96_code 94 = .ok (.iload 6, 2) := gd_8 db00g_11
theorem d_X12_standing_96 : decode prog_14_method_96_code 96 = .ok (.ishl, 1) := gd_9 db00g_11
theorem d_X12_standing_97 : decode prog_14_method_96_code 97 = .ok (.goto 4, 3) := gd_10 db00g_11
theorem d_X12_standing_100 : decode prog_14_method_96_code 100 = .ok (.iconst 0, 1) := gd_11 db00g_11
theorem d_X12_standing_101 : decode prog_14_method_96_code 101 = .ok (.ior, 1) := gd_12 db00g_11
theorem d_X12_standing_102 : decode prog_14_method_96_code 102 = .ok (.istore 5, 2) := gd_13 db00g_11
theorem d_X12_standing_104 : decode prog_14_method_96_code 104 = .ok (.iinc 6 1, 3) := gd_14 db00g_11
theorem d_X12_standing_107 : decode prog_14_method_96_code 107 = .ok (.goto (-84), 3) := gd_15 db00g_11
theorem d_X12_standing_110 : decode prog_14_method_96_code 110 = .ok (.iload 5, 2) := gd_16 db00g_11
theorem d_X12_standing_112 : decode prog_14_method_96_code 112 = .ok (.ireturn, 1) := gd_17 db00g_11
theorem d_X12_cased_12 : decode prog_14_method_97_code 12 = .ok (.tableswitch 74 0 4 #[36, 43, 50, 57, 64], 36) := by decide +kernel
theorem db00g_12 : Ad_ prog_14_method_97_code [(0, .aload_n 0, 1), (1, .iload_n 1, 1), (2, .iload_n 2, 1), (3, .invokevirtual 594, 3), (6, .ifCond .ne 5, 3), (9, .iconst (-1), 1), (10, .ireturn, 1), (11, .iload_n 3, 1), (48, .aload_n 0, 1), (49, .iload_n 1, 1), (50, .iload_n 2, 1), (51, .invokevirtual 606, 3), (54, .ireturn, 1), (55, .aload_n 0, 1), (56, .iload_n 1, 1), (57, .iload_n 2, 1), (58, .invokevirtual 603, 3), (61, .ireturn, 1), (62, .aload_n 0, 1), (63, .getfield 199, 3), (66, .iload_n 1, 1), (67, .iaload, 1), (68, .ireturn, 1), (69, .aload_n 0, 1)] := bch_ok prog_14_method_97_code _ 0 (by decide +kernel)
theorem d_X12_cased_0 : decode prog_14_method_97_code 0 = .ok (.aload_n 0, 1) := gd_0 db00g_12
theorem d_X12_cased_1 : decode prog_14_method_97_code 1 = .ok (.iload_n 1, 1) := gd_1 db00g_12
theorem d_X12_cased_2 : decode prog_14_method_97_code 2 = .ok (.iload_n 2, 1) := gd_2 db00g_12
theorem d_X12_cased_3 : decode prog_14_method_97_code 3 = .ok (.invokevirtual 594, 3) := gd_3 db00g_12
theorem d_X12_cased_6 : decode prog_14_method_97_code 6 = .ok (.ifCond .ne 5, 3) := gd_4 db00g_12
theorem d_X12_cased_9 : decode prog_14_method_97_code 9 = .ok (.iconst (-1), 1) := gd_5 db00g_12
theorem d_X12_cased_10 : decode prog_14_method_97_code 10 = .ok (.ireturn, 1) := gd_6 db00g_12
theorem d_X12_cased_11 : decode prog_14_method_97_code 11 = .ok (.iload_n 3, 1) := gd_7 db00g_12
theorem d_X12_cased_48 : decode prog_14_method_97_code 48 = .ok (.aload_n 0, 1) := gd_8 db00g_12
theorem d_X12_cased_49 : decode prog_14_method_97_code 49 = .ok (.iload_n 1, 1) := gd_9 db00g_12
theorem d_X12_cased_50 : decode prog_14_method_97_code 50 = .ok (.iload_n 2, 1) := gd_10 db00g_12
theorem d_X12_cased_51 : decode prog_14_method_97_code 51 = .ok (.invokevirtual 606, 3) := gd_11 db00g_12
theorem d_X12_cased_54 : decode prog_14_method_97_code 54 = .ok (.ireturn, 1) := gd_12 db00g_12
theorem d_X12_cased_55 : decode prog_14_method_97_code 55 = .ok (.aload_n 0, 1) := gd_13 db00g_12
theorem d_X12_cased_56 : decode prog_14_method_97_code 56 = .ok (.iload_n 1, 1) := gd_14 db00g_12
theorem d_X12_cased_57 : decode prog_14_method_97_code 57 = .ok (.iload_n 2, 1) := gd_15 db00g_12
theorem d_X12_cased_58 : decode prog_14_method_97_code 58 = .ok (.invokevirtual 603, 3) := gd_16 db00g_12
theorem d_X12_cased_61 : decode prog_14_method_97_code 61 = .ok (.ireturn, 1) := gd_17 db00g_12
theorem d_X12_cased_62 : decode prog_14_method_97_code 62 = .ok (.aload_n 0, 1) := gd_18 db00g_12
theorem d_X12_cased_63 : decode prog_14_method_97_code 63 = .ok (.getfield 199, 3) := gd_19 db00g_12
theorem d_X12_cased_66 : decode prog_14_method_97_code 66 = .ok (.iload_n 1, 1) := gd_20 db00g_12
theorem d_X12_cased_67 : decode prog_14_method_97_code 67 = .ok (.iaload, 1) := gd_21 db00g_12
theorem d_X12_cased_68 : decode prog_14_method_97_code 68 = .ok (.ireturn, 1) := gd_22 db00g_12
theorem d_X12_cased_69 : decode prog_14_method_97_code 69 = .ok (.aload_n 0, 1) := gd_23 db00g_12
theorem db00g_13 : Ad_ prog_14_method_97_code [(70, .getfield 202, 3), (73, .iload_n 1, 1), (74, .iaload, 1), (75, .ireturn, 1), (76, .aload_n 0, 1), (77, .iload_n 1, 1), (78, .iload_n 2, 1), (79, .invokevirtual 609, 3), (82, .invokestatic 612, 3), (85, .ireturn, 1), (86, .iconst (-1), 1), (87, .ireturn, 1)] := bch_ok prog_14_method_97_code _ 70 (by decide +kernel)
theorem d_X12_cased_70 : decode prog_14_method_97_code 70 = .ok (.getfield 202, 3) := gd_0 db00g_13
theorem d_X12_cased_73 : decode prog_14_method_97_code 73 = .ok (.iload_n 1, 1) := gd_1 db00g_13
theorem d_X12_cased_74 : decode prog_14_method_97_code 74 = .ok (.iaload, 1) := gd_2 db00g_13
theorem d_X12_cased_75 : decode prog_14_method_97_code 75 = .ok (.ireturn, 1) := gd_3 db00g_13
theorem d_X12_cased_76 : decode prog_14_method_97_code 76 = .ok (.aload_n 0, 1) := gd_4 db00g_13
theorem d_X12_cased_77 : decode prog_14_method_97_code 77 = .ok (.iload_n 1, 1) := gd_5 db00g_13
theorem d_X12_cased_78 : decode prog_14_method_97_code 78 = .ok (.iload_n 2, 1) := gd_6 db00g_13
theorem d_X12_cased_79 : decode prog_14_method_97_code 79 = .ok (.invokevirtual 609, 3) := gd_7 db00g_13
theorem d_X12_cased_82 : decode prog_14_method_97_code 82 = .ok (.invokestatic 612, 3) := gd_8 db00g_13
theorem d_X12_cased_85 : decode prog_14_method_97_code 85 = .ok (.ireturn, 1) := gd_9 db00g_13
theorem d_X12_cased_86 : decode prog_14_method_97_code 86 = .ok (.iconst (-1), 1) := gd_10 db00g_13
theorem d_X12_cased_87 : decode prog_14_method_97_code 87 = .ok (.ireturn, 1) := gd_11 db00g_13
theorem db00g_14 : Ad_ prog_14_method_98_code [(0, .iload_n 1, 1), (1, .iconst 0, 1), (2, .bipush 15, 2), (4, .invokestatic 323, 3), (7, .ifCond .eq 12, 3), (10, .aload_n 0, 1), (11, .getfield 229, 3), (14, .iload_n 1, 1), (15, .baload, 1), (16, .ifCond .eq 5, 3), (19, .iconst (-1), 1), (20, .ireturn, 1), (21, .iconst 0, 1), (22, .istore_n 2, 1), (23, .iload_n 2, 1), (24, .aload_n 0, 1), (25, .getfield 576, 3), (28, .if_icmp .ge 36, 3), (31, .aload_n 0, 1), (32, .getfield 244, 3), (35, .iload_n 2, 1), (36, .iconst 4, 1), (37, .aload_n 0, 1), (38, .iload_n 2, 1)] := bch_ok prog_14_method_98_code _ 0 (by decide +kernel)
theorem d_X12_withdraw_0 : decode prog_14_method_98_code 0 = .ok (.iload_n 1, 1) := gd_0 db00g_14
theorem d_X12_withdraw_1 : decode prog_14_method_98_code 1 = .ok (.iconst 0, 1) := gd_1 db00g_14
theorem d_X12_withdraw_2 : decode prog_14_method_98_code 2 = .ok (.bipush 15, 2) := gd_2 db00g_14
theorem d_X12_withdraw_4 : decode prog_14_method_98_code 4 = .ok (.invokestatic 323, 3) := gd_3 db00g_14
theorem d_X12_withdraw_7 : decode prog_14_method_98_code 7 = .ok (.ifCond .eq 12, 3) := gd_4 db00g_14
theorem d_X12_withdraw_10 : decode prog_14_method_98_code 10 = .ok (.aload_n 0, 1) := gd_5 db00g_14
theorem d_X12_withdraw_11 : decode prog_14_method_98_code 11 = .ok (.getfield 229, 3) := gd_6 db00g_14
theorem d_X12_withdraw_14 : decode prog_14_method_98_code 14 = .ok (.iload_n 1, 1) := gd_7 db00g_14
theorem d_X12_withdraw_15 : decode prog_14_method_98_code 15 = .ok (.baload, 1) := gd_8 db00g_14
theorem d_X12_withdraw_16 : decode prog_14_method_98_code 16 = .ok (.ifCond .eq 5, 3) := gd_9 db00g_14
theorem d_X12_withdraw_19 : decode prog_14_method_98_code 19 = .ok (.iconst (-1), 1) := gd_10 db00g_14
theorem d_X12_withdraw_20 : decode prog_14_method_98_code 20 = .ok (.ireturn, 1) := gd_11 db00g_14
theorem d_X12_withdraw_21 : decode prog_14_method_98_code 21 = .ok (.iconst 0, 1) := gd_12 db00g_14
theorem d_X12_withdraw_22 : decode prog_14_method_98_code 22 = .ok (.istore_n 2, 1) := gd_13 db00g_14
theorem d_X12_withdraw_23 : decode prog_14_method_98_code 23 = .ok (.iload_n 2, 1) := gd_14 db00g_14
theorem d_X12_withdraw_24 : decode prog_14_method_98_code 24 = .ok (.aload_n 0, 1) := gd_15 db00g_14
theorem d_X12_withdraw_25 : decode prog_14_method_98_code 25 = .ok (.getfield 576, 3) := gd_16 db00g_14
theorem d_X12_withdraw_28 : decode prog_14_method_98_code 28 = .ok (.if_icmp .ge 36, 3) := gd_17 db00g_14
theorem d_X12_withdraw_31 : decode prog_14_method_98_code 31 = .ok (.aload_n 0, 1) := gd_18 db00g_14
theorem d_X12_withdraw_32 : decode prog_14_method_98_code 32 = .ok (.getfield 244, 3) := gd_19 db00g_14
theorem d_X12_withdraw_35 : decode prog_14_method_98_code 35 = .ok (.iload_n 2, 1) := gd_20 db00g_14
theorem d_X12_withdraw_36 : decode prog_14_method_98_code 36 = .ok (.iconst 4, 1) := gd_21 db00g_14
theorem d_X12_withdraw_37 : decode prog_14_method_98_code 37 = .ok (.aload_n 0, 1) := gd_22 db00g_14
theorem d_X12_withdraw_38 : decode prog_14_method_98_code 38 = .ok (.iload_n 2, 1) := gd_23 db00g_14
theorem db00g_15 : Ad_ prog_14_method_98_code [(39, .aload_n 0, 1), (40, .getfield 342, 3), (43, .invokevirtual 603, 3), (46, .imul, 1), (47, .aload_n 0, 1), (48, .iload_n 2, 1), (49, .aload_n 0, 1), (50, .getfield 342, 3), (53, .invokevirtual 606, 3), (56, .iadd, 1), (57, .iastore, 1), (58, .iinc 2 1, 3), (61, .goto (-38), 3), (64, .aload_n 0, 1), (65, .getfield 229, 3), (68, .iload_n 1, 1), (69, .iconst 1, 1), (70, .bastore, 1), (71, .aload_n 0, 1), (72, .getfield 226, 3), (75, .iload_n 1, 1), (76, .aload_n 0, 1), (77, .getfield 342, 3), (80, .iastore, 1)] := bch_ok prog_14_method_98_code _ 39 (by decide +kernel)
theorem d_X12_withdraw_39 : decode prog_14_method_98_code 39 = .ok (.aload_n 0, 1) := gd_0 db00g_15
theorem d_X12_withdraw_40 : decode prog_14_method_98_code 40 = .ok (.getfield 342, 3) := gd_1 db00g_15
theorem d_X12_withdraw_43 : decode prog_14_method_98_code 43 = .ok (.invokevirtual 603, 3) := gd_2 db00g_15
theorem d_X12_withdraw_46 : decode prog_14_method_98_code 46 = .ok (.imul, 1) := gd_3 db00g_15
theorem d_X12_withdraw_47 : decode prog_14_method_98_code 47 = .ok (.aload_n 0, 1) := gd_4 db00g_15
theorem d_X12_withdraw_48 : decode prog_14_method_98_code 48 = .ok (.iload_n 2, 1) := gd_5 db00g_15
theorem d_X12_withdraw_49 : decode prog_14_method_98_code 49 = .ok (.aload_n 0, 1) := gd_6 db00g_15
theorem d_X12_withdraw_50 : decode prog_14_method_98_code 50 = .ok (.getfield 342, 3) := gd_7 db00g_15
theorem d_X12_withdraw_53 : decode prog_14_method_98_code 53 = .ok (.invokevirtual 606, 3) := gd_8 db00g_15
theorem d_X12_withdraw_56 : decode prog_14_method_98_code 56 = .ok (.iadd, 1) := gd_9 db00g_15
theorem d_X12_withdraw_57 : decode prog_14_method_98_code 57 = .ok (.iastore, 1) := gd_10 db00g_15
theorem d_X12_withdraw_58 : decode prog_14_method_98_code 58 = .ok (.iinc 2 1, 3) := gd_11 db00g_15
theorem d_X12_withdraw_61 : decode prog_14_method_98_code 61 = .ok (.goto (-38), 3) := gd_12 db00g_15
theorem d_X12_withdraw_64 : decode prog_14_method_98_code 64 = .ok (.aload_n 0, 1) := gd_13 db00g_15
theorem d_X12_withdraw_65 : decode prog_14_method_98_code 65 = .ok (.getfield 229, 3) := gd_14 db00g_15
theorem d_X12_withdraw_68 : decode prog_14_method_98_code 68 = .ok (.iload_n 1, 1) := gd_15 db00g_15
theorem d_X12_withdraw_69 : decode prog_14_method_98_code 69 = .ok (.iconst 1, 1) := gd_16 db00g_15
theorem d_X12_withdraw_70 : decode prog_14_method_98_code 70 = .ok (.bastore, 1) := gd_17 db00g_15
theorem d_X12_withdraw_71 : decode prog_14_method_98_code 71 = .ok (.aload_n 0, 1) := gd_18 db00g_15
theorem d_X12_withdraw_72 : decode prog_14_method_98_code 72 = .ok (.getfield 226, 3) := gd_19 db00g_15
theorem d_X12_withdraw_75 : decode prog_14_method_98_code 75 = .ok (.iload_n 1, 1) := gd_20 db00g_15
theorem d_X12_withdraw_76 : decode prog_14_method_98_code 76 = .ok (.aload_n 0, 1) := gd_21 db00g_15
theorem d_X12_withdraw_77 : decode prog_14_method_98_code 77 = .ok (.getfield 342, 3) := gd_22 db00g_15
theorem d_X12_withdraw_80 : decode prog_14_method_98_code 80 = .ok (.iastore, 1) := gd_23 db00g_15
theorem db00g_16 : Ad_ prog_14_method_98_code [(81, .iconst 0, 1), (82, .istore_n 2, 1), (83, .iconst 0, 1), (84, .istore_n 3, 1), (85, .iload_n 3, 1), (86, .aload_n 0, 1), (87, .getfield 576, 3), (90, .if_icmp .ge 47, 3), (93, .iload_n 2, 1), (94, .aload_n 0, 1), (95, .getfield 244, 3), (98, .iload_n 3, 1), (99, .iaload, 1), (100, .iconst 4, 1), (101, .aload_n 0, 1), (102, .iload_n 3, 1), (103, .aload_n 0, 1), (104, .getfield 342, 3), (107, .invokevirtual 603, 3), (110, .imul, 1), (111, .aload_n 0, 1), (112, .iload_n 3, 1), (113, .aload_n 0, 1), (114, .getfield 342, 3)] := bch_ok prog_14_method_98_code _ 81 (by decide +kernel)
theorem d_X12_withdraw_81 : decode prog_14_method_98_code 81 = .ok (.iconst 0, 1) := gd_0 db00g_16
theorem d_X12_withdraw_82 : decode prog_14_method_98_code 82 = .ok (.istore_n 2, 1) := gd_1 db00g_16
theorem d_X12_withdraw_83 : decode prog_14_method_98_code 83 = .ok (.iconst 0, 1) := gd_2 db00g_16
theorem d_X12_withdraw_84 : decode prog_14_method_98_code 84 = .ok (.istore_n 3, 1) := gd_3 db00g_16
theorem d_X12_withdraw_85 : decode prog_14_method_98_code 85 = .ok (.iload_n 3, 1) := gd_4 db00g_16
theorem d_X12_withdraw_86 : decode prog_14_method_98_code 86 = .ok (.aload_n 0, 1) := gd_5 db00g_16
theorem d_X12_withdraw_87 : decode prog_14_method_98_code 87 = .ok (.getfield 576, 3) := gd_6 db00g_16
theorem d_X12_withdraw_90 : decode prog_14_method_98_code 90 = .ok (.if_icmp .ge 47, 3) := gd_7 db00g_16
theorem d_X12_withdraw_93 : decode prog_14_method_98_code 93 = .ok (.iload_n 2, 1) := gd_8 db00g_16
theorem d_X12_withdraw_94 : decode prog_14_method_98_code 94 = .ok (.aload_n 0, 1) := gd_9 db00g_16
theorem d_X12_withdraw_95 : decode prog_14_method_98_code 95 = .ok (.getfield 244, 3) := gd_10 db00g_16
theorem d_X12_withdraw_98 : decode prog_14_method_98_code 98 = .ok (.iload_n 3, 1) := gd_11 db00g_16
theorem d_X12_withdraw_99 : decode prog_14_method_98_code 99 = .ok (.iaload, 1) := gd_12 db00g_16
theorem d_X12_withdraw_100 : decode prog_14_method_98_code 100 = .ok (.iconst 4, 1) := gd_13 db00g_16
theorem d_X12_withdraw_101 : decode prog_14_method_98_code 101 = .ok (.aload_n 0, 1) := gd_14 db00g_16
theorem d_X12_withdraw_102 : decode prog_14_method_98_code 102 = .ok (.iload_n 3, 1) := gd_15 db00g_16
theorem d_X12_withdraw_103 : decode prog_14_method_98_code 103 = .ok (.aload_n 0, 1) := gd_16 db00g_16
theorem d_X12_withdraw_104 : decode prog_14_method_98_code 104 = .ok (.getfield 342, 3) := gd_17 db00g_16
theorem d_X12_withdraw_107 : decode prog_14_method_98_code 107 = .ok (.invokevirtual 603, 3) := gd_18 db00g_16
theorem d_X12_withdraw_110 : decode prog_14_method_98_code 110 = .ok (.imul, 1) := gd_19 db00g_16
theorem d_X12_withdraw_111 : decode prog_14_method_98_code 111 = .ok (.aload_n 0, 1) := gd_20 db00g_16
theorem d_X12_withdraw_112 : decode prog_14_method_98_code 112 = .ok (.iload_n 3, 1) := gd_21 db00g_16
theorem d_X12_withdraw_113 : decode prog_14_method_98_code 113 = .ok (.aload_n 0, 1) := gd_22 db00g_16
theorem d_X12_withdraw_114 : decode prog_14_method_98_code 114 = .ok (.getfield 342, 3) := gd_23 db00g_16
theorem db00g_17 : Ad_ prog_14_method_98_code [(117, .invokevirtual 606, 3), (120, .iadd, 1), (121, .if_icmp .eq 7, 3), (124, .iconst 1, 1), (125, .goto 4, 3), (128, .iconst 0, 1), (129, .iadd, 1), (130, .istore_n 2, 1), (131, .iinc 3 1, 3), (134, .goto (-49), 3), (137, .iload_n 2, 1), (138, .ireturn, 1)] := bch_ok prog_14_method_98_code _ 117 (by decide +kernel)
theorem d_X12_withdraw_117 : decode prog_14_method_98_code 117 = .ok (.invokevirtual 606, 3) := gd_0 db00g_17
theorem d_X12_withdraw_120 : decode prog_14_method_98_code 120 = .ok (.iadd, 1) := gd_1 db00g_17
theorem d_X12_withdraw_121 : decode prog_14_method_98_code 121 = .ok (.if_icmp .eq 7, 3) := gd_2 db00g_17
theorem d_X12_withdraw_124 : decode prog_14_method_98_code 124 = .ok (.iconst 1, 1) := gd_3 db00g_17
theorem d_X12_withdraw_125 : decode prog_14_method_98_code 125 = .ok (.goto 4, 3) := gd_4 db00g_17
theorem d_X12_withdraw_128 : decode prog_14_method_98_code 128 = .ok (.iconst 0, 1) := gd_5 db00g_17
theorem d_X12_withdraw_129 : decode prog_14_method_98_code 129 = .ok (.iadd, 1) := gd_6 db00g_17
theorem d_X12_withdraw_130 : decode prog_14_method_98_code 130 = .ok (.istore_n 2, 1) := gd_7 db00g_17
theorem d_X12_withdraw_131 : decode prog_14_method_98_code 131 = .ok (.iinc 3 1, 3) := gd_8 db00g_17
theorem d_X12_withdraw_134 : decode prog_14_method_98_code 134 = .ok (.goto (-49), 3) := gd_9 db00g_17
theorem d_X12_withdraw_137 : decode prog_14_method_98_code 137 = .ok (.iload_n 2, 1) := gd_10 db00g_17
theorem d_X12_withdraw_138 : decode prog_14_method_98_code 138 = .ok (.ireturn, 1) := gd_11 db00g_17
theorem db00g_18 : Ad_ prog_14_method_99_code [(0, .aload_n 0, 1), (1, .iload_n 1, 1), (2, .invokevirtual 588, 3), (5, .ifCond .eq 42, 3), (8, .iload_n 2, 1), (9, .iconst 0, 1), (10, .sipush 255, 3), (13, .invokestatic 323, 3), (16, .ifCond .eq 31, 3), (19, .iload_n 3, 1), (20, .iconst 0, 1), (21, .sipush 255, 3), (24, .invokestatic 323, 3), (27, .ifCond .eq 20, 3), (30, .iload_n 2, 1), (31, .iload_n 3, 1), (32, .iand, 1), (33, .ifCond .ne 14, 3), (36, .aload_n 0, 1), (37, .getfield 241, 3), (40, .iload_n 1, 1), (41, .iaload, 1), (42, .bipush 6, 2), (44, .if_icmp .ne 5, 3)] := bch_ok prog_14_method_99_code _ 0 (by decide +kernel)
theorem d_X12_story_0 : decode prog_14_method_99_code 0 = .ok (.aload_n 0, 1) := gd_0 db00g_18
theorem d_X12_story_1 : decode prog_14_method_99_code 1 = .ok (.iload_n 1, 1) := gd_1 db00g_18
theorem d_X12_story_2 : decode prog_14_method_99_code 2 = .ok (.invokevirtual 588, 3) := gd_2 db00g_18
theorem d_X12_story_5 : decode prog_14_method_99_code 5 = .ok (.ifCond .eq 42, 3) := gd_3 db00g_18
theorem d_X12_story_8 : decode prog_14_method_99_code 8 = .ok (.iload_n 2, 1) := gd_4 db00g_18
theorem d_X12_story_9 : decode prog_14_method_99_code 9 = .ok (.iconst 0, 1) := gd_5 db00g_18
theorem d_X12_story_10 : decode prog_14_method_99_code 10 = .ok (.sipush 255, 3) := gd_6 db00g_18
theorem d_X12_story_13 : decode prog_14_method_99_code 13 = .ok (.invokestatic 323, 3) := gd_7 db00g_18
theorem d_X12_story_16 : decode prog_14_method_99_code 16 = .ok (.ifCond .eq 31, 3) := gd_8 db00g_18
theorem d_X12_story_19 : decode prog_14_method_99_code 19 = .ok (.iload_n 3, 1) := gd_9 db00g_18
theorem d_X12_story_20 : decode prog_14_method_99_code 20 = .ok (.iconst 0, 1) := gd_10 db00g_18
theorem d_X12_story_21 : decode prog_14_method_99_code 21 = .ok (.sipush 255, 3) := gd_11 db00g_18
theorem d_X12_story_24 : decode prog_14_method_99_code 24 = .ok (.invokestatic 323, 3) := gd_12 db00g_18
theorem d_X12_story_27 : decode prog_14_method_99_code 27 = .ok (.ifCond .eq 20, 3) := gd_13 db00g_18
theorem d_X12_story_30 : decode prog_14_method_99_code 30 = .ok (.iload_n 2, 1) := gd_14 db00g_18
theorem d_X12_story_31 : decode prog_14_method_99_code 31 = .ok (.iload_n 3, 1) := gd_15 db00g_18
theorem d_X12_story_32 : decode prog_14_method_99_code 32 = .ok (.iand, 1) := gd_16 db00g_18
theorem d_X12_story_33 : decode prog_14_method_99_code 33 = .ok (.ifCond .ne 14, 3) := gd_17 db00g_18
theorem d_X12_story_36 : decode prog_14_method_99_code 36 = .ok (.aload_n 0, 1) := gd_18 db00g_18
theorem d_X12_story_37 : decode prog_14_method_99_code 37 = .ok (.getfield 241, 3) := gd_19 db00g_18
theorem d_X12_story_40 : decode prog_14_method_99_code 40 = .ok (.iload_n 1, 1) := gd_20 db00g_18
theorem d_X12_story_41 : decode prog_14_method_99_code 41 = .ok (.iaload, 1) := gd_21 db00g_18
theorem d_X12_story_42 : decode prog_14_method_99_code 42 = .ok (.bipush 6, 2) := gd_22 db00g_18
theorem d_X12_story_44 : decode prog_14_method_99_code 44 = .ok (.if_icmp .ne 5, 3) := gd_23 db00g_18
theorem db00g_19 : Ad_ prog_14_method_99_code [(47, .iconst (-1), 1), (48, .ireturn, 1), (49, .bipush 6, 2), (51, .iload_n 1, 1), (52, .imul, 1), (53, .aload_n 0, 1), (54, .getfield 241, 3), (57, .iload_n 1, 1), (58, .iaload, 1), (59, .iadd, 1), (60, .istore 4, 2), (62, .aload_n 0, 1), (63, .getfield 232, 3), (66, .iload 4, 2), (68, .iload_n 2, 1), (69, .iastore, 1), (70, .aload_n 0, 1), (71, .getfield 235, 3), (74, .iload 4, 2), (76, .iload_n 3, 1), (77, .iastore, 1), (78, .aload_n 0, 1), (79, .getfield 238, 3), (82, .iload 4, 2)] := bch_ok prog_14_method_99_code _ 47 (by decide +kernel)
theorem d_X12_story_47 : decode prog_14_method_99_code 47 = .ok (.iconst (-1), 1) := gd_0 db00g_19
theorem d_X12_story_48 : decode prog_14_method_99_code 48 = .ok (.ireturn, 1) := gd_1 db00g_19
theorem d_X12_story_49 : decode prog_14_method_99_code 49 = .ok (.bipush 6, 2) := gd_2 db00g_19
theorem d_X12_story_51 : decode prog_14_method_99_code 51 = .ok (.iload_n 1, 1) := gd_3 db00g_19
theorem d_X12_story_52 : decode prog_14_method_99_code 52 = .ok (.imul, 1) := gd_4 db00g_19
theorem d_X12_story_53 : decode prog_14_method_99_code 53 = .ok (.aload_n 0, 1) := gd_5 db00g_19
theorem d_X12_story_54 : decode prog_14_method_99_code 54 = .ok (.getfield 241, 3) := gd_6 db00g_19
theorem d_X12_story_57 : decode prog_14_method_99_code 57 = .ok (.iload_n 1, 1) := gd_7 db00g_19
theorem d_X12_story_58 : decode prog_14_method_99_code 58 = .ok (.iaload, 1) := gd_8 db00g_19
theorem d_X12_story_59 : decode prog_14_method_99_code 59 = .ok (.iadd, 1) := gd_9 db00g_19
theorem d_X12_story_60 : decode prog_14_method_99_code 60 = .ok (.istore 4, 2) := gd_10 db00g_19
theorem d_X12_story_62 : decode prog_14_method_99_code 62 = .ok (.aload_n 0, 1) := gd_11 db00g_19
theorem d_X12_story_63 : decode prog_14_method_99_code 63 = .ok (.getfield 232, 3) := gd_12 db00g_19
theorem d_X12_story_66 : decode prog_14_method_99_code 66 = .ok (.iload 4, 2) := gd_13 db00g_19
theorem d_X12_story_68 : decode prog_14_method_99_code 68 = .ok (.iload_n 2, 1) := gd_14 db00g_19
theorem d_X12_story_69 : decode prog_14_method_99_code 69 = .ok (.iastore, 1) := gd_15 db00g_19
theorem d_X12_story_70 : decode prog_14_method_99_code 70 = .ok (.aload_n 0, 1) := gd_16 db00g_19
theorem d_X12_story_71 : decode prog_14_method_99_code 71 = .ok (.getfield 235, 3) := gd_17 db00g_19
theorem d_X12_story_74 : decode prog_14_method_99_code 74 = .ok (.iload 4, 2) := gd_18 db00g_19
theorem d_X12_story_76 : decode prog_14_method_99_code 76 = .ok (.iload_n 3, 1) := gd_19 db00g_19
theorem d_X12_story_77 : decode prog_14_method_99_code 77 = .ok (.iastore, 1) := gd_20 db00g_19
theorem d_X12_story_78 : decode prog_14_method_99_code 78 = .ok (.aload_n 0, 1) := gd_21 db00g_19
theorem d_X12_story_79 : decode prog_14_method_99_code 79 = .ok (.getfield 238, 3) := gd_22 db00g_19
theorem d_X12_story_82 : decode prog_14_method_99_code 82 = .ok (.iload 4, 2) := gd_23 db00g_19
theorem db00g_20 : Ad_ prog_14_method_99_code [(84, .aload_n 0, 1), (85, .getfield 342, 3), (88, .iastore, 1), (89, .aload_n 0, 1), (90, .getfield 241, 3), (93, .iload_n 1, 1), (94, .dup2, 1), (95, .iaload, 1), (96, .iconst 1, 1), (97, .iadd, 1), (98, .iastore, 1), (99, .aload_n 0, 1), (100, .getfield 241, 3), (103, .iload_n 1, 1), (104, .iaload, 1), (105, .iconst 1, 1), (106, .isub, 1), (107, .ireturn, 1)] := bch_ok prog_14_method_99_code _ 84 (by decide +kernel)
theorem d_X12_story_84 : decode prog_14_method_99_code 84 = .ok (.aload_n 0, 1) := gd_0 db00g_20
theorem d_X12_story_85 : decode prog_14_method_99_code 85 = .ok (.getfield 342, 3) := gd_1 db00g_20
theorem d_X12_story_88 : decode prog_14_method_99_code 88 = .ok (.iastore, 1) := gd_2 db00g_20
theorem d_X12_story_89 : decode prog_14_method_99_code 89 = .ok (.aload_n 0, 1) := gd_3 db00g_20
theorem d_X12_story_90 : decode prog_14_method_99_code 90 = .ok (.getfield 241, 3) := gd_4 db00g_20
theorem d_X12_story_93 : decode prog_14_method_99_code 93 = .ok (.iload_n 1, 1) := gd_5 db00g_20
theorem d_X12_story_94 : decode prog_14_method_99_code 94 = .ok (.dup2, 1) := gd_6 db00g_20
theorem d_X12_story_95 : decode prog_14_method_99_code 95 = .ok (.iaload, 1) := gd_7 db00g_20
theorem d_X12_story_96 : decode prog_14_method_99_code 96 = .ok (.iconst 1, 1) := gd_8 db00g_20
theorem d_X12_story_97 : decode prog_14_method_99_code 97 = .ok (.iadd, 1) := gd_9 db00g_20
theorem d_X12_story_98 : decode prog_14_method_99_code 98 = .ok (.iastore, 1) := gd_10 db00g_20
theorem d_X12_story_99 : decode prog_14_method_99_code 99 = .ok (.aload_n 0, 1) := gd_11 db00g_20
theorem d_X12_story_100 : decode prog_14_method_99_code 100 = .ok (.getfield 241, 3) := gd_12 db00g_20
theorem d_X12_story_103 : decode prog_14_method_99_code 103 = .ok (.iload_n 1, 1) := gd_13 db00g_20
theorem d_X12_story_104 : decode prog_14_method_99_code 104 = .ok (.iaload, 1) := gd_14 db00g_20
theorem d_X12_story_105 : decode prog_14_method_99_code 105 = .ok (.iconst 1, 1) := gd_15 db00g_20
theorem d_X12_story_106 : decode prog_14_method_99_code 106 = .ok (.isub, 1) := gd_16 db00g_20
theorem d_X12_story_107 : decode prog_14_method_99_code 107 = .ok (.ireturn, 1) := gd_17 db00g_20
theorem db00g_21 : Ad_ prog_14_method_100_code [(0, .aload_n 0, 1), (1, .iload_n 1, 1), (2, .invokevirtual 588, 3), (5, .ifCond .ne 5, 3), (8, .iconst (-1), 1), (9, .ireturn, 1), (10, .aload_n 0, 1), (11, .iload_n 1, 1), (12, .iconst 0, 1), (13, .aload_n 0, 1), (14, .getfield 342, 3), (17, .invokevirtual 600, 3), (20, .aload_n 0, 1), (21, .iload_n 1, 1), (22, .iconst 3, 1), (23, .aload_n 0, 1), (24, .getfield 342, 3), (27, .invokevirtual 600, 3), (30, .ior, 1), (31, .istore_n 2, 1), (32, .aload_n 0, 1), (33, .iload_n 1, 1), (34, .aload_n 0, 1), (35, .getfield 342, 3)] := bch_ok prog_14_method_100_code _ 0 (by decide +kernel)
theorem d_X12_next_0 : decode prog_14_method_100_code 0 = .ok (.aload_n 0, 1) := gd_0 db00g_21
theorem d_X12_next_1 : decode prog_14_method_100_code 1 = .ok (.iload_n 1, 1) := gd_1 db00g_21
theorem d_X12_next_2 : decode prog_14_method_100_code 2 = .ok (.invokevirtual 588, 3) := gd_2 db00g_21
theorem d_X12_next_5 : decode prog_14_method_100_code 5 = .ok (.ifCond .ne 5, 3) := gd_3 db00g_21
theorem d_X12_next_8 : decode prog_14_method_100_code 8 = .ok (.iconst (-1), 1) := gd_4 db00g_21
theorem d_X12_next_9 : decode prog_14_method_100_code 9 = .ok (.ireturn, 1) := gd_5 db00g_21
theorem d_X12_next_10 : decode prog_14_method_100_code 10 = .ok (.aload_n 0, 1) := gd_6 db00g_21
theorem d_X12_next_11 : decode prog_14_method_100_code 11 = .ok (.iload_n 1, 1) := gd_7 db00g_21
theorem d_X12_next_12 : decode prog_14_method_100_code 12 = .ok (.iconst 0, 1) := gd_8 db00g_21
theorem d_X12_next_13 : decode prog_14_method_100_code 13 = .ok (.aload_n 0, 1) := gd_9 db00g_21
theorem d_X12_next_14 : decode prog_14_method_100_code 14 = .ok (.getfield 342, 3) := gd_10 db00g_21
theorem d_X12_next_17 : decode prog_14_method_100_code 17 = .ok (.invokevirtual 600, 3) := gd_11 db00g_21
theorem d_X12_next_20 : decode prog_14_method_100_code 20 = .ok (.aload_n 0, 1) := gd_12 db00g_21
theorem d_X12_next_21 : decode prog_14_method_100_code 21 = .ok (.iload_n 1, 1) := gd_13 db00g_21
theorem d_X12_next_22 : decode prog_14_method_100_code 22 = .ok (.iconst 3, 1) := gd_14 db00g_21
theorem d_X12_next_23 : decode prog_14_method_100_code 23 = .ok (.aload_n 0, 1) := gd_15 db00g_21
theorem d_X12_next_24 : decode prog_14_method_100_code 24 = .ok (.getfield 342, 3) := gd_16 db00g_21
theorem d_X12_next_27 : decode prog_14_method_100_code 27 = .ok (.invokevirtual 600, 3) := gd_17 db00g_21
theorem d_X12_next_30 : decode prog_14_method_100_code 30 = .ok (.ior, 1) := gd_18 db00g_21
theorem d_X12_next_31 : decode prog_14_method_100_code 31 = .ok (.istore_n 2, 1) := gd_19 db00g_21
theorem d_X12_next_32 : decode prog_14_method_100_code 32 = .ok (.aload_n 0, 1) := gd_20 db00g_21
theorem d_X12_next_33 : decode prog_14_method_100_code 33 = .ok (.iload_n 1, 1) := gd_21 db00g_21
theorem d_X12_next_34 : decode prog_14_method_100_code 34 = .ok (.aload_n 0, 1) := gd_22 db00g_21
theorem d_X12_next_35 : decode prog_14_method_100_code 35 = .ok (.getfield 342, 3) := gd_23 db00g_21
theorem db00g_22 : Ad_ prog_14_method_100_code [(38, .invokevirtual 609, 3), (41, .istore_n 3, 1), (42, .iconst (-1), 1), (43, .istore 4, 2), (45, .iconst 0, 1), (46, .istore 5, 2), (48, .iconst 0, 1), (49, .istore 6, 2), (51, .iconst 0, 1), (52, .istore 7, 2), (54, .iload 7, 2), (56, .bipush 8, 2), (58, .if_icmp .ge 154, 3), (61, .iconst 0, 1), (62, .istore 8, 2), (64, .iconst 0, 1), (65, .istore 9, 2), (67, .iconst 0, 1), (68, .istore 10, 2), (70, .iload 10, 2), (72, .aload_n 0, 1), (73, .getfield 241, 3), (76, .iload_n 1, 1), (77, .iaload, 1)] := bch_ok prog_14_method_100_code _ 38 (by decide +kernel)
theorem d_X12_next_38 : decode prog_14_method_100_code 38 = .ok (.invokevirtual 609, 3) := gd_0 db00g_22
theorem d_X12_next_41 : decode prog_14_method_100_code 41 = .ok (.istore_n 3, 1) := gd_1 db00g_22
theorem d_X12_next_42 : decode prog_14_method_100_code 42 = .ok (.iconst (-1), 1) := gd_2 db00g_22
theorem d_X12_next_43 : decode prog_14_method_100_code 43 = .ok (.istore 4, 2) := gd_3 db00g_22
theorem d_X12_next_45 : decode prog_14_method_100_code 45 = .ok (.iconst 0, 1) := gd_4 db00g_22
theorem d_X12_next_46 : decode prog_14_method_100_code 46 = .ok (.istore 5, 2) := gd_5 db00g_22
theorem d_X12_next_48 : decode prog_14_method_100_code 48 = .ok (.iconst 0, 1) := gd_6 db00g_22
theorem d_X12_next_49 : decode prog_14_method_100_code 49 = .ok (.istore 6, 2) := gd_7 db00g_22
theorem d_X12_next_51 : decode prog_14_method_100_code 51 = .ok (.iconst 0, 1) := gd_8 db00g_22
theorem d_X12_next_52 : decode prog_14_method_100_code 52 = .ok (.istore 7, 2) := gd_9 db00g_22
theorem d_X12_next_54 : decode prog_14_method_100_code 54 = .ok (.iload 7, 2) := gd_10 db00g_22
theorem d_X12_next_56 : decode prog_14_method_100_code 56 = .ok (.bipush 8, 2) := gd_11 db00g_22
theorem d_X12_next_58 : decode prog_14_method_100_code 58 = .ok (.if_icmp .ge 154, 3) := gd_12 db00g_22
theorem d_X12_next_61 : decode prog_14_method_100_code 61 = .ok (.iconst 0, 1) := gd_13 db00g_22
theorem d_X12_next_62 : decode prog_14_method_100_code 62 = .ok (.istore 8, 2) := gd_14 db00g_22
theorem d_X12_next_64 : decode prog_14_method_100_code 64 = .ok (.iconst 0, 1) := gd_15 db00g_22
theorem d_X12_next_65 : decode prog_14_method_100_code 65 = .ok (.istore 9, 2) := gd_16 db00g_22
theorem d_X12_next_67 : decode prog_14_method_100_code 67 = .ok (.iconst 0, 1) := gd_17 db00g_22
theorem d_X12_next_68 : decode prog_14_method_100_code 68 = .ok (.istore 10, 2) := gd_18 db00g_22
theorem d_X12_next_70 : decode prog_14_method_100_code 70 = .ok (.iload 10, 2) := gd_19 db00g_22
theorem d_X12_next_72 : decode prog_14_method_100_code 72 = .ok (.aload_n 0, 1) := gd_20 db00g_22
theorem d_X12_next_73 : decode prog_14_method_100_code 73 = .ok (.getfield 241, 3) := gd_21 db00g_22
theorem d_X12_next_76 : decode prog_14_method_100_code 76 = .ok (.iload_n 1, 1) := gd_22 db00g_22
theorem d_X12_next_77 : decode prog_14_method_100_code 77 = .ok (.iaload, 1) := gd_23 db00g_22
theorem db00g_23 : Ad_ prog_14_method_100_code [(78, .if_icmp .ge 63, 3), (81, .iload_n 3, 1), (82, .iload 10, 2), (84, .ishr, 1), (85, .iconst 1, 1), (86, .iand, 1), (87, .iconst 1, 1), (88, .if_icmp .ne 47, 3), (91, .iload 8, 2), (93, .aload_n 0, 1), (94, .getfield 232, 3), (97, .bipush 6, 2), (99, .iload_n 1, 1), (100, .imul, 1), (101, .iload 10, 2), (103, .iadd, 1), (104, .iaload, 1), (105, .iload 7, 2), (107, .ishr, 1), (108, .iconst 1, 1), (109, .iand, 1), (110, .iadd, 1), (111, .istore 8, 2), (113, .iload 9, 2)] := bch_ok prog_14_method_100_code _ 78 (by decide +kernel)
theorem d_X12_next_78 : decode prog_14_method_100_code 78 = .ok (.if_icmp .ge 63, 3) := gd_0 db00g_23
theorem d_X12_next_81 : decode prog_14_method_100_code 81 = .ok (.iload_n 3, 1) := gd_1 db00g_23
theorem d_X12_next_82 : decode prog_14_method_100_code 82 = .ok (.iload 10, 2) := gd_2 db00g_23
theorem d_X12_next_84 : decode prog_14_method_100_code 84 = .ok (.ishr, 1) := gd_3 db00g_23
theorem d_X12_next_85 : decode prog_14_method_100_code 85 = .ok (.iconst 1, 1) := gd_4 db00g_23
theorem d_X12_next_86 : decode prog_14_method_100_code 86 = .ok (.iand, 1) := gd_5 db00g_23
theorem d_X12_next_87 : decode prog_14_method_100_code 87 = .ok (.iconst 1, 1) := gd_6 db00g_23
theorem d_X12_next_88 : decode prog_14_method_100_code 88 = .ok (.if_icmp .ne 47, 3) := gd_7 db00g_23
theorem d_X12_next_91 : decode prog_14_method_100_code 91 = .ok (.iload 8, 2) := gd_8 db00g_23
theorem d_X12_next_93 : decode prog_14_method_100_code 93 = .ok (.aload_n 0, 1) := gd_9 db00g_23
theorem d_X12_next_94 : decode prog_14_method_100_code 94 = .ok (.getfield 232, 3) := gd_10 db00g_23
theorem d_X12_next_97 : decode prog_14_method_100_code 97 = .ok (.bipush 6, 2) := gd_11 db00g_23
theorem d_X12_next_99 : decode prog_14_method_100_code 99 = .ok (.iload_n 1, 1) := gd_12 db00g_23
theorem d_X12_next_100 : decode prog_14_method_100_code 100 = .ok (.imul, 1) := gd_13 db00g_23
theorem d_X12_next_101 : decode prog_14_method_100_code 101 = .ok (.iload 10, 2) := gd_14 db00g_23
theorem d_X12_next_103 : decode prog_14_method_100_code 103 = .ok (.iadd, 1) := gd_15 db00g_23
theorem d_X12_next_104 : decode prog_14_method_100_code 104 = .ok (.iaload, 1) := gd_16 db00g_23
theorem d_X12_next_105 : decode prog_14_method_100_code 105 = .ok (.iload 7, 2) := gd_17 db00g_23
theorem d_X12_next_107 : decode prog_14_method_100_code 107 = .ok (.ishr, 1) := gd_18 db00g_23
theorem d_X12_next_108 : decode prog_14_method_100_code 108 = .ok (.iconst 1, 1) := gd_19 db00g_23
theorem d_X12_next_109 : decode prog_14_method_100_code 109 = .ok (.iand, 1) := gd_20 db00g_23
theorem d_X12_next_110 : decode prog_14_method_100_code 110 = .ok (.iadd, 1) := gd_21 db00g_23
theorem d_X12_next_111 : decode prog_14_method_100_code 111 = .ok (.istore 8, 2) := gd_22 db00g_23
theorem d_X12_next_113 : decode prog_14_method_100_code 113 = .ok (.iload 9, 2) := gd_23 db00g_23
theorem db00g_24 : Ad_ prog_14_method_100_code [(115, .aload_n 0, 1), (116, .getfield 235, 3), (119, .bipush 6, 2), (121, .iload_n 1, 1), (122, .imul, 1), (123, .iload 10, 2), (125, .iadd, 1), (126, .iaload, 1), (127, .iload 7, 2), (129, .ishr, 1), (130, .iconst 1, 1), (131, .iand, 1), (132, .iadd, 1), (133, .istore 9, 2), (135, .iinc 10 1, 3), (138, .goto (-68), 3), (141, .iload 8, 2), (143, .iload 9, 2), (145, .invokestatic 617, 3), (148, .istore 10, 2), (150, .iload_n 2, 1), (151, .iload 7, 2), (153, .ishr, 1), (154, .iconst 1, 1)] := bch_ok prog_14_method_100_code _ 115 (by decide +kernel)
theorem d_X12_next_115 : decode prog_14_method_100_code 115 = .ok (.aload_n 0, 1) := gd_0 db00g_24
theorem d_X12_next_116 : decode prog_14_method_100_code 116 = .ok (.getfield 235, 3) := gd_1 db00g_24
theorem d_X12_next_119 : decode prog_14_method_100_code 119 = .ok (.bipush 6, 2) := gd_2 db00g_24
theorem d_X12_next_121 : decode prog_14_method_100_code 121 = .ok (.iload_n 1, 1) := gd_3 db00g_24
theorem d_X12_next_122 : decode prog_14_method_100_code 122 = .ok (.imul, 1) := gd_4 db00g_24
theorem d_X12_next_123 : decode prog_14_method_100_code 123 = .ok (.iload 10, 2) := gd_5 db00g_24
theorem d_X12_next_125 : decode prog_14_method_100_code 125 = .ok (.iadd, 1) := gd_6 db00g_24
theorem d_X12_next_126 : decode prog_14_method_100_code 126 = .ok (.iaload, 1) := gd_7 db00g_24
theorem d_X12_next_127 : decode prog_14_method_100_code 127 = .ok (.iload 7, 2) := gd_8 db00g_24
theorem d_X12_next_129 : decode prog_14_method_100_code 129 = .ok (.ishr, 1) := gd_9 db00g_24
theorem d_X12_next_130 : decode prog_14_method_100_code 130 = .ok (.iconst 1, 1) := gd_10 db00g_24
theorem d_X12_next_131 : decode prog_14_method_100_code 131 = .ok (.iand, 1) := gd_11 db00g_24
theorem d_X12_next_132 : decode prog_14_method_100_code 132 = .ok (.iadd, 1) := gd_12 db00g_24
theorem d_X12_next_133 : decode prog_14_method_100_code 133 = .ok (.istore 9, 2) := gd_13 db00g_24
theorem d_X12_next_135 : decode prog_14_method_100_code 135 = .ok (.iinc 10 1, 3) := gd_14 db00g_24
theorem d_X12_next_138 : decode prog_14_method_100_code 138 = .ok (.goto (-68), 3) := gd_15 db00g_24
theorem d_X12_next_141 : decode prog_14_method_100_code 141 = .ok (.iload 8, 2) := gd_16 db00g_24
theorem d_X12_next_143 : decode prog_14_method_100_code 143 = .ok (.iload 9, 2) := gd_17 db00g_24
theorem d_X12_next_145 : decode prog_14_method_100_code 145 = .ok (.invokestatic 617, 3) := gd_18 db00g_24
theorem d_X12_next_148 : decode prog_14_method_100_code 148 = .ok (.istore 10, 2) := gd_19 db00g_24
theorem d_X12_next_150 : decode prog_14_method_100_code 150 = .ok (.iload_n 2, 1) := gd_20 db00g_24
theorem d_X12_next_151 : decode prog_14_method_100_code 151 = .ok (.iload 7, 2) := gd_21 db00g_24
theorem d_X12_next_153 : decode prog_14_method_100_code 153 = .ok (.ishr, 1) := gd_22 db00g_24
theorem d_X12_next_154 : decode prog_14_method_100_code 154 = .ok (.iconst 1, 1) := gd_23 db00g_24
theorem db00g_25 : Ad_ prog_14_method_100_code [(155, .iand, 1), (156, .ifCond .eq 50, 3), (159, .iload 10, 2), (161, .ifCond .ne 6, 3), (164, .goto 42, 3), (167, .iload 10, 2), (169, .iload 5, 2), (171, .if_icmp .gt 20, 3), (174, .iload 10, 2), (176, .iload 5, 2), (178, .if_icmp .ne 28, 3), (181, .iload 8, 2), (183, .iload 9, 2), (185, .iadd, 1), (186, .iload 6, 2), (188, .if_icmp .le 18, 3), (191, .iload 7, 2), (193, .istore 4, 2), (195, .iload 10, 2), (197, .istore 5, 2), (199, .iload 8, 2), (201, .iload 9, 2), (203, .iadd, 1), (204, .istore 6, 2)] := bch_ok prog_14_method_100_code _ 155 (by decide +kernel)
theorem d_X12_next_155 : decode prog_14_method_100_code 155 = .ok (.iand, 1) := gd_0 db00g_25
theorem d_X12_next_156 : decode prog_14_method_100_code 156 = .ok (.ifCond .eq 50, 3) := gd_1 db00g_25
theorem d_X12_next_159 : decode prog_14_method_100_code 159 = .ok (.iload 10, 2) := gd_2 db00g_25
theorem d_X12_next_161 : decode prog_14_method_100_code 161 = .ok (.ifCond .ne 6, 3) := gd_3 db00g_25
theorem d_X12_next_164 : decode prog_14_method_100_code 164 = .ok (.goto 42, 3) := gd_4 db00g_25
theorem d_X12_next_167 : decode prog_14_method_100_code 167 = .ok (.iload 10, 2) := gd_5 db00g_25
theorem d_X12_next_169 : decode prog_14_method_100_code 169 = .ok (.iload 5, 2) := gd_6 db00g_25
theorem d_X12_next_171 : decode prog_14_method_100_code 171 = .ok (.if_icmp .gt 20, 3) := gd_7 db00g_25
theorem d_X12_next_174 : decode prog_14_method_100_code 174 = .ok (.iload 10, 2) := gd_8 db00g_25
theorem d_X12_next_176 : decode prog_14_method_100_code 176 = .ok (.iload 5, 2) := gd_9 db00g_25
theorem d_X12_next_178 : decode prog_14_method_100_code 178 = .ok (.if_icmp .ne 28, 3) := gd_10 db00g_25
theorem d_X12_next_181 : decode prog_14_method_100_code 181 = .ok (.iload 8, 2) := gd_11 db00g_25
theorem d_X12_next_183 : decode prog_14_method_100_code 183 = .ok (.iload 9, 2) := gd_12 db00g_25
theorem d_X12_next_185 : decode prog_14_method_100_code 185 = .ok (.iadd, 1) := gd_13 db00g_25
theorem d_X12_next_186 : decode prog_14_method_100_code 186 = .ok (.iload 6, 2) := gd_14 db00g_25
theorem d_X12_next_188 : decode prog_14_method_100_code 188 = .ok (.if_icmp .le 18, 3) := gd_15 db00g_25
theorem d_X12_next_191 : decode prog_14_method_100_code 191 = .ok (.iload 7, 2) := gd_16 db00g_25
theorem d_X12_next_193 : decode prog_14_method_100_code 193 = .ok (.istore 4, 2) := gd_17 db00g_25
theorem d_X12_next_195 : decode prog_14_method_100_code 195 = .ok (.iload 10, 2) := gd_18 db00g_25
theorem d_X12_next_197 : decode prog_14_method_100_code 197 = .ok (.istore 5, 2) := gd_19 db00g_25
theorem d_X12_next_199 : decode prog_14_method_100_code 199 = .ok (.iload 8, 2) := gd_20 db00g_25
theorem d_X12_next_201 : decode prog_14_method_100_code 201 = .ok (.iload 9, 2) := gd_21 db00g_25
theorem d_X12_next_203 : decode prog_14_method_100_code 203 = .ok (.iadd, 1) := gd_22 db00g_25
theorem d_X12_next_204 : decode prog_14_method_100_code 204 = .ok (.istore 6, 2) := gd_23 db00g_25
theorem db00g_26 : Ad_ prog_14_method_100_code [(206, .iinc 7 1, 3), (209, .goto (-155), 3), (212, .iload 4, 2), (214, .ireturn, 1)] := bch_ok prog_14_method_100_code _ 206 (by decide +kernel)
theorem d_X12_next_206 : decode prog_14_method_100_code 206 = .ok (.iinc 7 1, 3) := gd_0 db00g_26
theorem d_X12_next_209 : decode prog_14_method_100_code 209 = .ok (.goto (-155), 3) := gd_1 db00g_26
theorem d_X12_next_212 : decode prog_14_method_100_code 212 = .ok (.iload 4, 2) := gd_2 db00g_26
theorem d_X12_next_214 : decode prog_14_method_100_code 214 = .ok (.ireturn, 1) := gd_3 db00g_26
theorem db00g_27 : Ad_ prog_14_method_101_code [(0, .iload_n 2, 1), (1, .iconst 0, 1), (2, .ldc_w 619, 3), (5, .invokestatic 323, 3), (8, .ifCond .eq 23, 3), (11, .iload_n 1, 1), (12, .ifCond .eq 10, 3), (15, .aload_n 0, 1), (16, .getfield 620, 3), (19, .goto 7, 3), (22, .aload_n 0, 1), (23, .getfield 623, 3), (26, .bipush 8, 2), (28, .if_icmp .ne 5, 3), (31, .iconst (-1), 1), (32, .ireturn, 1), (33, .iload_n 1, 1), (34, .ifCond .eq 30, 3), (37, .aload_n 0, 1), (38, .getfield 247, 3), (41, .aload_n 0, 1), (42, .getfield 620, 3), (45, .iload_n 2, 1), (46, .iastore, 1)] := bch_ok prog_14_method_101_code _ 0 (by decide +kernel)
theorem d_X12_good_0 : decode prog_14_method_101_code 0 = .ok (.iload_n 2, 1) := gd_0 db00g_27
theorem d_X12_good_1 : decode prog_14_method_101_code 1 = .ok (.iconst 0, 1) := gd_1 db00g_27
theorem d_X12_good_2 : decode prog_14_method_101_code 2 = .ok (.ldc_w 619, 3) := gd_2 db00g_27
theorem d_X12_good_5 : decode prog_14_method_101_code 5 = .ok (.invokestatic 323, 3) := gd_3 db00g_27
theorem d_X12_good_8 : decode prog_14_method_101_code 8 = .ok (.ifCond .eq 23, 3) := gd_4 db00g_27
theorem d_X12_good_11 : decode prog_14_method_101_code 11 = .ok (.iload_n 1, 1) := gd_5 db00g_27
theorem d_X12_good_12 : decode prog_14_method_101_code 12 = .ok (.ifCond .eq 10, 3) := gd_6 db00g_27
theorem d_X12_good_15 : decode prog_14_method_101_code 15 = .ok (.aload_n 0, 1) := gd_7 db00g_27
theorem d_X12_good_16 : decode prog_14_method_101_code 16 = .ok (.getfield 620, 3) := gd_8 db00g_27
theorem d_X12_good_19 : decode prog_14_method_101_code 19 = .ok (.goto 7, 3) := gd_9 db00g_27
theorem d_X12_good_22 : decode prog_14_method_101_code 22 = .ok (.aload_n 0, 1) := gd_10 db00g_27
theorem d_X12_good_23 : decode prog_14_method_101_code 23 = .ok (.getfield 623, 3) := gd_11 db00g_27
theorem d_X12_good_26 : decode prog_14_method_101_code 26 = .ok (.bipush 8, 2) := gd_12 db00g_27
theorem d_X12_good_28 : decode prog_14_method_101_code 28 = .ok (.if_icmp .ne 5, 3) := gd_13 db00g_27
theorem d_X12_good_31 : decode prog_14_method_101_code 31 = .ok (.iconst (-1), 1) := gd_14 db00g_27
theorem d_X12_good_32 : decode prog_14_method_101_code 32 = .ok (.ireturn, 1) := gd_15 db00g_27
theorem d_X12_good_33 : decode prog_14_method_101_code 33 = .ok (.iload_n 1, 1) := gd_16 db00g_27
theorem d_X12_good_34 : decode prog_14_method_101_code 34 = .ok (.ifCond .eq 30, 3) := gd_17 db00g_27
theorem d_X12_good_37 : decode prog_14_method_101_code 37 = .ok (.aload_n 0, 1) := gd_18 db00g_27
theorem d_X12_good_38 : decode prog_14_method_101_code 38 = .ok (.getfield 247, 3) := gd_19 db00g_27
theorem d_X12_good_41 : decode prog_14_method_101_code 41 = .ok (.aload_n 0, 1) := gd_20 db00g_27
theorem d_X12_good_42 : decode prog_14_method_101_code 42 = .ok (.getfield 620, 3) := gd_21 db00g_27
theorem d_X12_good_45 : decode prog_14_method_101_code 45 = .ok (.iload_n 2, 1) := gd_22 db00g_27
theorem d_X12_good_46 : decode prog_14_method_101_code 46 = .ok (.iastore, 1) := gd_23 db00g_27
theorem db00g_28 : Ad_ prog_14_method_101_code [(47, .aload_n 0, 1), (48, .dup, 1), (49, .getfield 620, 3), (52, .iconst 1, 1), (53, .iadd, 1), (54, .putfield 620, 3), (57, .aload_n 0, 1), (58, .getfield 620, 3), (61, .iconst 1, 1), (62, .isub, 1), (63, .ireturn, 1), (64, .aload_n 0, 1), (65, .getfield 250, 3), (68, .aload_n 0, 1), (69, .getfield 623, 3), (72, .iload_n 2, 1), (73, .iastore, 1), (74, .aload_n 0, 1), (75, .dup, 1), (76, .getfield 623, 3), (79, .iconst 1, 1), (80, .iadd, 1), (81, .putfield 623, 3), (84, .aload_n 0, 1)] := bch_ok prog_14_method_101_code _ 47 (by decide +kernel)
theorem d_X12_good_47 : decode prog_14_method_101_code 47 = .ok (.aload_n 0, 1) := gd_0 db00g_28
theorem d_X12_good_48 : decode prog_14_method_101_code 48 = .ok (.dup, 1) := gd_1 db00g_28
theorem d_X12_good_49 : decode prog_14_method_101_code 49 = .ok (.getfield 620, 3) := gd_2 db00g_28
theorem d_X12_good_52 : decode prog_14_method_101_code 52 = .ok (.iconst 1, 1) := gd_3 db00g_28
theorem d_X12_good_53 : decode prog_14_method_101_code 53 = .ok (.iadd, 1) := gd_4 db00g_28
theorem d_X12_good_54 : decode prog_14_method_101_code 54 = .ok (.putfield 620, 3) := gd_5 db00g_28
theorem d_X12_good_57 : decode prog_14_method_101_code 57 = .ok (.aload_n 0, 1) := gd_6 db00g_28
theorem d_X12_good_58 : decode prog_14_method_101_code 58 = .ok (.getfield 620, 3) := gd_7 db00g_28
theorem d_X12_good_61 : decode prog_14_method_101_code 61 = .ok (.iconst 1, 1) := gd_8 db00g_28
theorem d_X12_good_62 : decode prog_14_method_101_code 62 = .ok (.isub, 1) := gd_9 db00g_28
theorem d_X12_good_63 : decode prog_14_method_101_code 63 = .ok (.ireturn, 1) := gd_10 db00g_28
theorem d_X12_good_64 : decode prog_14_method_101_code 64 = .ok (.aload_n 0, 1) := gd_11 db00g_28
theorem d_X12_good_65 : decode prog_14_method_101_code 65 = .ok (.getfield 250, 3) := gd_12 db00g_28
theorem d_X12_good_68 : decode prog_14_method_101_code 68 = .ok (.aload_n 0, 1) := gd_13 db00g_28
theorem d_X12_good_69 : decode prog_14_method_101_code 69 = .ok (.getfield 623, 3) := gd_14 db00g_28
theorem d_X12_good_72 : decode prog_14_method_101_code 72 = .ok (.iload_n 2, 1) := gd_15 db00g_28
theorem d_X12_good_73 : decode prog_14_method_101_code 73 = .ok (.iastore, 1) := gd_16 db00g_28
theorem d_X12_good_74 : decode prog_14_method_101_code 74 = .ok (.aload_n 0, 1) := gd_17 db00g_28
theorem d_X12_good_75 : decode prog_14_method_101_code 75 = .ok (.dup, 1) := gd_18 db00g_28
theorem d_X12_good_76 : decode prog_14_method_101_code 76 = .ok (.getfield 623, 3) := gd_19 db00g_28
theorem d_X12_good_79 : decode prog_14_method_101_code 79 = .ok (.iconst 1, 1) := gd_20 db00g_28
theorem d_X12_good_80 : decode prog_14_method_101_code 80 = .ok (.iadd, 1) := gd_21 db00g_28
theorem d_X12_good_81 : decode prog_14_method_101_code 81 = .ok (.putfield 623, 3) := gd_22 db00g_28
theorem d_X12_good_84 : decode prog_14_method_101_code 84 = .ok (.aload_n 0, 1) := gd_23 db00g_28
theorem db00g_29 : Ad_ prog_14_method_101_code [(85, .getfield 623, 3), (88, .iconst 1, 1), (89, .isub, 1), (90, .ireturn, 1)] := bch_ok prog_14_method_101_code _ 85 (by decide +kernel)
theorem d_X12_good_85 : decode prog_14_method_101_code 85 = .ok (.getfield 623, 3) := gd_0 db00g_29
theorem d_X12_good_88 : decode prog_14_method_101_code 88 = .ok (.iconst 1, 1) := gd_1 db00g_29
theorem d_X12_good_89 : decode prog_14_method_101_code 89 = .ok (.isub, 1) := gd_2 db00g_29
theorem d_X12_good_90 : decode prog_14_method_101_code 90 = .ok (.ireturn, 1) := gd_3 db00g_29
theorem db00g_30 : Ad_ prog_14_method_102_code [(0, .iload_n 1, 1), (1, .iconst 1, 1), (2, .iconst 5, 1), (3, .invokestatic 323, 3), (6, .ifCond .ne 5, 3), (9, .iconst 0, 1), (10, .ireturn, 1), (11, .aload_n 0, 1), (12, .iload_n 1, 1), (13, .putfield 253, 3), (16, .iconst 1, 1), (17, .ireturn, 1)] := bch_ok prog_14_method_102_code _ 0 (by decide +kernel)
theorem d_X12_least_0 : decode prog_14_method_102_code 0 = .ok (.iload_n 1, 1) := gd_0 db00g_30
theorem d_X12_least_1 : decode prog_14_method_102_code 1 = .ok (.iconst 1, 1) := gd_1 db00g_30
theorem d_X12_least_2 : decode prog_14_method_102_code 2 = .ok (.iconst 5, 1) := gd_2 db00g_30
theorem d_X12_least_3 : decode prog_14_method_102_code 3 = .ok (.invokestatic 323, 3) := gd_3 db00g_30
theorem d_X12_least_6 : decode prog_14_method_102_code 6 = .ok (.ifCond .ne 5, 3) := gd_4 db00g_30
theorem d_X12_least_9 : decode prog_14_method_102_code 9 = .ok (.iconst 0, 1) := gd_5 db00g_30
theorem d_X12_least_10 : decode prog_14_method_102_code 10 = .ok (.ireturn, 1) := gd_6 db00g_30
theorem d_X12_least_11 : decode prog_14_method_102_code 11 = .ok (.aload_n 0, 1) := gd_7 db00g_30
theorem d_X12_least_12 : decode prog_14_method_102_code 12 = .ok (.iload_n 1, 1) := gd_8 db00g_30
theorem d_X12_least_13 : decode prog_14_method_102_code 13 = .ok (.putfield 253, 3) := gd_9 db00g_30
theorem d_X12_least_16 : decode prog_14_method_102_code 16 = .ok (.iconst 1, 1) := gd_10 db00g_30
theorem d_X12_least_17 : decode prog_14_method_102_code 17 = .ok (.ireturn, 1) := gd_11 db00g_30
theorem db00g_31 : Ad_ prog_14_method_103_code [(0, .aload_n 0, 1), (1, .getfield 247, 3), (4, .iload_n 1, 1), (5, .iaload, 1), (6, .istore_n 3, 1), (7, .aload_n 0, 1), (8, .getfield 250, 3), (11, .iload_n 2, 1), (12, .iaload, 1), (13, .istore 4, 2), (15, .iconst 0, 1), (16, .istore 5, 2), (18, .iconst 0, 1), (19, .istore 6, 2), (21, .iload 6, 2), (23, .iconst 5, 1), (24, .if_icmp .ge 43, 3), (27, .iload 5, 2), (29, .iload_n 3, 1), (30, .bipush 10, 2), (32, .irem, 1), (33, .iload 4, 2), (35, .bipush 10, 2), (37, .irem, 1)] := bch_ok prog_14_method_103_code _ 0 (by decide +kernel)
theorem d_X12_like_0 : decode prog_14_method_103_code 0 = .ok (.aload_n 0, 1) := gd_0 db00g_31
theorem d_X12_like_1 : decode prog_14_method_103_code 1 = .ok (.getfield 247, 3) := gd_1 db00g_31
theorem d_X12_like_4 : decode prog_14_method_103_code 4 = .ok (.iload_n 1, 1) := gd_2 db00g_31
theorem d_X12_like_5 : decode prog_14_method_103_code 5 = .ok (.iaload, 1) := gd_3 db00g_31
theorem d_X12_like_6 : decode prog_14_method_103_code 6 = .ok (.istore_n 3, 1) := gd_4 db00g_31
theorem d_X12_like_7 : decode prog_14_method_103_code 7 = .ok (.aload_n 0, 1) := gd_5 db00g_31
theorem d_X12_like_8 : decode prog_14_method_103_code 8 = .ok (.getfield 250, 3) := gd_6 db00g_31
theorem d_X12_like_11 : decode prog_14_method_103_code 11 = .ok (.iload_n 2, 1) := gd_7 db00g_31
theorem d_X12_like_12 : decode prog_14_method_103_code 12 = .ok (.iaload, 1) := gd_8 db00g_31
theorem d_X12_like_13 : decode prog_14_method_103_code 13 = .ok (.istore 4, 2) := gd_9 db00g_31
theorem d_X12_like_15 : decode prog_14_method_103_code 15 = .ok (.iconst 0, 1) := gd_10 db00g_31
theorem d_X12_like_16 : decode prog_14_method_103_code 16 = .ok (.istore 5, 2) := gd_11 db00g_31
theorem d_X12_like_18 : decode prog_14_method_103_code 18 = .ok (.iconst 0, 1) := gd_12 db00g_31
theorem d_X12_like_19 : decode prog_14_method_103_code 19 = .ok (.istore 6, 2) := gd_13 db00g_31
theorem d_X12_like_21 : decode prog_14_method_103_code 21 = .ok (.iload 6, 2) := gd_14 db00g_31
theorem d_X12_like_23 : decode prog_14_method_103_code 23 = .ok (.iconst 5, 1) := gd_15 db00g_31
theorem d_X12_like_24 : decode prog_14_method_103_code 24 = .ok (.if_icmp .ge 43, 3) := gd_16 db00g_31
theorem d_X12_like_27 : decode prog_14_method_103_code 27 = .ok (.iload 5, 2) := gd_17 db00g_31
theorem d_X12_like_29 : decode prog_14_method_103_code 29 = .ok (.iload_n 3, 1) := gd_18 db00g_31
theorem d_X12_like_30 : decode prog_14_method_103_code 30 = .ok (.bipush 10, 2) := gd_19 db00g_31
theorem d_X12_like_32 : decode prog_14_method_103_code 32 = .ok (.irem, 1) := gd_20 db00g_31
theorem d_X12_like_33 : decode prog_14_method_103_code 33 = .ok (.iload 4, 2) := gd_21 db00g_31
theorem d_X12_like_35 : decode prog_14_method_103_code 35 = .ok (.bipush 10, 2) := gd_22 db00g_31
theorem d_X12_like_37 : decode prog_14_method_103_code 37 = .ok (.irem, 1) := gd_23 db00g_31
theorem db00g_32 : Ad_ prog_14_method_103_code [(38, .if_icmp .ne 7, 3), (41, .iconst 1, 1), (42, .goto 4, 3), (45, .iconst 0, 1), (46, .iadd, 1), (47, .istore 5, 2), (49, .iload_n 3, 1), (50, .bipush 10, 2), (52, .idiv, 1), (53, .istore_n 3, 1), (54, .iload 4, 2), (56, .bipush 10, 2), (58, .idiv, 1), (59, .istore 4, 2), (61, .iinc 6 1, 3), (64, .goto (-43), 3), (67, .iload 5, 2), (69, .ireturn, 1)] := bch_ok prog_14_method_103_code _ 38 (by decide +kernel)
theorem d_X12_like_38 : decode prog_14_method_103_code 38 = .ok (.if_icmp .ne 7, 3) := gd_0 db00g_32
theorem d_X12_like_41 : decode prog_14_method_103_code 41 = .ok (.iconst 1, 1) := gd_1 db00g_32
theorem d_X12_like_42 : decode prog_14_method_103_code 42 = .ok (.goto 4, 3) := gd_2 db00g_32
theorem d_X12_like_45 : decode prog_14_method_103_code 45 = .ok (.iconst 0, 1) := gd_3 db00g_32
theorem d_X12_like_46 : decode prog_14_method_103_code 46 = .ok (.iadd, 1) := gd_4 db00g_32
theorem d_X12_like_47 : decode prog_14_method_103_code 47 = .ok (.istore 5, 2) := gd_5 db00g_32
theorem d_X12_like_49 : decode prog_14_method_103_code 49 = .ok (.iload_n 3, 1) := gd_6 db00g_32
theorem d_X12_like_50 : decode prog_14_method_103_code 50 = .ok (.bipush 10, 2) := gd_7 db00g_32
theorem d_X12_like_52 : decode prog_14_method_103_code 52 = .ok (.idiv, 1) := gd_8 db00g_32
theorem d_X12_like_53 : decode prog_14_method_103_code 53 = .ok (.istore_n 3, 1) := gd_9 db00g_32
theorem d_X12_like_54 : decode prog_14_method_103_code 54 = .ok (.iload 4, 2) := gd_10 db00g_32
theorem d_X12_like_56 : decode prog_14_method_103_code 56 = .ok (.bipush 10, 2) := gd_11 db00g_32
theorem d_X12_like_58 : decode prog_14_method_103_code 58 = .ok (.idiv, 1) := gd_12 db00g_32
theorem d_X12_like_59 : decode prog_14_method_103_code 59 = .ok (.istore 4, 2) := gd_13 db00g_32
theorem d_X12_like_61 : decode prog_14_method_103_code 61 = .ok (.iinc 6 1, 3) := gd_14 db00g_32
theorem d_X12_like_64 : decode prog_14_method_103_code 64 = .ok (.goto (-43), 3) := gd_15 db00g_32
theorem d_X12_like_67 : decode prog_14_method_103_code 67 = .ok (.iload 5, 2) := gd_16 db00g_32
theorem d_X12_like_69 : decode prog_14_method_103_code 69 = .ok (.ireturn, 1) := gd_17 db00g_32
theorem db00g_33 : Ad_ prog_14_method_104_code [(0, .iconst 0, 1), (1, .istore_n 3, 1), (2, .iload_n 3, 1), (3, .sipush 256, 3), (6, .if_icmp .ge 25, 3), (9, .aload_n 0, 1), (10, .getfield 257, 3), (13, .sipush 256, 3), (16, .aload_n 0, 1), (17, .getfield 620, 3), (20, .imul, 1), (21, .iload_n 3, 1), (22, .iadd, 1), (23, .iconst 0, 1), (24, .iastore, 1), (25, .iinc 3 1, 3), (28, .goto (-26), 3), (31, .aload_n 0, 1), (32, .getfield 620, 3), (35, .iconst 1, 1), (36, .isub, 1), (37, .istore_n 3, 1), (38, .iload_n 3, 1), (39, .ifCond .lt 162, 3)] := bch_ok prog_14_method_104_code _ 0 (by decide +kernel)
theorem d_X12_bestFrom_0 : decode prog_14_method_104_code 0 = .ok (.iconst 0, 1) := gd_0 db00g_33
theorem d_X12_bestFrom_1 : decode prog_14_method_104_code 1 = .ok (.istore_n 3, 1) := gd_1 db00g_33
theorem d_X12_bestFrom_2 : decode prog_14_method_104_code 2 = .ok (.iload_n 3, 1) := gd_2 db00g_33
theorem d_X12_bestFrom_3 : decode prog_14_method_104_code 3 = .ok (.sipush 256, 3) := gd_3 db00g_33
theorem d_X12_bestFrom_6 : decode prog_14_method_104_code 6 = .ok (.if_icmp .ge 25, 3) := gd_4 db00g_33
theorem d_X12_bestFrom_9 : decode prog_14_method_104_code 9 = .ok (.aload_n 0, 1) := gd_5 db00g_33
theorem d_X12_bestFrom_10 : decode prog_14_method_104_code 10 = .ok (.getfield 257, 3) := gd_6 db00g_33
theorem d_X12_bestFrom_13 : decode prog_14_method_104_code 13 = .ok (.sipush 256, 3) := gd_7 db00g_33
theorem d_X12_bestFrom_16 : decode prog_14_method_104_code 16 = .ok (.aload_n 0, 1) := gd_8 db00g_33
theorem d_X12_bestFrom_17 : decode prog_14_method_104_code 17 = .ok (.getfield 620, 3) := gd_9 db00g_33
theorem d_X12_bestFrom_20 : decode prog_14_method_104_code 20 = .ok (.imul, 1) := gd_10 db00g_33
theorem d_X12_bestFrom_21 : decode prog_14_method_104_code 21 = .ok (.iload_n 3, 1) := gd_11 db00g_33
theorem d_X12_bestFrom_22 : decode prog_14_method_104_code 22 = .ok (.iadd, 1) := gd_12 db00g_33
theorem d_X12_bestFrom_23 : decode prog_14_method_104_code 23 = .ok (.iconst 0, 1) := gd_13 db00g_33
theorem d_X12_bestFrom_24 : decode prog_14_method_104_code 24 = .ok (.iastore, 1) := gd_14 db00g_33
theorem d_X12_bestFrom_25 : decode prog_14_method_104_code 25 = .ok (.iinc 3 1, 3) := gd_15 db00g_33
theorem d_X12_bestFrom_28 : decode prog_14_method_104_code 28 = .ok (.goto (-26), 3) := gd_16 db00g_33
theorem d_X12_bestFrom_31 : decode prog_14_method_104_code 31 = .ok (.aload_n 0, 1) := gd_17 db00g_33
theorem d_X12_bestFrom_32 : decode prog_14_method_104_code 32 = .ok (.getfield 620, 3) := gd_18 db00g_33
theorem d_X12_bestFrom_35 : decode prog_14_method_104_code 35 = .ok (.iconst 1, 1) := gd_19 db00g_33
theorem d_X12_bestFrom_36 : decode prog_14_method_104_code 36 = .ok (.isub, 1) := gd_20 db00g_33
theorem d_X12_bestFrom_37 : decode prog_14_method_104_code 37 = .ok (.istore_n 3, 1) := gd_21 db00g_33
theorem d_X12_bestFrom_38 : decode prog_14_method_104_code 38 = .ok (.iload_n 3, 1) := gd_22 db00g_33
theorem d_X12_bestFrom_39 : decode prog_14_method_104_code 39 = .ok (.ifCond .lt 162, 3) := gd_23 db00g_33
theorem db00g_34 : Ad_ prog_14_method_104_code [(42, .iconst 0, 1), (43, .istore 4, 2), (45, .iload 4, 2), (47, .sipush 256, 3), (50, .if_icmp .ge 145, 3), (53, .iload_n 3, 1), (54, .iload_n 1, 1), (55, .if_icmp .ne 8, 3), (58, .iload_n 2, 1), (59, .iconst (-1), 1), (60, .if_icmp .ne 21, 3), (63, .aload_n 0, 1), (64, .getfield 257, 3), (67, .sipush 256, 3), (70, .iload_n 3, 1), (71, .iconst 1, 1), (72, .iadd, 1), (73, .imul, 1), (74, .iload 4, 2), (76, .iadd, 1), (77, .iaload, 1), (78, .goto 6, 3), (81, .sipush (-1000), 3), (84, .istore 5, 2)] := bch_ok prog_14_method_104_code _ 42 (by decide +kernel)
theorem d_X12_bestFrom_42 : decode prog_14_method_104_code 42 = .ok (.iconst 0, 1) := gd_0 db00g_34
theorem d_X12_bestFrom_43 : decode prog_14_method_104_code 43 = .ok (.istore 4, 2) := gd_1 db00g_34
theorem d_X12_bestFrom_45 : decode prog_14_method_104_code 45 = .ok (.iload 4, 2) := gd_2 db00g_34
theorem d_X12_bestFrom_47 : decode prog_14_method_104_code 47 = .ok (.sipush 256, 3) := gd_3 db00g_34
theorem d_X12_bestFrom_50 : decode prog_14_method_104_code 50 = .ok (.if_icmp .ge 145, 3) := gd_4 db00g_34
theorem d_X12_bestFrom_53 : decode prog_14_method_104_code 53 = .ok (.iload_n 3, 1) := gd_5 db00g_34
theorem d_X12_bestFrom_54 : decode prog_14_method_104_code 54 = .ok (.iload_n 1, 1) := gd_6 db00g_34
theorem d_X12_bestFrom_55 : decode prog_14_method_104_code 55 = .ok (.if_icmp .ne 8, 3) := gd_7 db00g_34
theorem d_X12_bestFrom_58 : decode prog_14_method_104_code 58 = .ok (.iload_n 2, 1) := gd_8 db00g_34
theorem d_X12_bestFrom_59 : decode prog_14_method_104_code 59 = .ok (.iconst (-1), 1) := gd_9 db00g_34
theorem d_X12_bestFrom_60 : decode prog_14_method_104_code 60 = .ok (.if_icmp .ne 21, 3) := gd_10 db00g_34
theorem d_X12_bestFrom_63 : decode prog_14_method_104_code 63 = .ok (.aload_n 0, 1) := gd_11 db00g_34
theorem d_X12_bestFrom_64 : decode prog_14_method_104_code 64 = .ok (.getfield 257, 3) := gd_12 db00g_34
theorem d_X12_bestFrom_67 : decode prog_14_method_104_code 67 = .ok (.sipush 256, 3) := gd_13 db00g_34
theorem d_X12_bestFrom_70 : decode prog_14_method_104_code 70 = .ok (.iload_n 3, 1) := gd_14 db00g_34
theorem d_X12_bestFrom_71 : decode prog_14_method_104_code 71 = .ok (.iconst 1, 1) := gd_15 db00g_34
theorem d_X12_bestFrom_72 : decode prog_14_method_104_code 72 = .ok (.iadd, 1) := gd_16 db00g_34
theorem d_X12_bestFrom_73 : decode prog_14_method_104_code 73 = .ok (.imul, 1) := gd_17 db00g_34
theorem d_X12_bestFrom_74 : decode prog_14_method_104_code 74 = .ok (.iload 4, 2) := gd_18 db00g_34
theorem d_X12_bestFrom_76 : decode prog_14_method_104_code 76 = .ok (.iadd, 1) := gd_19 db00g_34
theorem d_X12_bestFrom_77 : decode prog_14_method_104_code 77 = .ok (.iaload, 1) := gd_20 db00g_34
theorem d_X12_bestFrom_78 : decode prog_14_method_104_code 78 = .ok (.goto 6, 3) := gd_21 db00g_34
theorem d_X12_bestFrom_81 : decode prog_14_method_104_code 81 = .ok (.sipush (-1000), 3) := gd_22 db00g_34
theorem d_X12_bestFrom_84 : decode prog_14_method_104_code 84 = .ok (.istore 5, 2) := gd_23 db00g_34
theorem db00g_35 : Ad_ prog_14_method_104_code [(86, .iconst 0, 1), (87, .istore 6, 2), (89, .iload 6, 2), (91, .aload_n 0, 1), (92, .getfield 623, 3), (95, .if_icmp .ge 79, 3), (98, .iload 4, 2), (100, .iload 6, 2), (102, .ishr, 1), (103, .iconst 1, 1), (104, .iand, 1), (105, .ifCond .ne 63, 3), (108, .aload_n 0, 1), (109, .iload_n 3, 1), (110, .iload 6, 2), (112, .invokevirtual 626, 3), (115, .aload_n 0, 1), (116, .getfield 253, 3), (119, .if_icmp .lt 49, 3), (122, .iload_n 3, 1), (123, .iload_n 1, 1), (124, .if_icmp .ne 9, 3), (127, .iload_n 2, 1), (128, .iload 6, 2)] := bch_ok prog_14_method_104_code _ 86 (by decide +kernel)
theorem d_X12_bestFrom_86 : decode prog_14_method_104_code 86 = .ok (.iconst 0, 1) := gd_0 db00g_35
theorem d_X12_bestFrom_87 : decode prog_14_method_104_code 87 = .ok (.istore 6, 2) := gd_1 db00g_35
theorem d_X12_bestFrom_89 : decode prog_14_method_104_code 89 = .ok (.iload 6, 2) := gd_2 db00g_35
theorem d_X12_bestFrom_91 : decode prog_14_method_104_code 91 = .ok (.aload_n 0, 1) := gd_3 db00g_35
theorem d_X12_bestFrom_92 : decode prog_14_method_104_code 92 = .ok (.getfield 623, 3) := gd_4 db00g_35
theorem d_X12_bestFrom_95 : decode prog_14_method_104_code 95 = .ok (.if_icmp .ge 79, 3) := gd_5 db00g_35
theorem d_X12_bestFrom_98 : decode prog_14_method_104_code 98 = .ok (.iload 4, 2) := gd_6 db00g_35
theorem d_X12_bestFrom_100 : decode prog_14_method_104_code 100 = .ok (.iload 6, 2) := gd_7 db00g_35
theorem d_X12_bestFrom_102 : decode prog_14_method_104_code 102 = .ok (.ishr, 1) := gd_8 db00g_35
theorem d_X12_bestFrom_103 : decode prog_14_method_104_code 103 = .ok (.iconst 1, 1) := gd_9 db00g_35
theorem d_X12_bestFrom_104 : decode prog_14_method_104_code 104 = .ok (.iand, 1) := gd_10 db00g_35
theorem d_X12_bestFrom_105 : decode prog_14_method_104_code 105 = .ok (.ifCond .ne 63, 3) := gd_11 db00g_35
theorem d_X12_bestFrom_108 : decode prog_14_method_104_code 108 = .ok (.aload_n 0, 1) := gd_12 db00g_35
theorem d_X12_bestFrom_109 : decode prog_14_method_104_code 109 = .ok (.iload_n 3, 1) := gd_13 db00g_35
theorem d_X12_bestFrom_110 : decode prog_14_method_104_code 110 = .ok (.iload 6, 2) := gd_14 db00g_35
theorem d_X12_bestFrom_112 : decode prog_14_method_104_code 112 = .ok (.invokevirtual 626, 3) := gd_15 db00g_35
theorem d_X12_bestFrom_115 : decode prog_14_method_104_code 115 = .ok (.aload_n 0, 1) := gd_16 db00g_35
theorem d_X12_bestFrom_116 : decode prog_14_method_104_code 116 = .ok (.getfield 253, 3) := gd_17 db00g_35
theorem d_X12_bestFrom_119 : decode prog_14_method_104_code 119 = .ok (.if_icmp .lt 49, 3) := gd_18 db00g_35
theorem d_X12_bestFrom_122 : decode prog_14_method_104_code 122 = .ok (.iload_n 3, 1) := gd_19 db00g_35
theorem d_X12_bestFrom_123 : decode prog_14_method_104_code 123 = .ok (.iload_n 1, 1) := gd_20 db00g_35
theorem d_X12_bestFrom_124 : decode prog_14_method_104_code 124 = .ok (.if_icmp .ne 9, 3) := gd_21 db00g_35
theorem d_X12_bestFrom_127 : decode prog_14_method_104_code 127 = .ok (.iload_n 2, 1) := gd_22 db00g_35
theorem d_X12_bestFrom_128 : decode prog_14_method_104_code 128 = .ok (.iload 6, 2) := gd_23 db00g_35
theorem db00g_36 : Ad_ prog_14_method_104_code [(130, .if_icmp .ne 38, 3), (133, .iload 5, 2), (135, .aload_n 0, 1), (136, .iload_n 3, 1), (137, .iload 6, 2), (139, .invokevirtual 626, 3), (142, .aload_n 0, 1), (143, .getfield 257, 3), (146, .sipush 256, 3), (149, .iload_n 3, 1), (150, .iconst 1, 1), (151, .iadd, 1), (152, .imul, 1), (153, .iload 4, 2), (155, .iconst 1, 1), (156, .iload 6, 2), (158, .ishl, 1), (159, .ior, 1), (160, .iadd, 1), (161, .iaload, 1), (162, .iadd, 1), (163, .invokestatic 560, 3), (166, .istore 5, 2), (168, .iinc 6 1, 3)] := bch_ok prog_14_method_104_code _ 130 (by decide +kernel)
theorem d_X12_bestFrom_130 : decode prog_14_method_104_code 130 = .ok (.if_icmp .ne 38, 3) := gd_0 db00g_36
theorem d_X12_bestFrom_133 : decode prog_14_method_104_code 133 = .ok (.iload 5, 2) := gd_1 db00g_36
theorem d_X12_bestFrom_135 : decode prog_14_method_104_code 135 = .ok (.aload_n 0, 1) := gd_2 db00g_36
theorem d_X12_bestFrom_136 : decode prog_14_method_104_code 136 = .ok (.iload_n 3, 1) := gd_3 db00g_36
theorem d_X12_bestFrom_137 : decode prog_14_method_104_code 137 = .ok (.iload 6, 2) := gd_4 db00g_36
theorem d_X12_bestFrom_139 : decode prog_14_method_104_code 139 = .ok (.invokevirtual 626, 3) := gd_5 db00g_36
theorem d_X12_bestFrom_142 : decode prog_14_method_104_code 142 = .ok (.aload_n 0, 1) := gd_6 db00g_36
theorem d_X12_bestFrom_143 : decode prog_14_method_104_code 143 = .ok (.getfield 257, 3) := gd_7 db00g_36
theorem d_X12_bestFrom_146 : decode prog_14_method_104_code 146 = .ok (.sipush 256, 3) := gd_8 db00g_36
theorem d_X12_bestFrom_149 : decode prog_14_method_104_code 149 = .ok (.iload_n 3, 1) := gd_9 db00g_36
theorem d_X12_bestFrom_150 : decode prog_14_method_104_code 150 = .ok (.iconst 1, 1) := gd_10 db00g_36
theorem d_X12_bestFrom_151 : decode prog_14_method_104_code 151 = .ok (.iadd, 1) := gd_11 db00g_36
theorem d_X12_bestFrom_152 : decode prog_14_method_104_code 152 = .ok (.imul, 1) := gd_12 db00g_36
theorem d_X12_bestFrom_153 : decode prog_14_method_104_code 153 = .ok (.iload 4, 2) := gd_13 db00g_36
theorem d_X12_bestFrom_155 : decode prog_14_method_104_code 155 = .ok (.iconst 1, 1) := gd_14 db00g_36
theorem d_X12_bestFrom_156 : decode prog_14_method_104_code 156 = .ok (.iload 6, 2) := gd_15 db00g_36
theorem d_X12_bestFrom_158 : decode prog_14_method_104_code 158 = .ok (.ishl, 1) := gd_16 db00g_36
theorem d_X12_bestFrom_159 : decode prog_14_method_104_code 159 = .ok (.ior, 1) := gd_17 db00g_36
theorem d_X12_bestFrom_160 : decode prog_14_method_104_code 160 = .ok (.iadd, 1) := gd_18 db00g_36
theorem d_X12_bestFrom_161 : decode prog_14_method_104_code 161 = .ok (.iaload, 1) := gd_19 db00g_36
theorem d_X12_bestFrom_162 : decode prog_14_method_104_code 162 = .ok (.iadd, 1) := gd_20 db00g_36
theorem d_X12_bestFrom_163 : decode prog_14_method_104_code 163 = .ok (.invokestatic 560, 3) := gd_21 db00g_36
theorem d_X12_bestFrom_166 : decode prog_14_method_104_code 166 = .ok (.istore 5, 2) := gd_22 db00g_36
theorem d_X12_bestFrom_168 : decode prog_14_method_104_code 168 = .ok (.iinc 6 1, 3) := gd_23 db00g_36
theorem db00g_37 : Ad_ prog_14_method_104_code [(171, .goto (-82), 3), (174, .aload_n 0, 1), (175, .getfield 257, 3), (178, .sipush 256, 3), (181, .iload_n 3, 1), (182, .imul, 1), (183, .iload 4, 2), (185, .iadd, 1), (186, .iload 5, 2), (188, .iastore, 1), (189, .iinc 4 1, 3), (192, .goto (-147), 3), (195, .iinc 3 (-1), 3), (198, .goto (-160), 3), (201, .aload_n 0, 1), (202, .getfield 257, 3), (205, .iconst 0, 1), (206, .iaload, 1), (207, .ireturn, 1)] := bch_ok prog_14_method_104_code _ 171 (by decide +kernel)
theorem d_X12_bestFrom_171 : decode prog_14_method_104_code 171 = .ok (.goto (-82), 3) := gd_0 db00g_37
theorem d_X12_bestFrom_174 : decode prog_14_method_104_code 174 = .ok (.aload_n 0, 1) := gd_1 db00g_37
theorem d_X12_bestFrom_175 : decode prog_14_method_104_code 175 = .ok (.getfield 257, 3) := gd_2 db00g_37
theorem d_X12_bestFrom_178 : decode prog_14_method_104_code 178 = .ok (.sipush 256, 3) := gd_3 db00g_37
theorem d_X12_bestFrom_181 : decode prog_14_method_104_code 181 = .ok (.iload_n 3, 1) := gd_4 db00g_37
theorem d_X12_bestFrom_182 : decode prog_14_method_104_code 182 = .ok (.imul, 1) := gd_5 db00g_37
theorem d_X12_bestFrom_183 : decode prog_14_method_104_code 183 = .ok (.iload 4, 2) := gd_6 db00g_37
theorem d_X12_bestFrom_185 : decode prog_14_method_104_code 185 = .ok (.iadd, 1) := gd_7 db00g_37
theorem d_X12_bestFrom_186 : decode prog_14_method_104_code 186 = .ok (.iload 5, 2) := gd_8 db00g_37
theorem d_X12_bestFrom_188 : decode prog_14_method_104_code 188 = .ok (.iastore, 1) := gd_9 db00g_37
theorem d_X12_bestFrom_189 : decode prog_14_method_104_code 189 = .ok (.iinc 4 1, 3) := gd_10 db00g_37
theorem d_X12_bestFrom_192 : decode prog_14_method_104_code 192 = .ok (.goto (-147), 3) := gd_11 db00g_37
theorem d_X12_bestFrom_195 : decode prog_14_method_104_code 195 = .ok (.iinc 3 (-1), 3) := gd_12 db00g_37
theorem d_X12_bestFrom_198 : decode prog_14_method_104_code 198 = .ok (.goto (-160), 3) := gd_13 db00g_37
theorem d_X12_bestFrom_201 : decode prog_14_method_104_code 201 = .ok (.aload_n 0, 1) := gd_14 db00g_37
theorem d_X12_bestFrom_202 : decode prog_14_method_104_code 202 = .ok (.getfield 257, 3) := gd_15 db00g_37
theorem d_X12_bestFrom_205 : decode prog_14_method_104_code 205 = .ok (.iconst 0, 1) := gd_16 db00g_37
theorem d_X12_bestFrom_206 : decode prog_14_method_104_code 206 = .ok (.iaload, 1) := gd_17 db00g_37
theorem d_X12_bestFrom_207 : decode prog_14_method_104_code 207 = .ok (.ireturn, 1) := gd_18 db00g_37
theorem db00g_38 : Ad_ prog_14_method_105_code [(0, .aload_n 0, 1), (1, .iconst (-1), 1), (2, .iconst (-1), 1), (3, .invokevirtual 629, 3), (6, .ireturn, 1)] := bch_ok prog_14_method_105_code _ 0 (by decide +kernel)
theorem d_X12_joining_0 : decode prog_14_method_105_code 0 = .ok (.aload_n 0, 1) := gd_0 db00g_38
theorem d_X12_joining_1 : decode prog_14_method_105_code 1 = .ok (.iconst (-1), 1) := gd_1 db00g_38
theorem d_X12_joining_2 : decode prog_14_method_105_code 2 = .ok (.iconst (-1), 1) := gd_2 db00g_38
theorem d_X12_joining_3 : decode prog_14_method_105_code 3 = .ok (.invokevirtual 629, 3) := gd_3 db00g_38
theorem d_X12_joining_6 : decode prog_14_method_105_code 6 = .ok (.ireturn, 1) := gd_4 db00g_38
theorem db00g_39 : Ad_ prog_14_method_106_code [(0, .iload_n 1, 1), (1, .iconst 0, 1), (2, .aload_n 0, 1), (3, .getfield 620, 3), (6, .iconst 1, 1), (7, .isub, 1), (8, .invokestatic 323, 3), (11, .ireturn, 1)] := bch_ok prog_14_method_106_code _ 0 (by decide +kernel)
theorem d_X12_isLost_0 : decode prog_14_method_106_code 0 = .ok (.iload_n 1, 1) := gd_0 db00g_39
theorem d_X12_isLost_1 : decode prog_14_method_106_code 1 = .ok (.iconst 0, 1) := gd_1 db00g_39
theorem d_X12_isLost_2 : decode prog_14_method_106_code 2 = .ok (.aload_n 0, 1) := gd_2 db00g_39
theorem d_X12_isLost_3 : decode prog_14_method_106_code 3 = .ok (.getfield 620, 3) := gd_3 db00g_39
theorem d_X12_isLost_6 : decode prog_14_method_106_code 6 = .ok (.iconst 1, 1) := gd_4 db00g_39
theorem d_X12_isLost_7 : decode prog_14_method_106_code 7 = .ok (.isub, 1) := gd_5 db00g_39
theorem d_X12_isLost_8 : decode prog_14_method_106_code 8 = .ok (.invokestatic 323, 3) := gd_6 db00g_39
theorem d_X12_isLost_11 : decode prog_14_method_106_code 11 = .ok (.ireturn, 1) := gd_7 db00g_39
theorem db00g_40 : Ad_ prog_14_method_107_code [(0, .aload_n 0, 1), (1, .iload_n 1, 1), (2, .invokevirtual 632, 3), (5, .ifCond .ne 5, 3), (8, .iconst (-1), 1), (9, .ireturn, 1), (10, .aload_n 0, 1), (11, .iconst (-1), 1), (12, .iconst (-1), 1), (13, .invokevirtual 629, 3), (16, .pop, 1), (17, .iconst 0, 1), (18, .istore_n 2, 1), (19, .iconst (-1), 1), (20, .istore_n 3, 1), (21, .iconst 0, 1), (22, .istore 4, 2), (24, .iload 4, 2), (26, .iload_n 1, 1), (27, .if_icmp .gt 129, 3), (30, .iconst (-1), 1), (31, .istore_n 3, 1), (32, .aload_n 0, 1), (33, .getfield 623, 3)] := bch_ok prog_14_method_107_code _ 0 (by decide +kernel)
theorem d_X12_joined_0 : decode prog_14_method_107_code 0 = .ok (.aload_n 0, 1) := gd_0 db00g_40
theorem d_X12_joined_1 : decode prog_14_method_107_code 1 = .ok (.iload_n 1, 1) := gd_1 db00g_40
theorem d_X12_joined_2 : decode prog_14_method_107_code 2 = .ok (.invokevirtual 632, 3) := gd_2 db00g_40
theorem d_X12_joined_5 : decode prog_14_method_107_code 5 = .ok (.ifCond .ne 5, 3) := gd_3 db00g_40
theorem d_X12_joined_8 : decode prog_14_method_107_code 8 = .ok (.iconst (-1), 1) := gd_4 db00g_40
theorem d_X12_joined_9 : decode prog_14_method_107_code 9 = .ok (.ireturn, 1) := gd_5 db00g_40
theorem d_X12_joined_10 : decode prog_14_method_107_code 10 = .ok (.aload_n 0, 1) := gd_6 db00g_40
theorem d_X12_joined_11 : decode prog_14_method_107_code 11 = .ok (.iconst (-1), 1) := gd_7 db00g_40
theorem d_X12_joined_12 : decode prog_14_method_107_code 12 = .ok (.iconst (-1), 1) := gd_8 db00g_40
theorem d_X12_joined_13 : decode prog_14_method_107_code 13 = .ok (.invokevirtual 629, 3) := gd_9 db00g_40
theorem d_X12_joined_16 : decode prog_14_method_107_code 16 = .ok (.pop, 1) := gd_10 db00g_40
theorem d_X12_joined_17 : decode prog_14_method_107_code 17 = .ok (.iconst 0, 1) := gd_11 db00g_40
theorem d_X12_joined_18 : decode prog_14_method_107_code 18 = .ok (.istore_n 2, 1) := gd_12 db00g_40
theorem d_X12_joined_19 : decode prog_14_method_107_code 19 = .ok (.iconst (-1), 1) := gd_13 db00g_40
theorem d_X12_joined_20 : decode prog_14_method_107_code 20 = .ok (.istore_n 3, 1) := gd_14 db00g_40
theorem d_X12_joined_21 : decode prog_14_method_107_code 21 = .ok (.iconst 0, 1) := gd_15 db00g_40
theorem d_X12_joined_22 : decode prog_14_method_107_code 22 = .ok (.istore 4, 2) := gd_16 db00g_40
theorem d_X12_joined_24 : decode prog_14_method_107_code 24 = .ok (.iload 4, 2) := gd_17 db00g_40
theorem d_X12_joined_26 : decode prog_14_method_107_code 26 = .ok (.iload_n 1, 1) := gd_18 db00g_40
theorem d_X12_joined_27 : decode prog_14_method_107_code 27 = .ok (.if_icmp .gt 129, 3) := gd_19 db00g_40
theorem d_X12_joined_30 : decode prog_14_method_107_code 30 = .ok (.iconst (-1), 1) := gd_20 db00g_40
theorem d_X12_joined_31 : decode prog_14_method_107_code 31 = .ok (.istore_n 3, 1) := gd_21 db00g_40
theorem d_X12_joined_32 : decode prog_14_method_107_code 32 = .ok (.aload_n 0, 1) := gd_22 db00g_40
theorem d_X12_joined_33 : decode prog_14_method_107_code 33 = .ok (.getfield 623, 3) := gd_23 db00g_40
theorem db00g_41 : Ad_ prog_14_method_107_code [(36, .iconst 1, 1), (37, .isub, 1), (38, .istore 5, 2), (40, .iload 5, 2), (42, .ifCond .lt 93, 3), (45, .iload_n 2, 1), (46, .iload 5, 2), (48, .ishr, 1), (49, .iconst 1, 1), (50, .iand, 1), (51, .ifCond .ne 22, 3), (54, .aload_n 0, 1), (55, .iload 4, 2), (57, .iload 5, 2), (59, .invokevirtual 626, 3), (62, .aload_n 0, 1), (63, .getfield 253, 3), (66, .if_icmp .lt 7, 3), (69, .iconst 1, 1), (70, .goto 4, 3), (73, .iconst 0, 1), (74, .istore 6, 2), (76, .iload 6, 2), (78, .ifCond .eq 51, 3)] := bch_ok prog_14_method_107_code _ 36 (by decide +kernel)
theorem d_X12_joined_36 : decode prog_14_method_107_code 36 = .ok (.iconst 1, 1) := gd_0 db00g_41
theorem d_X12_joined_37 : decode prog_14_method_107_code 37 = .ok (.isub, 1) := gd_1 db00g_41
theorem d_X12_joined_38 : decode prog_14_method_107_code 38 = .ok (.istore 5, 2) := gd_2 db00g_41
theorem d_X12_joined_40 : decode prog_14_method_107_code 40 = .ok (.iload 5, 2) := gd_3 db00g_41
theorem d_X12_joined_42 : decode prog_14_method_107_code 42 = .ok (.ifCond .lt 93, 3) := gd_4 db00g_41
theorem d_X12_joined_45 : decode prog_14_method_107_code 45 = .ok (.iload_n 2, 1) := gd_5 db00g_41
theorem d_X12_joined_46 : decode prog_14_method_107_code 46 = .ok (.iload 5, 2) := gd_6 db00g_41
theorem d_X12_joined_48 : decode prog_14_method_107_code 48 = .ok (.ishr, 1) := gd_7 db00g_41
theorem d_X12_joined_49 : decode prog_14_method_107_code 49 = .ok (.iconst 1, 1) := gd_8 db00g_41
theorem d_X12_joined_50 : decode prog_14_method_107_code 50 = .ok (.iand, 1) := gd_9 db00g_41
theorem d_X12_joined_51 : decode prog_14_method_107_code 51 = .ok (.ifCond .ne 22, 3) := gd_10 db00g_41
theorem d_X12_joined_54 : decode prog_14_method_107_code 54 = .ok (.aload_n 0, 1) := gd_11 db00g_41
theorem d_X12_joined_55 : decode prog_14_method_107_code 55 = .ok (.iload 4, 2) := gd_12 db00g_41
theorem d_X12_joined_57 : decode prog_14_method_107_code 57 = .ok (.iload 5, 2) := gd_13 db00g_41
theorem d_X12_joined_59 : decode prog_14_method_107_code 59 = .ok (.invokevirtual 626, 3) := gd_14 db00g_41
theorem d_X12_joined_62 : decode prog_14_method_107_code 62 = .ok (.aload_n 0, 1) := gd_15 db00g_41
theorem d_X12_joined_63 : decode prog_14_method_107_code 63 = .ok (.getfield 253, 3) := gd_16 db00g_41
theorem d_X12_joined_66 : decode prog_14_method_107_code 66 = .ok (.if_icmp .lt 7, 3) := gd_17 db00g_41
theorem d_X12_joined_69 : decode prog_14_method_107_code 69 = .ok (.iconst 1, 1) := gd_18 db00g_41
theorem d_X12_joined_70 : decode prog_14_method_107_code 70 = .ok (.goto 4, 3) := gd_19 db00g_41
theorem d_X12_joined_73 : decode prog_14_method_107_code 73 = .ok (.iconst 0, 1) := gd_20 db00g_41
theorem d_X12_joined_74 : decode prog_14_method_107_code 74 = .ok (.istore 6, 2) := gd_21 db00g_41
theorem d_X12_joined_76 : decode prog_14_method_107_code 76 = .ok (.iload 6, 2) := gd_22 db00g_41
theorem d_X12_joined_78 : decode prog_14_method_107_code 78 = .ok (.ifCond .eq 51, 3) := gd_23 db00g_41
theorem db00g_42 : Ad_ prog_14_method_107_code [(81, .aload_n 0, 1), (82, .iload 4, 2), (84, .iload 5, 2), (86, .invokevirtual 626, 3), (89, .aload_n 0, 1), (90, .getfield 257, 3), (93, .sipush 256, 3), (96, .iload 4, 2), (98, .iconst 1, 1), (99, .iadd, 1), (100, .imul, 1), (101, .iload_n 2, 1), (102, .iconst 1, 1), (103, .iload 5, 2), (105, .ishl, 1), (106, .ior, 1), (107, .iadd, 1), (108, .iaload, 1), (109, .iadd, 1), (110, .aload_n 0, 1), (111, .getfield 257, 3), (114, .sipush 256, 3), (117, .iload 4, 2), (119, .imul, 1)] := bch_ok prog_14_method_107_code _ 81 (by decide +kernel)
theorem d_X12_joined_81 : decode prog_14_method_107_code 81 = .ok (.aload_n 0, 1) := gd_0 db00g_42
theorem d_X12_joined_82 : decode prog_14_method_107_code 82 = .ok (.iload 4, 2) := gd_1 db00g_42
theorem d_X12_joined_84 : decode prog_14_method_107_code 84 = .ok (.iload 5, 2) := gd_2 db00g_42
theorem d_X12_joined_86 : decode prog_14_method_107_code 86 = .ok (.invokevirtual 626, 3) := gd_3 db00g_42
theorem d_X12_joined_89 : decode prog_14_method_107_code 89 = .ok (.aload_n 0, 1) := gd_4 db00g_42
theorem d_X12_joined_90 : decode prog_14_method_107_code 90 = .ok (.getfield 257, 3) := gd_5 db00g_42
theorem d_X12_joined_93 : decode prog_14_method_107_code 93 = .ok (.sipush 256, 3) := gd_6 db00g_42
theorem d_X12_joined_96 : decode prog_14_method_107_code 96 = .ok (.iload 4, 2) := gd_7 db00g_42
theorem d_X12_joined_98 : decode prog_14_method_107_code 98 = .ok (.iconst 1, 1) := gd_8 db00g_42
theorem d_X12_joined_99 : decode prog_14_method_107_code 99 = .ok (.iadd, 1) := gd_9 db00g_42
theorem d_X12_joined_100 : decode prog_14_method_107_code 100 = .ok (.imul, 1) := gd_10 db00g_42
theorem d_X12_joined_101 : decode prog_14_method_107_code 101 = .ok (.iload_n 2, 1) := gd_11 db00g_42
theorem d_X12_joined_102 : decode prog_14_method_107_code 102 = .ok (.iconst 1, 1) := gd_12 db00g_42
theorem d_X12_joined_103 : decode prog_14_method_107_code 103 = .ok (.iload 5, 2) := gd_13 db00g_42
theorem d_X12_joined_105 : decode prog_14_method_107_code 105 = .ok (.ishl, 1) := gd_14 db00g_42
theorem d_X12_joined_106 : decode prog_14_method_107_code 106 = .ok (.ior, 1) := gd_15 db00g_42
theorem d_X12_joined_107 : decode prog_14_method_107_code 107 = .ok (.iadd, 1) := gd_16 db00g_42
theorem d_X12_joined_108 : decode prog_14_method_107_code 108 = .ok (.iaload, 1) := gd_17 db00g_42
theorem d_X12_joined_109 : decode prog_14_method_107_code 109 = .ok (.iadd, 1) := gd_18 db00g_42
theorem d_X12_joined_110 : decode prog_14_method_107_code 110 = .ok (.aload_n 0, 1) := gd_19 db00g_42
theorem d_X12_joined_111 : decode prog_14_method_107_code 111 = .ok (.getfield 257, 3) := gd_20 db00g_42
theorem d_X12_joined_114 : decode prog_14_method_107_code 114 = .ok (.sipush 256, 3) := gd_21 db00g_42
theorem d_X12_joined_117 : decode prog_14_method_107_code 117 = .ok (.iload 4, 2) := gd_22 db00g_42
theorem d_X12_joined_119 : decode prog_14_method_107_code 119 = .ok (.imul, 1) := gd_23 db00g_42
theorem db00g_43 : Ad_ prog_14_method_107_code [(120, .iload_n 2, 1), (121, .iadd, 1), (122, .iaload, 1), (123, .if_icmp .ne 6, 3), (126, .iload 5, 2), (128, .istore_n 3, 1), (129, .iinc 5 (-1), 3), (132, .goto (-92), 3), (135, .iload_n 2, 1), (136, .iload_n 3, 1), (137, .iconst (-1), 1), (138, .if_icmp .ne 7, 3), (141, .iconst 0, 1), (142, .goto 6, 3), (145, .iconst 1, 1), (146, .iload_n 3, 1), (147, .ishl, 1), (148, .ior, 1), (149, .istore_n 2, 1), (150, .iinc 4 1, 3), (153, .goto (-129), 3), (156, .iload_n 3, 1), (157, .ireturn, 1)] := bch_ok prog_14_method_107_code _ 120 (by decide +kernel)
theorem d_X12_joined_120 : decode prog_14_method_107_code 120 = .ok (.iload_n 2, 1) := gd_0 db00g_43
theorem d_X12_joined_121 : decode prog_14_method_107_code 121 = .ok (.iadd, 1) := gd_1 db00g_43
theorem d_X12_joined_122 : decode prog_14_method_107_code 122 = .ok (.iaload, 1) := gd_2 db00g_43
theorem d_X12_joined_123 : decode prog_14_method_107_code 123 = .ok (.if_icmp .ne 6, 3) := gd_3 db00g_43
theorem d_X12_joined_126 : decode prog_14_method_107_code 126 = .ok (.iload 5, 2) := gd_4 db00g_43
theorem d_X12_joined_128 : decode prog_14_method_107_code 128 = .ok (.istore_n 3, 1) := gd_5 db00g_43
theorem d_X12_joined_129 : decode prog_14_method_107_code 129 = .ok (.iinc 5 (-1), 3) := gd_6 db00g_43
theorem d_X12_joined_132 : decode prog_14_method_107_code 132 = .ok (.goto (-92), 3) := gd_7 db00g_43
theorem d_X12_joined_135 : decode prog_14_method_107_code 135 = .ok (.iload_n 2, 1) := gd_8 db00g_43
theorem d_X12_joined_136 : decode prog_14_method_107_code 136 = .ok (.iload_n 3, 1) := gd_9 db00g_43
theorem d_X12_joined_137 : decode prog_14_method_107_code 137 = .ok (.iconst (-1), 1) := gd_10 db00g_43
theorem d_X12_joined_138 : decode prog_14_method_107_code 138 = .ok (.if_icmp .ne 7, 3) := gd_11 db00g_43
theorem d_X12_joined_141 : decode prog_14_method_107_code 141 = .ok (.iconst 0, 1) := gd_12 db00g_43
theorem d_X12_joined_142 : decode prog_14_method_107_code 142 = .ok (.goto 6, 3) := gd_13 db00g_43
theorem d_X12_joined_145 : decode prog_14_method_107_code 145 = .ok (.iconst 1, 1) := gd_14 db00g_43
theorem d_X12_joined_146 : decode prog_14_method_107_code 146 = .ok (.iload_n 3, 1) := gd_15 db00g_43
theorem d_X12_joined_147 : decode prog_14_method_107_code 147 = .ok (.ishl, 1) := gd_16 db00g_43
theorem d_X12_joined_148 : decode prog_14_method_107_code 148 = .ok (.ior, 1) := gd_17 db00g_43
theorem d_X12_joined_149 : decode prog_14_method_107_code 149 = .ok (.istore_n 2, 1) := gd_18 db00g_43
theorem d_X12_joined_150 : decode prog_14_method_107_code 150 = .ok (.iinc 4 1, 3) := gd_19 db00g_43
theorem d_X12_joined_153 : decode prog_14_method_107_code 153 = .ok (.goto (-129), 3) := gd_20 db00g_43
theorem d_X12_joined_156 : decode prog_14_method_107_code 156 = .ok (.iload_n 3, 1) := gd_21 db00g_43
theorem d_X12_joined_157 : decode prog_14_method_107_code 157 = .ok (.ireturn, 1) := gd_22 db00g_43
theorem db00g_44 : Ad_ prog_14_method_108_code [(0, .aload_n 0, 1), (1, .invokevirtual 635, 3), (4, .istore_n 2, 1), (5, .iconst 0, 1), (6, .istore_n 3, 1), (7, .iconst 0, 1), (8, .istore 4, 2), (10, .iload 4, 2), (12, .aload_n 0, 1), (13, .getfield 623, 3), (16, .if_icmp .ge 45, 3), (19, .iload_n 3, 1), (20, .aload_n 0, 1), (21, .iload_n 1, 1), (22, .iload 4, 2), (24, .invokevirtual 626, 3), (27, .aload_n 0, 1), (28, .getfield 253, 3), (31, .if_icmp .lt 21, 3), (34, .aload_n 0, 1), (35, .iload_n 1, 1), (36, .iload 4, 2), (38, .invokevirtual 629, 3), (41, .iload_n 2, 1)] := bch_ok prog_14_method_108_code _ 0 (by decide +kernel)
theorem d_X12_rivalsOf_0 : decode prog_14_method_108_code 0 = .ok (.aload_n 0, 1) := gd_0 db00g_44
theorem d_X12_rivalsOf_1 : decode prog_14_method_108_code 1 = .ok (.invokevirtual 635, 3) := gd_1 db00g_44
theorem d_X12_rivalsOf_4 : decode prog_14_method_108_code 4 = .ok (.istore_n 2, 1) := gd_2 db00g_44
theorem d_X12_rivalsOf_5 : decode prog_14_method_108_code 5 = .ok (.iconst 0, 1) := gd_3 db00g_44
theorem d_X12_rivalsOf_6 : decode prog_14_method_108_code 6 = .ok (.istore_n 3, 1) := gd_4 db00g_44
theorem d_X12_rivalsOf_7 : decode prog_14_method_108_code 7 = .ok (.iconst 0, 1) := gd_5 db00g_44
theorem d_X12_rivalsOf_8 : decode prog_14_method_108_code 8 = .ok (.istore 4, 2) := gd_6 db00g_44
theorem d_X12_rivalsOf_10 : decode prog_14_method_108_code 10 = .ok (.iload 4, 2) := gd_7 db00g_44
theorem d_X12_rivalsOf_12 : decode prog_14_method_108_code 12 = .ok (.aload_n 0, 1) := gd_8 db00g_44
theorem d_X12_rivalsOf_13 : decode prog_14_method_108_code 13 = .ok (.getfield 623, 3) := gd_9 db00g_44
theorem d_X12_rivalsOf_16 : decode prog_14_method_108_code 16 = .ok (.if_icmp .ge 45, 3) := gd_10 db00g_44
theorem d_X12_rivalsOf_19 : decode prog_14_method_108_code 19 = .ok (.iload_n 3, 1) := gd_11 db00g_44
theorem d_X12_rivalsOf_20 : decode prog_14_method_108_code 20 = .ok (.aload_n 0, 1) := gd_12 db00g_44
theorem d_X12_rivalsOf_21 : decode prog_14_method_108_code 21 = .ok (.iload_n 1, 1) := gd_13 db00g_44
theorem d_X12_rivalsOf_22 : decode prog_14_method_108_code 22 = .ok (.iload 4, 2) := gd_14 db00g_44
theorem d_X12_rivalsOf_24 : decode prog_14_method_108_code 24 = .ok (.invokevirtual 626, 3) := gd_15 db00g_44
theorem d_X12_rivalsOf_27 : decode prog_14_method_108_code 27 = .ok (.aload_n 0, 1) := gd_16 db00g_44
theorem d_X12_rivalsOf_28 : decode prog_14_method_108_code 28 = .ok (.getfield 253, 3) := gd_17 db00g_44
theorem d_X12_rivalsOf_31 : decode prog_14_method_108_code 31 = .ok (.if_icmp .lt 21, 3) := gd_18 db00g_44
theorem d_X12_rivalsOf_34 : decode prog_14_method_108_code 34 = .ok (.aload_n 0, 1) := gd_19 db00g_44
theorem d_X12_rivalsOf_35 : decode prog_14_method_108_code 35 = .ok (.iload_n 1, 1) := gd_20 db00g_44
theorem d_X12_rivalsOf_36 : decode prog_14_method_108_code 36 = .ok (.iload 4, 2) := gd_21 db00g_44
theorem d_X12_rivalsOf_38 : decode prog_14_method_108_code 38 = .ok (.invokevirtual 629, 3) := gd_22 db00g_44
theorem d_X12_rivalsOf_41 : decode prog_14_method_108_code 41 = .ok (.iload_n 2, 1) := gd_23 db00g_44
theorem db00g_45 : Ad_ prog_14_method_108_code [(42, .if_icmp .ne 10, 3), (45, .iconst 1, 1), (46, .iload 4, 2), (48, .ishl, 1), (49, .goto 4, 3), (52, .iconst 0, 1), (53, .ior, 1), (54, .istore_n 3, 1), (55, .iinc 4 1, 3), (58, .goto (-48), 3), (61, .iload_n 3, 1), (62, .ireturn, 1)] := bch_ok prog_14_method_108_code _ 42 (by decide +kernel)
theorem d_X12_rivalsOf_42 : decode prog_14_method_108_code 42 = .ok (.if_icmp .ne 10, 3) := gd_0 db00g_45
theorem d_X12_rivalsOf_45 : decode prog_14_method_108_code 45 = .ok (.iconst 1, 1) := gd_1 db00g_45
theorem d_X12_rivalsOf_46 : decode prog_14_method_108_code 46 = .ok (.iload 4, 2) := gd_2 db00g_45
theorem d_X12_rivalsOf_48 : decode prog_14_method_108_code 48 = .ok (.ishl, 1) := gd_3 db00g_45
theorem d_X12_rivalsOf_49 : decode prog_14_method_108_code 49 = .ok (.goto 4, 3) := gd_4 db00g_45
theorem d_X12_rivalsOf_52 : decode prog_14_method_108_code 52 = .ok (.iconst 0, 1) := gd_5 db00g_45
theorem d_X12_rivalsOf_53 : decode prog_14_method_108_code 53 = .ok (.ior, 1) := gd_6 db00g_45
theorem d_X12_rivalsOf_54 : decode prog_14_method_108_code 54 = .ok (.istore_n 3, 1) := gd_7 db00g_45
theorem d_X12_rivalsOf_55 : decode prog_14_method_108_code 55 = .ok (.iinc 4 1, 3) := gd_8 db00g_45
theorem d_X12_rivalsOf_58 : decode prog_14_method_108_code 58 = .ok (.goto (-48), 3) := gd_9 db00g_45
theorem d_X12_rivalsOf_61 : decode prog_14_method_108_code 61 = .ok (.iload_n 3, 1) := gd_10 db00g_45
theorem d_X12_rivalsOf_62 : decode prog_14_method_108_code 62 = .ok (.ireturn, 1) := gd_11 db00g_45
theorem db00g_46 : Ad_ prog_14_method_109_code [(0, .aload_n 0, 1), (1, .iload_n 1, 1), (2, .invokevirtual 632, 3), (5, .ifCond .eq 11, 3), (8, .aload_n 0, 1), (9, .iload_n 1, 1), (10, .invokevirtual 638, 3), (13, .goto 4, 3), (16, .iconst (-1), 1), (17, .ireturn, 1)] := bch_ok prog_14_method_109_code _ 0 (by decide +kernel)
theorem d_X12_rivals_0 : decode prog_14_method_109_code 0 = .ok (.aload_n 0, 1) := gd_0 db00g_46
theorem d_X12_rivals_1 : decode prog_14_method_109_code 1 = .ok (.iload_n 1, 1) := gd_1 db00g_46
theorem d_X12_rivals_2 : decode prog_14_method_109_code 2 = .ok (.invokevirtual 632, 3) := gd_2 db00g_46
theorem d_X12_rivals_5 : decode prog_14_method_109_code 5 = .ok (.ifCond .eq 11, 3) := gd_3 db00g_46
theorem d_X12_rivals_8 : decode prog_14_method_109_code 8 = .ok (.aload_n 0, 1) := gd_4 db00g_46
theorem d_X12_rivals_9 : decode prog_14_method_109_code 9 = .ok (.iload_n 1, 1) := gd_5 db00g_46
theorem d_X12_rivals_10 : decode prog_14_method_109_code 10 = .ok (.invokevirtual 638, 3) := gd_6 db00g_46
theorem d_X12_rivals_13 : decode prog_14_method_109_code 13 = .ok (.goto 4, 3) := gd_7 db00g_46
theorem d_X12_rivals_16 : decode prog_14_method_109_code 16 = .ok (.iconst (-1), 1) := gd_8 db00g_46
theorem d_X12_rivals_17 : decode prog_14_method_109_code 17 = .ok (.ireturn, 1) := gd_9 db00g_46
theorem db00g_47 : Ad_ prog_14_method_110_code [(0, .aload_n 0, 1), (1, .iload_n 1, 1), (2, .invokevirtual 632, 3), (5, .ifCond .ne 5, 3), (8, .iconst (-1), 1), (9, .ireturn, 1), (10, .aload_n 0, 1), (11, .invokevirtual 635, 3), (14, .istore_n 2, 1), (15, .aload_n 0, 1), (16, .iload_n 1, 1), (17, .invokevirtual 638, 3), (20, .invokestatic 612, 3), (23, .aload_n 0, 1), (24, .iload_n 1, 1), (25, .iconst (-1), 1), (26, .invokevirtual 629, 3), (29, .iload_n 2, 1), (30, .if_icmp .ne 7, 3), (33, .iconst 1, 1), (34, .goto 4, 3), (37, .iconst 0, 1), (38, .iadd, 1), (39, .istore_n 3, 1)] := bch_ok prog_14_method_110_code _ 0 (by decide +kernel)
theorem d_X12_sure_0 : decode prog_14_method_110_code 0 = .ok (.aload_n 0, 1) := gd_0 db00g_47
theorem d_X12_sure_1 : decode prog_14_method_110_code 1 = .ok (.iload_n 1, 1) := gd_1 db00g_47
theorem d_X12_sure_2 : decode prog_14_method_110_code 2 = .ok (.invokevirtual 632, 3) := gd_2 db00g_47
theorem d_X12_sure_5 : decode prog_14_method_110_code 5 = .ok (.ifCond .ne 5, 3) := gd_3 db00g_47
theorem d_X12_sure_8 : decode prog_14_method_110_code 8 = .ok (.iconst (-1), 1) := gd_4 db00g_47
theorem d_X12_sure_9 : decode prog_14_method_110_code 9 = .ok (.ireturn, 1) := gd_5 db00g_47
theorem d_X12_sure_10 : decode prog_14_method_110_code 10 = .ok (.aload_n 0, 1) := gd_6 db00g_47
theorem d_X12_sure_11 : decode prog_14_method_110_code 11 = .ok (.invokevirtual 635, 3) := gd_7 db00g_47
theorem d_X12_sure_14 : decode prog_14_method_110_code 14 = .ok (.istore_n 2, 1) := gd_8 db00g_47
theorem d_X12_sure_15 : decode prog_14_method_110_code 15 = .ok (.aload_n 0, 1) := gd_9 db00g_47
theorem d_X12_sure_16 : decode prog_14_method_110_code 16 = .ok (.iload_n 1, 1) := gd_10 db00g_47
theorem d_X12_sure_17 : decode prog_14_method_110_code 17 = .ok (.invokevirtual 638, 3) := gd_11 db00g_47
theorem d_X12_sure_20 : decode prog_14_method_110_code 20 = .ok (.invokestatic 612, 3) := gd_12 db00g_47
theorem d_X12_sure_23 : decode prog_14_method_110_code 23 = .ok (.aload_n 0, 1) := gd_13 db00g_47
theorem d_X12_sure_24 : decode prog_14_method_110_code 24 = .ok (.iload_n 1, 1) := gd_14 db00g_47
theorem d_X12_sure_25 : decode prog_14_method_110_code 25 = .ok (.iconst (-1), 1) := gd_15 db00g_47
theorem d_X12_sure_26 : decode prog_14_method_110_code 26 = .ok (.invokevirtual 629, 3) := gd_16 db00g_47
theorem d_X12_sure_29 : decode prog_14_method_110_code 29 = .ok (.iload_n 2, 1) := gd_17 db00g_47
theorem d_X12_sure_30 : decode prog_14_method_110_code 30 = .ok (.if_icmp .ne 7, 3) := gd_18 db00g_47
theorem d_X12_sure_33 : decode prog_14_method_110_code 33 = .ok (.iconst 1, 1) := gd_19 db00g_47
theorem d_X12_sure_34 : decode prog_14_method_110_code 34 = .ok (.goto 4, 3) := gd_20 db00g_47
theorem d_X12_sure_37 : decode prog_14_method_110_code 37 = .ok (.iconst 0, 1) := gd_21 db00g_47
theorem d_X12_sure_38 : decode prog_14_method_110_code 38 = .ok (.iadd, 1) := gd_22 db00g_47
theorem d_X12_sure_39 : decode prog_14_method_110_code 39 = .ok (.istore_n 3, 1) := gd_23 db00g_47
theorem db00g_48 : Ad_ prog_14_method_110_code [(40, .iload_n 3, 1), (41, .iconst 1, 1), (42, .if_icmp .ne 7, 3), (45, .iconst 1, 1), (46, .goto 4, 3), (49, .iconst 0, 1), (50, .ireturn, 1)] := bch_ok prog_14_method_110_code _ 40 (by decide +kernel)
theorem d_X12_sure_40 : decode prog_14_method_110_code 40 = .ok (.iload_n 3, 1) := gd_0 db00g_48
theorem d_X12_sure_41 : decode prog_14_method_110_code 41 = .ok (.iconst 1, 1) := gd_1 db00g_48
theorem d_X12_sure_42 : decode prog_14_method_110_code 42 = .ok (.if_icmp .ne 7, 3) := gd_2 db00g_48
theorem d_X12_sure_45 : decode prog_14_method_110_code 45 = .ok (.iconst 1, 1) := gd_3 db00g_48
theorem d_X12_sure_46 : decode prog_14_method_110_code 46 = .ok (.goto 4, 3) := gd_4 db00g_48
theorem d_X12_sure_49 : decode prog_14_method_110_code 49 = .ok (.iconst 0, 1) := gd_5 db00g_48
theorem d_X12_sure_50 : decode prog_14_method_110_code 50 = .ok (.ireturn, 1) := gd_6 db00g_48
theorem db00g_49 : Ad_ prog_14_method_111_code [(0, .iload_n 1, 1), (1, .invokestatic 327, 3), (4, .ifCond .eq 34, 3), (7, .iload_n 2, 1), (8, .iconst 0, 1), (9, .sipush 1440, 3), (12, .invokestatic 323, 3), (15, .ifCond .eq 23, 3), (18, .iload_n 3, 1), (19, .iload_n 2, 1), (20, .sipush 1440, 3), (23, .invokestatic 323, 3), (26, .ifCond .eq 12, 3), (29, .aload_n 0, 1), (30, .getfield 641, 3), (33, .bipush 8, 2), (35, .if_icmp .ne 5, 3), (38, .iconst (-1), 1), (39, .ireturn, 1), (40, .aload_n 0, 1), (41, .getfield 260, 3), (44, .aload_n 0, 1), (45, .getfield 641, 3), (48, .iload_n 1, 1)] := bch_ok prog_14_method_111_code _ 0 (by decide +kernel)
theorem d_X12_watch_0 : decode prog_14_method_111_code 0 = .ok (.iload_n 1, 1) := gd_0 db00g_49
theorem d_X12_watch_1 : decode prog_14_method_111_code 1 = .ok (.invokestatic 327, 3) := gd_1 db00g_49
theorem d_X12_watch_4 : decode prog_14_method_111_code 4 = .ok (.ifCond .eq 34, 3) := gd_2 db00g_49
theorem d_X12_watch_7 : decode prog_14_method_111_code 7 = .ok (.iload_n 2, 1) := gd_3 db00g_49
theorem d_X12_watch_8 : decode prog_14_method_111_code 8 = .ok (.iconst 0, 1) := gd_4 db00g_49
theorem d_X12_watch_9 : decode prog_14_method_111_code 9 = .ok (.sipush 1440, 3) := gd_5 db00g_49
theorem d_X12_watch_12 : decode prog_14_method_111_code 12 = .ok (.invokestatic 323, 3) := gd_6 db00g_49
theorem d_X12_watch_15 : decode prog_14_method_111_code 15 = .ok (.ifCond .eq 23, 3) := gd_7 db00g_49
theorem d_X12_watch_18 : decode prog_14_method_111_code 18 = .ok (.iload_n 3, 1) := gd_8 db00g_49
theorem d_X12_watch_19 : decode prog_14_method_111_code 19 = .ok (.iload_n 2, 1) := gd_9 db00g_49
theorem d_X12_watch_20 : decode prog_14_method_111_code 20 = .ok (.sipush 1440, 3) := gd_10 db00g_49
theorem d_X12_watch_23 : decode prog_14_method_111_code 23 = .ok (.invokestatic 323, 3) := gd_11 db00g_49
theorem d_X12_watch_26 : decode prog_14_method_111_code 26 = .ok (.ifCond .eq 12, 3) := gd_12 db00g_49
theorem d_X12_watch_29 : decode prog_14_method_111_code 29 = .ok (.aload_n 0, 1) := gd_13 db00g_49
theorem d_X12_watch_30 : decode prog_14_method_111_code 30 = .ok (.getfield 641, 3) := gd_14 db00g_49
theorem d_X12_watch_33 : decode prog_14_method_111_code 33 = .ok (.bipush 8, 2) := gd_15 db00g_49
theorem d_X12_watch_35 : decode prog_14_method_111_code 35 = .ok (.if_icmp .ne 5, 3) := gd_16 db00g_49
theorem d_X12_watch_38 : decode prog_14_method_111_code 38 = .ok (.iconst (-1), 1) := gd_17 db00g_49
theorem d_X12_watch_39 : decode prog_14_method_111_code 39 = .ok (.ireturn, 1) := gd_18 db00g_49
theorem d_X12_watch_40 : decode prog_14_method_111_code 40 = .ok (.aload_n 0, 1) := gd_19 db00g_49
theorem d_X12_watch_41 : decode prog_14_method_111_code 41 = .ok (.getfield 260, 3) := gd_20 db00g_49
theorem d_X12_watch_44 : decode prog_14_method_111_code 44 = .ok (.aload_n 0, 1) := gd_21 db00g_49
theorem d_X12_watch_45 : decode prog_14_method_111_code 45 = .ok (.getfield 641, 3) := gd_22 db00g_49
theorem d_X12_watch_48 : decode prog_14_method_111_code 48 = .ok (.iload_n 1, 1) := gd_23 db00g_49
theorem db00g_50 : Ad_ prog_14_method_111_code [(49, .iastore, 1), (50, .aload_n 0, 1), (51, .getfield 263, 3), (54, .aload_n 0, 1), (55, .getfield 641, 3), (58, .iload_n 2, 1), (59, .iastore, 1), (60, .aload_n 0, 1), (61, .getfield 266, 3), (64, .aload_n 0, 1), (65, .getfield 641, 3), (68, .iload_n 3, 1), (69, .iastore, 1), (70, .aload_n 0, 1), (71, .dup, 1), (72, .getfield 641, 3), (75, .iconst 1, 1), (76, .iadd, 1), (77, .putfield 641, 3), (80, .aload_n 0, 1), (81, .getfield 641, 3), (84, .iconst 1, 1), (85, .isub, 1), (86, .ireturn, 1)] := bch_ok prog_14_method_111_code _ 49 (by decide +kernel)
theorem d_X12_watch_49 : decode prog_14_method_111_code 49 = .ok (.iastore, 1) := gd_0 db00g_50
theorem d_X12_watch_50 : decode prog_14_method_111_code 50 = .ok (.aload_n 0, 1) := gd_1 db00g_50
theorem d_X12_watch_51 : decode prog_14_method_111_code 51 = .ok (.getfield 263, 3) := gd_2 db00g_50
theorem d_X12_watch_54 : decode prog_14_method_111_code 54 = .ok (.aload_n 0, 1) := gd_3 db00g_50
theorem d_X12_watch_55 : decode prog_14_method_111_code 55 = .ok (.getfield 641, 3) := gd_4 db00g_50
theorem d_X12_watch_58 : decode prog_14_method_111_code 58 = .ok (.iload_n 2, 1) := gd_5 db00g_50
theorem d_X12_watch_59 : decode prog_14_method_111_code 59 = .ok (.iastore, 1) := gd_6 db00g_50
theorem d_X12_watch_60 : decode prog_14_method_111_code 60 = .ok (.aload_n 0, 1) := gd_7 db00g_50
theorem d_X12_watch_61 : decode prog_14_method_111_code 61 = .ok (.getfield 266, 3) := gd_8 db00g_50
theorem d_X12_watch_64 : decode prog_14_method_111_code 64 = .ok (.aload_n 0, 1) := gd_9 db00g_50
theorem d_X12_watch_65 : decode prog_14_method_111_code 65 = .ok (.getfield 641, 3) := gd_10 db00g_50
theorem d_X12_watch_68 : decode prog_14_method_111_code 68 = .ok (.iload_n 3, 1) := gd_11 db00g_50
theorem d_X12_watch_69 : decode prog_14_method_111_code 69 = .ok (.iastore, 1) := gd_12 db00g_50
theorem d_X12_watch_70 : decode prog_14_method_111_code 70 = .ok (.aload_n 0, 1) := gd_13 db00g_50
theorem d_X12_watch_71 : decode prog_14_method_111_code 71 = .ok (.dup, 1) := gd_14 db00g_50
theorem d_X12_watch_72 : decode prog_14_method_111_code 72 = .ok (.getfield 641, 3) := gd_15 db00g_50
theorem d_X12_watch_75 : decode prog_14_method_111_code 75 = .ok (.iconst 1, 1) := gd_16 db00g_50
theorem d_X12_watch_76 : decode prog_14_method_111_code 76 = .ok (.iadd, 1) := gd_17 db00g_50
theorem d_X12_watch_77 : decode prog_14_method_111_code 77 = .ok (.putfield 641, 3) := gd_18 db00g_50
theorem d_X12_watch_80 : decode prog_14_method_111_code 80 = .ok (.aload_n 0, 1) := gd_19 db00g_50
theorem d_X12_watch_81 : decode prog_14_method_111_code 81 = .ok (.getfield 641, 3) := gd_20 db00g_50
theorem d_X12_watch_84 : decode prog_14_method_111_code 84 = .ok (.iconst 1, 1) := gd_21 db00g_50
theorem d_X12_watch_85 : decode prog_14_method_111_code 85 = .ok (.isub, 1) := gd_22 db00g_50
theorem d_X12_watch_86 : decode prog_14_method_111_code 86 = .ok (.ireturn, 1) := gd_23 db00g_50
theorem db00g_51 : Ad_ prog_14_method_112_code [(0, .iconst 0, 1), (1, .istore_n 3, 1), (2, .iconst 0, 1), (3, .istore 4, 2), (5, .sipush 150, 3), (8, .iload_n 1, 1), (9, .imul, 1), (10, .istore 5, 2), (12, .iload 5, 2), (14, .sipush 150, 3), (17, .iload_n 1, 1), (18, .imul, 1), (19, .aload_n 0, 1), (20, .getfield 93, 3), (23, .iload_n 1, 1), (24, .iaload, 1), (25, .iadd, 1), (26, .if_icmp .ge 141, 3), (29, .iload_n 3, 1), (30, .sipush 1440, 3), (33, .if_icmp .gt 134, 3), (36, .aload_n 0, 1), (37, .getfield 96, 3), (40, .iload 5, 2)] := bch_ok prog_14_method_112_code _ 0 (by decide +kernel)
theorem d_X12_doesSee_0 : decode prog_14_method_112_code 0 = .ok (.iconst 0, 1) := gd_0 db00g_51
theorem d_X12_doesSee_1 : decode prog_14_method_112_code 1 = .ok (.istore_n 3, 1) := gd_1 db00g_51
theorem d_X12_doesSee_2 : decode prog_14_method_112_code 2 = .ok (.iconst 0, 1) := gd_2 db00g_51
theorem d_X12_doesSee_3 : decode prog_14_method_112_code 3 = .ok (.istore 4, 2) := gd_3 db00g_51
theorem d_X12_doesSee_5 : decode prog_14_method_112_code 5 = .ok (.sipush 150, 3) := gd_4 db00g_51
theorem d_X12_doesSee_8 : decode prog_14_method_112_code 8 = .ok (.iload_n 1, 1) := gd_5 db00g_51
theorem d_X12_doesSee_9 : decode prog_14_method_112_code 9 = .ok (.imul, 1) := gd_6 db00g_51
theorem d_X12_doesSee_10 : decode prog_14_method_112_code 10 = .ok (.istore 5, 2) := gd_7 db00g_51
theorem d_X12_doesSee_12 : decode prog_14_method_112_code 12 = .ok (.iload 5, 2) := gd_8 db00g_51
theorem d_X12_doesSee_14 : decode prog_14_method_112_code 14 = .ok (.sipush 150, 3) := gd_9 db00g_51
theorem d_X12_doesSee_17 : decode prog_14_method_112_code 17 = .ok (.iload_n 1, 1) := gd_10 db00g_51
theorem d_X12_doesSee_18 : decode prog_14_method_112_code 18 = .ok (.imul, 1) := gd_11 db00g_51
theorem d_X12_doesSee_19 : decode prog_14_method_112_code 19 = .ok (.aload_n 0, 1) := gd_12 db00g_51
theorem d_X12_doesSee_20 : decode prog_14_method_112_code 20 = .ok (.getfield 93, 3) := gd_13 db00g_51
theorem d_X12_doesSee_23 : decode prog_14_method_112_code 23 = .ok (.iload_n 1, 1) := gd_14 db00g_51
theorem d_X12_doesSee_24 : decode prog_14_method_112_code 24 = .ok (.iaload, 1) := gd_15 db00g_51
theorem d_X12_doesSee_25 : decode prog_14_method_112_code 25 = .ok (.iadd, 1) := gd_16 db00g_51
theorem d_X12_doesSee_26 : decode prog_14_method_112_code 26 = .ok (.if_icmp .ge 141, 3) := gd_17 db00g_51
theorem d_X12_doesSee_29 : decode prog_14_method_112_code 29 = .ok (.iload_n 3, 1) := gd_18 db00g_51
theorem d_X12_doesSee_30 : decode prog_14_method_112_code 30 = .ok (.sipush 1440, 3) := gd_19 db00g_51
theorem d_X12_doesSee_33 : decode prog_14_method_112_code 33 = .ok (.if_icmp .gt 134, 3) := gd_20 db00g_51
theorem d_X12_doesSee_36 : decode prog_14_method_112_code 36 = .ok (.aload_n 0, 1) := gd_21 db00g_51
theorem d_X12_doesSee_37 : decode prog_14_method_112_code 37 = .ok (.getfield 96, 3) := gd_22 db00g_51
theorem d_X12_doesSee_40 : decode prog_14_method_112_code 40 = .ok (.iload 5, 2) := gd_23 db00g_51
theorem db00g_52 : Ad_ prog_14_method_112_code [(42, .iaload, 1), (43, .istore 6, 2), (45, .iload 6, 2), (47, .iconst 1, 1), (48, .if_icmp .ne 16, 3), (51, .iload_n 3, 1), (52, .aload_n 0, 1), (53, .getfield 99, 3), (56, .iload 5, 2), (58, .iaload, 1), (59, .iadd, 1), (60, .istore_n 3, 1), (61, .goto 100, 3), (64, .iload 6, 2), (66, .iconst 3, 1), (67, .if_icmp .ne 38, 3), (70, .iinc 3 1, 3), (73, .iload 4, 2), (75, .aload_n 0, 1), (76, .getfield 260, 3), (79, .iload_n 2, 1), (80, .iaload, 1), (81, .if_icmp .ne 80, 3), (84, .iload_n 3, 1)] := bch_ok prog_14_method_112_code _ 42 (by decide +kernel)
theorem d_X12_doesSee_42 : decode prog_14_method_112_code 42 = .ok (.iaload, 1) := gd_0 db00g_52
theorem d_X12_doesSee_43 : decode prog_14_method_112_code 43 = .ok (.istore 6, 2) := gd_1 db00g_52
theorem d_X12_doesSee_45 : decode prog_14_method_112_code 45 = .ok (.iload 6, 2) := gd_2 db00g_52
theorem d_X12_doesSee_47 : decode prog_14_method_112_code 47 = .ok (.iconst 1, 1) := gd_3 db00g_52
theorem d_X12_doesSee_48 : decode prog_14_method_112_code 48 = .ok (.if_icmp .ne 16, 3) := gd_4 db00g_52
theorem d_X12_doesSee_51 : decode prog_14_method_112_code 51 = .ok (.iload_n 3, 1) := gd_5 db00g_52
theorem d_X12_doesSee_52 : decode prog_14_method_112_code 52 = .ok (.aload_n 0, 1) := gd_6 db00g_52
theorem d_X12_doesSee_53 : decode prog_14_method_112_code 53 = .ok (.getfield 99, 3) := gd_7 db00g_52
theorem d_X12_doesSee_56 : decode prog_14_method_112_code 56 = .ok (.iload 5, 2) := gd_8 db00g_52
theorem d_X12_doesSee_58 : decode prog_14_method_112_code 58 = .ok (.iaload, 1) := gd_9 db00g_52
theorem d_X12_doesSee_59 : decode prog_14_method_112_code 59 = .ok (.iadd, 1) := gd_10 db00g_52
theorem d_X12_doesSee_60 : decode prog_14_method_112_code 60 = .ok (.istore_n 3, 1) := gd_11 db00g_52
theorem d_X12_doesSee_61 : decode prog_14_method_112_code 61 = .ok (.goto 100, 3) := gd_12 db00g_52
theorem d_X12_doesSee_64 : decode prog_14_method_112_code 64 = .ok (.iload 6, 2) := gd_13 db00g_52
theorem d_X12_doesSee_66 : decode prog_14_method_112_code 66 = .ok (.iconst 3, 1) := gd_14 db00g_52
theorem d_X12_doesSee_67 : decode prog_14_method_112_code 67 = .ok (.if_icmp .ne 38, 3) := gd_15 db00g_52
theorem d_X12_doesSee_70 : decode prog_14_method_112_code 70 = .ok (.iinc 3 1, 3) := gd_16 db00g_52
theorem d_X12_doesSee_73 : decode prog_14_method_112_code 73 = .ok (.iload 4, 2) := gd_17 db00g_52
theorem d_X12_doesSee_75 : decode prog_14_method_112_code 75 = .ok (.aload_n 0, 1) := gd_18 db00g_52
theorem d_X12_doesSee_76 : decode prog_14_method_112_code 76 = .ok (.getfield 260, 3) := gd_19 db00g_52
theorem d_X12_doesSee_79 : decode prog_14_method_112_code 79 = .ok (.iload_n 2, 1) := gd_20 db00g_52
theorem d_X12_doesSee_80 : decode prog_14_method_112_code 80 = .ok (.iaload, 1) := gd_21 db00g_52
theorem d_X12_doesSee_81 : decode prog_14_method_112_code 81 = .ok (.if_icmp .ne 80, 3) := gd_22 db00g_52
theorem d_X12_doesSee_84 : decode prog_14_method_112_code 84 = .ok (.iload_n 3, 1) := gd_23 db00g_52
theorem db00g_53 : Ad_ prog_14_method_112_code [(85, .aload_n 0, 1), (86, .getfield 263, 3), (89, .iload_n 2, 1), (90, .iaload, 1), (91, .aload_n 0, 1), (92, .getfield 266, 3), (95, .iload_n 2, 1), (96, .iaload, 1), (97, .invokestatic 323, 3), (100, .ifCond .eq 61, 3), (103, .iconst 1, 1), (104, .ireturn, 1), (105, .aload_n 0, 1), (106, .iload 4, 2), (108, .aload_n 0, 1), (109, .getfield 99, 3), (112, .iload 5, 2), (114, .iaload, 1), (115, .invokevirtual 335, 3), (118, .istore 7, 2), (120, .iload 7, 2), (122, .iconst (-1), 1), (123, .if_icmp .ne 6, 3), (126, .goto 35, 3)] := bch_ok prog_14_method_112_code _ 85 (by decide +kernel)
theorem d_X12_doesSee_85 : decode prog_14_method_112_code 85 = .ok (.aload_n 0, 1) := gd_0 db00g_53
theorem d_X12_doesSee_86 : decode prog_14_method_112_code 86 = .ok (.getfield 263, 3) := gd_1 db00g_53
theorem d_X12_doesSee_89 : decode prog_14_method_112_code 89 = .ok (.iload_n 2, 1) := gd_2 db00g_53
theorem d_X12_doesSee_90 : decode prog_14_method_112_code 90 = .ok (.iaload, 1) := gd_3 db00g_53
theorem d_X12_doesSee_91 : decode prog_14_method_112_code 91 = .ok (.aload_n 0, 1) := gd_4 db00g_53
theorem d_X12_doesSee_92 : decode prog_14_method_112_code 92 = .ok (.getfield 266, 3) := gd_5 db00g_53
theorem d_X12_doesSee_95 : decode prog_14_method_112_code 95 = .ok (.iload_n 2, 1) := gd_6 db00g_53
theorem d_X12_doesSee_96 : decode prog_14_method_112_code 96 = .ok (.iaload, 1) := gd_7 db00g_53
theorem d_X12_doesSee_97 : decode prog_14_method_112_code 97 = .ok (.invokestatic 323, 3) := gd_8 db00g_53
theorem d_X12_doesSee_100 : decode prog_14_method_112_code 100 = .ok (.ifCond .eq 61, 3) := gd_9 db00g_53
theorem d_X12_doesSee_103 : decode prog_14_method_112_code 103 = .ok (.iconst 1, 1) := gd_10 db00g_53
theorem d_X12_doesSee_104 : decode prog_14_method_112_code 104 = .ok (.ireturn, 1) := gd_11 db00g_53
theorem d_X12_doesSee_105 : decode prog_14_method_112_code 105 = .ok (.aload_n 0, 1) := gd_12 db00g_53
theorem d_X12_doesSee_106 : decode prog_14_method_112_code 106 = .ok (.iload 4, 2) := gd_13 db00g_53
theorem d_X12_doesSee_108 : decode prog_14_method_112_code 108 = .ok (.aload_n 0, 1) := gd_14 db00g_53
theorem d_X12_doesSee_109 : decode prog_14_method_112_code 109 = .ok (.getfield 99, 3) := gd_15 db00g_53
theorem d_X12_doesSee_112 : decode prog_14_method_112_code 112 = .ok (.iload 5, 2) := gd_16 db00g_53
theorem d_X12_doesSee_114 : decode prog_14_method_112_code 114 = .ok (.iaload, 1) := gd_17 db00g_53
theorem d_X12_doesSee_115 : decode prog_14_method_112_code 115 = .ok (.invokevirtual 335, 3) := gd_18 db00g_53
theorem d_X12_doesSee_118 : decode prog_14_method_112_code 118 = .ok (.istore 7, 2) := gd_19 db00g_53
theorem d_X12_doesSee_120 : decode prog_14_method_112_code 120 = .ok (.iload 7, 2) := gd_20 db00g_53
theorem d_X12_doesSee_122 : decode prog_14_method_112_code 122 = .ok (.iconst (-1), 1) := gd_21 db00g_53
theorem d_X12_doesSee_123 : decode prog_14_method_112_code 123 = .ok (.if_icmp .ne 6, 3) := gd_22 db00g_53
theorem d_X12_doesSee_126 : decode prog_14_method_112_code 126 = .ok (.goto 35, 3) := gd_23 db00g_53
theorem db00g_54 : Ad_ prog_14_method_112_code [(129, .iload_n 3, 1), (130, .iload 7, 2), (132, .iadd, 1), (133, .istore_n 3, 1), (134, .aload_n 0, 1), (135, .getfield 99, 3), (138, .iload 5, 2), (140, .iaload, 1), (141, .istore 4, 2), (143, .iload 6, 2), (145, .iconst 2, 1), (146, .if_icmp .ne 15, 3), (149, .iload_n 3, 1), (150, .aload_n 0, 1), (151, .getfield 102, 3), (154, .iload 5, 2), (156, .iaload, 1), (157, .invokestatic 560, 3), (160, .istore_n 3, 1), (161, .iinc 5 1, 3), (164, .goto (-152), 3), (167, .iconst 0, 1), (168, .ireturn, 1)] := bch_ok prog_14_method_112_code _ 129 (by decide +kernel)
theorem d_X12_doesSee_129 : decode prog_14_method_112_code 129 = .ok (.iload_n 3, 1) := gd_0 db00g_54
theorem d_X12_doesSee_130 : decode prog_14_method_112_code 130 = .ok (.iload 7, 2) := gd_1 db00g_54
theorem d_X12_doesSee_132 : decode prog_14_method_112_code 132 = .ok (.iadd, 1) := gd_2 db00g_54
theorem d_X12_doesSee_133 : decode prog_14_method_112_code 133 = .ok (.istore_n 3, 1) := gd_3 db00g_54
theorem d_X12_doesSee_134 : decode prog_14_method_112_code 134 = .ok (.aload_n 0, 1) := gd_4 db00g_54
theorem d_X12_doesSee_135 : decode prog_14_method_112_code 135 = .ok (.getfield 99, 3) := gd_5 db00g_54
theorem d_X12_doesSee_138 : decode prog_14_method_112_code 138 = .ok (.iload 5, 2) := gd_6 db00g_54
theorem d_X12_doesSee_140 : decode prog_14_method_112_code 140 = .ok (.iaload, 1) := gd_7 db00g_54
theorem d_X12_doesSee_141 : decode prog_14_method_112_code 141 = .ok (.istore 4, 2) := gd_8 db00g_54
theorem d_X12_doesSee_143 : decode prog_14_method_112_code 143 = .ok (.iload 6, 2) := gd_9 db00g_54
theorem d_X12_doesSee_145 : decode prog_14_method_112_code 145 = .ok (.iconst 2, 1) := gd_10 db00g_54
theorem d_X12_doesSee_146 : decode prog_14_method_112_code 146 = .ok (.if_icmp .ne 15, 3) := gd_11 db00g_54
theorem d_X12_doesSee_149 : decode prog_14_method_112_code 149 = .ok (.iload_n 3, 1) := gd_12 db00g_54
theorem d_X12_doesSee_150 : decode prog_14_method_112_code 150 = .ok (.aload_n 0, 1) := gd_13 db00g_54
theorem d_X12_doesSee_151 : decode prog_14_method_112_code 151 = .ok (.getfield 102, 3) := gd_14 db00g_54
theorem d_X12_doesSee_154 : decode prog_14_method_112_code 154 = .ok (.iload 5, 2) := gd_15 db00g_54
theorem d_X12_doesSee_156 : decode prog_14_method_112_code 156 = .ok (.iaload, 1) := gd_16 db00g_54
theorem d_X12_doesSee_157 : decode prog_14_method_112_code 157 = .ok (.invokestatic 560, 3) := gd_17 db00g_54
theorem d_X12_doesSee_160 : decode prog_14_method_112_code 160 = .ok (.istore_n 3, 1) := gd_18 db00g_54
theorem d_X12_doesSee_161 : decode prog_14_method_112_code 161 = .ok (.iinc 5 1, 3) := gd_19 db00g_54
theorem d_X12_doesSee_164 : decode prog_14_method_112_code 164 = .ok (.goto (-152), 3) := gd_20 db00g_54
theorem d_X12_doesSee_167 : decode prog_14_method_112_code 167 = .ok (.iconst 0, 1) := gd_21 db00g_54
theorem d_X12_doesSee_168 : decode prog_14_method_112_code 168 = .ok (.ireturn, 1) := gd_22 db00g_54
theorem db00g_55 : Ad_ prog_14_method_113_code [(0, .iload_n 1, 1), (1, .iconst 0, 1), (2, .aload_n 0, 1), (3, .getfield 413, 3), (6, .iconst 1, 1), (7, .isub, 1), (8, .invokestatic 323, 3), (11, .ifCond .eq 34, 3), (14, .iload_n 2, 1), (15, .iconst 0, 1), (16, .aload_n 0, 1), (17, .getfield 641, 3), (20, .iconst 1, 1), (21, .isub, 1), (22, .invokestatic 323, 3), (25, .ifCond .eq 20, 3), (28, .aload_n 0, 1), (29, .iload_n 1, 1), (30, .iload_n 2, 1), (31, .invokevirtual 644, 3), (34, .ifCond .eq 7, 3), (37, .iconst 1, 1), (38, .goto 8, 3), (41, .iconst 0, 1)] := bch_ok prog_14_method_113_code _ 0 (by decide +kernel)
theorem d_X12_sees_0 : decode prog_14_method_113_code 0 = .ok (.iload_n 1, 1) := gd_0 db00g_55
theorem d_X12_sees_1 : decode prog_14_method_113_code 1 = .ok (.iconst 0, 1) := gd_1 db00g_55
theorem d_X12_sees_2 : decode prog_14_method_113_code 2 = .ok (.aload_n 0, 1) := gd_2 db00g_55
theorem d_X12_sees_3 : decode prog_14_method_113_code 3 = .ok (.getfield 413, 3) := gd_3 db00g_55
theorem d_X12_sees_6 : decode prog_14_method_113_code 6 = .ok (.iconst 1, 1) := gd_4 db00g_55
theorem d_X12_sees_7 : decode prog_14_method_113_code 7 = .ok (.isub, 1) := gd_5 db00g_55
theorem d_X12_sees_8 : decode prog_14_method_113_code 8 = .ok (.invokestatic 323, 3) := gd_6 db00g_55
theorem d_X12_sees_11 : decode prog_14_method_113_code 11 = .ok (.ifCond .eq 34, 3) := gd_7 db00g_55
theorem d_X12_sees_14 : decode prog_14_method_113_code 14 = .ok (.iload_n 2, 1) := gd_8 db00g_55
theorem d_X12_sees_15 : decode prog_14_method_113_code 15 = .ok (.iconst 0, 1) := gd_9 db00g_55
theorem d_X12_sees_16 : decode prog_14_method_113_code 16 = .ok (.aload_n 0, 1) := gd_10 db00g_55
theorem d_X12_sees_17 : decode prog_14_method_113_code 17 = .ok (.getfield 641, 3) := gd_11 db00g_55
theorem d_X12_sees_20 : decode prog_14_method_113_code 20 = .ok (.iconst 1, 1) := gd_12 db00g_55
theorem d_X12_sees_21 : decode prog_14_method_113_code 21 = .ok (.isub, 1) := gd_13 db00g_55
theorem d_X12_sees_22 : decode prog_14_method_113_code 22 = .ok (.invokestatic 323, 3) := gd_14 db00g_55
theorem d_X12_sees_25 : decode prog_14_method_113_code 25 = .ok (.ifCond .eq 20, 3) := gd_15 db00g_55
theorem d_X12_sees_28 : decode prog_14_method_113_code 28 = .ok (.aload_n 0, 1) := gd_16 db00g_55
theorem d_X12_sees_29 : decode prog_14_method_113_code 29 = .ok (.iload_n 1, 1) := gd_17 db00g_55
theorem d_X12_sees_30 : decode prog_14_method_113_code 30 = .ok (.iload_n 2, 1) := gd_18 db00g_55
theorem d_X12_sees_31 : decode prog_14_method_113_code 31 = .ok (.invokevirtual 644, 3) := gd_19 db00g_55
theorem d_X12_sees_34 : decode prog_14_method_113_code 34 = .ok (.ifCond .eq 7, 3) := gd_20 db00g_55
theorem d_X12_sees_37 : decode prog_14_method_113_code 37 = .ok (.iconst 1, 1) := gd_21 db00g_55
theorem d_X12_sees_38 : decode prog_14_method_113_code 38 = .ok (.goto 8, 3) := gd_22 db00g_55
theorem d_X12_sees_41 : decode prog_14_method_113_code 41 = .ok (.iconst 0, 1) := gd_23 db00g_55
theorem db00g_56 : Ad_ prog_14_method_113_code [(42, .goto 4, 3), (45, .iconst (-1), 1), (46, .ireturn, 1)] := bch_ok prog_14_method_113_code _ 42 (by decide +kernel)
theorem d_X12_sees_42 : decode prog_14_method_113_code 42 = .ok (.goto 4, 3) := gd_0 db00g_56
theorem d_X12_sees_45 : decode prog_14_method_113_code 45 = .ok (.iconst (-1), 1) := gd_1 db00g_56
theorem d_X12_sees_46 : decode prog_14_method_113_code 46 = .ok (.ireturn, 1) := gd_2 db00g_56
theorem db00g_57 : Ad_ prog_14_method_114_code [(0, .bipush 12, 2), (2, .istore_n 1, 1), (3, .iconst 0, 1), (4, .istore_n 2, 1), (5, .iconst 0, 1), (6, .istore_n 3, 1), (7, .iload_n 3, 1), (8, .aload_n 0, 1), (9, .getfield 641, 3), (12, .if_icmp .ge 73, 3), (15, .iconst 0, 1), (16, .istore 4, 2), (18, .iconst 0, 1), (19, .istore 5, 2), (21, .iload 5, 2), (23, .aload_n 0, 1), (24, .getfield 647, 3), (27, .if_icmp .ge 40, 3), (30, .iload 4, 2), (32, .aload_n 0, 1), (33, .getfield 278, 3), (36, .iload 5, 2), (38, .iaload, 1), (39, .iload_n 3, 1)] := bch_ok prog_14_method_114_code _ 0 (by decide +kernel)
theorem d_X12_weigh_0 : decode prog_14_method_114_code 0 = .ok (.bipush 12, 2) := gd_0 db00g_57
theorem d_X12_weigh_2 : decode prog_14_method_114_code 2 = .ok (.istore_n 1, 1) := gd_1 db00g_57
theorem d_X12_weigh_3 : decode prog_14_method_114_code 3 = .ok (.iconst 0, 1) := gd_2 db00g_57
theorem d_X12_weigh_4 : decode prog_14_method_114_code 4 = .ok (.istore_n 2, 1) := gd_3 db00g_57
theorem d_X12_weigh_5 : decode prog_14_method_114_code 5 = .ok (.iconst 0, 1) := gd_4 db00g_57
theorem d_X12_weigh_6 : decode prog_14_method_114_code 6 = .ok (.istore_n 3, 1) := gd_5 db00g_57
theorem d_X12_weigh_7 : decode prog_14_method_114_code 7 = .ok (.iload_n 3, 1) := gd_6 db00g_57
theorem d_X12_weigh_8 : decode prog_14_method_114_code 8 = .ok (.aload_n 0, 1) := gd_7 db00g_57
theorem d_X12_weigh_9 : decode prog_14_method_114_code 9 = .ok (.getfield 641, 3) := gd_8 db00g_57
theorem d_X12_weigh_12 : decode prog_14_method_114_code 12 = .ok (.if_icmp .ge 73, 3) := gd_9 db00g_57
theorem d_X12_weigh_15 : decode prog_14_method_114_code 15 = .ok (.iconst 0, 1) := gd_10 db00g_57
theorem d_X12_weigh_16 : decode prog_14_method_114_code 16 = .ok (.istore 4, 2) := gd_11 db00g_57
theorem d_X12_weigh_18 : decode prog_14_method_114_code 18 = .ok (.iconst 0, 1) := gd_12 db00g_57
theorem d_X12_weigh_19 : decode prog_14_method_114_code 19 = .ok (.istore 5, 2) := gd_13 db00g_57
theorem d_X12_weigh_21 : decode prog_14_method_114_code 21 = .ok (.iload 5, 2) := gd_14 db00g_57
theorem d_X12_weigh_23 : decode prog_14_method_114_code 23 = .ok (.aload_n 0, 1) := gd_15 db00g_57
theorem d_X12_weigh_24 : decode prog_14_method_114_code 24 = .ok (.getfield 647, 3) := gd_16 db00g_57
theorem d_X12_weigh_27 : decode prog_14_method_114_code 27 = .ok (.if_icmp .ge 40, 3) := gd_17 db00g_57
theorem d_X12_weigh_30 : decode prog_14_method_114_code 30 = .ok (.iload 4, 2) := gd_18 db00g_57
theorem d_X12_weigh_32 : decode prog_14_method_114_code 32 = .ok (.aload_n 0, 1) := gd_19 db00g_57
theorem d_X12_weigh_33 : decode prog_14_method_114_code 33 = .ok (.getfield 278, 3) := gd_20 db00g_57
theorem d_X12_weigh_36 : decode prog_14_method_114_code 36 = .ok (.iload 5, 2) := gd_21 db00g_57
theorem d_X12_weigh_38 : decode prog_14_method_114_code 38 = .ok (.iaload, 1) := gd_22 db00g_57
theorem d_X12_weigh_39 : decode prog_14_method_114_code 39 = .ok (.iload_n 3, 1) := gd_23 db00g_57
theorem db00g_58 : Ad_ prog_14_method_114_code [(40, .ishr, 1), (41, .iconst 1, 1), (42, .iand, 1), (43, .iconst 1, 1), (44, .if_icmp .ne 13, 3), (47, .aload_n 0, 1), (48, .getfield 272, 3), (51, .iload 5, 2), (53, .iaload, 1), (54, .goto 4, 3), (57, .iconst 0, 1), (58, .iadd, 1), (59, .istore 4, 2), (61, .iinc 5 1, 3), (64, .goto (-43), 3), (67, .iload_n 1, 1), (68, .iload 4, 2), (70, .invokestatic 617, 3), (73, .istore_n 1, 1), (74, .iload_n 2, 1), (75, .iload 4, 2), (77, .iadd, 1), (78, .istore_n 2, 1), (79, .iinc 3 1, 3)] := bch_ok prog_14_method_114_code _ 40 (by decide +kernel)
theorem d_X12_weigh_40 : decode prog_14_method_114_code 40 = .ok (.ishr, 1) := gd_0 db00g_58
theorem d_X12_weigh_41 : decode prog_14_method_114_code 41 = .ok (.iconst 1, 1) := gd_1 db00g_58
theorem d_X12_weigh_42 : decode prog_14_method_114_code 42 = .ok (.iand, 1) := gd_2 db00g_58
theorem d_X12_weigh_43 : decode prog_14_method_114_code 43 = .ok (.iconst 1, 1) := gd_3 db00g_58
theorem d_X12_weigh_44 : decode prog_14_method_114_code 44 = .ok (.if_icmp .ne 13, 3) := gd_4 db00g_58
theorem d_X12_weigh_47 : decode prog_14_method_114_code 47 = .ok (.aload_n 0, 1) := gd_5 db00g_58
theorem d_X12_weigh_48 : decode prog_14_method_114_code 48 = .ok (.getfield 272, 3) := gd_6 db00g_58
theorem d_X12_weigh_51 : decode prog_14_method_114_code 51 = .ok (.iload 5, 2) := gd_7 db00g_58
theorem d_X12_weigh_53 : decode prog_14_method_114_code 53 = .ok (.iaload, 1) := gd_8 db00g_58
theorem d_X12_weigh_54 : decode prog_14_method_114_code 54 = .ok (.goto 4, 3) := gd_9 db00g_58
theorem d_X12_weigh_57 : decode prog_14_method_114_code 57 = .ok (.iconst 0, 1) := gd_10 db00g_58
theorem d_X12_weigh_58 : decode prog_14_method_114_code 58 = .ok (.iadd, 1) := gd_11 db00g_58
theorem d_X12_weigh_59 : decode prog_14_method_114_code 59 = .ok (.istore 4, 2) := gd_12 db00g_58
theorem d_X12_weigh_61 : decode prog_14_method_114_code 61 = .ok (.iinc 5 1, 3) := gd_13 db00g_58
theorem d_X12_weigh_64 : decode prog_14_method_114_code 64 = .ok (.goto (-43), 3) := gd_14 db00g_58
theorem d_X12_weigh_67 : decode prog_14_method_114_code 67 = .ok (.iload_n 1, 1) := gd_15 db00g_58
theorem d_X12_weigh_68 : decode prog_14_method_114_code 68 = .ok (.iload 4, 2) := gd_16 db00g_58
theorem d_X12_weigh_70 : decode prog_14_method_114_code 70 = .ok (.invokestatic 617, 3) := gd_17 db00g_58
theorem d_X12_weigh_73 : decode prog_14_method_114_code 73 = .ok (.istore_n 1, 1) := gd_18 db00g_58
theorem d_X12_weigh_74 : decode prog_14_method_114_code 74 = .ok (.iload_n 2, 1) := gd_19 db00g_58
theorem d_X12_weigh_75 : decode prog_14_method_114_code 75 = .ok (.iload 4, 2) := gd_20 db00g_58
theorem d_X12_weigh_77 : decode prog_14_method_114_code 77 = .ok (.iadd, 1) := gd_21 db00g_58
theorem d_X12_weigh_78 : decode prog_14_method_114_code 78 = .ok (.istore_n 2, 1) := gd_22 db00g_58
theorem d_X12_weigh_79 : decode prog_14_method_114_code 79 = .ok (.iinc 3 1, 3) := gd_23 db00g_58
theorem db00g_59 : Ad_ prog_14_method_114_code [(82, .goto (-75), 3), (85, .iload_n 1, 1), (86, .aload_n 0, 1), (87, .getfield 650, 3), (90, .if_icmp .gt 19, 3), (93, .iload_n 1, 1), (94, .aload_n 0, 1), (95, .getfield 650, 3), (98, .if_icmp .ne 49, 3), (101, .iload_n 2, 1), (102, .aload_n 0, 1), (103, .getfield 653, 3), (106, .if_icmp .le 41, 3), (109, .aload_n 0, 1), (110, .iload_n 1, 1), (111, .putfield 650, 3), (114, .aload_n 0, 1), (115, .iload_n 2, 1), (116, .putfield 653, 3), (119, .iconst 0, 1), (120, .istore_n 3, 1), (121, .iload_n 3, 1), (122, .aload_n 0, 1), (123, .getfield 647, 3)] := bch_ok prog_14_method_114_code _ 82 (by decide +kernel)
theorem d_X12_weigh_82 : decode prog_14_method_114_code 82 = .ok (.goto (-75), 3) := gd_0 db00g_59
theorem d_X12_weigh_85 : decode prog_14_method_114_code 85 = .ok (.iload_n 1, 1) := gd_1 db00g_59
theorem d_X12_weigh_86 : decode prog_14_method_114_code 86 = .ok (.aload_n 0, 1) := gd_2 db00g_59
theorem d_X12_weigh_87 : decode prog_14_method_114_code 87 = .ok (.getfield 650, 3) := gd_3 db00g_59
theorem d_X12_weigh_90 : decode prog_14_method_114_code 90 = .ok (.if_icmp .gt 19, 3) := gd_4 db00g_59
theorem d_X12_weigh_93 : decode prog_14_method_114_code 93 = .ok (.iload_n 1, 1) := gd_5 db00g_59
theorem d_X12_weigh_94 : decode prog_14_method_114_code 94 = .ok (.aload_n 0, 1) := gd_6 db00g_59
theorem d_X12_weigh_95 : decode prog_14_method_114_code 95 = .ok (.getfield 650, 3) := gd_7 db00g_59
theorem d_X12_weigh_98 : decode prog_14_method_114_code 98 = .ok (.if_icmp .ne 49, 3) := gd_8 db00g_59
theorem d_X12_weigh_101 : decode prog_14_method_114_code 101 = .ok (.iload_n 2, 1) := gd_9 db00g_59
theorem d_X12_weigh_102 : decode prog_14_method_114_code 102 = .ok (.aload_n 0, 1) := gd_10 db00g_59
theorem d_X12_weigh_103 : decode prog_14_method_114_code 103 = .ok (.getfield 653, 3) := gd_11 db00g_59
theorem d_X12_weigh_106 : decode prog_14_method_114_code 106 = .ok (.if_icmp .le 41, 3) := gd_12 db00g_59
theorem d_X12_weigh_109 : decode prog_14_method_114_code 109 = .ok (.aload_n 0, 1) := gd_13 db00g_59
theorem d_X12_weigh_110 : decode prog_14_method_114_code 110 = .ok (.iload_n 1, 1) := gd_14 db00g_59
theorem d_X12_weigh_111 : decode prog_14_method_114_code 111 = .ok (.putfield 650, 3) := gd_15 db00g_59
theorem d_X12_weigh_114 : decode prog_14_method_114_code 114 = .ok (.aload_n 0, 1) := gd_16 db00g_59
theorem d_X12_weigh_115 : decode prog_14_method_114_code 115 = .ok (.iload_n 2, 1) := gd_17 db00g_59
theorem d_X12_weigh_116 : decode prog_14_method_114_code 116 = .ok (.putfield 653, 3) := gd_18 db00g_59
theorem d_X12_weigh_119 : decode prog_14_method_114_code 119 = .ok (.iconst 0, 1) := gd_19 db00g_59
theorem d_X12_weigh_120 : decode prog_14_method_114_code 120 = .ok (.istore_n 3, 1) := gd_20 db00g_59
theorem d_X12_weigh_121 : decode prog_14_method_114_code 121 = .ok (.iload_n 3, 1) := gd_21 db00g_59
theorem d_X12_weigh_122 : decode prog_14_method_114_code 122 = .ok (.aload_n 0, 1) := gd_22 db00g_59
theorem d_X12_weigh_123 : decode prog_14_method_114_code 123 = .ok (.getfield 647, 3) := gd_23 db00g_59
theorem db00g_60 : Ad_ prog_14_method_114_code [(126, .if_icmp .ge 21, 3), (129, .aload_n 0, 1), (130, .getfield 275, 3), (133, .iload_n 3, 1), (134, .aload_n 0, 1), (135, .getfield 272, 3), (138, .iload_n 3, 1), (139, .iaload, 1), (140, .iastore, 1), (141, .iinc 3 1, 3), (144, .goto (-23), 3), (147, .return_, 1)] := bch_ok prog_14_method_114_code _ 126 (by decide +kernel)
theorem d_X12_weigh_126 : decode prog_14_method_114_code 126 = .ok (.if_icmp .ge 21, 3) := gd_0 db00g_60
theorem d_X12_weigh_129 : decode prog_14_method_114_code 129 = .ok (.aload_n 0, 1) := gd_1 db00g_60
theorem d_X12_weigh_130 : decode prog_14_method_114_code 130 = .ok (.getfield 275, 3) := gd_2 db00g_60
theorem d_X12_weigh_133 : decode prog_14_method_114_code 133 = .ok (.iload_n 3, 1) := gd_3 db00g_60
theorem d_X12_weigh_134 : decode prog_14_method_114_code 134 = .ok (.aload_n 0, 1) := gd_4 db00g_60
theorem d_X12_weigh_135 : decode prog_14_method_114_code 135 = .ok (.getfield 272, 3) := gd_5 db00g_60
theorem d_X12_weigh_138 : decode prog_14_method_114_code 138 = .ok (.iload_n 3, 1) := gd_6 db00g_60
theorem d_X12_weigh_139 : decode prog_14_method_114_code 139 = .ok (.iaload, 1) := gd_7 db00g_60
theorem d_X12_weigh_140 : decode prog_14_method_114_code 140 = .ok (.iastore, 1) := gd_8 db00g_60
theorem d_X12_weigh_141 : decode prog_14_method_114_code 141 = .ok (.iinc 3 1, 3) := gd_9 db00g_60
theorem d_X12_weigh_144 : decode prog_14_method_114_code 144 = .ok (.goto (-23), 3) := gd_10 db00g_60
theorem d_X12_weigh_147 : decode prog_14_method_114_code 147 = .ok (.return_, 1) := gd_11 db00g_60
theorem db00g_61 : Ad_ prog_14_method_115_code [(0, .iload_n 1, 1), (1, .aload_n 0, 1), (2, .getfield 647, 3), (5, .iconst 1, 1), (6, .isub, 1), (7, .if_icmp .ne 15, 3), (10, .aload_n 0, 1), (11, .getfield 272, 3), (14, .iload_n 1, 1), (15, .iload_n 2, 1), (16, .iastore, 1), (17, .aload_n 0, 1), (18, .invokevirtual 656, 3), (21, .return_, 1), (22, .iload_n 2, 1), (23, .istore_n 3, 1), (24, .iload_n 3, 1), (25, .ifCond .lt 26, 3), (28, .aload_n 0, 1), (29, .getfield 272, 3), (32, .iload_n 1, 1), (33, .iload_n 3, 1), (34, .iastore, 1), (35, .aload_n 0, 1)] := bch_ok prog_14_method_115_code _ 0 (by decide +kernel)
theorem d_X12_share1_0 : decode prog_14_method_115_code 0 = .ok (.iload_n 1, 1) := gd_0 db00g_61
theorem d_X12_share1_1 : decode prog_14_method_115_code 1 = .ok (.aload_n 0, 1) := gd_1 db00g_61
theorem d_X12_share1_2 : decode prog_14_method_115_code 2 = .ok (.getfield 647, 3) := gd_2 db00g_61
theorem d_X12_share1_5 : decode prog_14_method_115_code 5 = .ok (.iconst 1, 1) := gd_3 db00g_61
theorem d_X12_share1_6 : decode prog_14_method_115_code 6 = .ok (.isub, 1) := gd_4 db00g_61
theorem d_X12_share1_7 : decode prog_14_method_115_code 7 = .ok (.if_icmp .ne 15, 3) := gd_5 db00g_61
theorem d_X12_share1_10 : decode prog_14_method_115_code 10 = .ok (.aload_n 0, 1) := gd_6 db00g_61
theorem d_X12_share1_11 : decode prog_14_method_115_code 11 = .ok (.getfield 272, 3) := gd_7 db00g_61
theorem d_X12_share1_14 : decode prog_14_method_115_code 14 = .ok (.iload_n 1, 1) := gd_8 db00g_61
theorem d_X12_share1_15 : decode prog_14_method_115_code 15 = .ok (.iload_n 2, 1) := gd_9 db00g_61
theorem d_X12_share1_16 : decode prog_14_method_115_code 16 = .ok (.iastore, 1) := gd_10 db00g_61
theorem d_X12_share1_17 : decode prog_14_method_115_code 17 = .ok (.aload_n 0, 1) := gd_11 db00g_61
theorem d_X12_share1_18 : decode prog_14_method_115_code 18 = .ok (.invokevirtual 656, 3) := gd_12 db00g_61
theorem d_X12_share1_21 : decode prog_14_method_115_code 21 = .ok (.return_, 1) := gd_13 db00g_61
theorem d_X12_share1_22 : decode prog_14_method_115_code 22 = .ok (.iload_n 2, 1) := gd_14 db00g_61
theorem d_X12_share1_23 : decode prog_14_method_115_code 23 = .ok (.istore_n 3, 1) := gd_15 db00g_61
theorem d_X12_share1_24 : decode prog_14_method_115_code 24 = .ok (.iload_n 3, 1) := gd_16 db00g_61
theorem d_X12_share1_25 : decode prog_14_method_115_code 25 = .ok (.ifCond .lt 26, 3) := gd_17 db00g_61
theorem d_X12_share1_28 : decode prog_14_method_115_code 28 = .ok (.aload_n 0, 1) := gd_18 db00g_61
theorem d_X12_share1_29 : decode prog_14_method_115_code 29 = .ok (.getfield 272, 3) := gd_19 db00g_61
theorem d_X12_share1_32 : decode prog_14_method_115_code 32 = .ok (.iload_n 1, 1) := gd_20 db00g_61
theorem d_X12_share1_33 : decode prog_14_method_115_code 33 = .ok (.iload_n 3, 1) := gd_21 db00g_61
theorem d_X12_share1_34 : decode prog_14_method_115_code 34 = .ok (.iastore, 1) := gd_22 db00g_61
theorem d_X12_share1_35 : decode prog_14_method_115_code 35 = .ok (.aload_n 0, 1) := gd_23 db00g_61
theorem db00g_62 : Ad_ prog_14_method_115_code [(36, .iload_n 1, 1), (37, .iconst 1, 1), (38, .iadd, 1), (39, .iload_n 2, 1), (40, .iload_n 3, 1), (41, .isub, 1), (42, .invokevirtual 659, 3), (45, .iinc 3 (-1), 3), (48, .goto (-24), 3), (51, .return_, 1)] := bch_ok prog_14_method_115_code _ 36 (by decide +kernel)
theorem d_X12_share1_36 : decode prog_14_method_115_code 36 = .ok (.iload_n 1, 1) := gd_0 db00g_62
theorem d_X12_share1_37 : decode prog_14_method_115_code 37 = .ok (.iconst 1, 1) := gd_1 db00g_62
theorem d_X12_share1_38 : decode prog_14_method_115_code 38 = .ok (.iadd, 1) := gd_2 db00g_62
theorem d_X12_share1_39 : decode prog_14_method_115_code 39 = .ok (.iload_n 2, 1) := gd_3 db00g_62
theorem d_X12_share1_40 : decode prog_14_method_115_code 40 = .ok (.iload_n 3, 1) := gd_4 db00g_62
theorem d_X12_share1_41 : decode prog_14_method_115_code 41 = .ok (.isub, 1) := gd_5 db00g_62
theorem d_X12_share1_42 : decode prog_14_method_115_code 42 = .ok (.invokevirtual 659, 3) := gd_6 db00g_62
theorem d_X12_share1_45 : decode prog_14_method_115_code 45 = .ok (.iinc 3 (-1), 3) := gd_7 db00g_62
theorem d_X12_share1_48 : decode prog_14_method_115_code 48 = .ok (.goto (-24), 3) := gd_8 db00g_62
theorem d_X12_share1_51 : decode prog_14_method_115_code 51 = .ok (.return_, 1) := gd_9 db00g_62
theorem db00g_63 : Ad_ prog_14_method_116_code [(0, .iload_n 1, 1), (1, .iconst 1, 1), (2, .iconst 1, 1), (3, .aload_n 0, 1), (4, .getfield 413, 3), (7, .ishl, 1), (8, .iconst 1, 1), (9, .isub, 1), (10, .invokestatic 323, 3), (13, .ifCond .eq 10, 3), (16, .iload_n 1, 1), (17, .invokestatic 612, 3), (20, .goto 4, 3), (23, .iconst 0, 1), (24, .istore_n 2, 1), (25, .iload_n 2, 1), (26, .iconst 1, 1), (27, .iconst 5, 1), (28, .invokestatic 323, 3), (31, .ifCond .ne 5, 3), (34, .iconst 0, 1), (35, .ireturn, 1), (36, .aload_n 0, 1), (37, .iconst 0, 1)] := bch_ok prog_14_method_116_code _ 0 (by decide +kernel)
theorem d_X12_findShares_0 : decode prog_14_method_116_code 0 = .ok (.iload_n 1, 1) := gd_0 db00g_63
theorem d_X12_findShares_1 : decode prog_14_method_116_code 1 = .ok (.iconst 1, 1) := gd_1 db00g_63
theorem d_X12_findShares_2 : decode prog_14_method_116_code 2 = .ok (.iconst 1, 1) := gd_2 db00g_63
theorem d_X12_findShares_3 : decode prog_14_method_116_code 3 = .ok (.aload_n 0, 1) := gd_3 db00g_63
theorem d_X12_findShares_4 : decode prog_14_method_116_code 4 = .ok (.getfield 413, 3) := gd_4 db00g_63
theorem d_X12_findShares_7 : decode prog_14_method_116_code 7 = .ok (.ishl, 1) := gd_5 db00g_63
theorem d_X12_findShares_8 : decode prog_14_method_116_code 8 = .ok (.iconst 1, 1) := gd_6 db00g_63
theorem d_X12_findShares_9 : decode prog_14_method_116_code 9 = .ok (.isub, 1) := gd_7 db00g_63
theorem d_X12_findShares_10 : decode prog_14_method_116_code 10 = .ok (.invokestatic 323, 3) := gd_8 db00g_63
theorem d_X12_findShares_13 : decode prog_14_method_116_code 13 = .ok (.ifCond .eq 10, 3) := gd_9 db00g_63
theorem d_X12_findShares_16 : decode prog_14_method_116_code 16 = .ok (.iload_n 1, 1) := gd_10 db00g_63
theorem d_X12_findShares_17 : decode prog_14_method_116_code 17 = .ok (.invokestatic 612, 3) := gd_11 db00g_63
theorem d_X12_findShares_20 : decode prog_14_method_116_code 20 = .ok (.goto 4, 3) := gd_12 db00g_63
theorem d_X12_findShares_23 : decode prog_14_method_116_code 23 = .ok (.iconst 0, 1) := gd_13 db00g_63
theorem d_X12_findShares_24 : decode prog_14_method_116_code 24 = .ok (.istore_n 2, 1) := gd_14 db00g_63
theorem d_X12_findShares_25 : decode prog_14_method_116_code 25 = .ok (.iload_n 2, 1) := gd_15 db00g_63
theorem d_X12_findShares_26 : decode prog_14_method_116_code 26 = .ok (.iconst 1, 1) := gd_16 db00g_63
theorem d_X12_findShares_27 : decode prog_14_method_116_code 27 = .ok (.iconst 5, 1) := gd_17 db00g_63
theorem d_X12_findShares_28 : decode prog_14_method_116_code 28 = .ok (.invokestatic 323, 3) := gd_18 db00g_63
theorem d_X12_findShares_31 : decode prog_14_method_116_code 31 = .ok (.ifCond .ne 5, 3) := gd_19 db00g_63
theorem d_X12_findShares_34 : decode prog_14_method_116_code 34 = .ok (.iconst 0, 1) := gd_20 db00g_63
theorem d_X12_findShares_35 : decode prog_14_method_116_code 35 = .ok (.ireturn, 1) := gd_21 db00g_63
theorem d_X12_findShares_36 : decode prog_14_method_116_code 36 = .ok (.aload_n 0, 1) := gd_22 db00g_63
theorem d_X12_findShares_37 : decode prog_14_method_116_code 37 = .ok (.iconst 0, 1) := gd_23 db00g_63
theorem db00g_64 : Ad_ prog_14_method_116_code [(38, .putfield 647, 3), (41, .iconst 0, 1), (42, .istore_n 3, 1), (43, .iload_n 3, 1), (44, .aload_n 0, 1), (45, .getfield 413, 3), (48, .if_icmp .ge 96, 3), (51, .iload_n 1, 1), (52, .iload_n 3, 1), (53, .ishr, 1), (54, .iconst 1, 1), (55, .iand, 1), (56, .iconst 1, 1), (57, .if_icmp .ne 81, 3), (60, .aload_n 0, 1), (61, .getfield 269, 3), (64, .aload_n 0, 1), (65, .getfield 647, 3), (68, .iload_n 3, 1), (69, .iastore, 1), (70, .aload_n 0, 1), (71, .getfield 278, 3), (74, .aload_n 0, 1), (75, .getfield 647, 3)] := bch_ok prog_14_method_116_code _ 38 (by decide +kernel)
theorem d_X12_findShares_38 : decode prog_14_method_116_code 38 = .ok (.putfield 647, 3) := gd_0 db00g_64
theorem d_X12_findShares_41 : decode prog_14_method_116_code 41 = .ok (.iconst 0, 1) := gd_1 db00g_64
theorem d_X12_findShares_42 : decode prog_14_method_116_code 42 = .ok (.istore_n 3, 1) := gd_2 db00g_64
theorem d_X12_findShares_43 : decode prog_14_method_116_code 43 = .ok (.iload_n 3, 1) := gd_3 db00g_64
theorem d_X12_findShares_44 : decode prog_14_method_116_code 44 = .ok (.aload_n 0, 1) := gd_4 db00g_64
theorem d_X12_findShares_45 : decode prog_14_method_116_code 45 = .ok (.getfield 413, 3) := gd_5 db00g_64
theorem d_X12_findShares_48 : decode prog_14_method_116_code 48 = .ok (.if_icmp .ge 96, 3) := gd_6 db00g_64
theorem d_X12_findShares_51 : decode prog_14_method_116_code 51 = .ok (.iload_n 1, 1) := gd_7 db00g_64
theorem d_X12_findShares_52 : decode prog_14_method_116_code 52 = .ok (.iload_n 3, 1) := gd_8 db00g_64
theorem d_X12_findShares_53 : decode prog_14_method_116_code 53 = .ok (.ishr, 1) := gd_9 db00g_64
theorem d_X12_findShares_54 : decode prog_14_method_116_code 54 = .ok (.iconst 1, 1) := gd_10 db00g_64
theorem d_X12_findShares_55 : decode prog_14_method_116_code 55 = .ok (.iand, 1) := gd_11 db00g_64
theorem d_X12_findShares_56 : decode prog_14_method_116_code 56 = .ok (.iconst 1, 1) := gd_12 db00g_64
theorem d_X12_findShares_57 : decode prog_14_method_116_code 57 = .ok (.if_icmp .ne 81, 3) := gd_13 db00g_64
theorem d_X12_findShares_60 : decode prog_14_method_116_code 60 = .ok (.aload_n 0, 1) := gd_14 db00g_64
theorem d_X12_findShares_61 : decode prog_14_method_116_code 61 = .ok (.getfield 269, 3) := gd_15 db00g_64
theorem d_X12_findShares_64 : decode prog_14_method_116_code 64 = .ok (.aload_n 0, 1) := gd_16 db00g_64
theorem d_X12_findShares_65 : decode prog_14_method_116_code 65 = .ok (.getfield 647, 3) := gd_17 db00g_64
theorem d_X12_findShares_68 : decode prog_14_method_116_code 68 = .ok (.iload_n 3, 1) := gd_18 db00g_64
theorem d_X12_findShares_69 : decode prog_14_method_116_code 69 = .ok (.iastore, 1) := gd_19 db00g_64
theorem d_X12_findShares_70 : decode prog_14_method_116_code 70 = .ok (.aload_n 0, 1) := gd_20 db00g_64
theorem d_X12_findShares_71 : decode prog_14_method_116_code 71 = .ok (.getfield 278, 3) := gd_21 db00g_64
theorem d_X12_findShares_74 : decode prog_14_method_116_code 74 = .ok (.aload_n 0, 1) := gd_22 db00g_64
theorem d_X12_findShares_75 : decode prog_14_method_116_code 75 = .ok (.getfield 647, 3) := gd_23 db00g_64
theorem db00g_65 : Ad_ prog_14_method_116_code [(78, .iconst 0, 1), (79, .iastore, 1), (80, .iconst 0, 1), (81, .istore 4, 2), (83, .iload 4, 2), (85, .aload_n 0, 1), (86, .getfield 641, 3), (89, .if_icmp .ge 39, 3), (92, .aload_n 0, 1), (93, .getfield 278, 3), (96, .aload_n 0, 1), (97, .getfield 647, 3), (100, .dup2, 1), (101, .iaload, 1), (102, .aload_n 0, 1), (103, .iload_n 3, 1), (104, .iload 4, 2), (106, .invokevirtual 644, 3), (109, .ifCond .eq 10, 3), (112, .iconst 1, 1), (113, .iload 4, 2), (115, .ishl, 1), (116, .goto 4, 3), (119, .iconst 0, 1)] := bch_ok prog_14_method_116_code _ 78 (by decide +kernel)
theorem d_X12_findShares_78 : decode prog_14_method_116_code 78 = .ok (.iconst 0, 1) := gd_0 db00g_65
theorem d_X12_findShares_79 : decode prog_14_method_116_code 79 = .ok (.iastore, 1) := gd_1 db00g_65
theorem d_X12_findShares_80 : decode prog_14_method_116_code 80 = .ok (.iconst 0, 1) := gd_2 db00g_65
theorem d_X12_findShares_81 : decode prog_14_method_116_code 81 = .ok (.istore 4, 2) := gd_3 db00g_65
theorem d_X12_findShares_83 : decode prog_14_method_116_code 83 = .ok (.iload 4, 2) := gd_4 db00g_65
theorem d_X12_findShares_85 : decode prog_14_method_116_code 85 = .ok (.aload_n 0, 1) := gd_5 db00g_65
theorem d_X12_findShares_86 : decode prog_14_method_116_code 86 = .ok (.getfield 641, 3) := gd_6 db00g_65
theorem d_X12_findShares_89 : decode prog_14_method_116_code 89 = .ok (.if_icmp .ge 39, 3) := gd_7 db00g_65
theorem d_X12_findShares_92 : decode prog_14_method_116_code 92 = .ok (.aload_n 0, 1) := gd_8 db00g_65
theorem d_X12_findShares_93 : decode prog_14_method_116_code 93 = .ok (.getfield 278, 3) := gd_9 db00g_65
theorem d_X12_findShares_96 : decode prog_14_method_116_code 96 = .ok (.aload_n 0, 1) := gd_10 db00g_65
theorem d_X12_findShares_97 : decode prog_14_method_116_code 97 = .ok (.getfield 647, 3) := gd_11 db00g_65
theorem d_X12_findShares_100 : decode prog_14_method_116_code 100 = .ok (.dup2, 1) := gd_12 db00g_65
theorem d_X12_findShares_101 : decode prog_14_method_116_code 101 = .ok (.iaload, 1) := gd_13 db00g_65
theorem d_X12_findShares_102 : decode prog_14_method_116_code 102 = .ok (.aload_n 0, 1) := gd_14 db00g_65
theorem d_X12_findShares_103 : decode prog_14_method_116_code 103 = .ok (.iload_n 3, 1) := gd_15 db00g_65
theorem d_X12_findShares_104 : decode prog_14_method_116_code 104 = .ok (.iload 4, 2) := gd_16 db00g_65
theorem d_X12_findShares_106 : decode prog_14_method_116_code 106 = .ok (.invokevirtual 644, 3) := gd_17 db00g_65
theorem d_X12_findShares_109 : decode prog_14_method_116_code 109 = .ok (.ifCond .eq 10, 3) := gd_18 db00g_65
theorem d_X12_findShares_112 : decode prog_14_method_116_code 112 = .ok (.iconst 1, 1) := gd_19 db00g_65
theorem d_X12_findShares_113 : decode prog_14_method_116_code 113 = .ok (.iload 4, 2) := gd_20 db00g_65
theorem d_X12_findShares_115 : decode prog_14_method_116_code 115 = .ok (.ishl, 1) := gd_21 db00g_65
theorem d_X12_findShares_116 : decode prog_14_method_116_code 116 = .ok (.goto 4, 3) := gd_22 db00g_65
theorem d_X12_findShares_119 : decode prog_14_method_116_code 119 = .ok (.iconst 0, 1) := gd_23 db00g_65
theorem db00g_66 : Ad_ prog_14_method_116_code [(120, .ior, 1), (121, .iastore, 1), (122, .iinc 4 1, 3), (125, .goto (-42), 3), (128, .aload_n 0, 1), (129, .dup, 1), (130, .getfield 647, 3), (133, .iconst 1, 1), (134, .iadd, 1), (135, .putfield 647, 3), (138, .iinc 3 1, 3), (141, .goto (-98), 3), (144, .aload_n 0, 1), (145, .iconst (-1), 1), (146, .putfield 650, 3), (149, .aload_n 0, 1), (150, .iconst (-1), 1), (151, .putfield 653, 3), (154, .aload_n 0, 1), (155, .iconst 0, 1), (156, .bipush 12, 2), (158, .invokevirtual 659, 3), (161, .iconst 1, 1), (162, .ireturn, 1)] := bch_ok prog_14_method_116_code _ 120 (by decide +kernel)
theorem d_X12_findShares_120 : decode prog_14_method_116_code 120 = .ok (.ior, 1) := gd_0 db00g_66
theorem d_X12_findShares_121 : decode prog_14_method_116_code 121 = .ok (.iastore, 1) := gd_1 db00g_66
theorem d_X12_findShares_122 : decode prog_14_method_116_code 122 = .ok (.iinc 4 1, 3) := gd_2 db00g_66
theorem d_X12_findShares_125 : decode prog_14_method_116_code 125 = .ok (.goto (-42), 3) := gd_3 db00g_66
theorem d_X12_findShares_128 : decode prog_14_method_116_code 128 = .ok (.aload_n 0, 1) := gd_4 db00g_66
theorem d_X12_findShares_129 : decode prog_14_method_116_code 129 = .ok (.dup, 1) := gd_5 db00g_66
theorem d_X12_findShares_130 : decode prog_14_method_116_code 130 = .ok (.getfield 647, 3) := gd_6 db00g_66
theorem d_X12_findShares_133 : decode prog_14_method_116_code 133 = .ok (.iconst 1, 1) := gd_7 db00g_66
theorem d_X12_findShares_134 : decode prog_14_method_116_code 134 = .ok (.iadd, 1) := gd_8 db00g_66
theorem d_X12_findShares_135 : decode prog_14_method_116_code 135 = .ok (.putfield 647, 3) := gd_9 db00g_66
theorem d_X12_findShares_138 : decode prog_14_method_116_code 138 = .ok (.iinc 3 1, 3) := gd_10 db00g_66
theorem d_X12_findShares_141 : decode prog_14_method_116_code 141 = .ok (.goto (-98), 3) := gd_11 db00g_66
theorem d_X12_findShares_144 : decode prog_14_method_116_code 144 = .ok (.aload_n 0, 1) := gd_12 db00g_66
theorem d_X12_findShares_145 : decode prog_14_method_116_code 145 = .ok (.iconst (-1), 1) := gd_13 db00g_66
theorem d_X12_findShares_146 : decode prog_14_method_116_code 146 = .ok (.putfield 650, 3) := gd_14 db00g_66
theorem d_X12_findShares_149 : decode prog_14_method_116_code 149 = .ok (.aload_n 0, 1) := gd_15 db00g_66
theorem d_X12_findShares_150 : decode prog_14_method_116_code 150 = .ok (.iconst (-1), 1) := gd_16 db00g_66
theorem d_X12_findShares_151 : decode prog_14_method_116_code 151 = .ok (.putfield 653, 3) := gd_17 db00g_66
theorem d_X12_findShares_154 : decode prog_14_method_116_code 154 = .ok (.aload_n 0, 1) := gd_18 db00g_66
theorem d_X12_findShares_155 : decode prog_14_method_116_code 155 = .ok (.iconst 0, 1) := gd_19 db00g_66
theorem d_X12_findShares_156 : decode prog_14_method_116_code 156 = .ok (.bipush 12, 2) := gd_20 db00g_66
theorem d_X12_findShares_158 : decode prog_14_method_116_code 158 = .ok (.invokevirtual 659, 3) := gd_21 db00g_66
theorem d_X12_findShares_161 : decode prog_14_method_116_code 161 = .ok (.iconst 1, 1) := gd_22 db00g_66
theorem d_X12_findShares_162 : decode prog_14_method_116_code 162 = .ok (.ireturn, 1) := gd_23 db00g_66
theorem db00g_67 : Ad_ prog_14_method_117_code [(0, .aload_n 0, 1), (1, .iload_n 1, 1), (2, .invokevirtual 662, 3), (5, .ifCond .eq 10, 3), (8, .aload_n 0, 1), (9, .getfield 650, 3), (12, .goto 4, 3), (15, .iconst (-1), 1), (16, .ireturn, 1)] := bch_ok prog_14_method_117_code _ 0 (by decide +kernel)
theorem d_X12_safe_0 : decode prog_14_method_117_code 0 = .ok (.aload_n 0, 1) := gd_0 db00g_67
theorem d_X12_safe_1 : decode prog_14_method_117_code 1 = .ok (.iload_n 1, 1) := gd_1 db00g_67
theorem d_X12_safe_2 : decode prog_14_method_117_code 2 = .ok (.invokevirtual 662, 3) := gd_2 db00g_67
theorem d_X12_safe_5 : decode prog_14_method_117_code 5 = .ok (.ifCond .eq 10, 3) := gd_3 db00g_67
theorem d_X12_safe_8 : decode prog_14_method_117_code 8 = .ok (.aload_n 0, 1) := gd_4 db00g_67
theorem d_X12_safe_9 : decode prog_14_method_117_code 9 = .ok (.getfield 650, 3) := gd_5 db00g_67
theorem d_X12_safe_12 : decode prog_14_method_117_code 12 = .ok (.goto 4, 3) := gd_6 db00g_67
theorem d_X12_safe_15 : decode prog_14_method_117_code 15 = .ok (.iconst (-1), 1) := gd_7 db00g_67
theorem d_X12_safe_16 : decode prog_14_method_117_code 16 = .ok (.ireturn, 1) := gd_8 db00g_67
theorem db00g_68 : Ad_ prog_14_method_118_code [(0, .aload_n 0, 1), (1, .iload_n 1, 1), (2, .invokevirtual 662, 3), (5, .ifCond .ne 5, 3), (8, .iconst (-1), 1), (9, .ireturn, 1), (10, .iconst 0, 1), (11, .istore_n 3, 1), (12, .iload_n 3, 1), (13, .aload_n 0, 1), (14, .getfield 647, 3), (17, .if_icmp .ge 26, 3), (20, .aload_n 0, 1), (21, .getfield 269, 3), (24, .iload_n 3, 1), (25, .iaload, 1), (26, .iload_n 2, 1), (27, .if_icmp .ne 10, 3), (30, .aload_n 0, 1), (31, .getfield 275, 3), (34, .iload_n 3, 1), (35, .iaload, 1), (36, .ireturn, 1), (37, .iinc 3 1, 3)] := bch_ok prog_14_method_118_code _ 0 (by decide +kernel)
theorem d_X12_share_0 : decode prog_14_method_118_code 0 = .ok (.aload_n 0, 1) := gd_0 db00g_68
theorem d_X12_share_1 : decode prog_14_method_118_code 1 = .ok (.iload_n 1, 1) := gd_1 db00g_68
theorem d_X12_share_2 : decode prog_14_method_118_code 2 = .ok (.invokevirtual 662, 3) := gd_2 db00g_68
theorem d_X12_share_5 : decode prog_14_method_118_code 5 = .ok (.ifCond .ne 5, 3) := gd_3 db00g_68
theorem d_X12_share_8 : decode prog_14_method_118_code 8 = .ok (.iconst (-1), 1) := gd_4 db00g_68
theorem d_X12_share_9 : decode prog_14_method_118_code 9 = .ok (.ireturn, 1) := gd_5 db00g_68
theorem d_X12_share_10 : decode prog_14_method_118_code 10 = .ok (.iconst 0, 1) := gd_6 db00g_68
theorem d_X12_share_11 : decode prog_14_method_118_code 11 = .ok (.istore_n 3, 1) := gd_7 db00g_68
theorem d_X12_share_12 : decode prog_14_method_118_code 12 = .ok (.iload_n 3, 1) := gd_8 db00g_68
theorem d_X12_share_13 : decode prog_14_method_118_code 13 = .ok (.aload_n 0, 1) := gd_9 db00g_68
theorem d_X12_share_14 : decode prog_14_method_118_code 14 = .ok (.getfield 647, 3) := gd_10 db00g_68
theorem d_X12_share_17 : decode prog_14_method_118_code 17 = .ok (.if_icmp .ge 26, 3) := gd_11 db00g_68
theorem d_X12_share_20 : decode prog_14_method_118_code 20 = .ok (.aload_n 0, 1) := gd_12 db00g_68
theorem d_X12_share_21 : decode prog_14_method_118_code 21 = .ok (.getfield 269, 3) := gd_13 db00g_68
theorem d_X12_share_24 : decode prog_14_method_118_code 24 = .ok (.iload_n 3, 1) := gd_14 db00g_68
theorem d_X12_share_25 : decode prog_14_method_118_code 25 = .ok (.iaload, 1) := gd_15 db00g_68
theorem d_X12_share_26 : decode prog_14_method_118_code 26 = .ok (.iload_n 2, 1) := gd_16 db00g_68
theorem d_X12_share_27 : decode prog_14_method_118_code 27 = .ok (.if_icmp .ne 10, 3) := gd_17 db00g_68
theorem d_X12_share_30 : decode prog_14_method_118_code 30 = .ok (.aload_n 0, 1) := gd_18 db00g_68
theorem d_X12_share_31 : decode prog_14_method_118_code 31 = .ok (.getfield 275, 3) := gd_19 db00g_68
theorem d_X12_share_34 : decode prog_14_method_118_code 34 = .ok (.iload_n 3, 1) := gd_20 db00g_68
theorem d_X12_share_35 : decode prog_14_method_118_code 35 = .ok (.iaload, 1) := gd_21 db00g_68
theorem d_X12_share_36 : decode prog_14_method_118_code 36 = .ok (.ireturn, 1) := gd_22 db00g_68
theorem d_X12_share_37 : decode prog_14_method_118_code 37 = .ok (.iinc 3 1, 3) := gd_23 db00g_68
theorem db00g_69 : Ad_ prog_14_method_118_code [(40, .goto (-28), 3), (43, .iconst (-1), 1), (44, .ireturn, 1)] := bch_ok prog_14_method_118_code _ 40 (by decide +kernel)
theorem d_X12_share_40 : decode prog_14_method_118_code 40 = .ok (.goto (-28), 3) := gd_0 db00g_69
theorem d_X12_share_43 : decode prog_14_method_118_code 43 = .ok (.iconst (-1), 1) := gd_1 db00g_69
theorem d_X12_share_44 : decode prog_14_method_118_code 44 = .ok (.ireturn, 1) := gd_2 db00g_69
theorem db00g_70 : Ad_ prog_14_method_119_code [(0, .iload_n 1, 1), (1, .invokestatic 327, 3), (4, .ifCond .eq 31, 3), (7, .iload_n 2, 1), (8, .iconst 0, 1), (9, .sipush 30000, 3), (12, .invokestatic 323, 3), (15, .ifCond .eq 20, 3), (18, .iload_n 3, 1), (19, .iconst 1, 1), (20, .iconst 3, 1), (21, .invokestatic 323, 3), (24, .ifCond .eq 11, 3), (27, .aload_n 0, 1), (28, .getfield 665, 3), (31, .iconst 4, 1), (32, .if_icmp .ne 5, 3), (35, .iconst (-1), 1), (36, .ireturn, 1), (37, .aload_n 0, 1), (38, .getfield 281, 3), (41, .aload_n 0, 1), (42, .getfield 665, 3), (45, .iload_n 1, 1)] := bch_ok prog_14_method_119_code _ 0 (by decide +kernel)
theorem d_X12_fair_0 : decode prog_14_method_119_code 0 = .ok (.iload_n 1, 1) := gd_0 db00g_70
theorem d_X12_fair_1 : decode prog_14_method_119_code 1 = .ok (.invokestatic 327, 3) := gd_1 db00g_70
theorem d_X12_fair_4 : decode prog_14_method_119_code 4 = .ok (.ifCond .eq 31, 3) := gd_2 db00g_70
theorem d_X12_fair_7 : decode prog_14_method_119_code 7 = .ok (.iload_n 2, 1) := gd_3 db00g_70
theorem d_X12_fair_8 : decode prog_14_method_119_code 8 = .ok (.iconst 0, 1) := gd_4 db00g_70
theorem d_X12_fair_9 : decode prog_14_method_119_code 9 = .ok (.sipush 30000, 3) := gd_5 db00g_70
theorem d_X12_fair_12 : decode prog_14_method_119_code 12 = .ok (.invokestatic 323, 3) := gd_6 db00g_70
theorem d_X12_fair_15 : decode prog_14_method_119_code 15 = .ok (.ifCond .eq 20, 3) := gd_7 db00g_70
theorem d_X12_fair_18 : decode prog_14_method_119_code 18 = .ok (.iload_n 3, 1) := gd_8 db00g_70
theorem d_X12_fair_19 : decode prog_14_method_119_code 19 = .ok (.iconst 1, 1) := gd_9 db00g_70
theorem d_X12_fair_20 : decode prog_14_method_119_code 20 = .ok (.iconst 3, 1) := gd_10 db00g_70
theorem d_X12_fair_21 : decode prog_14_method_119_code 21 = .ok (.invokestatic 323, 3) := gd_11 db00g_70
theorem d_X12_fair_24 : decode prog_14_method_119_code 24 = .ok (.ifCond .eq 11, 3) := gd_12 db00g_70
theorem d_X12_fair_27 : decode prog_14_method_119_code 27 = .ok (.aload_n 0, 1) := gd_13 db00g_70
theorem d_X12_fair_28 : decode prog_14_method_119_code 28 = .ok (.getfield 665, 3) := gd_14 db00g_70
theorem d_X12_fair_31 : decode prog_14_method_119_code 31 = .ok (.iconst 4, 1) := gd_15 db00g_70
theorem d_X12_fair_32 : decode prog_14_method_119_code 32 = .ok (.if_icmp .ne 5, 3) := gd_16 db00g_70
theorem d_X12_fair_35 : decode prog_14_method_119_code 35 = .ok (.iconst (-1), 1) := gd_17 db00g_70
theorem d_X12_fair_36 : decode prog_14_method_119_code 36 = .ok (.ireturn, 1) := gd_18 db00g_70
theorem d_X12_fair_37 : decode prog_14_method_119_code 37 = .ok (.aload_n 0, 1) := gd_19 db00g_70
theorem d_X12_fair_38 : decode prog_14_method_119_code 38 = .ok (.getfield 281, 3) := gd_20 db00g_70
theorem d_X12_fair_41 : decode prog_14_method_119_code 41 = .ok (.aload_n 0, 1) := gd_21 db00g_70
theorem d_X12_fair_42 : decode prog_14_method_119_code 42 = .ok (.getfield 665, 3) := gd_22 db00g_70
theorem d_X12_fair_45 : decode prog_14_method_119_code 45 = .ok (.iload_n 1, 1) := gd_23 db00g_70
theorem db00g_71 : Ad_ prog_14_method_119_code [(46, .iastore, 1), (47, .aload_n 0, 1), (48, .getfield 284, 3), (51, .aload_n 0, 1), (52, .getfield 665, 3), (55, .iload_n 2, 1), (56, .iastore, 1), (57, .aload_n 0, 1), (58, .getfield 287, 3), (61, .aload_n 0, 1), (62, .getfield 665, 3), (65, .iload_n 3, 1), (66, .iastore, 1), (67, .aload_n 0, 1), (68, .dup, 1), (69, .getfield 665, 3), (72, .iconst 1, 1), (73, .iadd, 1), (74, .putfield 665, 3), (77, .aload_n 0, 1), (78, .getfield 665, 3), (81, .iconst 1, 1), (82, .isub, 1), (83, .ireturn, 1)] := bch_ok prog_14_method_119_code _ 46 (by decide +kernel)
theorem d_X12_fair_46 : decode prog_14_method_119_code 46 = .ok (.iastore, 1) := gd_0 db00g_71
theorem d_X12_fair_47 : decode prog_14_method_119_code 47 = .ok (.aload_n 0, 1) := gd_1 db00g_71
theorem d_X12_fair_48 : decode prog_14_method_119_code 48 = .ok (.getfield 284, 3) := gd_2 db00g_71
theorem d_X12_fair_51 : decode prog_14_method_119_code 51 = .ok (.aload_n 0, 1) := gd_3 db00g_71
theorem d_X12_fair_52 : decode prog_14_method_119_code 52 = .ok (.getfield 665, 3) := gd_4 db00g_71
theorem d_X12_fair_55 : decode prog_14_method_119_code 55 = .ok (.iload_n 2, 1) := gd_5 db00g_71
theorem d_X12_fair_56 : decode prog_14_method_119_code 56 = .ok (.iastore, 1) := gd_6 db00g_71
theorem d_X12_fair_57 : decode prog_14_method_119_code 57 = .ok (.aload_n 0, 1) := gd_7 db00g_71
theorem d_X12_fair_58 : decode prog_14_method_119_code 58 = .ok (.getfield 287, 3) := gd_8 db00g_71
theorem d_X12_fair_61 : decode prog_14_method_119_code 61 = .ok (.aload_n 0, 1) := gd_9 db00g_71
theorem d_X12_fair_62 : decode prog_14_method_119_code 62 = .ok (.getfield 665, 3) := gd_10 db00g_71
theorem d_X12_fair_65 : decode prog_14_method_119_code 65 = .ok (.iload_n 3, 1) := gd_11 db00g_71
theorem d_X12_fair_66 : decode prog_14_method_119_code 66 = .ok (.iastore, 1) := gd_12 db00g_71
theorem d_X12_fair_67 : decode prog_14_method_119_code 67 = .ok (.aload_n 0, 1) := gd_13 db00g_71
theorem d_X12_fair_68 : decode prog_14_method_119_code 68 = .ok (.dup, 1) := gd_14 db00g_71
theorem d_X12_fair_69 : decode prog_14_method_119_code 69 = .ok (.getfield 665, 3) := gd_15 db00g_71
theorem d_X12_fair_72 : decode prog_14_method_119_code 72 = .ok (.iconst 1, 1) := gd_16 db00g_71
theorem d_X12_fair_73 : decode prog_14_method_119_code 73 = .ok (.iadd, 1) := gd_17 db00g_71
theorem d_X12_fair_74 : decode prog_14_method_119_code 74 = .ok (.putfield 665, 3) := gd_18 db00g_71
theorem d_X12_fair_77 : decode prog_14_method_119_code 77 = .ok (.aload_n 0, 1) := gd_19 db00g_71
theorem d_X12_fair_78 : decode prog_14_method_119_code 78 = .ok (.getfield 665, 3) := gd_20 db00g_71
theorem d_X12_fair_81 : decode prog_14_method_119_code 81 = .ok (.iconst 1, 1) := gd_21 db00g_71
theorem d_X12_fair_82 : decode prog_14_method_119_code 82 = .ok (.isub, 1) := gd_22 db00g_71
theorem d_X12_fair_83 : decode prog_14_method_119_code 83 = .ok (.ireturn, 1) := gd_23 db00g_71
theorem db00g_72 : Ad_ prog_14_method_120_code [(0, .aload_n 0, 1), (1, .iconst 0, 1), (2, .putfield 665, 3), (5, .return_, 1)] := bch_ok prog_14_method_120_code _ 0 (by decide +kernel)
theorem d_X12_fairs_0 : decode prog_14_method_120_code 0 = .ok (.aload_n 0, 1) := gd_0 db00g_72
theorem d_X12_fairs_1 : decode prog_14_method_120_code 1 = .ok (.iconst 0, 1) := gd_1 db00g_72
theorem d_X12_fairs_2 : decode prog_14_method_120_code 2 = .ok (.putfield 665, 3) := gd_2 db00g_72
theorem d_X12_fairs_5 : decode prog_14_method_120_code 5 = .ok (.return_, 1) := gd_3 db00g_72
theorem db00g_73 : Ad_ prog_14_method_121_code [(0, .aload_n 0, 1), (1, .getfield 34, 3), (4, .iload_n 1, 1), (5, .iaload, 1), (6, .ifCond .eq 17, 3), (9, .aload_n 0, 1), (10, .getfield 34, 3), (13, .iload_n 1, 1), (14, .iaload, 1), (15, .iconst 1, 1), (16, .if_icmp .eq 7, 3), (19, .ldc_w 668, 3), (22, .ireturn, 1), (23, .aload_n 0, 1), (24, .getfield 40, 3), (27, .iload_n 1, 1), (28, .iaload, 1), (29, .iconst (-1), 1), (30, .if_icmp .ne 12, 3), (33, .aload_n 0, 1), (34, .getfield 37, 3), (37, .iload_n 1, 1), (38, .iaload, 1), (39, .goto 9, 3)] := bch_ok prog_14_method_121_code _ 0 (by decide +kernel)
theorem d_X12_costOf_0 : decode prog_14_method_121_code 0 = .ok (.aload_n 0, 1) := gd_0 db00g_73
theorem d_X12_costOf_1 : decode prog_14_method_121_code 1 = .ok (.getfield 34, 3) := gd_1 db00g_73
theorem d_X12_costOf_4 : decode prog_14_method_121_code 4 = .ok (.iload_n 1, 1) := gd_2 db00g_73
theorem d_X12_costOf_5 : decode prog_14_method_121_code 5 = .ok (.iaload, 1) := gd_3 db00g_73
theorem d_X12_costOf_6 : decode prog_14_method_121_code 6 = .ok (.ifCond .eq 17, 3) := gd_4 db00g_73
theorem d_X12_costOf_9 : decode prog_14_method_121_code 9 = .ok (.aload_n 0, 1) := gd_5 db00g_73
theorem d_X12_costOf_10 : decode prog_14_method_121_code 10 = .ok (.getfield 34, 3) := gd_6 db00g_73
theorem d_X12_costOf_13 : decode prog_14_method_121_code 13 = .ok (.iload_n 1, 1) := gd_7 db00g_73
theorem d_X12_costOf_14 : decode prog_14_method_121_code 14 = .ok (.iaload, 1) := gd_8 db00g_73
theorem d_X12_costOf_15 : decode prog_14_method_121_code 15 = .ok (.iconst 1, 1) := gd_9 db00g_73
theorem d_X12_costOf_16 : decode prog_14_method_121_code 16 = .ok (.if_icmp .eq 7, 3) := gd_10 db00g_73
theorem d_X12_costOf_19 : decode prog_14_method_121_code 19 = .ok (.ldc_w 668, 3) := gd_11 db00g_73
theorem d_X12_costOf_22 : decode prog_14_method_121_code 22 = .ok (.ireturn, 1) := gd_12 db00g_73
theorem d_X12_costOf_23 : decode prog_14_method_121_code 23 = .ok (.aload_n 0, 1) := gd_13 db00g_73
theorem d_X12_costOf_24 : decode prog_14_method_121_code 24 = .ok (.getfield 40, 3) := gd_14 db00g_73
theorem d_X12_costOf_27 : decode prog_14_method_121_code 27 = .ok (.iload_n 1, 1) := gd_15 db00g_73
theorem d_X12_costOf_28 : decode prog_14_method_121_code 28 = .ok (.iaload, 1) := gd_16 db00g_73
theorem d_X12_costOf_29 : decode prog_14_method_121_code 29 = .ok (.iconst (-1), 1) := gd_17 db00g_73
theorem d_X12_costOf_30 : decode prog_14_method_121_code 30 = .ok (.if_icmp .ne 12, 3) := gd_18 db00g_73
theorem d_X12_costOf_33 : decode prog_14_method_121_code 33 = .ok (.aload_n 0, 1) := gd_19 db00g_73
theorem d_X12_costOf_34 : decode prog_14_method_121_code 34 = .ok (.getfield 37, 3) := gd_20 db00g_73
theorem d_X12_costOf_37 : decode prog_14_method_121_code 37 = .ok (.iload_n 1, 1) := gd_21 db00g_73
theorem d_X12_costOf_38 : decode prog_14_method_121_code 38 = .ok (.iaload, 1) := gd_22 db00g_73
theorem d_X12_costOf_39 : decode prog_14_method_121_code 39 = .ok (.goto 9, 3) := gd_23 db00g_73
theorem db00g_74 : Ad_ prog_14_method_121_code [(42, .aload_n 0, 1), (43, .getfield 40, 3), (46, .iload_n 1, 1), (47, .iaload, 1), (48, .istore_n 3, 1), (49, .aload_n 0, 1), (50, .getfield 40, 3), (53, .iload_n 1, 1), (54, .iaload, 1), (55, .iconst (-1), 1), (56, .if_icmp .ne 10, 3), (59, .aload_n 0, 1), (60, .getfield 342, 3), (63, .goto 9, 3), (66, .aload_n 0, 1), (67, .getfield 43, 3), (70, .iload_n 1, 1), (71, .iaload, 1), (72, .istore 4, 2), (74, .aload_n 0, 1), (75, .iload_n 3, 1), (76, .aload_n 0, 1), (77, .getfield 281, 3), (80, .iload_n 2, 1)] := bch_ok prog_14_method_121_code _ 42 (by decide +kernel)
theorem d_X12_costOf_42 : decode prog_14_method_121_code 42 = .ok (.aload_n 0, 1) := gd_0 db00g_74
theorem d_X12_costOf_43 : decode prog_14_method_121_code 43 = .ok (.getfield 40, 3) := gd_1 db00g_74
theorem d_X12_costOf_46 : decode prog_14_method_121_code 46 = .ok (.iload_n 1, 1) := gd_2 db00g_74
theorem d_X12_costOf_47 : decode prog_14_method_121_code 47 = .ok (.iaload, 1) := gd_3 db00g_74
theorem d_X12_costOf_48 : decode prog_14_method_121_code 48 = .ok (.istore_n 3, 1) := gd_4 db00g_74
theorem d_X12_costOf_49 : decode prog_14_method_121_code 49 = .ok (.aload_n 0, 1) := gd_5 db00g_74
theorem d_X12_costOf_50 : decode prog_14_method_121_code 50 = .ok (.getfield 40, 3) := gd_6 db00g_74
theorem d_X12_costOf_53 : decode prog_14_method_121_code 53 = .ok (.iload_n 1, 1) := gd_7 db00g_74
theorem d_X12_costOf_54 : decode prog_14_method_121_code 54 = .ok (.iaload, 1) := gd_8 db00g_74
theorem d_X12_costOf_55 : decode prog_14_method_121_code 55 = .ok (.iconst (-1), 1) := gd_9 db00g_74
theorem d_X12_costOf_56 : decode prog_14_method_121_code 56 = .ok (.if_icmp .ne 10, 3) := gd_10 db00g_74
theorem d_X12_costOf_59 : decode prog_14_method_121_code 59 = .ok (.aload_n 0, 1) := gd_11 db00g_74
theorem d_X12_costOf_60 : decode prog_14_method_121_code 60 = .ok (.getfield 342, 3) := gd_12 db00g_74
theorem d_X12_costOf_63 : decode prog_14_method_121_code 63 = .ok (.goto 9, 3) := gd_13 db00g_74
theorem d_X12_costOf_66 : decode prog_14_method_121_code 66 = .ok (.aload_n 0, 1) := gd_14 db00g_74
theorem d_X12_costOf_67 : decode prog_14_method_121_code 67 = .ok (.getfield 43, 3) := gd_15 db00g_74
theorem d_X12_costOf_70 : decode prog_14_method_121_code 70 = .ok (.iload_n 1, 1) := gd_16 db00g_74
theorem d_X12_costOf_71 : decode prog_14_method_121_code 71 = .ok (.iaload, 1) := gd_17 db00g_74
theorem d_X12_costOf_72 : decode prog_14_method_121_code 72 = .ok (.istore 4, 2) := gd_18 db00g_74
theorem d_X12_costOf_74 : decode prog_14_method_121_code 74 = .ok (.aload_n 0, 1) := gd_19 db00g_74
theorem d_X12_costOf_75 : decode prog_14_method_121_code 75 = .ok (.iload_n 3, 1) := gd_20 db00g_74
theorem d_X12_costOf_76 : decode prog_14_method_121_code 76 = .ok (.aload_n 0, 1) := gd_21 db00g_74
theorem d_X12_costOf_77 : decode prog_14_method_121_code 77 = .ok (.getfield 281, 3) := gd_22 db00g_74
theorem d_X12_costOf_80 : decode prog_14_method_121_code 80 = .ok (.iload_n 2, 1) := gd_23 db00g_74
theorem db00g_75 : Ad_ prog_14_method_121_code [(81, .iaload, 1), (82, .invokevirtual 335, 3), (85, .istore 5, 2), (87, .iload 5, 2), (89, .iconst (-1), 1), (90, .if_icmp .eq 17, 3), (93, .iload 4, 2), (95, .iload 5, 2), (97, .iadd, 1), (98, .aload_n 0, 1), (99, .getfield 284, 3), (102, .iload_n 2, 1), (103, .iaload, 1), (104, .if_icmp .le 7, 3), (107, .ldc_w 668, 3), (110, .ireturn, 1), (111, .iconst 0, 1), (112, .istore 6, 2), (114, .aload_n 0, 1), (115, .getfield 55, 3), (118, .iload_n 1, 1), (119, .iaload, 1), (120, .istore 7, 2), (122, .iload 7, 2)] := bch_ok prog_14_method_121_code _ 81 (by decide +kernel)
theorem d_X12_costOf_81 : decode prog_14_method_121_code 81 = .ok (.iaload, 1) := gd_0 db00g_75
theorem d_X12_costOf_82 : decode prog_14_method_121_code 82 = .ok (.invokevirtual 335, 3) := gd_1 db00g_75
theorem d_X12_costOf_85 : decode prog_14_method_121_code 85 = .ok (.istore 5, 2) := gd_2 db00g_75
theorem d_X12_costOf_87 : decode prog_14_method_121_code 87 = .ok (.iload 5, 2) := gd_3 db00g_75
theorem d_X12_costOf_89 : decode prog_14_method_121_code 89 = .ok (.iconst (-1), 1) := gd_4 db00g_75
theorem d_X12_costOf_90 : decode prog_14_method_121_code 90 = .ok (.if_icmp .eq 17, 3) := gd_5 db00g_75
theorem d_X12_costOf_93 : decode prog_14_method_121_code 93 = .ok (.iload 4, 2) := gd_6 db00g_75
theorem d_X12_costOf_95 : decode prog_14_method_121_code 95 = .ok (.iload 5, 2) := gd_7 db00g_75
theorem d_X12_costOf_97 : decode prog_14_method_121_code 97 = .ok (.iadd, 1) := gd_8 db00g_75
theorem d_X12_costOf_98 : decode prog_14_method_121_code 98 = .ok (.aload_n 0, 1) := gd_9 db00g_75
theorem d_X12_costOf_99 : decode prog_14_method_121_code 99 = .ok (.getfield 284, 3) := gd_10 db00g_75
theorem d_X12_costOf_102 : decode prog_14_method_121_code 102 = .ok (.iload_n 2, 1) := gd_11 db00g_75
theorem d_X12_costOf_103 : decode prog_14_method_121_code 103 = .ok (.iaload, 1) := gd_12 db00g_75
theorem d_X12_costOf_104 : decode prog_14_method_121_code 104 = .ok (.if_icmp .le 7, 3) := gd_13 db00g_75
theorem d_X12_costOf_107 : decode prog_14_method_121_code 107 = .ok (.ldc_w 668, 3) := gd_14 db00g_75
theorem d_X12_costOf_110 : decode prog_14_method_121_code 110 = .ok (.ireturn, 1) := gd_15 db00g_75
theorem d_X12_costOf_111 : decode prog_14_method_121_code 111 = .ok (.iconst 0, 1) := gd_16 db00g_75
theorem d_X12_costOf_112 : decode prog_14_method_121_code 112 = .ok (.istore 6, 2) := gd_17 db00g_75
theorem d_X12_costOf_114 : decode prog_14_method_121_code 114 = .ok (.aload_n 0, 1) := gd_18 db00g_75
theorem d_X12_costOf_115 : decode prog_14_method_121_code 115 = .ok (.getfield 55, 3) := gd_19 db00g_75
theorem d_X12_costOf_118 : decode prog_14_method_121_code 118 = .ok (.iload_n 1, 1) := gd_20 db00g_75
theorem d_X12_costOf_119 : decode prog_14_method_121_code 119 = .ok (.iaload, 1) := gd_21 db00g_75
theorem d_X12_costOf_120 : decode prog_14_method_121_code 120 = .ok (.istore 7, 2) := gd_22 db00g_75
theorem d_X12_costOf_122 : decode prog_14_method_121_code 122 = .ok (.iload 7, 2) := gd_23 db00g_75
theorem db00g_76 : Ad_ prog_14_method_121_code [(124, .aload_n 0, 1), (125, .getfield 61, 3), (128, .iload_n 1, 1), (129, .iaload, 1), (130, .if_icmp .ge 51, 3), (133, .aload_n 0, 1), (134, .getfield 34, 3), (137, .iload_n 1, 1), (138, .iaload, 1), (139, .iconst 1, 1), (140, .if_icmp .ne 41, 3), (143, .iload 6, 2), (145, .aload_n 0, 1), (146, .getfield 135, 3), (149, .iload 7, 2), (151, .iaload, 1), (152, .iconst (-1), 1), (153, .if_icmp .ne 18, 3), (156, .aload_n 0, 1), (157, .getfield 138, 3), (160, .iload 7, 2), (162, .iaload, 1), (163, .iconst (-1), 1), (164, .if_icmp .ne 7, 3)] := bch_ok prog_14_method_121_code _ 124 (by decide +kernel)
theorem d_X12_costOf_124 : decode prog_14_method_121_code 124 = .ok (.aload_n 0, 1) := gd_0 db00g_76
theorem d_X12_costOf_125 : decode prog_14_method_121_code 125 = .ok (.getfield 61, 3) := gd_1 db00g_76
theorem d_X12_costOf_128 : decode prog_14_method_121_code 128 = .ok (.iload_n 1, 1) := gd_2 db00g_76
theorem d_X12_costOf_129 : decode prog_14_method_121_code 129 = .ok (.iaload, 1) := gd_3 db00g_76
theorem d_X12_costOf_130 : decode prog_14_method_121_code 130 = .ok (.if_icmp .ge 51, 3) := gd_4 db00g_76
theorem d_X12_costOf_133 : decode prog_14_method_121_code 133 = .ok (.aload_n 0, 1) := gd_5 db00g_76
theorem d_X12_costOf_134 : decode prog_14_method_121_code 134 = .ok (.getfield 34, 3) := gd_6 db00g_76
theorem d_X12_costOf_137 : decode prog_14_method_121_code 137 = .ok (.iload_n 1, 1) := gd_7 db00g_76
theorem d_X12_costOf_138 : decode prog_14_method_121_code 138 = .ok (.iaload, 1) := gd_8 db00g_76
theorem d_X12_costOf_139 : decode prog_14_method_121_code 139 = .ok (.iconst 1, 1) := gd_9 db00g_76
theorem d_X12_costOf_140 : decode prog_14_method_121_code 140 = .ok (.if_icmp .ne 41, 3) := gd_10 db00g_76
theorem d_X12_costOf_143 : decode prog_14_method_121_code 143 = .ok (.iload 6, 2) := gd_11 db00g_76
theorem d_X12_costOf_145 : decode prog_14_method_121_code 145 = .ok (.aload_n 0, 1) := gd_12 db00g_76
theorem d_X12_costOf_146 : decode prog_14_method_121_code 146 = .ok (.getfield 135, 3) := gd_13 db00g_76
theorem d_X12_costOf_149 : decode prog_14_method_121_code 149 = .ok (.iload 7, 2) := gd_14 db00g_76
theorem d_X12_costOf_151 : decode prog_14_method_121_code 151 = .ok (.iaload, 1) := gd_15 db00g_76
theorem d_X12_costOf_152 : decode prog_14_method_121_code 152 = .ok (.iconst (-1), 1) := gd_16 db00g_76
theorem d_X12_costOf_153 : decode prog_14_method_121_code 153 = .ok (.if_icmp .ne 18, 3) := gd_17 db00g_76
theorem d_X12_costOf_156 : decode prog_14_method_121_code 156 = .ok (.aload_n 0, 1) := gd_18 db00g_76
theorem d_X12_costOf_157 : decode prog_14_method_121_code 157 = .ok (.getfield 138, 3) := gd_19 db00g_76
theorem d_X12_costOf_160 : decode prog_14_method_121_code 160 = .ok (.iload 7, 2) := gd_20 db00g_76
theorem d_X12_costOf_162 : decode prog_14_method_121_code 162 = .ok (.iaload, 1) := gd_21 db00g_76
theorem d_X12_costOf_163 : decode prog_14_method_121_code 163 = .ok (.iconst (-1), 1) := gd_22 db00g_76
theorem d_X12_costOf_164 : decode prog_14_method_121_code 164 = .ok (.if_icmp .ne 7, 3) := gd_23 db00g_76
theorem db00g_77 : Ad_ prog_14_method_121_code [(167, .iconst 1, 1), (168, .goto 4, 3), (171, .iconst 0, 1), (172, .iadd, 1), (173, .istore 6, 2), (175, .iinc 7 1, 3), (178, .goto (-56), 3), (181, .ldc_w 669, 3), (184, .iload 6, 2), (186, .imul, 1), (187, .iload 5, 2), (189, .iadd, 1), (190, .ireturn, 1)] := bch_ok prog_14_method_121_code _ 167 (by decide +kernel)
theorem d_X12_costOf_167 : decode prog_14_method_121_code 167 = .ok (.iconst 1, 1) := gd_0 db00g_77
theorem d_X12_costOf_168 : decode prog_14_method_121_code 168 = .ok (.goto 4, 3) := gd_1 db00g_77
theorem d_X12_costOf_171 : decode prog_14_method_121_code 171 = .ok (.iconst 0, 1) := gd_2 db00g_77
theorem d_X12_costOf_172 : decode prog_14_method_121_code 172 = .ok (.iadd, 1) := gd_3 db00g_77
theorem d_X12_costOf_173 : decode prog_14_method_121_code 173 = .ok (.istore 6, 2) := gd_4 db00g_77
theorem d_X12_costOf_175 : decode prog_14_method_121_code 175 = .ok (.iinc 7 1, 3) := gd_5 db00g_77
theorem d_X12_costOf_178 : decode prog_14_method_121_code 178 = .ok (.goto (-56), 3) := gd_6 db00g_77
theorem d_X12_costOf_181 : decode prog_14_method_121_code 181 = .ok (.ldc_w 669, 3) := gd_7 db00g_77
theorem d_X12_costOf_184 : decode prog_14_method_121_code 184 = .ok (.iload 6, 2) := gd_8 db00g_77
theorem d_X12_costOf_186 : decode prog_14_method_121_code 186 = .ok (.imul, 1) := gd_9 db00g_77
theorem d_X12_costOf_187 : decode prog_14_method_121_code 187 = .ok (.iload 5, 2) := gd_10 db00g_77
theorem d_X12_costOf_189 : decode prog_14_method_121_code 189 = .ok (.iadd, 1) := gd_11 db00g_77
theorem d_X12_costOf_190 : decode prog_14_method_121_code 190 = .ok (.ireturn, 1) := gd_12 db00g_77
theorem db00g_78 : Ad_ prog_14_method_122_code [(0, .iload_n 0, 1), (1, .iconst 2, 1), (2, .iload_n 1, 1), (3, .imul, 1), (4, .ishr, 1), (5, .iconst 3, 1), (6, .iand, 1), (7, .ireturn, 1)] := bch_ok prog_14_method_122_code _ 0 (by decide +kernel)
theorem d_X12_wanted_0 : decode prog_14_method_122_code 0 = .ok (.iload_n 0, 1) := gd_0 db00g_78
theorem d_X12_wanted_1 : decode prog_14_method_122_code 1 = .ok (.iconst 2, 1) := gd_1 db00g_78
theorem d_X12_wanted_2 : decode prog_14_method_122_code 2 = .ok (.iload_n 1, 1) := gd_2 db00g_78
theorem d_X12_wanted_3 : decode prog_14_method_122_code 3 = .ok (.imul, 1) := gd_3 db00g_78
theorem d_X12_wanted_4 : decode prog_14_method_122_code 4 = .ok (.ishr, 1) := gd_4 db00g_78
theorem d_X12_wanted_5 : decode prog_14_method_122_code 5 = .ok (.iconst 3, 1) := gd_5 db00g_78
theorem d_X12_wanted_6 : decode prog_14_method_122_code 6 = .ok (.iand, 1) := gd_6 db00g_78
theorem d_X12_wanted_7 : decode prog_14_method_122_code 7 = .ok (.ireturn, 1) := gd_7 db00g_78
theorem db00g_79 : Ad_ prog_14_method_123_code [(0, .iconst 0, 1), (1, .istore_n 1, 1), (2, .iconst 0, 1), (3, .istore_n 2, 1), (4, .iload_n 2, 1), (5, .aload_n 0, 1), (6, .getfield 665, 3), (9, .if_icmp .ge 22, 3), (12, .iload_n 1, 1), (13, .aload_n 0, 1), (14, .getfield 287, 3), (17, .iload_n 2, 1), (18, .iaload, 1), (19, .iconst 2, 1), (20, .iload_n 2, 1), (21, .imul, 1), (22, .ishl, 1), (23, .ior, 1), (24, .istore_n 1, 1), (25, .iinc 2 1, 3), (28, .goto (-24), 3), (31, .iload_n 1, 1), (32, .ireturn, 1)] := bch_ok prog_14_method_123_code _ 0 (by decide +kernel)
theorem d_X12_codeAll_0 : decode prog_14_method_123_code 0 = .ok (.iconst 0, 1) := gd_0 db00g_79
theorem d_X12_codeAll_1 : decode prog_14_method_123_code 1 = .ok (.istore_n 1, 1) := gd_1 db00g_79
theorem d_X12_codeAll_2 : decode prog_14_method_123_code 2 = .ok (.iconst 0, 1) := gd_2 db00g_79
theorem d_X12_codeAll_3 : decode prog_14_method_123_code 3 = .ok (.istore_n 2, 1) := gd_3 db00g_79
theorem d_X12_codeAll_4 : decode prog_14_method_123_code 4 = .ok (.iload_n 2, 1) := gd_4 db00g_79
theorem d_X12_codeAll_5 : decode prog_14_method_123_code 5 = .ok (.aload_n 0, 1) := gd_5 db00g_79
theorem d_X12_codeAll_6 : decode prog_14_method_123_code 6 = .ok (.getfield 665, 3) := gd_6 db00g_79
theorem d_X12_codeAll_9 : decode prog_14_method_123_code 9 = .ok (.if_icmp .ge 22, 3) := gd_7 db00g_79
theorem d_X12_codeAll_12 : decode prog_14_method_123_code 12 = .ok (.iload_n 1, 1) := gd_8 db00g_79
theorem d_X12_codeAll_13 : decode prog_14_method_123_code 13 = .ok (.aload_n 0, 1) := gd_9 db00g_79
theorem d_X12_codeAll_14 : decode prog_14_method_123_code 14 = .ok (.getfield 287, 3) := gd_10 db00g_79
theorem d_X12_codeAll_17 : decode prog_14_method_123_code 17 = .ok (.iload_n 2, 1) := gd_11 db00g_79
theorem d_X12_codeAll_18 : decode prog_14_method_123_code 18 = .ok (.iaload, 1) := gd_12 db00g_79
theorem d_X12_codeAll_19 : decode prog_14_method_123_code 19 = .ok (.iconst 2, 1) := gd_13 db00g_79
theorem d_X12_codeAll_20 : decode prog_14_method_123_code 20 = .ok (.iload_n 2, 1) := gd_14 db00g_79
theorem d_X12_codeAll_21 : decode prog_14_method_123_code 21 = .ok (.imul, 1) := gd_15 db00g_79
theorem d_X12_codeAll_22 : decode prog_14_method_123_code 22 = .ok (.ishl, 1) := gd_16 db00g_79
theorem d_X12_codeAll_23 : decode prog_14_method_123_code 23 = .ok (.ior, 1) := gd_17 db00g_79
theorem d_X12_codeAll_24 : decode prog_14_method_123_code 24 = .ok (.istore_n 1, 1) := gd_18 db00g_79
theorem d_X12_codeAll_25 : decode prog_14_method_123_code 25 = .ok (.iinc 2 1, 3) := gd_19 db00g_79
theorem d_X12_codeAll_28 : decode prog_14_method_123_code 28 = .ok (.goto (-24), 3) := gd_20 db00g_79
theorem d_X12_codeAll_31 : decode prog_14_method_123_code 31 = .ok (.iload_n 1, 1) := gd_21 db00g_79
theorem d_X12_codeAll_32 : decode prog_14_method_123_code 32 = .ok (.ireturn, 1) := gd_22 db00g_79
theorem db00g_80 : Ad_ prog_14_method_124_code [(0, .iconst 0, 1), (1, .istore_n 1, 1), (2, .iload_n 1, 1), (3, .aload_n 0, 1), (4, .getfield 339, 3), (7, .if_icmp .ge 41, 3), (10, .iconst 0, 1), (11, .istore_n 2, 1), (12, .iload_n 2, 1), (13, .aload_n 0, 1), (14, .getfield 665, 3), (17, .if_icmp .ge 25, 3), (20, .aload_n 0, 1), (21, .getfield 293, 3), (24, .iconst 4, 1), (25, .iload_n 1, 1), (26, .imul, 1), (27, .iload_n 2, 1), (28, .iadd, 1), (29, .aload_n 0, 1), (30, .iload_n 1, 1), (31, .iload_n 2, 1), (32, .invokevirtual 670, 3), (35, .iastore, 1)] := bch_ok prog_14_method_124_code _ 0 (by decide +kernel)
theorem d_X12_findLending_0 : decode prog_14_method_124_code 0 = .ok (.iconst 0, 1) := gd_0 db00g_80
theorem d_X12_findLending_1 : decode prog_14_method_124_code 1 = .ok (.istore_n 1, 1) := gd_1 db00g_80
theorem d_X12_findLending_2 : decode prog_14_method_124_code 2 = .ok (.iload_n 1, 1) := gd_2 db00g_80
theorem d_X12_findLending_3 : decode prog_14_method_124_code 3 = .ok (.aload_n 0, 1) := gd_3 db00g_80
theorem d_X12_findLending_4 : decode prog_14_method_124_code 4 = .ok (.getfield 339, 3) := gd_4 db00g_80
theorem d_X12_findLending_7 : decode prog_14_method_124_code 7 = .ok (.if_icmp .ge 41, 3) := gd_5 db00g_80
theorem d_X12_findLending_10 : decode prog_14_method_124_code 10 = .ok (.iconst 0, 1) := gd_6 db00g_80
theorem d_X12_findLending_11 : decode prog_14_method_124_code 11 = .ok (.istore_n 2, 1) := gd_7 db00g_80
theorem d_X12_findLending_12 : decode prog_14_method_124_code 12 = .ok (.iload_n 2, 1) := gd_8 db00g_80
theorem d_X12_findLending_13 : decode prog_14_method_124_code 13 = .ok (.aload_n 0, 1) := gd_9 db00g_80
theorem d_X12_findLending_14 : decode prog_14_method_124_code 14 = .ok (.getfield 665, 3) := gd_10 db00g_80
theorem d_X12_findLending_17 : decode prog_14_method_124_code 17 = .ok (.if_icmp .ge 25, 3) := gd_11 db00g_80
theorem d_X12_findLending_20 : decode prog_14_method_124_code 20 = .ok (.aload_n 0, 1) := gd_12 db00g_80
theorem d_X12_findLending_21 : decode prog_14_method_124_code 21 = .ok (.getfield 293, 3) := gd_13 db00g_80
theorem d_X12_findLending_24 : decode prog_14_method_124_code 24 = .ok (.iconst 4, 1) := gd_14 db00g_80
theorem d_X12_findLending_25 : decode prog_14_method_124_code 25 = .ok (.iload_n 1, 1) := gd_15 db00g_80
theorem d_X12_findLending_26 : decode prog_14_method_124_code 26 = .ok (.imul, 1) := gd_16 db00g_80
theorem d_X12_findLending_27 : decode prog_14_method_124_code 27 = .ok (.iload_n 2, 1) := gd_17 db00g_80
theorem d_X12_findLending_28 : decode prog_14_method_124_code 28 = .ok (.iadd, 1) := gd_18 db00g_80
theorem d_X12_findLending_29 : decode prog_14_method_124_code 29 = .ok (.aload_n 0, 1) := gd_19 db00g_80
theorem d_X12_findLending_30 : decode prog_14_method_124_code 30 = .ok (.iload_n 1, 1) := gd_20 db00g_80
theorem d_X12_findLending_31 : decode prog_14_method_124_code 31 = .ok (.iload_n 2, 1) := gd_21 db00g_80
theorem d_X12_findLending_32 : decode prog_14_method_124_code 32 = .ok (.invokevirtual 670, 3) := gd_22 db00g_80
theorem d_X12_findLending_35 : decode prog_14_method_124_code 35 = .ok (.iastore, 1) := gd_23 db00g_80
theorem db00g_81 : Ad_ prog_14_method_124_code [(36, .iinc 2 1, 3), (39, .goto (-27), 3), (42, .iinc 1 1, 3), (45, .goto (-43), 3), (48, .iconst 0, 1), (49, .istore_n 1, 1), (50, .iload_n 1, 1), (51, .sipush 256, 3), (54, .if_icmp .ge 35, 3), (57, .aload_n 0, 1), (58, .getfield 290, 3), (61, .sipush 256, 3), (64, .aload_n 0, 1), (65, .getfield 339, 3), (68, .imul, 1), (69, .iload_n 1, 1), (70, .iadd, 1), (71, .iload_n 1, 1), (72, .ifCond .ne 7, 3), (75, .iconst 0, 1), (76, .goto 6, 3), (79, .ldc_w 668, 3), (82, .iastore, 1), (83, .iinc 1 1, 3)] := bch_ok prog_14_method_124_code _ 36 (by decide +kernel)
theorem d_X12_findLending_36 : decode prog_14_method_124_code 36 = .ok (.iinc 2 1, 3) := gd_0 db00g_81
theorem d_X12_findLending_39 : decode prog_14_method_124_code 39 = .ok (.goto (-27), 3) := gd_1 db00g_81
theorem d_X12_findLending_42 : decode prog_14_method_124_code 42 = .ok (.iinc 1 1, 3) := gd_2 db00g_81
theorem d_X12_findLending_45 : decode prog_14_method_124_code 45 = .ok (.goto (-43), 3) := gd_3 db00g_81
theorem d_X12_findLending_48 : decode prog_14_method_124_code 48 = .ok (.iconst 0, 1) := gd_4 db00g_81
theorem d_X12_findLending_49 : decode prog_14_method_124_code 49 = .ok (.istore_n 1, 1) := gd_5 db00g_81
theorem d_X12_findLending_50 : decode prog_14_method_124_code 50 = .ok (.iload_n 1, 1) := gd_6 db00g_81
theorem d_X12_findLending_51 : decode prog_14_method_124_code 51 = .ok (.sipush 256, 3) := gd_7 db00g_81
theorem d_X12_findLending_54 : decode prog_14_method_124_code 54 = .ok (.if_icmp .ge 35, 3) := gd_8 db00g_81
theorem d_X12_findLending_57 : decode prog_14_method_124_code 57 = .ok (.aload_n 0, 1) := gd_9 db00g_81
theorem d_X12_findLending_58 : decode prog_14_method_124_code 58 = .ok (.getfield 290, 3) := gd_10 db00g_81
theorem d_X12_findLending_61 : decode prog_14_method_124_code 61 = .ok (.sipush 256, 3) := gd_11 db00g_81
theorem d_X12_findLending_64 : decode prog_14_method_124_code 64 = .ok (.aload_n 0, 1) := gd_12 db00g_81
theorem d_X12_findLending_65 : decode prog_14_method_124_code 65 = .ok (.getfield 339, 3) := gd_13 db00g_81
theorem d_X12_findLending_68 : decode prog_14_method_124_code 68 = .ok (.imul, 1) := gd_14 db00g_81
theorem d_X12_findLending_69 : decode prog_14_method_124_code 69 = .ok (.iload_n 1, 1) := gd_15 db00g_81
theorem d_X12_findLending_70 : decode prog_14_method_124_code 70 = .ok (.iadd, 1) := gd_16 db00g_81
theorem d_X12_findLending_71 : decode prog_14_method_124_code 71 = .ok (.iload_n 1, 1) := gd_17 db00g_81
theorem d_X12_findLending_72 : decode prog_14_method_124_code 72 = .ok (.ifCond .ne 7, 3) := gd_18 db00g_81
theorem d_X12_findLending_75 : decode prog_14_method_124_code 75 = .ok (.iconst 0, 1) := gd_19 db00g_81
theorem d_X12_findLending_76 : decode prog_14_method_124_code 76 = .ok (.goto 6, 3) := gd_20 db00g_81
theorem d_X12_findLending_79 : decode prog_14_method_124_code 79 = .ok (.ldc_w 668, 3) := gd_21 db00g_81
theorem d_X12_findLending_82 : decode prog_14_method_124_code 82 = .ok (.iastore, 1) := gd_22 db00g_81
theorem d_X12_findLending_83 : decode prog_14_method_124_code 83 = .ok (.iinc 1 1, 3) := gd_23 db00g_81
theorem db00g_82 : Ad_ prog_14_method_124_code [(86, .goto (-36), 3), (89, .aload_n 0, 1), (90, .getfield 339, 3), (93, .iconst 1, 1), (94, .isub, 1), (95, .istore_n 1, 1), (96, .iload_n 1, 1), (97, .ifCond .lt 152, 3), (100, .iconst 0, 1), (101, .istore_n 2, 1), (102, .iload_n 2, 1), (103, .sipush 256, 3), (106, .if_icmp .ge 137, 3), (109, .aload_n 0, 1), (110, .getfield 290, 3), (113, .sipush 256, 3), (116, .iload_n 1, 1), (117, .iconst 1, 1), (118, .iadd, 1), (119, .imul, 1), (120, .iload_n 2, 1), (121, .iadd, 1), (122, .iaload, 1), (123, .istore_n 3, 1)] := bch_ok prog_14_method_124_code _ 86 (by decide +kernel)
theorem d_X12_findLending_86 : decode prog_14_method_124_code 86 = .ok (.goto (-36), 3) := gd_0 db00g_82
theorem d_X12_findLending_89 : decode prog_14_method_124_code 89 = .ok (.aload_n 0, 1) := gd_1 db00g_82
theorem d_X12_findLending_90 : decode prog_14_method_124_code 90 = .ok (.getfield 339, 3) := gd_2 db00g_82
theorem d_X12_findLending_93 : decode prog_14_method_124_code 93 = .ok (.iconst 1, 1) := gd_3 db00g_82
theorem d_X12_findLending_94 : decode prog_14_method_124_code 94 = .ok (.isub, 1) := gd_4 db00g_82
theorem d_X12_findLending_95 : decode prog_14_method_124_code 95 = .ok (.istore_n 1, 1) := gd_5 db00g_82
theorem d_X12_findLending_96 : decode prog_14_method_124_code 96 = .ok (.iload_n 1, 1) := gd_6 db00g_82
theorem d_X12_findLending_97 : decode prog_14_method_124_code 97 = .ok (.ifCond .lt 152, 3) := gd_7 db00g_82
theorem d_X12_findLending_100 : decode prog_14_method_124_code 100 = .ok (.iconst 0, 1) := gd_8 db00g_82
theorem d_X12_findLending_101 : decode prog_14_method_124_code 101 = .ok (.istore_n 2, 1) := gd_9 db00g_82
theorem d_X12_findLending_102 : decode prog_14_method_124_code 102 = .ok (.iload_n 2, 1) := gd_10 db00g_82
theorem d_X12_findLending_103 : decode prog_14_method_124_code 103 = .ok (.sipush 256, 3) := gd_11 db00g_82
theorem d_X12_findLending_106 : decode prog_14_method_124_code 106 = .ok (.if_icmp .ge 137, 3) := gd_12 db00g_82
theorem d_X12_findLending_109 : decode prog_14_method_124_code 109 = .ok (.aload_n 0, 1) := gd_13 db00g_82
theorem d_X12_findLending_110 : decode prog_14_method_124_code 110 = .ok (.getfield 290, 3) := gd_14 db00g_82
theorem d_X12_findLending_113 : decode prog_14_method_124_code 113 = .ok (.sipush 256, 3) := gd_15 db00g_82
theorem d_X12_findLending_116 : decode prog_14_method_124_code 116 = .ok (.iload_n 1, 1) := gd_16 db00g_82
theorem d_X12_findLending_117 : decode prog_14_method_124_code 117 = .ok (.iconst 1, 1) := gd_17 db00g_82
theorem d_X12_findLending_118 : decode prog_14_method_124_code 118 = .ok (.iadd, 1) := gd_18 db00g_82
theorem d_X12_findLending_119 : decode prog_14_method_124_code 119 = .ok (.imul, 1) := gd_19 db00g_82
theorem d_X12_findLending_120 : decode prog_14_method_124_code 120 = .ok (.iload_n 2, 1) := gd_20 db00g_82
theorem d_X12_findLending_121 : decode prog_14_method_124_code 121 = .ok (.iadd, 1) := gd_21 db00g_82
theorem d_X12_findLending_122 : decode prog_14_method_124_code 122 = .ok (.iaload, 1) := gd_22 db00g_82
theorem d_X12_findLending_123 : decode prog_14_method_124_code 123 = .ok (.istore_n 3, 1) := gd_23 db00g_82
theorem db00g_83 : Ad_ prog_14_method_124_code [(124, .iconst 0, 1), (125, .istore 4, 2), (127, .iload 4, 2), (129, .aload_n 0, 1), (130, .getfield 665, 3), (133, .if_icmp .ge 91, 3), (136, .iload_n 2, 1), (137, .iload 4, 2), (139, .invokestatic 673, 3), (142, .ifCond .le 76, 3), (145, .aload_n 0, 1), (146, .getfield 293, 3), (149, .iconst 4, 1), (150, .iload_n 1, 1), (151, .imul, 1), (152, .iload 4, 2), (154, .iadd, 1), (155, .iaload, 1), (156, .ldc_w 668, 3), (159, .if_icmp .ge 59, 3), (162, .aload_n 0, 1), (163, .getfield 290, 3), (166, .sipush 256, 3), (169, .iload_n 1, 1)] := bch_ok prog_14_method_124_code _ 124 (by decide +kernel)
theorem d_X12_findLending_124 : decode prog_14_method_124_code 124 = .ok (.iconst 0, 1) := gd_0 db00g_83
theorem d_X12_findLending_125 : decode prog_14_method_124_code 125 = .ok (.istore 4, 2) := gd_1 db00g_83
theorem d_X12_findLending_127 : decode prog_14_method_124_code 127 = .ok (.iload 4, 2) := gd_2 db00g_83
theorem d_X12_findLending_129 : decode prog_14_method_124_code 129 = .ok (.aload_n 0, 1) := gd_3 db00g_83
theorem d_X12_findLending_130 : decode prog_14_method_124_code 130 = .ok (.getfield 665, 3) := gd_4 db00g_83
theorem d_X12_findLending_133 : decode prog_14_method_124_code 133 = .ok (.if_icmp .ge 91, 3) := gd_5 db00g_83
theorem d_X12_findLending_136 : decode prog_14_method_124_code 136 = .ok (.iload_n 2, 1) := gd_6 db00g_83
theorem d_X12_findLending_137 : decode prog_14_method_124_code 137 = .ok (.iload 4, 2) := gd_7 db00g_83
theorem d_X12_findLending_139 : decode prog_14_method_124_code 139 = .ok (.invokestatic 673, 3) := gd_8 db00g_83
theorem d_X12_findLending_142 : decode prog_14_method_124_code 142 = .ok (.ifCond .le 76, 3) := gd_9 db00g_83
theorem d_X12_findLending_145 : decode prog_14_method_124_code 145 = .ok (.aload_n 0, 1) := gd_10 db00g_83
theorem d_X12_findLending_146 : decode prog_14_method_124_code 146 = .ok (.getfield 293, 3) := gd_11 db00g_83
theorem d_X12_findLending_149 : decode prog_14_method_124_code 149 = .ok (.iconst 4, 1) := gd_12 db00g_83
theorem d_X12_findLending_150 : decode prog_14_method_124_code 150 = .ok (.iload_n 1, 1) := gd_13 db00g_83
theorem d_X12_findLending_151 : decode prog_14_method_124_code 151 = .ok (.imul, 1) := gd_14 db00g_83
theorem d_X12_findLending_152 : decode prog_14_method_124_code 152 = .ok (.iload 4, 2) := gd_15 db00g_83
theorem d_X12_findLending_154 : decode prog_14_method_124_code 154 = .ok (.iadd, 1) := gd_16 db00g_83
theorem d_X12_findLending_155 : decode prog_14_method_124_code 155 = .ok (.iaload, 1) := gd_17 db00g_83
theorem d_X12_findLending_156 : decode prog_14_method_124_code 156 = .ok (.ldc_w 668, 3) := gd_18 db00g_83
theorem d_X12_findLending_159 : decode prog_14_method_124_code 159 = .ok (.if_icmp .ge 59, 3) := gd_19 db00g_83
theorem d_X12_findLending_162 : decode prog_14_method_124_code 162 = .ok (.aload_n 0, 1) := gd_20 db00g_83
theorem d_X12_findLending_163 : decode prog_14_method_124_code 163 = .ok (.getfield 290, 3) := gd_21 db00g_83
theorem d_X12_findLending_166 : decode prog_14_method_124_code 166 = .ok (.sipush 256, 3) := gd_22 db00g_83
theorem d_X12_findLending_169 : decode prog_14_method_124_code 169 = .ok (.iload_n 1, 1) := gd_23 db00g_83
theorem db00g_84 : Ad_ prog_14_method_124_code [(170, .iconst 1, 1), (171, .iadd, 1), (172, .imul, 1), (173, .iload_n 2, 1), (174, .iadd, 1), (175, .iconst 1, 1), (176, .iconst 2, 1), (177, .iload 4, 2), (179, .imul, 1), (180, .ishl, 1), (181, .isub, 1), (182, .iaload, 1), (183, .istore 5, 2), (185, .iload_n 3, 1), (186, .iload 5, 2), (188, .ldc_w 668, 3), (191, .if_icmp .ne 9, 3), (194, .ldc_w 668, 3), (197, .goto 17, 3), (200, .aload_n 0, 1), (201, .getfield 293, 3), (204, .iconst 4, 1), (205, .iload_n 1, 1), (206, .imul, 1)] := bch_ok prog_14_method_124_code _ 170 (by decide +kernel)
theorem d_X12_findLending_170 : decode prog_14_method_124_code 170 = .ok (.iconst 1, 1) := gd_0 db00g_84
theorem d_X12_findLending_171 : decode prog_14_method_124_code 171 = .ok (.iadd, 1) := gd_1 db00g_84
theorem d_X12_findLending_172 : decode prog_14_method_124_code 172 = .ok (.imul, 1) := gd_2 db00g_84
theorem d_X12_findLending_173 : decode prog_14_method_124_code 173 = .ok (.iload_n 2, 1) := gd_3 db00g_84
theorem d_X12_findLending_174 : decode prog_14_method_124_code 174 = .ok (.iadd, 1) := gd_4 db00g_84
theorem d_X12_findLending_175 : decode prog_14_method_124_code 175 = .ok (.iconst 1, 1) := gd_5 db00g_84
theorem d_X12_findLending_176 : decode prog_14_method_124_code 176 = .ok (.iconst 2, 1) := gd_6 db00g_84
theorem d_X12_findLending_177 : decode prog_14_method_124_code 177 = .ok (.iload 4, 2) := gd_7 db00g_84
theorem d_X12_findLending_179 : decode prog_14_method_124_code 179 = .ok (.imul, 1) := gd_8 db00g_84
theorem d_X12_findLending_180 : decode prog_14_method_124_code 180 = .ok (.ishl, 1) := gd_9 db00g_84
theorem d_X12_findLending_181 : decode prog_14_method_124_code 181 = .ok (.isub, 1) := gd_10 db00g_84
theorem d_X12_findLending_182 : decode prog_14_method_124_code 182 = .ok (.iaload, 1) := gd_11 db00g_84
theorem d_X12_findLending_183 : decode prog_14_method_124_code 183 = .ok (.istore 5, 2) := gd_12 db00g_84
theorem d_X12_findLending_185 : decode prog_14_method_124_code 185 = .ok (.iload_n 3, 1) := gd_13 db00g_84
theorem d_X12_findLending_186 : decode prog_14_method_124_code 186 = .ok (.iload 5, 2) := gd_14 db00g_84
theorem d_X12_findLending_188 : decode prog_14_method_124_code 188 = .ok (.ldc_w 668, 3) := gd_15 db00g_84
theorem d_X12_findLending_191 : decode prog_14_method_124_code 191 = .ok (.if_icmp .ne 9, 3) := gd_16 db00g_84
theorem d_X12_findLending_194 : decode prog_14_method_124_code 194 = .ok (.ldc_w 668, 3) := gd_17 db00g_84
theorem d_X12_findLending_197 : decode prog_14_method_124_code 197 = .ok (.goto 17, 3) := gd_18 db00g_84
theorem d_X12_findLending_200 : decode prog_14_method_124_code 200 = .ok (.aload_n 0, 1) := gd_19 db00g_84
theorem d_X12_findLending_201 : decode prog_14_method_124_code 201 = .ok (.getfield 293, 3) := gd_20 db00g_84
theorem d_X12_findLending_204 : decode prog_14_method_124_code 204 = .ok (.iconst 4, 1) := gd_21 db00g_84
theorem d_X12_findLending_205 : decode prog_14_method_124_code 205 = .ok (.iload_n 1, 1) := gd_22 db00g_84
theorem d_X12_findLending_206 : decode prog_14_method_124_code 206 = .ok (.imul, 1) := gd_23 db00g_84
theorem db00g_85 : Ad_ prog_14_method_124_code [(207, .iload 4, 2), (209, .iadd, 1), (210, .iaload, 1), (211, .iload 5, 2), (213, .iadd, 1), (214, .invokestatic 617, 3), (217, .istore_n 3, 1), (218, .iinc 4 1, 3), (221, .goto (-94), 3), (224, .aload_n 0, 1), (225, .getfield 290, 3), (228, .sipush 256, 3), (231, .iload_n 1, 1), (232, .imul, 1), (233, .iload_n 2, 1), (234, .iadd, 1), (235, .iload_n 3, 1), (236, .iastore, 1), (237, .iinc 2 1, 3), (240, .goto (-138), 3), (243, .iinc 1 (-1), 3), (246, .goto (-150), 3), (249, .aload_n 0, 1), (250, .getfield 290, 3)] := bch_ok prog_14_method_124_code _ 207 (by decide +kernel)
theorem d_X12_findLending_207 : decode prog_14_method_124_code 207 = .ok (.iload 4, 2) := gd_0 db00g_85
theorem d_X12_findLending_209 : decode prog_14_method_124_code 209 = .ok (.iadd, 1) := gd_1 db00g_85
theorem d_X12_findLending_210 : decode prog_14_method_124_code 210 = .ok (.iaload, 1) := gd_2 db00g_85
theorem d_X12_findLending_211 : decode prog_14_method_124_code 211 = .ok (.iload 5, 2) := gd_3 db00g_85
theorem d_X12_findLending_213 : decode prog_14_method_124_code 213 = .ok (.iadd, 1) := gd_4 db00g_85
theorem d_X12_findLending_214 : decode prog_14_method_124_code 214 = .ok (.invokestatic 617, 3) := gd_5 db00g_85
theorem d_X12_findLending_217 : decode prog_14_method_124_code 217 = .ok (.istore_n 3, 1) := gd_6 db00g_85
theorem d_X12_findLending_218 : decode prog_14_method_124_code 218 = .ok (.iinc 4 1, 3) := gd_7 db00g_85
theorem d_X12_findLending_221 : decode prog_14_method_124_code 221 = .ok (.goto (-94), 3) := gd_8 db00g_85
theorem d_X12_findLending_224 : decode prog_14_method_124_code 224 = .ok (.aload_n 0, 1) := gd_9 db00g_85
theorem d_X12_findLending_225 : decode prog_14_method_124_code 225 = .ok (.getfield 290, 3) := gd_10 db00g_85
theorem d_X12_findLending_228 : decode prog_14_method_124_code 228 = .ok (.sipush 256, 3) := gd_11 db00g_85
theorem d_X12_findLending_231 : decode prog_14_method_124_code 231 = .ok (.iload_n 1, 1) := gd_12 db00g_85
theorem d_X12_findLending_232 : decode prog_14_method_124_code 232 = .ok (.imul, 1) := gd_13 db00g_85
theorem d_X12_findLending_233 : decode prog_14_method_124_code 233 = .ok (.iload_n 2, 1) := gd_14 db00g_85
theorem d_X12_findLending_234 : decode prog_14_method_124_code 234 = .ok (.iadd, 1) := gd_15 db00g_85
theorem d_X12_findLending_235 : decode prog_14_method_124_code 235 = .ok (.iload_n 3, 1) := gd_16 db00g_85
theorem d_X12_findLending_236 : decode prog_14_method_124_code 236 = .ok (.iastore, 1) := gd_17 db00g_85
theorem d_X12_findLending_237 : decode prog_14_method_124_code 237 = .ok (.iinc 2 1, 3) := gd_18 db00g_85
theorem d_X12_findLending_240 : decode prog_14_method_124_code 240 = .ok (.goto (-138), 3) := gd_19 db00g_85
theorem d_X12_findLending_243 : decode prog_14_method_124_code 243 = .ok (.iinc 1 (-1), 3) := gd_20 db00g_85
theorem d_X12_findLending_246 : decode prog_14_method_124_code 246 = .ok (.goto (-150), 3) := gd_21 db00g_85
theorem d_X12_findLending_249 : decode prog_14_method_124_code 249 = .ok (.aload_n 0, 1) := gd_22 db00g_85
theorem d_X12_findLending_250 : decode prog_14_method_124_code 250 = .ok (.getfield 290, 3) := gd_23 db00g_85
theorem db00g_86 : Ad_ prog_14_method_124_code [(253, .aload_n 0, 1), (254, .invokevirtual 676, 3), (257, .iaload, 1), (258, .ireturn, 1)] := bch_ok prog_14_method_124_code _ 253 (by decide +kernel)
theorem d_X12_findLending_253 : decode prog_14_method_124_code 253 = .ok (.aload_n 0, 1) := gd_0 db00g_86
theorem d_X12_findLending_254 : decode prog_14_method_124_code 254 = .ok (.invokevirtual 676, 3) := gd_1 db00g_86
theorem d_X12_findLending_257 : decode prog_14_method_124_code 257 = .ok (.iaload, 1) := gd_2 db00g_86
theorem d_X12_findLending_258 : decode prog_14_method_124_code 258 = .ok (.ireturn, 1) := gd_3 db00g_86
theorem db00g_87 : Ad_ prog_14_method_125_code [(0, .iload_n 1, 1), (1, .iconst 0, 1), (2, .iconst 1, 1), (3, .invokestatic 323, 3), (6, .ifCond .eq 10, 3), (9, .aload_n 0, 1), (10, .invokevirtual 679, 3), (13, .goto 6, 3), (16, .ldc_w 668, 3), (19, .istore_n 2, 1), (20, .iload_n 2, 1), (21, .ldc_w 668, 3), (24, .if_icmp .ne 7, 3), (27, .iconst (-1), 1), (28, .goto 20, 3), (31, .iload_n 1, 1), (32, .ifCond .ne 11, 3), (35, .iload_n 2, 1), (36, .ldc_w 669, 3), (39, .idiv, 1), (40, .goto 8, 3), (43, .iload_n 2, 1), (44, .ldc_w 669, 3), (47, .irem, 1)] := bch_ok prog_14_method_125_code _ 0 (by decide +kernel)
theorem d_X12_lending_0 : decode prog_14_method_125_code 0 = .ok (.iload_n 1, 1) := gd_0 db00g_87
theorem d_X12_lending_1 : decode prog_14_method_125_code 1 = .ok (.iconst 0, 1) := gd_1 db00g_87
theorem d_X12_lending_2 : decode prog_14_method_125_code 2 = .ok (.iconst 1, 1) := gd_2 db00g_87
theorem d_X12_lending_3 : decode prog_14_method_125_code 3 = .ok (.invokestatic 323, 3) := gd_3 db00g_87
theorem d_X12_lending_6 : decode prog_14_method_125_code 6 = .ok (.ifCond .eq 10, 3) := gd_4 db00g_87
theorem d_X12_lending_9 : decode prog_14_method_125_code 9 = .ok (.aload_n 0, 1) := gd_5 db00g_87
theorem d_X12_lending_10 : decode prog_14_method_125_code 10 = .ok (.invokevirtual 679, 3) := gd_6 db00g_87
theorem d_X12_lending_13 : decode prog_14_method_125_code 13 = .ok (.goto 6, 3) := gd_7 db00g_87
theorem d_X12_lending_16 : decode prog_14_method_125_code 16 = .ok (.ldc_w 668, 3) := gd_8 db00g_87
theorem d_X12_lending_19 : decode prog_14_method_125_code 19 = .ok (.istore_n 2, 1) := gd_9 db00g_87
theorem d_X12_lending_20 : decode prog_14_method_125_code 20 = .ok (.iload_n 2, 1) := gd_10 db00g_87
theorem d_X12_lending_21 : decode prog_14_method_125_code 21 = .ok (.ldc_w 668, 3) := gd_11 db00g_87
theorem d_X12_lending_24 : decode prog_14_method_125_code 24 = .ok (.if_icmp .ne 7, 3) := gd_12 db00g_87
theorem d_X12_lending_27 : decode prog_14_method_125_code 27 = .ok (.iconst (-1), 1) := gd_13 db00g_87
theorem d_X12_lending_28 : decode prog_14_method_125_code 28 = .ok (.goto 20, 3) := gd_14 db00g_87
theorem d_X12_lending_31 : decode prog_14_method_125_code 31 = .ok (.iload_n 1, 1) := gd_15 db00g_87
theorem d_X12_lending_32 : decode prog_14_method_125_code 32 = .ok (.ifCond .ne 11, 3) := gd_16 db00g_87
theorem d_X12_lending_35 : decode prog_14_method_125_code 35 = .ok (.iload_n 2, 1) := gd_17 db00g_87
theorem d_X12_lending_36 : decode prog_14_method_125_code 36 = .ok (.ldc_w 669, 3) := gd_18 db00g_87
theorem d_X12_lending_39 : decode prog_14_method_125_code 39 = .ok (.idiv, 1) := gd_19 db00g_87
theorem d_X12_lending_40 : decode prog_14_method_125_code 40 = .ok (.goto 8, 3) := gd_20 db00g_87
theorem d_X12_lending_43 : decode prog_14_method_125_code 43 = .ok (.iload_n 2, 1) := gd_21 db00g_87
theorem d_X12_lending_44 : decode prog_14_method_125_code 44 = .ok (.ldc_w 669, 3) := gd_22 db00g_87
theorem d_X12_lending_47 : decode prog_14_method_125_code 47 = .ok (.irem, 1) := gd_23 db00g_87
theorem d_X12_lending_48 : decode prog_14_method_125_code 48 = .ok (.ireturn, 1) := by decide +kernel
theorem db00g_88 : Ad_ prog_14_method_126_code [(0, .aload_n 0, 1), (1, .iload_n 1, 1), (2, .invokevirtual 345, 3), (5, .ifCond .eq 13, 3), (8, .aload_n 0, 1), (9, .invokevirtual 679, 3), (12, .ldc_w 668, 3), (15, .if_icmp .ne 5, 3), (18, .iconst (-1), 1), (19, .ireturn, 1), (20, .aload_n 0, 1), (21, .invokevirtual 676, 3), (24, .istore_n 2, 1), (25, .iconst (-1), 1), (26, .istore_n 3, 1), (27, .iconst 0, 1), (28, .istore 4, 2), (30, .iload 4, 2), (32, .iload_n 1, 1), (33, .if_icmp .gt 137, 3), (36, .iconst (-1), 1), (37, .istore_n 3, 1), (38, .aload_n 0, 1), (39, .getfield 665, 3)] := bch_ok prog_14_method_126_code _ 0 (by decide +kernel)
theorem d_X12_lent_0 : decode prog_14_method_126_code 0 = .ok (.aload_n 0, 1) := gd_0 db00g_88
theorem d_X12_lent_1 : decode prog_14_method_126_code 1 = .ok (.iload_n 1, 1) := gd_1 db00g_88
theorem d_X12_lent_2 : decode prog_14_method_126_code 2 = .ok (.invokevirtual 345, 3) := gd_2 db00g_88
theorem d_X12_lent_5 : decode prog_14_method_126_code 5 = .ok (.ifCond .eq 13, 3) := gd_3 db00g_88
theorem d_X12_lent_8 : decode prog_14_method_126_code 8 = .ok (.aload_n 0, 1) := gd_4 db00g_88
theorem d_X12_lent_9 : decode prog_14_method_126_code 9 = .ok (.invokevirtual 679, 3) := gd_5 db00g_88
theorem d_X12_lent_12 : decode prog_14_method_126_code 12 = .ok (.ldc_w 668, 3) := gd_6 db00g_88
theorem d_X12_lent_15 : decode prog_14_method_126_code 15 = .ok (.if_icmp .ne 5, 3) := gd_7 db00g_88
theorem d_X12_lent_18 : decode prog_14_method_126_code 18 = .ok (.iconst (-1), 1) := gd_8 db00g_88
theorem d_X12_lent_19 : decode prog_14_method_126_code 19 = .ok (.ireturn, 1) := gd_9 db00g_88
theorem d_X12_lent_20 : decode prog_14_method_126_code 20 = .ok (.aload_n 0, 1) := gd_10 db00g_88
theorem d_X12_lent_21 : decode prog_14_method_126_code 21 = .ok (.invokevirtual 676, 3) := gd_11 db00g_88
theorem d_X12_lent_24 : decode prog_14_method_126_code 24 = .ok (.istore_n 2, 1) := gd_12 db00g_88
theorem d_X12_lent_25 : decode prog_14_method_126_code 25 = .ok (.iconst (-1), 1) := gd_13 db00g_88
theorem d_X12_lent_26 : decode prog_14_method_126_code 26 = .ok (.istore_n 3, 1) := gd_14 db00g_88
theorem d_X12_lent_27 : decode prog_14_method_126_code 27 = .ok (.iconst 0, 1) := gd_15 db00g_88
theorem d_X12_lent_28 : decode prog_14_method_126_code 28 = .ok (.istore 4, 2) := gd_16 db00g_88
theorem d_X12_lent_30 : decode prog_14_method_126_code 30 = .ok (.iload 4, 2) := gd_17 db00g_88
theorem d_X12_lent_32 : decode prog_14_method_126_code 32 = .ok (.iload_n 1, 1) := gd_18 db00g_88
theorem d_X12_lent_33 : decode prog_14_method_126_code 33 = .ok (.if_icmp .gt 137, 3) := gd_19 db00g_88
theorem d_X12_lent_36 : decode prog_14_method_126_code 36 = .ok (.iconst (-1), 1) := gd_20 db00g_88
theorem d_X12_lent_37 : decode prog_14_method_126_code 37 = .ok (.istore_n 3, 1) := gd_21 db00g_88
theorem d_X12_lent_38 : decode prog_14_method_126_code 38 = .ok (.aload_n 0, 1) := gd_22 db00g_88
theorem d_X12_lent_39 : decode prog_14_method_126_code 39 = .ok (.getfield 665, 3) := gd_23 db00g_88
theorem db00g_89 : Ad_ prog_14_method_126_code [(42, .iconst 1, 1), (43, .isub, 1), (44, .istore 5, 2), (46, .iload 5, 2), (48, .ifCond .lt 99, 3), (51, .aload_n 0, 1), (52, .getfield 293, 3), (55, .iconst 4, 1), (56, .iload 4, 2), (58, .imul, 1), (59, .iload 5, 2), (61, .iadd, 1), (62, .iaload, 1), (63, .istore 6, 2), (65, .iload_n 2, 1), (66, .iload 5, 2), (68, .invokestatic 673, 3), (71, .ifCond .eq 70, 3), (74, .iload 6, 2), (76, .ldc_w 668, 3), (79, .if_icmp .ne 6, 3), (82, .goto 59, 3), (85, .aload_n 0, 1), (86, .getfield 290, 3)] := bch_ok prog_14_method_126_code _ 42 (by decide +kernel)
theorem d_X12_lent_42 : decode prog_14_method_126_code 42 = .ok (.iconst 1, 1) := gd_0 db00g_89
theorem d_X12_lent_43 : decode prog_14_method_126_code 43 = .ok (.isub, 1) := gd_1 db00g_89
theorem d_X12_lent_44 : decode prog_14_method_126_code 44 = .ok (.istore 5, 2) := gd_2 db00g_89
theorem d_X12_lent_46 : decode prog_14_method_126_code 46 = .ok (.iload 5, 2) := gd_3 db00g_89
theorem d_X12_lent_48 : decode prog_14_method_126_code 48 = .ok (.ifCond .lt 99, 3) := gd_4 db00g_89
theorem d_X12_lent_51 : decode prog_14_method_126_code 51 = .ok (.aload_n 0, 1) := gd_5 db00g_89
theorem d_X12_lent_52 : decode prog_14_method_126_code 52 = .ok (.getfield 293, 3) := gd_6 db00g_89
theorem d_X12_lent_55 : decode prog_14_method_126_code 55 = .ok (.iconst 4, 1) := gd_7 db00g_89
theorem d_X12_lent_56 : decode prog_14_method_126_code 56 = .ok (.iload 4, 2) := gd_8 db00g_89
theorem d_X12_lent_58 : decode prog_14_method_126_code 58 = .ok (.imul, 1) := gd_9 db00g_89
theorem d_X12_lent_59 : decode prog_14_method_126_code 59 = .ok (.iload 5, 2) := gd_10 db00g_89
theorem d_X12_lent_61 : decode prog_14_method_126_code 61 = .ok (.iadd, 1) := gd_11 db00g_89
theorem d_X12_lent_62 : decode prog_14_method_126_code 62 = .ok (.iaload, 1) := gd_12 db00g_89
theorem d_X12_lent_63 : decode prog_14_method_126_code 63 = .ok (.istore 6, 2) := gd_13 db00g_89
theorem d_X12_lent_65 : decode prog_14_method_126_code 65 = .ok (.iload_n 2, 1) := gd_14 db00g_89
theorem d_X12_lent_66 : decode prog_14_method_126_code 66 = .ok (.iload 5, 2) := gd_15 db00g_89
theorem d_X12_lent_68 : decode prog_14_method_126_code 68 = .ok (.invokestatic 673, 3) := gd_16 db00g_89
theorem d_X12_lent_71 : decode prog_14_method_126_code 71 = .ok (.ifCond .eq 70, 3) := gd_17 db00g_89
theorem d_X12_lent_74 : decode prog_14_method_126_code 74 = .ok (.iload 6, 2) := gd_18 db00g_89
theorem d_X12_lent_76 : decode prog_14_method_126_code 76 = .ok (.ldc_w 668, 3) := gd_19 db00g_89
theorem d_X12_lent_79 : decode prog_14_method_126_code 79 = .ok (.if_icmp .ne 6, 3) := gd_20 db00g_89
theorem d_X12_lent_82 : decode prog_14_method_126_code 82 = .ok (.goto 59, 3) := gd_21 db00g_89
theorem d_X12_lent_85 : decode prog_14_method_126_code 85 = .ok (.aload_n 0, 1) := gd_22 db00g_89
theorem d_X12_lent_86 : decode prog_14_method_126_code 86 = .ok (.getfield 290, 3) := gd_23 db00g_89
theorem db00g_90 : Ad_ prog_14_method_126_code [(89, .sipush 256, 3), (92, .iload 4, 2), (94, .iconst 1, 1), (95, .iadd, 1), (96, .imul, 1), (97, .iload_n 2, 1), (98, .iadd, 1), (99, .iconst 1, 1), (100, .iconst 2, 1), (101, .iload 5, 2), (103, .imul, 1), (104, .ishl, 1), (105, .isub, 1), (106, .iaload, 1), (107, .istore 7, 2), (109, .iload 7, 2), (111, .ldc_w 668, 3), (114, .if_icmp .ge 27, 3), (117, .iload 6, 2), (119, .iload 7, 2), (121, .iadd, 1), (122, .aload_n 0, 1), (123, .getfield 290, 3), (126, .sipush 256, 3)] := bch_ok prog_14_method_126_code _ 89 (by decide +kernel)
theorem d_X12_lent_89 : decode prog_14_method_126_code 89 = .ok (.sipush 256, 3) := gd_0 db00g_90
theorem d_X12_lent_92 : decode prog_14_method_126_code 92 = .ok (.iload 4, 2) := gd_1 db00g_90
theorem d_X12_lent_94 : decode prog_14_method_126_code 94 = .ok (.iconst 1, 1) := gd_2 db00g_90
theorem d_X12_lent_95 : decode prog_14_method_126_code 95 = .ok (.iadd, 1) := gd_3 db00g_90
theorem d_X12_lent_96 : decode prog_14_method_126_code 96 = .ok (.imul, 1) := gd_4 db00g_90
theorem d_X12_lent_97 : decode prog_14_method_126_code 97 = .ok (.iload_n 2, 1) := gd_5 db00g_90
theorem d_X12_lent_98 : decode prog_14_method_126_code 98 = .ok (.iadd, 1) := gd_6 db00g_90
theorem d_X12_lent_99 : decode prog_14_method_126_code 99 = .ok (.iconst 1, 1) := gd_7 db00g_90
theorem d_X12_lent_100 : decode prog_14_method_126_code 100 = .ok (.iconst 2, 1) := gd_8 db00g_90
theorem d_X12_lent_101 : decode prog_14_method_126_code 101 = .ok (.iload 5, 2) := gd_9 db00g_90
theorem d_X12_lent_103 : decode prog_14_method_126_code 103 = .ok (.imul, 1) := gd_10 db00g_90
theorem d_X12_lent_104 : decode prog_14_method_126_code 104 = .ok (.ishl, 1) := gd_11 db00g_90
theorem d_X12_lent_105 : decode prog_14_method_126_code 105 = .ok (.isub, 1) := gd_12 db00g_90
theorem d_X12_lent_106 : decode prog_14_method_126_code 106 = .ok (.iaload, 1) := gd_13 db00g_90
theorem d_X12_lent_107 : decode prog_14_method_126_code 107 = .ok (.istore 7, 2) := gd_14 db00g_90
theorem d_X12_lent_109 : decode prog_14_method_126_code 109 = .ok (.iload 7, 2) := gd_15 db00g_90
theorem d_X12_lent_111 : decode prog_14_method_126_code 111 = .ok (.ldc_w 668, 3) := gd_16 db00g_90
theorem d_X12_lent_114 : decode prog_14_method_126_code 114 = .ok (.if_icmp .ge 27, 3) := gd_17 db00g_90
theorem d_X12_lent_117 : decode prog_14_method_126_code 117 = .ok (.iload 6, 2) := gd_18 db00g_90
theorem d_X12_lent_119 : decode prog_14_method_126_code 119 = .ok (.iload 7, 2) := gd_19 db00g_90
theorem d_X12_lent_121 : decode prog_14_method_126_code 121 = .ok (.iadd, 1) := gd_20 db00g_90
theorem d_X12_lent_122 : decode prog_14_method_126_code 122 = .ok (.aload_n 0, 1) := gd_21 db00g_90
theorem d_X12_lent_123 : decode prog_14_method_126_code 123 = .ok (.getfield 290, 3) := gd_22 db00g_90
theorem d_X12_lent_126 : decode prog_14_method_126_code 126 = .ok (.sipush 256, 3) := gd_23 db00g_90
theorem db00g_91 : Ad_ prog_14_method_126_code [(129, .iload 4, 2), (131, .imul, 1), (132, .iload_n 2, 1), (133, .iadd, 1), (134, .iaload, 1), (135, .if_icmp .ne 6, 3), (138, .iload 5, 2), (140, .istore_n 3, 1), (141, .iinc 5 (-1), 3), (144, .goto (-98), 3), (147, .iload_n 2, 1), (148, .iload_n 3, 1), (149, .iconst (-1), 1), (150, .if_icmp .ne 7, 3), (153, .iconst 0, 1), (154, .goto 8, 3), (157, .iconst 1, 1), (158, .iconst 2, 1), (159, .iload_n 3, 1), (160, .imul, 1), (161, .ishl, 1), (162, .isub, 1), (163, .istore_n 2, 1), (164, .iinc 4 1, 3)] := bch_ok prog_14_method_126_code _ 129 (by decide +kernel)
theorem d_X12_lent_129 : decode prog_14_method_126_code 129 = .ok (.iload 4, 2) := gd_0 db00g_91
theorem d_X12_lent_131 : decode prog_14_method_126_code 131 = .ok (.imul, 1) := gd_1 db00g_91
theorem d_X12_lent_132 : decode prog_14_method_126_code 132 = .ok (.iload_n 2, 1) := gd_2 db00g_91
theorem d_X12_lent_133 : decode prog_14_method_126_code 133 = .ok (.iadd, 1) := gd_3 db00g_91
theorem d_X12_lent_134 : decode prog_14_method_126_code 134 = .ok (.iaload, 1) := gd_4 db00g_91
theorem d_X12_lent_135 : decode prog_14_method_126_code 135 = .ok (.if_icmp .ne 6, 3) := gd_5 db00g_91
theorem d_X12_lent_138 : decode prog_14_method_126_code 138 = .ok (.iload 5, 2) := gd_6 db00g_91
theorem d_X12_lent_140 : decode prog_14_method_126_code 140 = .ok (.istore_n 3, 1) := gd_7 db00g_91
theorem d_X12_lent_141 : decode prog_14_method_126_code 141 = .ok (.iinc 5 (-1), 3) := gd_8 db00g_91
theorem d_X12_lent_144 : decode prog_14_method_126_code 144 = .ok (.goto (-98), 3) := gd_9 db00g_91
theorem d_X12_lent_147 : decode prog_14_method_126_code 147 = .ok (.iload_n 2, 1) := gd_10 db00g_91
theorem d_X12_lent_148 : decode prog_14_method_126_code 148 = .ok (.iload_n 3, 1) := gd_11 db00g_91
theorem d_X12_lent_149 : decode prog_14_method_126_code 149 = .ok (.iconst (-1), 1) := gd_12 db00g_91
theorem d_X12_lent_150 : decode prog_14_method_126_code 150 = .ok (.if_icmp .ne 7, 3) := gd_13 db00g_91
theorem d_X12_lent_153 : decode prog_14_method_126_code 153 = .ok (.iconst 0, 1) := gd_14 db00g_91
theorem d_X12_lent_154 : decode prog_14_method_126_code 154 = .ok (.goto 8, 3) := gd_15 db00g_91
theorem d_X12_lent_157 : decode prog_14_method_126_code 157 = .ok (.iconst 1, 1) := gd_16 db00g_91
theorem d_X12_lent_158 : decode prog_14_method_126_code 158 = .ok (.iconst 2, 1) := gd_17 db00g_91
theorem d_X12_lent_159 : decode prog_14_method_126_code 159 = .ok (.iload_n 3, 1) := gd_18 db00g_91
theorem d_X12_lent_160 : decode prog_14_method_126_code 160 = .ok (.imul, 1) := gd_19 db00g_91
theorem d_X12_lent_161 : decode prog_14_method_126_code 161 = .ok (.ishl, 1) := gd_20 db00g_91
theorem d_X12_lent_162 : decode prog_14_method_126_code 162 = .ok (.isub, 1) := gd_21 db00g_91
theorem d_X12_lent_163 : decode prog_14_method_126_code 163 = .ok (.istore_n 2, 1) := gd_22 db00g_91
theorem d_X12_lent_164 : decode prog_14_method_126_code 164 = .ok (.iinc 4 1, 3) := gd_23 db00g_91
theorem db00g_92 : Ad_ prog_14_method_126_code [(167, .goto (-137), 3), (170, .iload_n 3, 1), (171, .ireturn, 1)] := bch_ok prog_14_method_126_code _ 167 (by decide +kernel)
theorem d_X12_lent_167 : decode prog_14_method_126_code 167 = .ok (.goto (-137), 3) := gd_0 db00g_92
theorem d_X12_lent_170 : decode prog_14_method_126_code 170 = .ok (.iload_n 3, 1) := gd_1 db00g_92
theorem d_X12_lent_171 : decode prog_14_method_126_code 171 = .ok (.ireturn, 1) := gd_2 db00g_92
theorem db00g_93 : Ad_ prog_14_method_127_code [(0, .iconst 0, 1), (1, .istore 4, 2), (3, .iconst 0, 1), (4, .istore 5, 2), (6, .iconst 0, 1), (7, .istore 6, 2), (9, .iload 6, 2), (11, .aload_n 0, 1), (12, .getfield 507, 3), (15, .if_icmp .ge 104, 3), (18, .aload_n 0, 1), (19, .getfield 126, 3), (22, .iload 6, 2), (24, .iaload, 1), (25, .iload_n 1, 1), (26, .if_icmp .ne 87, 3), (29, .aload_n 0, 1), (30, .getfield 132, 3), (33, .iload 6, 2), (35, .iaload, 1), (36, .sipush 1440, 3), (39, .idiv, 1), (40, .iload_n 2, 1), (41, .if_icmp .eq 6, 3)] := bch_ok prog_14_method_127_code _ 0 (by decide +kernel)
theorem d_X12_payOf_0 : decode prog_14_method_127_code 0 = .ok (.iconst 0, 1) := gd_0 db00g_93
theorem d_X12_payOf_1 : decode prog_14_method_127_code 1 = .ok (.istore 4, 2) := gd_1 db00g_93
theorem d_X12_payOf_3 : decode prog_14_method_127_code 3 = .ok (.iconst 0, 1) := gd_2 db00g_93
theorem d_X12_payOf_4 : decode prog_14_method_127_code 4 = .ok (.istore 5, 2) := gd_3 db00g_93
theorem d_X12_payOf_6 : decode prog_14_method_127_code 6 = .ok (.iconst 0, 1) := gd_4 db00g_93
theorem d_X12_payOf_7 : decode prog_14_method_127_code 7 = .ok (.istore 6, 2) := gd_5 db00g_93
theorem d_X12_payOf_9 : decode prog_14_method_127_code 9 = .ok (.iload 6, 2) := gd_6 db00g_93
theorem d_X12_payOf_11 : decode prog_14_method_127_code 11 = .ok (.aload_n 0, 1) := gd_7 db00g_93
theorem d_X12_payOf_12 : decode prog_14_method_127_code 12 = .ok (.getfield 507, 3) := gd_8 db00g_93
theorem d_X12_payOf_15 : decode prog_14_method_127_code 15 = .ok (.if_icmp .ge 104, 3) := gd_9 db00g_93
theorem d_X12_payOf_18 : decode prog_14_method_127_code 18 = .ok (.aload_n 0, 1) := gd_10 db00g_93
theorem d_X12_payOf_19 : decode prog_14_method_127_code 19 = .ok (.getfield 126, 3) := gd_11 db00g_93
theorem d_X12_payOf_22 : decode prog_14_method_127_code 22 = .ok (.iload 6, 2) := gd_12 db00g_93
theorem d_X12_payOf_24 : decode prog_14_method_127_code 24 = .ok (.iaload, 1) := gd_13 db00g_93
theorem d_X12_payOf_25 : decode prog_14_method_127_code 25 = .ok (.iload_n 1, 1) := gd_14 db00g_93
theorem d_X12_payOf_26 : decode prog_14_method_127_code 26 = .ok (.if_icmp .ne 87, 3) := gd_15 db00g_93
theorem d_X12_payOf_29 : decode prog_14_method_127_code 29 = .ok (.aload_n 0, 1) := gd_16 db00g_93
theorem d_X12_payOf_30 : decode prog_14_method_127_code 30 = .ok (.getfield 132, 3) := gd_17 db00g_93
theorem d_X12_payOf_33 : decode prog_14_method_127_code 33 = .ok (.iload 6, 2) := gd_18 db00g_93
theorem d_X12_payOf_35 : decode prog_14_method_127_code 35 = .ok (.iaload, 1) := gd_19 db00g_93
theorem d_X12_payOf_36 : decode prog_14_method_127_code 36 = .ok (.sipush 1440, 3) := gd_20 db00g_93
theorem d_X12_payOf_39 : decode prog_14_method_127_code 39 = .ok (.idiv, 1) := gd_21 db00g_93
theorem d_X12_payOf_40 : decode prog_14_method_127_code 40 = .ok (.iload_n 2, 1) := gd_22 db00g_93
theorem d_X12_payOf_41 : decode prog_14_method_127_code 41 = .ok (.if_icmp .eq 6, 3) := gd_23 db00g_93
theorem db00g_94 : Ad_ prog_14_method_127_code [(44, .goto 69, 3), (47, .aload_n 0, 1), (48, .iload 6, 2), (50, .iload_n 3, 1), (51, .invokevirtual 510, 3), (54, .istore 7, 2), (56, .iload 7, 2), (58, .iconst 2, 1), (59, .if_icmp .ne 13, 3), (62, .aload_n 0, 1), (63, .iload 6, 2), (65, .iload_n 3, 1), (66, .invokevirtual 513, 3), (69, .goto 4, 3), (72, .iconst 0, 1), (73, .istore 8, 2), (75, .iload 4, 2), (77, .iload 7, 2), (79, .iconst 1, 1), (80, .if_icmp .ne 7, 3), (83, .iconst 1, 1), (84, .goto 4, 3), (87, .iconst 0, 1), (88, .iadd, 1)] := bch_ok prog_14_method_127_code _ 44 (by decide +kernel)
theorem d_X12_payOf_44 : decode prog_14_method_127_code 44 = .ok (.goto 69, 3) := gd_0 db00g_94
theorem d_X12_payOf_47 : decode prog_14_method_127_code 47 = .ok (.aload_n 0, 1) := gd_1 db00g_94
theorem d_X12_payOf_48 : decode prog_14_method_127_code 48 = .ok (.iload 6, 2) := gd_2 db00g_94
theorem d_X12_payOf_50 : decode prog_14_method_127_code 50 = .ok (.iload_n 3, 1) := gd_3 db00g_94
theorem d_X12_payOf_51 : decode prog_14_method_127_code 51 = .ok (.invokevirtual 510, 3) := gd_4 db00g_94
theorem d_X12_payOf_54 : decode prog_14_method_127_code 54 = .ok (.istore 7, 2) := gd_5 db00g_94
theorem d_X12_payOf_56 : decode prog_14_method_127_code 56 = .ok (.iload 7, 2) := gd_6 db00g_94
theorem d_X12_payOf_58 : decode prog_14_method_127_code 58 = .ok (.iconst 2, 1) := gd_7 db00g_94
theorem d_X12_payOf_59 : decode prog_14_method_127_code 59 = .ok (.if_icmp .ne 13, 3) := gd_8 db00g_94
theorem d_X12_payOf_62 : decode prog_14_method_127_code 62 = .ok (.aload_n 0, 1) := gd_9 db00g_94
theorem d_X12_payOf_63 : decode prog_14_method_127_code 63 = .ok (.iload 6, 2) := gd_10 db00g_94
theorem d_X12_payOf_65 : decode prog_14_method_127_code 65 = .ok (.iload_n 3, 1) := gd_11 db00g_94
theorem d_X12_payOf_66 : decode prog_14_method_127_code 66 = .ok (.invokevirtual 513, 3) := gd_12 db00g_94
theorem d_X12_payOf_69 : decode prog_14_method_127_code 69 = .ok (.goto 4, 3) := gd_13 db00g_94
theorem d_X12_payOf_72 : decode prog_14_method_127_code 72 = .ok (.iconst 0, 1) := gd_14 db00g_94
theorem d_X12_payOf_73 : decode prog_14_method_127_code 73 = .ok (.istore 8, 2) := gd_15 db00g_94
theorem d_X12_payOf_75 : decode prog_14_method_127_code 75 = .ok (.iload 4, 2) := gd_16 db00g_94
theorem d_X12_payOf_77 : decode prog_14_method_127_code 77 = .ok (.iload 7, 2) := gd_17 db00g_94
theorem d_X12_payOf_79 : decode prog_14_method_127_code 79 = .ok (.iconst 1, 1) := gd_18 db00g_94
theorem d_X12_payOf_80 : decode prog_14_method_127_code 80 = .ok (.if_icmp .ne 7, 3) := gd_19 db00g_94
theorem d_X12_payOf_83 : decode prog_14_method_127_code 83 = .ok (.iconst 1, 1) := gd_20 db00g_94
theorem d_X12_payOf_84 : decode prog_14_method_127_code 84 = .ok (.goto 4, 3) := gd_21 db00g_94
theorem d_X12_payOf_87 : decode prog_14_method_127_code 87 = .ok (.iconst 0, 1) := gd_22 db00g_94
theorem d_X12_payOf_88 : decode prog_14_method_127_code 88 = .ok (.iadd, 1) := gd_23 db00g_94
theorem db00g_95 : Ad_ prog_14_method_127_code [(89, .istore 4, 2), (91, .iload 5, 2), (93, .iload 8, 2), (95, .iconst 1, 1), (96, .if_icmp .eq 9, 3), (99, .iload 8, 2), (101, .iconst 5, 1), (102, .if_icmp .lt 7, 3), (105, .iconst 1, 1), (106, .goto 4, 3), (109, .iconst 0, 1), (110, .iadd, 1), (111, .istore 5, 2), (113, .iinc 6 1, 3), (116, .goto (-107), 3), (119, .iconst 0, 1), (120, .istore 6, 2), (122, .iconst 0, 1), (123, .istore 7, 2), (125, .iconst 0, 1), (126, .istore 8, 2), (128, .iload 8, 2), (130, .aload_n 0, 1), (131, .getfield 516, 3)] := bch_ok prog_14_method_127_code _ 89 (by decide +kernel)
theorem d_X12_payOf_89 : decode prog_14_method_127_code 89 = .ok (.istore 4, 2) := gd_0 db00g_95
theorem d_X12_payOf_91 : decode prog_14_method_127_code 91 = .ok (.iload 5, 2) := gd_1 db00g_95
theorem d_X12_payOf_93 : decode prog_14_method_127_code 93 = .ok (.iload 8, 2) := gd_2 db00g_95
theorem d_X12_payOf_95 : decode prog_14_method_127_code 95 = .ok (.iconst 1, 1) := gd_3 db00g_95
theorem d_X12_payOf_96 : decode prog_14_method_127_code 96 = .ok (.if_icmp .eq 9, 3) := gd_4 db00g_95
theorem d_X12_payOf_99 : decode prog_14_method_127_code 99 = .ok (.iload 8, 2) := gd_5 db00g_95
theorem d_X12_payOf_101 : decode prog_14_method_127_code 101 = .ok (.iconst 5, 1) := gd_6 db00g_95
theorem d_X12_payOf_102 : decode prog_14_method_127_code 102 = .ok (.if_icmp .lt 7, 3) := gd_7 db00g_95
theorem d_X12_payOf_105 : decode prog_14_method_127_code 105 = .ok (.iconst 1, 1) := gd_8 db00g_95
theorem d_X12_payOf_106 : decode prog_14_method_127_code 106 = .ok (.goto 4, 3) := gd_9 db00g_95
theorem d_X12_payOf_109 : decode prog_14_method_127_code 109 = .ok (.iconst 0, 1) := gd_10 db00g_95
theorem d_X12_payOf_110 : decode prog_14_method_127_code 110 = .ok (.iadd, 1) := gd_11 db00g_95
theorem d_X12_payOf_111 : decode prog_14_method_127_code 111 = .ok (.istore 5, 2) := gd_12 db00g_95
theorem d_X12_payOf_113 : decode prog_14_method_127_code 113 = .ok (.iinc 6 1, 3) := gd_13 db00g_95
theorem d_X12_payOf_116 : decode prog_14_method_127_code 116 = .ok (.goto (-107), 3) := gd_14 db00g_95
theorem d_X12_payOf_119 : decode prog_14_method_127_code 119 = .ok (.iconst 0, 1) := gd_15 db00g_95
theorem d_X12_payOf_120 : decode prog_14_method_127_code 120 = .ok (.istore 6, 2) := gd_16 db00g_95
theorem d_X12_payOf_122 : decode prog_14_method_127_code 122 = .ok (.iconst 0, 1) := gd_17 db00g_95
theorem d_X12_payOf_123 : decode prog_14_method_127_code 123 = .ok (.istore 7, 2) := gd_18 db00g_95
theorem d_X12_payOf_125 : decode prog_14_method_127_code 125 = .ok (.iconst 0, 1) := gd_19 db00g_95
theorem d_X12_payOf_126 : decode prog_14_method_127_code 126 = .ok (.istore 8, 2) := gd_20 db00g_95
theorem d_X12_payOf_128 : decode prog_14_method_127_code 128 = .ok (.iload 8, 2) := gd_21 db00g_95
theorem d_X12_payOf_130 : decode prog_14_method_127_code 130 = .ok (.aload_n 0, 1) := gd_22 db00g_95
theorem d_X12_payOf_131 : decode prog_14_method_127_code 131 = .ok (.getfield 516, 3) := gd_23 db00g_95
theorem db00g_96 : Ad_ prog_14_method_127_code [(134, .if_icmp .ge 94, 3), (137, .aload_n 0, 1), (138, .getfield 178, 3), (141, .iload 8, 2), (143, .iaload, 1), (144, .iload_n 1, 1), (145, .if_icmp .ne 77, 3), (148, .aload_n 0, 1), (149, .getfield 184, 3), (152, .iload 8, 2), (154, .iaload, 1), (155, .sipush 1440, 3), (158, .idiv, 1), (159, .iload_n 2, 1), (160, .if_icmp .ne 62, 3), (163, .aload_n 0, 1), (164, .getfield 187, 3), (167, .iload 8, 2), (169, .iaload, 1), (170, .iconst 3, 1), (171, .if_icmp .ne 51, 3), (174, .aload_n 0, 1), (175, .iload 8, 2), (177, .iload_n 3, 1)] := bch_ok prog_14_method_127_code _ 134 (by decide +kernel)
theorem d_X12_payOf_134 : decode prog_14_method_127_code 134 = .ok (.if_icmp .ge 94, 3) := gd_0 db00g_96
theorem d_X12_payOf_137 : decode prog_14_method_127_code 137 = .ok (.aload_n 0, 1) := gd_1 db00g_96
theorem d_X12_payOf_138 : decode prog_14_method_127_code 138 = .ok (.getfield 178, 3) := gd_2 db00g_96
theorem d_X12_payOf_141 : decode prog_14_method_127_code 141 = .ok (.iload 8, 2) := gd_3 db00g_96
theorem d_X12_payOf_143 : decode prog_14_method_127_code 143 = .ok (.iaload, 1) := gd_4 db00g_96
theorem d_X12_payOf_144 : decode prog_14_method_127_code 144 = .ok (.iload_n 1, 1) := gd_5 db00g_96
theorem d_X12_payOf_145 : decode prog_14_method_127_code 145 = .ok (.if_icmp .ne 77, 3) := gd_6 db00g_96
theorem d_X12_payOf_148 : decode prog_14_method_127_code 148 = .ok (.aload_n 0, 1) := gd_7 db00g_96
theorem d_X12_payOf_149 : decode prog_14_method_127_code 149 = .ok (.getfield 184, 3) := gd_8 db00g_96
theorem d_X12_payOf_152 : decode prog_14_method_127_code 152 = .ok (.iload 8, 2) := gd_9 db00g_96
theorem d_X12_payOf_154 : decode prog_14_method_127_code 154 = .ok (.iaload, 1) := gd_10 db00g_96
theorem d_X12_payOf_155 : decode prog_14_method_127_code 155 = .ok (.sipush 1440, 3) := gd_11 db00g_96
theorem d_X12_payOf_158 : decode prog_14_method_127_code 158 = .ok (.idiv, 1) := gd_12 db00g_96
theorem d_X12_payOf_159 : decode prog_14_method_127_code 159 = .ok (.iload_n 2, 1) := gd_13 db00g_96
theorem d_X12_payOf_160 : decode prog_14_method_127_code 160 = .ok (.if_icmp .ne 62, 3) := gd_14 db00g_96
theorem d_X12_payOf_163 : decode prog_14_method_127_code 163 = .ok (.aload_n 0, 1) := gd_15 db00g_96
theorem d_X12_payOf_164 : decode prog_14_method_127_code 164 = .ok (.getfield 187, 3) := gd_16 db00g_96
theorem d_X12_payOf_167 : decode prog_14_method_127_code 167 = .ok (.iload 8, 2) := gd_17 db00g_96
theorem d_X12_payOf_169 : decode prog_14_method_127_code 169 = .ok (.iaload, 1) := gd_18 db00g_96
theorem d_X12_payOf_170 : decode prog_14_method_127_code 170 = .ok (.iconst 3, 1) := gd_19 db00g_96
theorem d_X12_payOf_171 : decode prog_14_method_127_code 171 = .ok (.if_icmp .ne 51, 3) := gd_20 db00g_96
theorem d_X12_payOf_174 : decode prog_14_method_127_code 174 = .ok (.aload_n 0, 1) := gd_21 db00g_96
theorem d_X12_payOf_175 : decode prog_14_method_127_code 175 = .ok (.iload 8, 2) := gd_22 db00g_96
theorem d_X12_payOf_177 : decode prog_14_method_127_code 177 = .ok (.iload_n 3, 1) := gd_23 db00g_96
theorem db00g_97 : Ad_ prog_14_method_127_code [(178, .invokevirtual 573, 3), (181, .iconst 3, 1), (182, .if_icmp .ne 7, 3), (185, .iconst 1, 1), (186, .goto 4, 3), (189, .iconst 0, 1), (190, .istore 9, 2), (192, .iload 6, 2), (194, .iload 9, 2), (196, .ifCond .eq 7, 3), (199, .iconst 1, 1), (200, .goto 4, 3), (203, .iconst 0, 1), (204, .iadd, 1), (205, .istore 6, 2), (207, .iload 7, 2), (209, .iload 9, 2), (211, .ifCond .eq 7, 3), (214, .iconst 0, 1), (215, .goto 4, 3), (218, .iconst 1, 1), (219, .iadd, 1), (220, .istore 7, 2), (222, .iinc 8 1, 3)] := bch_ok prog_14_method_127_code _ 178 (by decide +kernel)
theorem d_X12_payOf_178 : decode prog_14_method_127_code 178 = .ok (.invokevirtual 573, 3) := gd_0 db00g_97
theorem d_X12_payOf_181 : decode prog_14_method_127_code 181 = .ok (.iconst 3, 1) := gd_1 db00g_97
theorem d_X12_payOf_182 : decode prog_14_method_127_code 182 = .ok (.if_icmp .ne 7, 3) := gd_2 db00g_97
theorem d_X12_payOf_185 : decode prog_14_method_127_code 185 = .ok (.iconst 1, 1) := gd_3 db00g_97
theorem d_X12_payOf_186 : decode prog_14_method_127_code 186 = .ok (.goto 4, 3) := gd_4 db00g_97
theorem d_X12_payOf_189 : decode prog_14_method_127_code 189 = .ok (.iconst 0, 1) := gd_5 db00g_97
theorem d_X12_payOf_190 : decode prog_14_method_127_code 190 = .ok (.istore 9, 2) := gd_6 db00g_97
theorem d_X12_payOf_192 : decode prog_14_method_127_code 192 = .ok (.iload 6, 2) := gd_7 db00g_97
theorem d_X12_payOf_194 : decode prog_14_method_127_code 194 = .ok (.iload 9, 2) := gd_8 db00g_97
theorem d_X12_payOf_196 : decode prog_14_method_127_code 196 = .ok (.ifCond .eq 7, 3) := gd_9 db00g_97
theorem d_X12_payOf_199 : decode prog_14_method_127_code 199 = .ok (.iconst 1, 1) := gd_10 db00g_97
theorem d_X12_payOf_200 : decode prog_14_method_127_code 200 = .ok (.goto 4, 3) := gd_11 db00g_97
theorem d_X12_payOf_203 : decode prog_14_method_127_code 203 = .ok (.iconst 0, 1) := gd_12 db00g_97
theorem d_X12_payOf_204 : decode prog_14_method_127_code 204 = .ok (.iadd, 1) := gd_13 db00g_97
theorem d_X12_payOf_205 : decode prog_14_method_127_code 205 = .ok (.istore 6, 2) := gd_14 db00g_97
theorem d_X12_payOf_207 : decode prog_14_method_127_code 207 = .ok (.iload 7, 2) := gd_15 db00g_97
theorem d_X12_payOf_209 : decode prog_14_method_127_code 209 = .ok (.iload 9, 2) := gd_16 db00g_97
theorem d_X12_payOf_211 : decode prog_14_method_127_code 211 = .ok (.ifCond .eq 7, 3) := gd_17 db00g_97
theorem d_X12_payOf_214 : decode prog_14_method_127_code 214 = .ok (.iconst 0, 1) := gd_18 db00g_97
theorem d_X12_payOf_215 : decode prog_14_method_127_code 215 = .ok (.goto 4, 3) := gd_19 db00g_97
theorem d_X12_payOf_218 : decode prog_14_method_127_code 218 = .ok (.iconst 1, 1) := gd_20 db00g_97
theorem d_X12_payOf_219 : decode prog_14_method_127_code 219 = .ok (.iadd, 1) := gd_21 db00g_97
theorem d_X12_payOf_220 : decode prog_14_method_127_code 220 = .ok (.istore 7, 2) := gd_22 db00g_97
theorem d_X12_payOf_222 : decode prog_14_method_127_code 222 = .ok (.iinc 8 1, 3) := gd_23 db00g_97
theorem db00g_98 : Ad_ prog_14_method_127_code [(225, .goto (-97), 3), (228, .aload_n 0, 1), (229, .getfield 120, 3), (232, .bipush 99, 2), (234, .aload_n 0, 1), (235, .iload_n 1, 1), (236, .iload_n 2, 1), (237, .iload_n 3, 1), (238, .invokevirtual 354, 3), (241, .iastore, 1), (242, .aload_n 0, 1), (243, .getfield 120, 3), (246, .bipush 121, 2), (248, .aload_n 0, 1), (249, .getfield 25, 3), (252, .iload_n 1, 1), (253, .iaload, 1), (254, .iastore, 1), (255, .aload_n 0, 1), (256, .getfield 120, 3), (259, .bipush 109, 2), (261, .iload 4, 2)] := bch_ok prog_14_method_127_code _ 225 (by decide +kernel)
theorem d_X12_payOf_225 : decode prog_14_method_127_code 225 = .ok (.goto (-97), 3) := gd_0 db00g_98
theorem d_X12_payOf_228 : decode prog_14_method_127_code 228 = .ok (.aload_n 0, 1) := gd_1 db00g_98
theorem d_X12_payOf_229 : decode prog_14_method_127_code 229 = .ok (.getfield 120, 3) := gd_2 db00g_98
theorem d_X12_payOf_232 : decode prog_14_method_127_code 232 = .ok (.bipush 99, 2) := gd_3 db00g_98
theorem d_X12_payOf_234 : decode prog_14_method_127_code 234 = .ok (.aload_n 0, 1) := gd_4 db00g_98
theorem d_X12_payOf_235 : decode prog_14_method_127_code 235 = .ok (.iload_n 1, 1) := gd_5 db00g_98
theorem d_X12_payOf_236 : decode prog_14_method_127_code 236 = .ok (.iload_n 2, 1) := gd_6 db00g_98
theorem d_X12_payOf_237 : decode prog_14_method_127_code 237 = .ok (.iload_n 3, 1) := gd_7 db00g_98
theorem d_X12_payOf_238 : decode prog_14_method_127_code 238 = .ok (.invokevirtual 354, 3) := gd_8 db00g_98
theorem d_X12_payOf_241 : decode prog_14_method_127_code 241 = .ok (.iastore, 1) := gd_9 db00g_98
theorem d_X12_payOf_242 : decode prog_14_method_127_code 242 = .ok (.aload_n 0, 1) := gd_10 db00g_98
theorem d_X12_payOf_243 : decode prog_14_method_127_code 243 = .ok (.getfield 120, 3) := gd_11 db00g_98
theorem d_X12_payOf_246 : decode prog_14_method_127_code 246 = .ok (.bipush 121, 2) := gd_12 db00g_98
theorem d_X12_payOf_248 : decode prog_14_method_127_code 248 = .ok (.aload_n 0, 1) := gd_13 db00g_98
theorem d_X12_payOf_249 : decode prog_14_method_127_code 249 = .ok (.getfield 25, 3) := gd_14 db00g_98
theorem d_X12_payOf_252 : decode prog_14_method_127_code 252 = .ok (.iload_n 1, 1) := gd_15 db00g_98
theorem d_X12_payOf_253 : decode prog_14_method_127_code 253 = .ok (.iaload, 1) := gd_16 db00g_98
theorem d_X12_payOf_254 : decode prog_14_method_127_code 254 = .ok (.iastore, 1) := gd_17 db00g_98
theorem d_X12_payOf_255 : decode prog_14_method_127_code 255 = .ok (.aload_n 0, 1) := gd_18 db00g_98
theorem d_X12_payOf_256 : decode prog_14_method_127_code 256 = .ok (.getfield 120, 3) := gd_19 db00g_98
theorem d_X12_payOf_259 : decode prog_14_method_127_code 259 = .ok (.bipush 109, 2) := gd_20 db00g_98
theorem d_X12_payOf_261 : decode prog_14_method_127_code 261 = .ok (.iload 4, 2) := gd_21 db00g_98
