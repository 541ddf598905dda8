section
theorem db00g_0 : Pf_ prog_14_method_90_code [(37, [0x2e]), (38, [0x15, 0x06]), (40, [0xa0, 0x00, 0x28]), (43, [0x2a]), (44, [0xb4, 0x00, 0xd3]), (47, [0x15, 0x08]), (49, [0x2e]), (50, [0x1b]), (51, [0xa0, 0x00, 0x1d]), (54, [0x2a]), (55, [0xb4, 0x00, 0xd6]), (58, [0x15, 0x08]), (60, [0x2e]), (61, [0x1c]), (62, [0xa0, 0x00, 0x12]), (65, [0x2a]), (66, [0xb4, 0x00, 0xdc]), (69, [0x15, 0x08]), (71, [0x2e]), (72, [0x1d]), (73, [0xa3, 0x00, 0x07]), (76, [0x15, 0x08]), (78, [0x36, 0x07]), (80, [0x84, 0x08, 0x01])] := pf_ok prog_14_method_90_code _ 37 (by decide +kernel)
theorem d_X12_factOf_37 : decode prog_14_method_90_code 37 = .ok (.iaload, 1) := gq_0 db00g_0 eb_37
theorem d_X12_factOf_38 : decode prog_14_method_90_code 38 = .ok (.iload 6, 2) := gq_1 db00g_0 eb_75
theorem d_X12_factOf_40 : decode prog_14_method_90_code 40 = .ok (.if_icmp .ne 40, 3) := gq_2 db00g_0 eb_1168
theorem d_X12_factOf_43 : decode prog_14_method_90_code 43 = .ok (.aload_n 0, 1) := gq_3 db00g_0 eb_0
theorem d_X12_factOf_44 : decode prog_14_method_90_code 44 = .ok (.getfield 211, 3) := gq_4 db00g_0 eb_1161
theorem d_X12_factOf_47 : decode prog_14_method_90_code 47 = .ok (.iload 8, 2) := gq_5 db00g_0 eb_64
theorem d_X12_factOf_49 : decode prog_14_method_90_code 49 = .ok (.iaload, 1) := gq_6 db00g_0 eb_37
theorem d_X12_factOf_50 : decode prog_14_method_90_code 50 = .ok (.iload_n 1, 1) := gq_7 db00g_0 eb_9
theorem d_X12_factOf_51 : decode prog_14_method_90_code 51 = .ok (.if_icmp .ne 29, 3) := gq_8 db00g_0 eb_311
theorem d_X12_factOf_54 : decode prog_14_method_90_code 54 = .ok (.aload_n 0, 1) := gq_9 db00g_0 eb_0
theorem d_X12_factOf_55 : decode prog_14_method_90_code 55 = .ok (.getfield 214, 3) := gq_10 db00g_0 eb_1162
theorem d_X12_factOf_58 : decode prog_14_method_90_code 58 = .ok (.iload 8, 2) := gq_11 db00g_0 eb_64
theorem d_X12_factOf_60 : decode prog_14_method_90_code 60 = .ok (.iaload, 1) := gq_12 db00g_0 eb_37
theorem d_X12_factOf_61 : decode prog_14_method_90_code 61 = .ok (.iload_n 2, 1) := gq_13 db00g_0 eb_13
theorem d_X12_factOf_62 : decode prog_14_method_90_code 62 = .ok (.if_icmp .ne 18, 3) := gq_14 db00g_0 eb_1072
theorem d_X12_factOf_65 : decode prog_14_method_90_code 65 = .ok (.aload_n 0, 1) := gq_15 db00g_0 eb_0
theorem d_X12_factOf_66 : decode prog_14_method_90_code 66 = .ok (.getfield 220, 3) := gq_16 db00g_0 eb_1165
theorem d_X12_factOf_69 : decode prog_14_method_90_code 69 = .ok (.iload 8, 2) := gq_17 db00g_0 eb_64
theorem d_X12_factOf_71 : decode prog_14_method_90_code 71 = .ok (.iaload, 1) := gq_18 db00g_0 eb_37
theorem d_X12_factOf_72 : decode prog_14_method_90_code 72 = .ok (.iload_n 3, 1) := gq_19 db00g_0 eb_29
theorem d_X12_factOf_73 : decode prog_14_method_90_code 73 = .ok (.if_icmp .gt 7, 3) := gq_20 db00g_0 eb_113
theorem d_X12_factOf_76 : decode prog_14_method_90_code 76 = .ok (.iload 8, 2) := gq_21 db00g_0 eb_64
theorem d_X12_factOf_78 : decode prog_14_method_90_code 78 = .ok (.istore 7, 2) := gq_22 db00g_0 eb_59
theorem d_X12_factOf_80 : decode prog_14_method_90_code 80 = .ok (.iinc 8 1, 3) := gq_23 db00g_0 eb_183
theorem db00g_1 : Pf_ prog_14_method_90_code [(83, [0xa7, 0xff, 0xc3]), (86, [0x15, 0x07]), (88, [0x02]), (89, [0x9f, 0x00, 0x43]), (92, [0x2a]), (93, [0xb4, 0x00, 0xe5]), (96, [0x15, 0x06]), (98, [0x33]), (99, [0x99, 0x00, 0x11]), (102, [0x2a]), (103, [0xb4, 0x00, 0xe2]), (106, [0x15, 0x06]), (108, [0x2e]), (109, [0x1d]), (110, [0xa3, 0x00, 0x06]), (113, [0xa7, 0x00, 0x2b]), (116, [0x15, 0x04]), (118, [0x2a]), (119, [0xb4, 0x00, 0xdf]), (122, [0x15, 0x07]), (124, [0x33]), (125, [0x99, 0x00, 0x07]), (128, [0x04]), (129, [0xa7, 0x00, 0x04])] := pf_ok prog_14_method_90_code _ 83 (by decide +kernel)
theorem d_X12_factOf_83 : decode prog_14_method_90_code 83 = .ok (.goto (-61), 3) := gq_0 db00g_1 eb_641
theorem d_X12_factOf_86 : decode prog_14_method_90_code 86 = .ok (.iload 7, 2) := gq_1 db00g_1 eb_73
theorem d_X12_factOf_88 : decode prog_14_method_90_code 88 = .ok (.iconst (-1), 1) := gq_2 db00g_1 eb_26
theorem d_X12_factOf_89 : decode prog_14_method_90_code 89 = .ok (.if_icmp .eq 67, 3) := gq_3 db00g_1 eb_1169
theorem d_X12_factOf_92 : decode prog_14_method_90_code 92 = .ok (.aload_n 0, 1) := gq_4 db00g_1 eb_0
theorem d_X12_factOf_93 : decode prog_14_method_90_code 93 = .ok (.getfield 229, 3) := gq_5 db00g_1 eb_1159
theorem d_X12_factOf_96 : decode prog_14_method_90_code 96 = .ok (.iload 6, 2) := gq_6 db00g_1 eb_75
theorem d_X12_factOf_98 : decode prog_14_method_90_code 98 = .ok (.baload, 1) := gq_7 db00g_1 eb_248
theorem d_X12_factOf_99 : decode prog_14_method_90_code 99 = .ok (.ifCond .eq 17, 3) := gq_8 db00g_1 eb_112
theorem d_X12_factOf_102 : decode prog_14_method_90_code 102 = .ok (.aload_n 0, 1) := gq_9 db00g_1 eb_0
theorem d_X12_factOf_103 : decode prog_14_method_90_code 103 = .ok (.getfield 226, 3) := gq_10 db00g_1 eb_1170
theorem d_X12_factOf_106 : decode prog_14_method_90_code 106 = .ok (.iload 6, 2) := gq_11 db00g_1 eb_75
theorem d_X12_factOf_108 : decode prog_14_method_90_code 108 = .ok (.iaload, 1) := gq_12 db00g_1 eb_37
theorem d_X12_factOf_109 : decode prog_14_method_90_code 109 = .ok (.iload_n 3, 1) := gq_13 db00g_1 eb_29
theorem d_X12_factOf_110 : decode prog_14_method_90_code 110 = .ok (.if_icmp .gt 6, 3) := gq_14 db00g_1 eb_306
theorem d_X12_factOf_113 : decode prog_14_method_90_code 113 = .ok (.goto 43, 3) := gq_15 db00g_1 eb_1171
theorem d_X12_factOf_116 : decode prog_14_method_90_code 116 = .ok (.iload 4, 2) := gq_16 db00g_1 eb_76
theorem d_X12_factOf_118 : decode prog_14_method_90_code 118 = .ok (.aload_n 0, 1) := gq_17 db00g_1 eb_0
theorem d_X12_factOf_119 : decode prog_14_method_90_code 119 = .ok (.getfield 223, 3) := gq_18 db00g_1 eb_1164
theorem d_X12_factOf_122 : decode prog_14_method_90_code 122 = .ok (.iload 7, 2) := gq_19 db00g_1 eb_73
theorem d_X12_factOf_124 : decode prog_14_method_90_code 124 = .ok (.baload, 1) := gq_20 db00g_1 eb_248
theorem d_X12_factOf_125 : decode prog_14_method_90_code 125 = .ok (.ifCond .eq 7, 3) := gq_21 db00g_1 eb_123
theorem d_X12_factOf_128 : decode prog_14_method_90_code 128 = .ok (.iconst 1, 1) := gq_22 db00g_1 eb_19
theorem d_X12_factOf_129 : decode prog_14_method_90_code 129 = .ok (.goto 4, 3) := gq_23 db00g_1 eb_20
theorem db00g_2 : Pf_ prog_14_method_90_code [(132, [0x03]), (133, [0x60]), (134, [0x36, 0x04]), (136, [0x15, 0x05]), (138, [0x2a]), (139, [0xb4, 0x00, 0xdf]), (142, [0x15, 0x07]), (144, [0x33]), (145, [0x99, 0x00, 0x07]), (148, [0x03]), (149, [0xa7, 0x00, 0x04]), (152, [0x04]), (153, [0x60]), (154, [0x36, 0x05]), (156, [0x84, 0x06, 0x01]), (159, [0xa7, 0xff, 0x6a]), (162, [0x15, 0x04]), (164, [0x9e, 0x00, 0x0a]), (167, [0x15, 0x05]), (169, [0x9e, 0x00, 0x05]), (172, [0x06]), (173, [0xac]), (174, [0x15, 0x04]), (176, [0x2a])] := pf_ok prog_14_method_90_code _ 132 (by decide +kernel)
theorem d_X12_factOf_132 : decode prog_14_method_90_code 132 = .ok (.iconst 0, 1) := gq_0 db00g_2 eb_21
theorem d_X12_factOf_133 : decode prog_14_method_90_code 133 = .ok (.iadd, 1) := gq_1 db00g_2 eb_35
theorem d_X12_factOf_134 : decode prog_14_method_90_code 134 = .ok (.istore 4, 2) := gq_2 db00g_2 eb_133
theorem d_X12_factOf_136 : decode prog_14_method_90_code 136 = .ok (.iload 5, 2) := gq_3 db00g_2 eb_125
theorem d_X12_factOf_138 : decode prog_14_method_90_code 138 = .ok (.aload_n 0, 1) := gq_4 db00g_2 eb_0
theorem d_X12_factOf_139 : decode prog_14_method_90_code 139 = .ok (.getfield 223, 3) := gq_5 db00g_2 eb_1164
theorem d_X12_factOf_142 : decode prog_14_method_90_code 142 = .ok (.iload 7, 2) := gq_6 db00g_2 eb_73
theorem d_X12_factOf_144 : decode prog_14_method_90_code 144 = .ok (.baload, 1) := gq_7 db00g_2 eb_248
theorem d_X12_factOf_145 : decode prog_14_method_90_code 145 = .ok (.ifCond .eq 7, 3) := gq_8 db00g_2 eb_123
theorem d_X12_factOf_148 : decode prog_14_method_90_code 148 = .ok (.iconst 0, 1) := gq_9 db00g_2 eb_21
theorem d_X12_factOf_149 : decode prog_14_method_90_code 149 = .ok (.goto 4, 3) := gq_10 db00g_2 eb_20
theorem d_X12_factOf_152 : decode prog_14_method_90_code 152 = .ok (.iconst 1, 1) := gq_11 db00g_2 eb_19
theorem d_X12_factOf_153 : decode prog_14_method_90_code 153 = .ok (.iadd, 1) := gq_12 db00g_2 eb_35
theorem d_X12_factOf_154 : decode prog_14_method_90_code 154 = .ok (.istore 5, 2) := gq_13 db00g_2 eb_134
theorem d_X12_factOf_156 : decode prog_14_method_90_code 156 = .ok (.iinc 6 1, 3) := gq_14 db00g_2 eb_72
theorem d_X12_factOf_159 : decode prog_14_method_90_code 159 = .ok (.goto (-150), 3) := gq_15 db00g_2 eb_1172
theorem d_X12_factOf_162 : decode prog_14_method_90_code 162 = .ok (.iload 4, 2) := gq_16 db00g_2 eb_76
theorem d_X12_factOf_164 : decode prog_14_method_90_code 164 = .ok (.ifCond .le 10, 3) := gq_17 db00g_2 eb_1173
theorem d_X12_factOf_167 : decode prog_14_method_90_code 167 = .ok (.iload 5, 2) := gq_18 db00g_2 eb_125
theorem d_X12_factOf_169 : decode prog_14_method_90_code 169 = .ok (.ifCond .le 5, 3) := gq_19 db00g_2 eb_153
theorem d_X12_factOf_172 : decode prog_14_method_90_code 172 = .ok (.iconst 3, 1) := gq_20 db00g_2 eb_54
theorem d_X12_factOf_173 : decode prog_14_method_90_code 173 = .ok (.ireturn, 1) := gq_21 db00g_2 eb_15
theorem d_X12_factOf_174 : decode prog_14_method_90_code 174 = .ok (.iload 4, 2) := gq_22 db00g_2 eb_76
theorem d_X12_factOf_176 : decode prog_14_method_90_code 176 = .ok (.aload_n 0, 1) := gq_23 db00g_2 eb_0
theorem db00g_3 : Pf_ prog_14_method_90_code [(177, [0xb4, 0x00, 0xd0]), (180, [0x1c]), (181, [0x2e]), (182, [0xa1, 0x00, 0x07]), (185, [0x04]), (186, [0xa7, 0x00, 0x13]), (189, [0x15, 0x05]), (191, [0x2a]), (192, [0xb4, 0x00, 0xd0]), (195, [0x1c]), (196, [0x2e]), (197, [0xa1, 0x00, 0x07]), (200, [0x05]), (201, [0xa7, 0x00, 0x04]), (204, [0x03]), (205, [0xac])] := pf_ok prog_14_method_90_code _ 177 (by decide +kernel)
theorem d_X12_factOf_177 : decode prog_14_method_90_code 177 = .ok (.getfield 208, 3) := gq_0 db00g_3 eb_912
theorem d_X12_factOf_180 : decode prog_14_method_90_code 180 = .ok (.iload_n 2, 1) := gq_1 db00g_3 eb_13
theorem d_X12_factOf_181 : decode prog_14_method_90_code 181 = .ok (.iaload, 1) := gq_2 db00g_3 eb_37
theorem d_X12_factOf_182 : decode prog_14_method_90_code 182 = .ok (.if_icmp .lt 7, 3) := gq_3 db00g_3 eb_154
theorem d_X12_factOf_185 : decode prog_14_method_90_code 185 = .ok (.iconst 1, 1) := gq_4 db00g_3 eb_19
theorem d_X12_factOf_186 : decode prog_14_method_90_code 186 = .ok (.goto 19, 3) := gq_5 db00g_3 eb_1104
theorem d_X12_factOf_189 : decode prog_14_method_90_code 189 = .ok (.iload 5, 2) := gq_6 db00g_3 eb_125
theorem d_X12_factOf_191 : decode prog_14_method_90_code 191 = .ok (.aload_n 0, 1) := gq_7 db00g_3 eb_0
theorem d_X12_factOf_192 : decode prog_14_method_90_code 192 = .ok (.getfield 208, 3) := gq_8 db00g_3 eb_912
theorem d_X12_factOf_195 : decode prog_14_method_90_code 195 = .ok (.iload_n 2, 1) := gq_9 db00g_3 eb_13
theorem d_X12_factOf_196 : decode prog_14_method_90_code 196 = .ok (.iaload, 1) := gq_10 db00g_3 eb_37
theorem d_X12_factOf_197 : decode prog_14_method_90_code 197 = .ok (.if_icmp .lt 7, 3) := gq_11 db00g_3 eb_154
theorem d_X12_factOf_200 : decode prog_14_method_90_code 200 = .ok (.iconst 2, 1) := gq_12 db00g_3 eb_10
theorem d_X12_factOf_201 : decode prog_14_method_90_code 201 = .ok (.goto 4, 3) := gq_13 db00g_3 eb_20
theorem d_X12_factOf_204 : decode prog_14_method_90_code 204 = .ok (.iconst 0, 1) := gq_14 db00g_3 eb_21
theorem d_X12_factOf_205 : decode prog_14_method_90_code 205 = .ok (.ireturn, 1) := gq_15 db00g_3 eb_15
theorem db00g_4 : Pf_ prog_14_method_91_code [(0, [0x2a]), (1, [0x1b]), (2, [0xb6, 0x02, 0x4c]), (5, [0x99, 0x00, 0x19]), (8, [0x2a]), (9, [0x1c]), (10, [0xb6, 0x01, 0x5f]), (13, [0x99, 0x00, 0x11]), (16, [0x2a]), (17, [0xb4, 0x00, 0xca]), (20, [0x1b]), (21, [0x2e]), (22, [0x1c]), (23, [0xa3, 0x00, 0x07]), (26, [0x04]), (27, [0xa7, 0x00, 0x04]), (30, [0x03]), (31, [0xac])] := pf_ok prog_14_method_91_code _ 0 (by decide +kernel)
theorem d_X12_isOpen_0 : decode prog_14_method_91_code 0 = .ok (.aload_n 0, 1) := gq_0 db00g_4 eb_0
theorem d_X12_isOpen_1 : decode prog_14_method_91_code 1 = .ok (.iload_n 1, 1) := gq_1 db00g_4 eb_9
theorem d_X12_isOpen_2 : decode prog_14_method_91_code 2 = .ok (.invokevirtual 588, 3) := gq_2 db00g_4 eb_1158
theorem d_X12_isOpen_5 : decode prog_14_method_91_code 5 = .ok (.ifCond .eq 25, 3) := gq_3 db00g_4 eb_293
theorem d_X12_isOpen_8 : decode prog_14_method_91_code 8 = .ok (.aload_n 0, 1) := gq_4 db00g_4 eb_0
theorem d_X12_isOpen_9 : decode prog_14_method_91_code 9 = .ok (.iload_n 2, 1) := gq_5 db00g_4 eb_13
theorem d_X12_isOpen_10 : decode prog_14_method_91_code 10 = .ok (.invokevirtual 351, 3) := gq_6 db00g_4 eb_938
theorem d_X12_isOpen_13 : decode prog_14_method_91_code 13 = .ok (.ifCond .eq 17, 3) := gq_7 db00g_4 eb_112
theorem d_X12_isOpen_16 : decode prog_14_method_91_code 16 = .ok (.aload_n 0, 1) := gq_8 db00g_4 eb_0
theorem d_X12_isOpen_17 : decode prog_14_method_91_code 17 = .ok (.getfield 202, 3) := gq_9 db00g_4 eb_1154
theorem d_X12_isOpen_20 : decode prog_14_method_91_code 20 = .ok (.iload_n 1, 1) := gq_10 db00g_4 eb_9
theorem d_X12_isOpen_21 : decode prog_14_method_91_code 21 = .ok (.iaload, 1) := gq_11 db00g_4 eb_37
theorem d_X12_isOpen_22 : decode prog_14_method_91_code 22 = .ok (.iload_n 2, 1) := gq_12 db00g_4 eb_13
theorem d_X12_isOpen_23 : decode prog_14_method_91_code 23 = .ok (.if_icmp .gt 7, 3) := gq_13 db00g_4 eb_113
theorem d_X12_isOpen_26 : decode prog_14_method_91_code 26 = .ok (.iconst 1, 1) := gq_14 db00g_4 eb_19
theorem d_X12_isOpen_27 : decode prog_14_method_91_code 27 = .ok (.goto 4, 3) := gq_15 db00g_4 eb_20
theorem d_X12_isOpen_30 : decode prog_14_method_91_code 30 = .ok (.iconst 0, 1) := gq_16 db00g_4 eb_21
theorem d_X12_isOpen_31 : decode prog_14_method_91_code 31 = .ok (.ireturn, 1) := gq_17 db00g_4 eb_15
theorem db00g_5 : Pf_ prog_14_method_92_code [(0, [0x2a]), (1, [0x1b]), (2, [0x1d]), (3, [0xb6, 0x02, 0x52]), (6, [0x99, 0x00, 0x17]), (9, [0x1c]), (10, [0x03]), (11, [0x10, 0x07]), (13, [0xb8, 0x01, 0x43]), (16, [0x99, 0x00, 0x0d]), (19, [0x2a]), (20, [0x1b]), (21, [0x1c]), (22, [0x1d]), (23, [0xb6, 0x02, 0x55]), (26, [0xa7, 0x00, 0x04]), (29, [0x02]), (30, [0xac])] := pf_ok prog_14_method_92_code _ 0 (by decide +kernel)
theorem d_X12_fact_0 : decode prog_14_method_92_code 0 = .ok (.aload_n 0, 1) := gq_0 db00g_5 eb_0
theorem d_X12_fact_1 : decode prog_14_method_92_code 1 = .ok (.iload_n 1, 1) := gq_1 db00g_5 eb_9
theorem d_X12_fact_2 : decode prog_14_method_92_code 2 = .ok (.iload_n 3, 1) := gq_2 db00g_5 eb_29
theorem d_X12_fact_3 : decode prog_14_method_92_code 3 = .ok (.invokevirtual 594, 3) := gq_3 db00g_5 eb_1174
theorem d_X12_fact_6 : decode prog_14_method_92_code 6 = .ok (.ifCond .eq 23, 3) := gq_4 db00g_5 eb_204
theorem d_X12_fact_9 : decode prog_14_method_92_code 9 = .ok (.iload_n 2, 1) := gq_5 db00g_5 eb_13
theorem d_X12_fact_10 : decode prog_14_method_92_code 10 = .ok (.iconst 0, 1) := gq_6 db00g_5 eb_21
theorem d_X12_fact_11 : decode prog_14_method_92_code 11 = .ok (.bipush 7, 2) := gq_7 db00g_5 eb_132
theorem d_X12_fact_13 : decode prog_14_method_92_code 13 = .ok (.invokestatic 323, 3) := gq_8 db00g_5 eb_913
theorem d_X12_fact_16 : decode prog_14_method_92_code 16 = .ok (.ifCond .eq 13, 3) := gq_9 db00g_5 eb_119
theorem d_X12_fact_19 : decode prog_14_method_92_code 19 = .ok (.aload_n 0, 1) := gq_10 db00g_5 eb_0
theorem d_X12_fact_20 : decode prog_14_method_92_code 20 = .ok (.iload_n 1, 1) := gq_11 db00g_5 eb_9
theorem d_X12_fact_21 : decode prog_14_method_92_code 21 = .ok (.iload_n 2, 1) := gq_12 db00g_5 eb_13
theorem d_X12_fact_22 : decode prog_14_method_92_code 22 = .ok (.iload_n 3, 1) := gq_13 db00g_5 eb_29
theorem d_X12_fact_23 : decode prog_14_method_92_code 23 = .ok (.invokevirtual 597, 3) := gq_14 db00g_5 eb_1175
theorem d_X12_fact_26 : decode prog_14_method_92_code 26 = .ok (.goto 4, 3) := gq_15 db00g_5 eb_20
theorem d_X12_fact_29 : decode prog_14_method_92_code 29 = .ok (.iconst (-1), 1) := gq_16 db00g_5 eb_26
theorem d_X12_fact_30 : decode prog_14_method_92_code 30 = .ok (.ireturn, 1) := gq_17 db00g_5 eb_15
theorem db00g_6 : Pf_ prog_14_method_93_code [(0, [0x03]), (1, [0x36, 0x04]), (3, [0x03]), (4, [0x36, 0x05]), (6, [0x15, 0x05]), (8, [0x10, 0x08]), (10, [0xa2, 0x00, 0x22]), (13, [0x15, 0x04]), (15, [0x2a]), (16, [0x1b]), (17, [0x15, 0x05]), (19, [0x1d]), (20, [0xb6, 0x02, 0x55]), (23, [0x1c]), (24, [0xa0, 0x00, 0x0a]), (27, [0x04]), (28, [0x15, 0x05]), (30, [0x78]), (31, [0xa7, 0x00, 0x04]), (34, [0x03]), (35, [0x80]), (36, [0x36, 0x04]), (38, [0x84, 0x05, 0x01]), (41, [0xa7, 0xff, 0xdd])] := pf_ok prog_14_method_93_code _ 0 (by decide +kernel)
theorem d_X12_factsThat_0 : decode prog_14_method_93_code 0 = .ok (.iconst 0, 1) := gq_0 db00g_6 eb_21
theorem d_X12_factsThat_1 : decode prog_14_method_93_code 1 = .ok (.istore 4, 2) := gq_1 db00g_6 eb_133
theorem d_X12_factsThat_3 : decode prog_14_method_93_code 3 = .ok (.iconst 0, 1) := gq_2 db00g_6 eb_21
theorem d_X12_factsThat_4 : decode prog_14_method_93_code 4 = .ok (.istore 5, 2) := gq_3 db00g_6 eb_134
theorem d_X12_factsThat_6 : decode prog_14_method_93_code 6 = .ok (.iload 5, 2) := gq_4 db00g_6 eb_125
theorem d_X12_factsThat_8 : decode prog_14_method_93_code 8 = .ok (.bipush 8, 2) := gq_5 db00g_6 eb_94
theorem d_X12_factsThat_10 : decode prog_14_method_93_code 10 = .ok (.if_icmp .ge 34, 3) := gq_6 db00g_6 eb_427
theorem d_X12_factsThat_13 : decode prog_14_method_93_code 13 = .ok (.iload 4, 2) := gq_7 db00g_6 eb_76
theorem d_X12_factsThat_15 : decode prog_14_method_93_code 15 = .ok (.aload_n 0, 1) := gq_8 db00g_6 eb_0
theorem d_X12_factsThat_16 : decode prog_14_method_93_code 16 = .ok (.iload_n 1, 1) := gq_9 db00g_6 eb_9
theorem d_X12_factsThat_17 : decode prog_14_method_93_code 17 = .ok (.iload 5, 2) := gq_10 db00g_6 eb_125
theorem d_X12_factsThat_19 : decode prog_14_method_93_code 19 = .ok (.iload_n 3, 1) := gq_11 db00g_6 eb_29
theorem d_X12_factsThat_20 : decode prog_14_method_93_code 20 = .ok (.invokevirtual 597, 3) := gq_12 db00g_6 eb_1175
theorem d_X12_factsThat_23 : decode prog_14_method_93_code 23 = .ok (.iload_n 2, 1) := gq_13 db00g_6 eb_13
theorem d_X12_factsThat_24 : decode prog_14_method_93_code 24 = .ok (.if_icmp .ne 10, 3) := gq_14 db00g_6 eb_259
theorem d_X12_factsThat_27 : decode prog_14_method_93_code 27 = .ok (.iconst 1, 1) := gq_15 db00g_6 eb_19
theorem d_X12_factsThat_28 : decode prog_14_method_93_code 28 = .ok (.iload 5, 2) := gq_16 db00g_6 eb_125
theorem d_X12_factsThat_30 : decode prog_14_method_93_code 30 = .ok (.ishl, 1) := gq_17 db00g_6 eb_11
theorem d_X12_factsThat_31 : decode prog_14_method_93_code 31 = .ok (.goto 4, 3) := gq_18 db00g_6 eb_20
theorem d_X12_factsThat_34 : decode prog_14_method_93_code 34 = .ok (.iconst 0, 1) := gq_19 db00g_6 eb_21
theorem d_X12_factsThat_35 : decode prog_14_method_93_code 35 = .ok (.ior, 1) := gq_20 db00g_6 eb_12
theorem d_X12_factsThat_36 : decode prog_14_method_93_code 36 = .ok (.istore 4, 2) := gq_21 db00g_6 eb_133
theorem d_X12_factsThat_38 : decode prog_14_method_93_code 38 = .ok (.iinc 5 1, 3) := gq_22 db00g_6 eb_220
theorem d_X12_factsThat_41 : decode prog_14_method_93_code 41 = .ok (.goto (-35), 3) := gq_23 db00g_6 eb_149
theorem db00g_7 : Pf_ prog_14_method_93_code [(44, [0x15, 0x04]), (46, [0xac])] := pf_ok prog_14_method_93_code _ 44 (by decide +kernel)
theorem d_X12_factsThat_44 : decode prog_14_method_93_code 44 = .ok (.iload 4, 2) := gq_0 db00g_7 eb_76
theorem d_X12_factsThat_46 : decode prog_14_method_93_code 46 = .ok (.ireturn, 1) := gq_1 db00g_7 eb_15
theorem d_X12_lacks_19 : decode prog_14_method_94_code 19 = .ok (.ixor, 1) := by decide +kernel
theorem db00g_8 : Pf_ prog_14_method_94_code [(0, [0x2a]), (1, [0xb4, 0x00, 0xcd]), (4, [0x2a]), (5, [0xb4, 0x00, 0xc7]), (8, [0x1b]), (9, [0x2e]), (10, [0x2e]), (11, [0x2a]), (12, [0x1b]), (13, [0x04]), (14, [0x1c]), (15, [0xb6, 0x02, 0x58]), (18, [0x02]), (20, [0x7e]), (21, [0xac])] := pf_ok prog_14_method_94_code _ 0 (by decide +kernel)
theorem d_X12_lacks_0 : decode prog_14_method_94_code 0 = .ok (.aload_n 0, 1) := gq_0 db00g_8 eb_0
theorem d_X12_lacks_1 : decode prog_14_method_94_code 1 = .ok (.getfield 205, 3) := gq_1 db00g_8 eb_1157
theorem d_X12_lacks_4 : decode prog_14_method_94_code 4 = .ok (.aload_n 0, 1) := gq_2 db00g_8 eb_0
theorem d_X12_lacks_5 : decode prog_14_method_94_code 5 = .ok (.getfield 199, 3) := gq_3 db00g_8 eb_1153
theorem d_X12_lacks_8 : decode prog_14_method_94_code 8 = .ok (.iload_n 1, 1) := gq_4 db00g_8 eb_9
theorem d_X12_lacks_9 : decode prog_14_method_94_code 9 = .ok (.iaload, 1) := gq_5 db00g_8 eb_37
theorem d_X12_lacks_10 : decode prog_14_method_94_code 10 = .ok (.iaload, 1) := gq_6 db00g_8 eb_37
theorem d_X12_lacks_11 : decode prog_14_method_94_code 11 = .ok (.aload_n 0, 1) := gq_7 db00g_8 eb_0
theorem d_X12_lacks_12 : decode prog_14_method_94_code 12 = .ok (.iload_n 1, 1) := gq_8 db00g_8 eb_9
theorem d_X12_lacks_13 : decode prog_14_method_94_code 13 = .ok (.iconst 1, 1) := gq_9 db00g_8 eb_19
theorem d_X12_lacks_14 : decode prog_14_method_94_code 14 = .ok (.iload_n 2, 1) := gq_10 db00g_8 eb_13
theorem d_X12_lacks_15 : decode prog_14_method_94_code 15 = .ok (.invokevirtual 600, 3) := gq_11 db00g_8 eb_1176
theorem d_X12_lacks_18 : decode prog_14_method_94_code 18 = .ok (.iconst (-1), 1) := gq_12 db00g_8 eb_26
theorem d_X12_lacks_20 : decode prog_14_method_94_code 20 = .ok (.iand, 1) := gq_13 db00g_8 eb_55
theorem d_X12_lacks_21 : decode prog_14_method_94_code 21 = .ok (.ireturn, 1) := gq_14 db00g_8 eb_15
theorem db00g_9 : Pf_ prog_14_method_95_code [(0, [0x2a]), (1, [0xb4, 0x00, 0xcd]), (4, [0x2a]), (5, [0xb4, 0x00, 0xc7]), (8, [0x1b]), (9, [0x2e]), (10, [0x2e]), (11, [0x2a]), (12, [0x1b]), (13, [0x05]), (14, [0x1c]), (15, [0xb6, 0x02, 0x58]), (18, [0x7e]), (19, [0x99, 0x00, 0x05]), (22, [0x05]), (23, [0xac]), (24, [0x2a]), (25, [0x1b]), (26, [0x1c]), (27, [0xb6, 0x02, 0x5b]), (30, [0x9a, 0x00, 0x07]), (33, [0x04]), (34, [0xa7, 0x00, 0x04]), (37, [0x03])] := pf_ok prog_14_method_95_code _ 0 (by decide +kernel)
theorem d_X12_whatIs_0 : decode prog_14_method_95_code 0 = .ok (.aload_n 0, 1) := gq_0 db00g_9 eb_0
theorem d_X12_whatIs_1 : decode prog_14_method_95_code 1 = .ok (.getfield 205, 3) := gq_1 db00g_9 eb_1157
theorem d_X12_whatIs_4 : decode prog_14_method_95_code 4 = .ok (.aload_n 0, 1) := gq_2 db00g_9 eb_0
theorem d_X12_whatIs_5 : decode prog_14_method_95_code 5 = .ok (.getfield 199, 3) := gq_3 db00g_9 eb_1153
theorem d_X12_whatIs_8 : decode prog_14_method_95_code 8 = .ok (.iload_n 1, 1) := gq_4 db00g_9 eb_9
theorem d_X12_whatIs_9 : decode prog_14_method_95_code 9 = .ok (.iaload, 1) := gq_5 db00g_9 eb_37
theorem d_X12_whatIs_10 : decode prog_14_method_95_code 10 = .ok (.iaload, 1) := gq_6 db00g_9 eb_37
theorem d_X12_whatIs_11 : decode prog_14_method_95_code 11 = .ok (.aload_n 0, 1) := gq_7 db00g_9 eb_0
theorem d_X12_whatIs_12 : decode prog_14_method_95_code 12 = .ok (.iload_n 1, 1) := gq_8 db00g_9 eb_9
theorem d_X12_whatIs_13 : decode prog_14_method_95_code 13 = .ok (.iconst 2, 1) := gq_9 db00g_9 eb_10
theorem d_X12_whatIs_14 : decode prog_14_method_95_code 14 = .ok (.iload_n 2, 1) := gq_10 db00g_9 eb_13
theorem d_X12_whatIs_15 : decode prog_14_method_95_code 15 = .ok (.invokevirtual 600, 3) := gq_11 db00g_9 eb_1176
theorem d_X12_whatIs_18 : decode prog_14_method_95_code 18 = .ok (.iand, 1) := gq_12 db00g_9 eb_55
theorem d_X12_whatIs_19 : decode prog_14_method_95_code 19 = .ok (.ifCond .eq 5, 3) := gq_13 db00g_9 eb_25
theorem d_X12_whatIs_22 : decode prog_14_method_95_code 22 = .ok (.iconst 2, 1) := gq_14 db00g_9 eb_10
theorem d_X12_whatIs_23 : decode prog_14_method_95_code 23 = .ok (.ireturn, 1) := gq_15 db00g_9 eb_15
theorem d_X12_whatIs_24 : decode prog_14_method_95_code 24 = .ok (.aload_n 0, 1) := gq_16 db00g_9 eb_0
theorem d_X12_whatIs_25 : decode prog_14_method_95_code 25 = .ok (.iload_n 1, 1) := gq_17 db00g_9 eb_9
theorem d_X12_whatIs_26 : decode prog_14_method_95_code 26 = .ok (.iload_n 2, 1) := gq_18 db00g_9 eb_13
theorem d_X12_whatIs_27 : decode prog_14_method_95_code 27 = .ok (.invokevirtual 603, 3) := gq_19 db00g_9 eb_1177
theorem d_X12_whatIs_30 : decode prog_14_method_95_code 30 = .ok (.ifCond .ne 7, 3) := gq_20 db00g_9 eb_164
theorem d_X12_whatIs_33 : decode prog_14_method_95_code 33 = .ok (.iconst 1, 1) := gq_21 db00g_9 eb_19
theorem d_X12_whatIs_34 : decode prog_14_method_95_code 34 = .ok (.goto 4, 3) := gq_22 db00g_9 eb_20
theorem d_X12_whatIs_37 : decode prog_14_method_95_code 37 = .ok (.iconst 0, 1) := gq_23 db00g_9 eb_21
theorem db00g_10 : Pf_ prog_14_method_95_code [(38, [0xac])] := pf_ok prog_14_method_95_code _ 38 (by decide +kernel)
theorem d_X12_whatIs_38 : decode prog_14_method_95_code 38 = .ok (.ireturn, 1) := gq_0 db00g_10 eb_15
theorem db00g_11 : Pf_ prog_14_method_96_code [(0, [0x2a]), (1, [0x1b]), (2, [0x05]), (3, [0x1c]), (4, [0xb6, 0x02, 0x58]), (7, [0x3e]), (8, [0x2a]), (9, [0x1b]), (10, [0x04]), (11, [0x1c]), (12, [0xb6, 0x02, 0x58]), (15, [0x36, 0x04]), (17, [0x03]), (18, [0x36, 0x05]), (20, [0x03]), (21, [0x36, 0x06]), (23, [0x15, 0x06]), (25, [0x2a]), (26, [0xb4, 0x00, 0xf1]), (29, [0x1b]), (30, [0x2e]), (31, [0xa2, 0x00, 0x4f]), (34, [0x10, 0x06]), (36, [0x1b])] := pf_ok prog_14_method_96_code _ 0 (by decide +kernel)
theorem d_X12_standing_0 : decode prog_14_method_96_code 0 = .ok (.aload_n 0, 1) := gq_0 db00g_11 eb_0
theorem d_X12_standing_1 : decode prog_14_method_96_code 1 = .ok (.iload_n 1, 1) := gq_1 db00g_11 eb_9
theorem d_X12_standing_2 : decode prog_14_method_96_code 2 = .ok (.iconst 2, 1) := gq_2 db00g_11 eb_10
theorem d_X12_standing_3 : decode prog_14_method_96_code 3 = .ok (.iload_n 2, 1) := gq_3 db00g_11 eb_13
theorem d_X12_standing_4 : decode prog_14_method_96_code 4 = .ok (.invokevirtual 600, 3) := gq_4 db00g_11 eb_1176
theorem d_X12_standing_7 : decode prog_14_method_96_code 7 = .ok (.istore_n 3, 1) := gq_5 db00g_11 eb_28
theorem d_X12_standing_8 : decode prog_14_method_96_code 8 = .ok (.aload_n 0, 1) := gq_6 db00g_11 eb_0
theorem d_X12_standing_9 : decode prog_14_method_96_code 9 = .ok (.iload_n 1, 1) := gq_7 db00g_11 eb_9
theorem d_X12_standing_10 : decode prog_14_method_96_code 10 = .ok (.iconst 1, 1) := gq_8 db00g_11 eb_19
theorem d_X12_standing_11 : decode prog_14_method_96_code 11 = .ok (.iload_n 2, 1) := gq_9 db00g_11 eb_13
theorem d_X12_standing_12 : decode prog_14_method_96_code 12 = .ok (.invokevirtual 600, 3) := gq_10 db00g_11 eb_1176
theorem d_X12_standing_15 : decode prog_14_method_96_code 15 = .ok (.istore 4, 2) := gq_11 db00g_11 eb_133
theorem d_X12_standing_17 : decode prog_14_method_96_code 17 = .ok (.iconst 0, 1) := gq_12 db00g_11 eb_21
theorem d_X12_standing_18 : decode prog_14_method_96_code 18 = .ok (.istore 5, 2) := gq_13 db00g_11 eb_134
theorem d_X12_standing_20 : decode prog_14_method_96_code 20 = .ok (.iconst 0, 1) := gq_14 db00g_11 eb_21
theorem d_X12_standing_21 : decode prog_14_method_96_code 21 = .ok (.istore 6, 2) := gq_15 db00g_11 eb_58
theorem d_X12_standing_23 : decode prog_14_method_96_code 23 = .ok (.iload 6, 2) := gq_16 db00g_11 eb_75
theorem d_X12_standing_25 : decode prog_14_method_96_code 25 = .ok (.aload_n 0, 1) := gq_17 db00g_11 eb_0
theorem d_X12_standing_26 : decode prog_14_method_96_code 26 = .ok (.getfield 241, 3) := gq_18 db00g_11 eb_1178
theorem d_X12_standing_29 : decode prog_14_method_96_code 29 = .ok (.iload_n 1, 1) := gq_19 db00g_11 eb_9
theorem d_X12_standing_30 : decode prog_14_method_96_code 30 = .ok (.iaload, 1) := gq_20 db00g_11 eb_37
theorem d_X12_standing_31 : decode prog_14_method_96_code 31 = .ok (.if_icmp .ge 79, 3) := gq_21 db00g_11 eb_658
theorem d_X12_standing_34 : decode prog_14_method_96_code 34 = .ok (.bipush 6, 2) := gq_22 db00g_11 eb_14
theorem d_X12_standing_36 : decode prog_14_method_96_code 36 = .ok (.iload_n 1, 1) := gq_23 db00g_11 eb_9
theorem db00g_12 : Pf_ prog_14_method_96_code [(37, [0x68]), (38, [0x15, 0x06]), (40, [0x60]), (41, [0x36, 0x07]), (43, [0x2a]), (44, [0xb4, 0x00, 0xee]), (47, [0x15, 0x07]), (49, [0x2e]), (50, [0x1c]), (51, [0xa3, 0x00, 0x20]), (54, [0x2a]), (55, [0xb4, 0x00, 0xe8]), (58, [0x15, 0x07]), (60, [0x2e]), (61, [0x1d]), (62, [0x7e]), (63, [0x9a, 0x00, 0x14]), (66, [0x2a]), (67, [0xb4, 0x00, 0xeb]), (70, [0x15, 0x07]), (72, [0x2e]), (73, [0x15, 0x04]), (75, [0x7e]), (76, [0x9a, 0x00, 0x07])] := pf_ok prog_14_method_96_code _ 37 (by decide +kernel)
theorem d_X12_standing_37 : decode prog_14_method_96_code 37 = .ok (.imul, 1) := gq_0 db00g_12 eb_34
theorem d_X12_standing_38 : decode prog_14_method_96_code 38 = .ok (.iload 6, 2) := gq_1 db00g_12 eb_75
theorem d_X12_standing_40 : decode prog_14_method_96_code 40 = .ok (.iadd, 1) := gq_2 db00g_12 eb_35
theorem d_X12_standing_41 : decode prog_14_method_96_code 41 = .ok (.istore 7, 2) := gq_3 db00g_12 eb_59
theorem d_X12_standing_43 : decode prog_14_method_96_code 43 = .ok (.aload_n 0, 1) := gq_4 db00g_12 eb_0
theorem d_X12_standing_44 : decode prog_14_method_96_code 44 = .ok (.getfield 238, 3) := gq_5 db00g_12 eb_1179
theorem d_X12_standing_47 : decode prog_14_method_96_code 47 = .ok (.iload 7, 2) := gq_6 db00g_12 eb_73
theorem d_X12_standing_49 : decode prog_14_method_96_code 49 = .ok (.iaload, 1) := gq_7 db00g_12 eb_37
theorem d_X12_standing_50 : decode prog_14_method_96_code 50 = .ok (.iload_n 2, 1) := gq_8 db00g_12 eb_13
theorem d_X12_standing_51 : decode prog_14_method_96_code 51 = .ok (.if_icmp .gt 32, 3) := gq_9 db00g_12 eb_1180
theorem d_X12_standing_54 : decode prog_14_method_96_code 54 = .ok (.aload_n 0, 1) := gq_10 db00g_12 eb_0
theorem d_X12_standing_55 : decode prog_14_method_96_code 55 = .ok (.getfield 232, 3) := gq_11 db00g_12 eb_660
theorem d_X12_standing_58 : decode prog_14_method_96_code 58 = .ok (.iload 7, 2) := gq_12 db00g_12 eb_73
theorem d_X12_standing_60 : decode prog_14_method_96_code 60 = .ok (.iaload, 1) := gq_13 db00g_12 eb_37
theorem d_X12_standing_61 : decode prog_14_method_96_code 61 = .ok (.iload_n 3, 1) := gq_14 db00g_12 eb_29
theorem d_X12_standing_62 : decode prog_14_method_96_code 62 = .ok (.iand, 1) := gq_15 db00g_12 eb_55
theorem d_X12_standing_63 : decode prog_14_method_96_code 63 = .ok (.ifCond .ne 20, 3) := gq_16 db00g_12 eb_179
theorem d_X12_standing_66 : decode prog_14_method_96_code 66 = .ok (.aload_n 0, 1) := gq_17 db00g_12 eb_0
theorem d_X12_standing_67 : decode prog_14_method_96_code 67 = .ok (.getfield 235, 3) := gq_18 db00g_12 eb_1181
theorem d_X12_standing_70 : decode prog_14_method_96_code 70 = .ok (.iload 7, 2) := gq_19 db00g_12 eb_73
theorem d_X12_standing_72 : decode prog_14_method_96_code 72 = .ok (.iaload, 1) := gq_20 db00g_12 eb_37
theorem d_X12_standing_73 : decode prog_14_method_96_code 73 = .ok (.iload 4, 2) := gq_21 db00g_12 eb_76
theorem d_X12_standing_75 : decode prog_14_method_96_code 75 = .ok (.iand, 1) := gq_22 db00g_12 eb_55
theorem d_X12_standing_76 : decode prog_14_method_96_code 76 = .ok (.ifCond .ne 7, 3) := gq_23 db00g_12 eb_164
theorem db00g_13 : Pf_ prog_14_method_96_code [(79, [0x04]), (80, [0xa7, 0x00, 0x04]), (83, [0x03]), (84, [0x36, 0x08]), (86, [0x15, 0x05]), (88, [0x15, 0x08]), (90, [0x99, 0x00, 0x0a]), (93, [0x04]), (94, [0x15, 0x06]), (96, [0x78]), (97, [0xa7, 0x00, 0x04]), (100, [0x03]), (101, [0x80]), (102, [0x36, 0x05]), (104, [0x84, 0x06, 0x01]), (107, [0xa7, 0xff, 0xac]), (110, [0x15, 0x05]), (112, [0xac])] := pf_ok prog_14_method_96_code _ 79 (by decide +kernel)
theorem d_X12_standing_79 : decode prog_14_method_96_code 79 = .ok (.iconst 1, 1) := gq_0 db00g_13 eb_19
theorem d_X12_standing_80 : decode prog_14_method_96_code 80 = .ok (.goto 4, 3) := gq_1 db00g_13 eb_20
theorem d_X12_standing_83 : decode prog_14_method_96_code 83 = .ok (.iconst 0, 1) := gq_2 db00g_13 eb_21
theorem d_X12_standing_84 : decode prog_14_method_96_code 84 = .ok (.istore 8, 2) := gq_3 db00g_13 eb_61
theorem d_X12_standing_86 : decode prog_14_method_96_code 86 = .ok (.iload 5, 2) := gq_4 db00g_13 eb_125
theorem d_X12_standing_88 : decode prog_14_method_96_code 88 = .ok (.iload 8, 2) := gq_5 db00g_13 eb_64
theorem d_X12_standing_90 : decode prog_14_method_96_code 90 = .ok (.ifCond .eq 10, 3) := gq_6 db00g_13 eb_202
theorem d_X12_standing_93 : decode prog_14_method_96_code 93 = .ok (.iconst 1, 1) := gq_7 db00g_13 eb_19
theorem d_X12_standing_94 : decode prog_14_method_96_code 94 = .ok (.iload 6, 2) := gq_8 db00g_13 eb_75
theorem d_X12_standing_96 : decode prog_14_method_96_code 96 = .ok (.ishl, 1) := gq_9 db00g_13 eb_11
theorem d_X12_standing_97 : decode prog_14_method_96_code 97 = .ok (.goto 4, 3) := gq_10 db00g_13 eb_20
theorem d_X12_standing_100 : decode prog_14_method_96_code 100 = .ok (.iconst 0, 1) := gq_11 db00g_13 eb_21
theorem d_X12_standing_101 : decode prog_14_method_96_code 101 = .ok (.ior, 1) := gq_12 db00g_13 eb_12
theorem d_X12_standing_102 : decode prog_14_method_96_code 102 = .ok (.istore 5, 2) := gq_13 db00g_13 eb_134
theorem d_X12_standing_104 : decode prog_14_method_96_code 104 = .ok (.iinc 6 1, 3) := gq_14 db00g_13 eb_72
theorem d_X12_standing_107 : decode prog_14_method_96_code 107 = .ok (.goto (-84), 3) := gq_15 db00g_13 eb_1182
theorem d_X12_standing_110 : decode prog_14_method_96_code 110 = .ok (.iload 5, 2) := gq_16 db00g_13 eb_125
theorem d_X12_standing_112 : decode prog_14_method_96_code 112 = .ok (.ireturn, 1) := gq_17 db00g_13 eb_15
theorem d_X12_cased_12 : decode prog_14_method_97_code 12 = .ok (.tableswitch 74 0 4 #[36, 43, 50, 57, 64], 36) := by decide +kernel
theorem db00g_14 : Pf_ prog_14_method_97_code [(0, [0x2a]), (1, [0x1b]), (2, [0x1c]), (3, [0xb6, 0x02, 0x52]), (6, [0x9a, 0x00, 0x05]), (9, [0x02]), (10, [0xac]), (11, [0x1d]), (48, [0x2a]), (49, [0x1b]), (50, [0x1c]), (51, [0xb6, 0x02, 0x5e]), (54, [0xac]), (55, [0x2a]), (56, [0x1b]), (57, [0x1c]), (58, [0xb6, 0x02, 0x5b]), (61, [0xac]), (62, [0x2a]), (63, [0xb4, 0x00, 0xc7]), (66, [0x1b]), (67, [0x2e]), (68, [0xac]), (69, [0x2a])] := pf_ok prog_14_method_97_code _ 0 (by decide +kernel)
theorem d_X12_cased_0 : decode prog_14_method_97_code 0 = .ok (.aload_n 0, 1) := gq_0 db00g_14 eb_0
theorem d_X12_cased_1 : decode prog_14_method_97_code 1 = .ok (.iload_n 1, 1) := gq_1 db00g_14 eb_9
theorem d_X12_cased_2 : decode prog_14_method_97_code 2 = .ok (.iload_n 2, 1) := gq_2 db00g_14 eb_13
theorem d_X12_cased_3 : decode prog_14_method_97_code 3 = .ok (.invokevirtual 594, 3) := gq_3 db00g_14 eb_1174
theorem d_X12_cased_6 : decode prog_14_method_97_code 6 = .ok (.ifCond .ne 5, 3) := gq_4 db00g_14 eb_150
theorem d_X12_cased_9 : decode prog_14_method_97_code 9 = .ok (.iconst (-1), 1) := gq_5 db00g_14 eb_26
theorem d_X12_cased_10 : decode prog_14_method_97_code 10 = .ok (.ireturn, 1) := gq_6 db00g_14 eb_15
theorem d_X12_cased_11 : decode prog_14_method_97_code 11 = .ok (.iload_n 3, 1) := gq_7 db00g_14 eb_29
theorem d_X12_cased_48 : decode prog_14_method_97_code 48 = .ok (.aload_n 0, 1) := gq_8 db00g_14 eb_0
theorem d_X12_cased_49 : decode prog_14_method_97_code 49 = .ok (.iload_n 1, 1) := gq_9 db00g_14 eb_9
theorem d_X12_cased_50 : decode prog_14_method_97_code 50 = .ok (.iload_n 2, 1) := gq_10 db00g_14 eb_13
theorem d_X12_cased_51 : decode prog_14_method_97_code 51 = .ok (.invokevirtual 606, 3) := gq_11 db00g_14 eb_1183
theorem d_X12_cased_54 : decode prog_14_method_97_code 54 = .ok (.ireturn, 1) := gq_12 db00g_14 eb_15
theorem d_X12_cased_55 : decode prog_14_method_97_code 55 = .ok (.aload_n 0, 1) := gq_13 db00g_14 eb_0
theorem d_X12_cased_56 : decode prog_14_method_97_code 56 = .ok (.iload_n 1, 1) := gq_14 db00g_14 eb_9
theorem d_X12_cased_57 : decode prog_14_method_97_code 57 = .ok (.iload_n 2, 1) := gq_15 db00g_14 eb_13
theorem d_X12_cased_58 : decode prog_14_method_97_code 58 = .ok (.invokevirtual 603, 3) := gq_16 db00g_14 eb_1177
theorem d_X12_cased_61 : decode prog_14_method_97_code 61 = .ok (.ireturn, 1) := gq_17 db00g_14 eb_15
theorem d_X12_cased_62 : decode prog_14_method_97_code 62 = .ok (.aload_n 0, 1) := gq_18 db00g_14 eb_0
theorem d_X12_cased_63 : decode prog_14_method_97_code 63 = .ok (.getfield 199, 3) := gq_19 db00g_14 eb_1153
theorem d_X12_cased_66 : decode prog_14_method_97_code 66 = .ok (.iload_n 1, 1) := gq_20 db00g_14 eb_9
theorem d_X12_cased_67 : decode prog_14_method_97_code 67 = .ok (.iaload, 1) := gq_21 db00g_14 eb_37
theorem d_X12_cased_68 : decode prog_14_method_97_code 68 = .ok (.ireturn, 1) := gq_22 db00g_14 eb_15
theorem d_X12_cased_69 : decode prog_14_method_97_code 69 = .ok (.aload_n 0, 1) := gq_23 db00g_14 eb_0
theorem db00g_15 : Pf_ prog_14_method_97_code [(70, [0xb4, 0x00, 0xca]), (73, [0x1b]), (74, [0x2e]), (75, [0xac]), (76, [0x2a]), (77, [0x1b]), (78, [0x1c]), (79, [0xb6, 0x02, 0x61]), (82, [0xb8, 0x02, 0x64]), (85, [0xac]), (86, [0x02]), (87, [0xac])] := pf_ok prog_14_method_97_code _ 70 (by decide +kernel)
theorem d_X12_cased_70 : decode prog_14_method_97_code 70 = .ok (.getfield 202, 3) := gq_0 db00g_15 eb_1154
theorem d_X12_cased_73 : decode prog_14_method_97_code 73 = .ok (.iload_n 1, 1) := gq_1 db00g_15 eb_9
theorem d_X12_cased_74 : decode prog_14_method_97_code 74 = .ok (.iaload, 1) := gq_2 db00g_15 eb_37
theorem d_X12_cased_75 : decode prog_14_method_97_code 75 = .ok (.ireturn, 1) := gq_3 db00g_15 eb_15
theorem d_X12_cased_76 : decode prog_14_method_97_code 76 = .ok (.aload_n 0, 1) := gq_4 db00g_15 eb_0
theorem d_X12_cased_77 : decode prog_14_method_97_code 77 = .ok (.iload_n 1, 1) := gq_5 db00g_15 eb_9
theorem d_X12_cased_78 : decode prog_14_method_97_code 78 = .ok (.iload_n 2, 1) := gq_6 db00g_15 eb_13
theorem d_X12_cased_79 : decode prog_14_method_97_code 79 = .ok (.invokevirtual 609, 3) := gq_7 db00g_15 eb_1184
theorem d_X12_cased_82 : decode prog_14_method_97_code 82 = .ok (.invokestatic 612, 3) := gq_8 db00g_15 eb_1185
theorem d_X12_cased_85 : decode prog_14_method_97_code 85 = .ok (.ireturn, 1) := gq_9 db00g_15 eb_15
theorem d_X12_cased_86 : decode prog_14_method_97_code 86 = .ok (.iconst (-1), 1) := gq_10 db00g_15 eb_26
theorem d_X12_cased_87 : decode prog_14_method_97_code 87 = .ok (.ireturn, 1) := gq_11 db00g_15 eb_15
theorem db00g_16 : Pf_ prog_14_method_98_code [(0, [0x1b]), (1, [0x03]), (2, [0x10, 0x0f]), (4, [0xb8, 0x01, 0x43]), (7, [0x99, 0x00, 0x0c]), (10, [0x2a]), (11, [0xb4, 0x00, 0xe5]), (14, [0x1b]), (15, [0x33]), (16, [0x99, 0x00, 0x05]), (19, [0x02]), (20, [0xac]), (21, [0x03]), (22, [0x3d]), (23, [0x1c]), (24, [0x2a]), (25, [0xb4, 0x02, 0x40]), (28, [0xa2, 0x00, 0x24]), (31, [0x2a]), (32, [0xb4, 0x00, 0xf4]), (35, [0x1c]), (36, [0x07]), (37, [0x2a]), (38, [0x1c])] := pf_ok prog_14_method_98_code _ 0 (by decide +kernel)
theorem d_X12_withdraw_0 : decode prog_14_method_98_code 0 = .ok (.iload_n 1, 1) := gq_0 db00g_16 eb_9
theorem d_X12_withdraw_1 : decode prog_14_method_98_code 1 = .ok (.iconst 0, 1) := gq_1 db00g_16 eb_21
theorem d_X12_withdraw_2 : decode prog_14_method_98_code 2 = .ok (.bipush 15, 2) := gq_2 db00g_16 eb_57
theorem d_X12_withdraw_4 : decode prog_14_method_98_code 4 = .ok (.invokestatic 323, 3) := gq_3 db00g_16 eb_913
theorem d_X12_withdraw_7 : decode prog_14_method_98_code 7 = .ok (.ifCond .eq 12, 3) := gq_4 db00g_16 eb_50
theorem d_X12_withdraw_10 : decode prog_14_method_98_code 10 = .ok (.aload_n 0, 1) := gq_5 db00g_16 eb_0
theorem d_X12_withdraw_11 : decode prog_14_method_98_code 11 = .ok (.getfield 229, 3) := gq_6 db00g_16 eb_1159
theorem d_X12_withdraw_14 : decode prog_14_method_98_code 14 = .ok (.iload_n 1, 1) := gq_7 db00g_16 eb_9
theorem d_X12_withdraw_15 : decode prog_14_method_98_code 15 = .ok (.baload, 1) := gq_8 db00g_16 eb_248
theorem d_X12_withdraw_16 : decode prog_14_method_98_code 16 = .ok (.ifCond .eq 5, 3) := gq_9 db00g_16 eb_25
theorem d_X12_withdraw_19 : decode prog_14_method_98_code 19 = .ok (.iconst (-1), 1) := gq_10 db00g_16 eb_26
theorem d_X12_withdraw_20 : decode prog_14_method_98_code 20 = .ok (.ireturn, 1) := gq_11 db00g_16 eb_15
theorem d_X12_withdraw_21 : decode prog_14_method_98_code 21 = .ok (.iconst 0, 1) := gq_12 db00g_16 eb_21
theorem d_X12_withdraw_22 : decode prog_14_method_98_code 22 = .ok (.istore_n 2, 1) := gq_13 db00g_16 eb_27
theorem d_X12_withdraw_23 : decode prog_14_method_98_code 23 = .ok (.iload_n 2, 1) := gq_14 db00g_16 eb_13
theorem d_X12_withdraw_24 : decode prog_14_method_98_code 24 = .ok (.aload_n 0, 1) := gq_15 db00g_16 eb_0
theorem d_X12_withdraw_25 : decode prog_14_method_98_code 25 = .ok (.getfield 576, 3) := gq_16 db00g_16 eb_1146
theorem d_X12_withdraw_28 : decode prog_14_method_98_code 28 = .ok (.if_icmp .ge 36, 3) := gq_17 db00g_16 eb_217
theorem d_X12_withdraw_31 : decode prog_14_method_98_code 31 = .ok (.aload_n 0, 1) := gq_18 db00g_16 eb_0
theorem d_X12_withdraw_32 : decode prog_14_method_98_code 32 = .ok (.getfield 244, 3) := gq_19 db00g_16 eb_1186
theorem d_X12_withdraw_35 : decode prog_14_method_98_code 35 = .ok (.iload_n 2, 1) := gq_20 db00g_16 eb_13
theorem d_X12_withdraw_36 : decode prog_14_method_98_code 36 = .ok (.iconst 4, 1) := gq_21 db00g_16 eb_291
theorem d_X12_withdraw_37 : decode prog_14_method_98_code 37 = .ok (.aload_n 0, 1) := gq_22 db00g_16 eb_0
theorem d_X12_withdraw_38 : decode prog_14_method_98_code 38 = .ok (.iload_n 2, 1) := gq_23 db00g_16 eb_13
theorem db00g_17 : Pf_ prog_14_method_98_code [(39, [0x2a]), (40, [0xb4, 0x01, 0x56]), (43, [0xb6, 0x02, 0x5b]), (46, [0x68]), (47, [0x2a]), (48, [0x1c]), (49, [0x2a]), (50, [0xb4, 0x01, 0x56]), (53, [0xb6, 0x02, 0x5e]), (56, [0x60]), (57, [0x4f]), (58, [0x84, 0x02, 0x01]), (61, [0xa7, 0xff, 0xda]), (64, [0x2a]), (65, [0xb4, 0x00, 0xe5]), (68, [0x1b]), (69, [0x04]), (70, [0x54]), (71, [0x2a]), (72, [0xb4, 0x00, 0xe2]), (75, [0x1b]), (76, [0x2a]), (77, [0xb4, 0x01, 0x56]), (80, [0x4f])] := pf_ok prog_14_method_98_code _ 39 (by decide +kernel)
theorem d_X12_withdraw_39 : decode prog_14_method_98_code 39 = .ok (.aload_n 0, 1) := gq_0 db00g_17 eb_0
theorem d_X12_withdraw_40 : decode prog_14_method_98_code 40 = .ok (.getfield 342, 3) := gq_1 db00g_17 eb_928
theorem d_X12_withdraw_43 : decode prog_14_method_98_code 43 = .ok (.invokevirtual 603, 3) := gq_2 db00g_17 eb_1177
theorem d_X12_withdraw_46 : decode prog_14_method_98_code 46 = .ok (.imul, 1) := gq_3 db00g_17 eb_34
theorem d_X12_withdraw_47 : decode prog_14_method_98_code 47 = .ok (.aload_n 0, 1) := gq_4 db00g_17 eb_0
theorem d_X12_withdraw_48 : decode prog_14_method_98_code 48 = .ok (.iload_n 2, 1) := gq_5 db00g_17 eb_13
theorem d_X12_withdraw_49 : decode prog_14_method_98_code 49 = .ok (.aload_n 0, 1) := gq_6 db00g_17 eb_0
theorem d_X12_withdraw_50 : decode prog_14_method_98_code 50 = .ok (.getfield 342, 3) := gq_7 db00g_17 eb_928
theorem d_X12_withdraw_53 : decode prog_14_method_98_code 53 = .ok (.invokevirtual 606, 3) := gq_8 db00g_17 eb_1183
theorem d_X12_withdraw_56 : decode prog_14_method_98_code 56 = .ok (.iadd, 1) := gq_9 db00g_17 eb_35
theorem d_X12_withdraw_57 : decode prog_14_method_98_code 57 = .ok (.iastore, 1) := gq_10 db00g_17 eb_38
theorem d_X12_withdraw_58 : decode prog_14_method_98_code 58 = .ok (.iinc 2 1, 3) := gq_11 db00g_17 eb_41
theorem d_X12_withdraw_61 : decode prog_14_method_98_code 61 = .ok (.goto (-38), 3) := gq_12 db00g_17 eb_238
theorem d_X12_withdraw_64 : decode prog_14_method_98_code 64 = .ok (.aload_n 0, 1) := gq_13 db00g_17 eb_0
theorem d_X12_withdraw_65 : decode prog_14_method_98_code 65 = .ok (.getfield 229, 3) := gq_14 db00g_17 eb_1159
theorem d_X12_withdraw_68 : decode prog_14_method_98_code 68 = .ok (.iload_n 1, 1) := gq_15 db00g_17 eb_9
theorem d_X12_withdraw_69 : decode prog_14_method_98_code 69 = .ok (.iconst 1, 1) := gq_16 db00g_17 eb_19
theorem d_X12_withdraw_70 : decode prog_14_method_98_code 70 = .ok (.bastore, 1) := gq_17 db00g_17 eb_244
theorem d_X12_withdraw_71 : decode prog_14_method_98_code 71 = .ok (.aload_n 0, 1) := gq_18 db00g_17 eb_0
theorem d_X12_withdraw_72 : decode prog_14_method_98_code 72 = .ok (.getfield 226, 3) := gq_19 db00g_17 eb_1170
theorem d_X12_withdraw_75 : decode prog_14_method_98_code 75 = .ok (.iload_n 1, 1) := gq_20 db00g_17 eb_9
theorem d_X12_withdraw_76 : decode prog_14_method_98_code 76 = .ok (.aload_n 0, 1) := gq_21 db00g_17 eb_0
theorem d_X12_withdraw_77 : decode prog_14_method_98_code 77 = .ok (.getfield 342, 3) := gq_22 db00g_17 eb_928
theorem d_X12_withdraw_80 : decode prog_14_method_98_code 80 = .ok (.iastore, 1) := gq_23 db00g_17 eb_38
theorem db00g_18 : Pf_ prog_14_method_98_code [(81, [0x03]), (82, [0x3d]), (83, [0x03]), (84, [0x3e]), (85, [0x1d]), (86, [0x2a]), (87, [0xb4, 0x02, 0x40]), (90, [0xa2, 0x00, 0x2f]), (93, [0x1c]), (94, [0x2a]), (95, [0xb4, 0x00, 0xf4]), (98, [0x1d]), (99, [0x2e]), (100, [0x07]), (101, [0x2a]), (102, [0x1d]), (103, [0x2a]), (104, [0xb4, 0x01, 0x56]), (107, [0xb6, 0x02, 0x5b]), (110, [0x68]), (111, [0x2a]), (112, [0x1d]), (113, [0x2a]), (114, [0xb4, 0x01, 0x56])] := pf_ok prog_14_method_98_code _ 81 (by decide +kernel)
theorem d_X12_withdraw_81 : decode prog_14_method_98_code 81 = .ok (.iconst 0, 1) := gq_0 db00g_18 eb_21
theorem d_X12_withdraw_82 : decode prog_14_method_98_code 82 = .ok (.istore_n 2, 1) := gq_1 db00g_18 eb_27
theorem d_X12_withdraw_83 : decode prog_14_method_98_code 83 = .ok (.iconst 0, 1) := gq_2 db00g_18 eb_21
theorem d_X12_withdraw_84 : decode prog_14_method_98_code 84 = .ok (.istore_n 3, 1) := gq_3 db00g_18 eb_28
theorem d_X12_withdraw_85 : decode prog_14_method_98_code 85 = .ok (.iload_n 3, 1) := gq_4 db00g_18 eb_29
theorem d_X12_withdraw_86 : decode prog_14_method_98_code 86 = .ok (.aload_n 0, 1) := gq_5 db00g_18 eb_0
theorem d_X12_withdraw_87 : decode prog_14_method_98_code 87 = .ok (.getfield 576, 3) := gq_6 db00g_18 eb_1146
theorem d_X12_withdraw_90 : decode prog_14_method_98_code 90 = .ok (.if_icmp .ge 47, 3) := gq_7 db00g_18 eb_1187
theorem d_X12_withdraw_93 : decode prog_14_method_98_code 93 = .ok (.iload_n 2, 1) := gq_8 db00g_18 eb_13
theorem d_X12_withdraw_94 : decode prog_14_method_98_code 94 = .ok (.aload_n 0, 1) := gq_9 db00g_18 eb_0
theorem d_X12_withdraw_95 : decode prog_14_method_98_code 95 = .ok (.getfield 244, 3) := gq_10 db00g_18 eb_1186
theorem d_X12_withdraw_98 : decode prog_14_method_98_code 98 = .ok (.iload_n 3, 1) := gq_11 db00g_18 eb_29
theorem d_X12_withdraw_99 : decode prog_14_method_98_code 99 = .ok (.iaload, 1) := gq_12 db00g_18 eb_37
theorem d_X12_withdraw_100 : decode prog_14_method_98_code 100 = .ok (.iconst 4, 1) := gq_13 db00g_18 eb_291
theorem d_X12_withdraw_101 : decode prog_14_method_98_code 101 = .ok (.aload_n 0, 1) := gq_14 db00g_18 eb_0
theorem d_X12_withdraw_102 : decode prog_14_method_98_code 102 = .ok (.iload_n 3, 1) := gq_15 db00g_18 eb_29
theorem d_X12_withdraw_103 : decode prog_14_method_98_code 103 = .ok (.aload_n 0, 1) := gq_16 db00g_18 eb_0
theorem d_X12_withdraw_104 : decode prog_14_method_98_code 104 = .ok (.getfield 342, 3) := gq_17 db00g_18 eb_928
theorem d_X12_withdraw_107 : decode prog_14_method_98_code 107 = .ok (.invokevirtual 603, 3) := gq_18 db00g_18 eb_1177
theorem d_X12_withdraw_110 : decode prog_14_method_98_code 110 = .ok (.imul, 1) := gq_19 db00g_18 eb_34
theorem d_X12_withdraw_111 : decode prog_14_method_98_code 111 = .ok (.aload_n 0, 1) := gq_20 db00g_18 eb_0
theorem d_X12_withdraw_112 : decode prog_14_method_98_code 112 = .ok (.iload_n 3, 1) := gq_21 db00g_18 eb_29
theorem d_X12_withdraw_113 : decode prog_14_method_98_code 113 = .ok (.aload_n 0, 1) := gq_22 db00g_18 eb_0
theorem d_X12_withdraw_114 : decode prog_14_method_98_code 114 = .ok (.getfield 342, 3) := gq_23 db00g_18 eb_928
theorem db00g_19 : Pf_ prog_14_method_98_code [(117, [0xb6, 0x02, 0x5e]), (120, [0x60]), (121, [0x9f, 0x00, 0x07]), (124, [0x04]), (125, [0xa7, 0x00, 0x04]), (128, [0x03]), (129, [0x60]), (130, [0x3d]), (131, [0x84, 0x03, 0x01]), (134, [0xa7, 0xff, 0xcf]), (137, [0x1c]), (138, [0xac])] := pf_ok prog_14_method_98_code _ 117 (by decide +kernel)
theorem d_X12_withdraw_117 : decode prog_14_method_98_code 117 = .ok (.invokevirtual 606, 3) := gq_0 db00g_19 eb_1183
theorem d_X12_withdraw_120 : decode prog_14_method_98_code 120 = .ok (.iadd, 1) := gq_1 db00g_19 eb_35
theorem d_X12_withdraw_121 : decode prog_14_method_98_code 121 = .ok (.if_icmp .eq 7, 3) := gq_2 db00g_19 eb_539
theorem d_X12_withdraw_124 : decode prog_14_method_98_code 124 = .ok (.iconst 1, 1) := gq_3 db00g_19 eb_19
theorem d_X12_withdraw_125 : decode prog_14_method_98_code 125 = .ok (.goto 4, 3) := gq_4 db00g_19 eb_20
theorem d_X12_withdraw_128 : decode prog_14_method_98_code 128 = .ok (.iconst 0, 1) := gq_5 db00g_19 eb_21
theorem d_X12_withdraw_129 : decode prog_14_method_98_code 129 = .ok (.iadd, 1) := gq_6 db00g_19 eb_35
theorem d_X12_withdraw_130 : decode prog_14_method_98_code 130 = .ok (.istore_n 2, 1) := gq_7 db00g_19 eb_27
theorem d_X12_withdraw_131 : decode prog_14_method_98_code 131 = .ok (.iinc 3 1, 3) := gq_8 db00g_19 eb_42
theorem d_X12_withdraw_134 : decode prog_14_method_98_code 134 = .ok (.goto (-49), 3) := gq_9 db00g_19 eb_450
theorem d_X12_withdraw_137 : decode prog_14_method_98_code 137 = .ok (.iload_n 2, 1) := gq_10 db00g_19 eb_13
theorem d_X12_withdraw_138 : decode prog_14_method_98_code 138 = .ok (.ireturn, 1) := gq_11 db00g_19 eb_15
theorem db00g_20 : Pf_ prog_14_method_99_code [(0, [0x2a]), (1, [0x1b]), (2, [0xb6, 0x02, 0x4c]), (5, [0x99, 0x00, 0x2a]), (8, [0x1c]), (9, [0x03]), (10, [0x11, 0x00, 0xff]), (13, [0xb8, 0x01, 0x43]), (16, [0x99, 0x00, 0x1f]), (19, [0x1d]), (20, [0x03]), (21, [0x11, 0x00, 0xff]), (24, [0xb8, 0x01, 0x43]), (27, [0x99, 0x00, 0x14]), (30, [0x1c]), (31, [0x1d]), (32, [0x7e]), (33, [0x9a, 0x00, 0x0e]), (36, [0x2a]), (37, [0xb4, 0x00, 0xf1]), (40, [0x1b]), (41, [0x2e]), (42, [0x10, 0x06]), (44, [0xa0, 0x00, 0x05])] := pf_ok prog_14_method_99_code _ 0 (by decide +kernel)
theorem d_X12_story_0 : decode prog_14_method_99_code 0 = .ok (.aload_n 0, 1) := gq_0 db00g_20 eb_0
theorem d_X12_story_1 : decode prog_14_method_99_code 1 = .ok (.iload_n 1, 1) := gq_1 db00g_20 eb_9
theorem d_X12_story_2 : decode prog_14_method_99_code 2 = .ok (.invokevirtual 588, 3) := gq_2 db00g_20 eb_1158
theorem d_X12_story_5 : decode prog_14_method_99_code 5 = .ok (.ifCond .eq 42, 3) := gq_3 db00g_20 eb_516
theorem d_X12_story_8 : decode prog_14_method_99_code 8 = .ok (.iload_n 2, 1) := gq_4 db00g_20 eb_13
theorem d_X12_story_9 : decode prog_14_method_99_code 9 = .ok (.iconst 0, 1) := gq_5 db00g_20 eb_21
theorem d_X12_story_10 : decode prog_14_method_99_code 10 = .ok (.sipush 255, 3) := gq_6 db00g_20 eb_443
theorem d_X12_story_13 : decode prog_14_method_99_code 13 = .ok (.invokestatic 323, 3) := gq_7 db00g_20 eb_913
theorem d_X12_story_16 : decode prog_14_method_99_code 16 = .ok (.ifCond .eq 31, 3) := gq_8 db00g_20 eb_758
theorem d_X12_story_19 : decode prog_14_method_99_code 19 = .ok (.iload_n 3, 1) := gq_9 db00g_20 eb_29
theorem d_X12_story_20 : decode prog_14_method_99_code 20 = .ok (.iconst 0, 1) := gq_10 db00g_20 eb_21
theorem d_X12_story_21 : decode prog_14_method_99_code 21 = .ok (.sipush 255, 3) := gq_11 db00g_20 eb_443
theorem d_X12_story_24 : decode prog_14_method_99_code 24 = .ok (.invokestatic 323, 3) := gq_12 db00g_20 eb_913
theorem d_X12_story_27 : decode prog_14_method_99_code 27 = .ok (.ifCond .eq 20, 3) := gq_13 db00g_20 eb_210
theorem d_X12_story_30 : decode prog_14_method_99_code 30 = .ok (.iload_n 2, 1) := gq_14 db00g_20 eb_13
theorem d_X12_story_31 : decode prog_14_method_99_code 31 = .ok (.iload_n 3, 1) := gq_15 db00g_20 eb_29
theorem d_X12_story_32 : decode prog_14_method_99_code 32 = .ok (.iand, 1) := gq_16 db00g_20 eb_55
theorem d_X12_story_33 : decode prog_14_method_99_code 33 = .ok (.ifCond .ne 14, 3) := gq_17 db00g_20 eb_1122
theorem d_X12_story_36 : decode prog_14_method_99_code 36 = .ok (.aload_n 0, 1) := gq_18 db00g_20 eb_0
theorem d_X12_story_37 : decode prog_14_method_99_code 37 = .ok (.getfield 241, 3) := gq_19 db00g_20 eb_1178
theorem d_X12_story_40 : decode prog_14_method_99_code 40 = .ok (.iload_n 1, 1) := gq_20 db00g_20 eb_9
theorem d_X12_story_41 : decode prog_14_method_99_code 41 = .ok (.iaload, 1) := gq_21 db00g_20 eb_37
theorem d_X12_story_42 : decode prog_14_method_99_code 42 = .ok (.bipush 6, 2) := gq_22 db00g_20 eb_14
theorem d_X12_story_44 : decode prog_14_method_99_code 44 = .ok (.if_icmp .ne 5, 3) := gq_23 db00g_20 eb_479
theorem db00g_21 : Pf_ prog_14_method_99_code [(47, [0x02]), (48, [0xac]), (49, [0x10, 0x06]), (51, [0x1b]), (52, [0x68]), (53, [0x2a]), (54, [0xb4, 0x00, 0xf1]), (57, [0x1b]), (58, [0x2e]), (59, [0x60]), (60, [0x36, 0x04]), (62, [0x2a]), (63, [0xb4, 0x00, 0xe8]), (66, [0x15, 0x04]), (68, [0x1c]), (69, [0x4f]), (70, [0x2a]), (71, [0xb4, 0x00, 0xeb]), (74, [0x15, 0x04]), (76, [0x1d]), (77, [0x4f]), (78, [0x2a]), (79, [0xb4, 0x00, 0xee]), (82, [0x15, 0x04])] := pf_ok prog_14_method_99_code _ 47 (by decide +kernel)
theorem d_X12_story_47 : decode prog_14_method_99_code 47 = .ok (.iconst (-1), 1) := gq_0 db00g_21 eb_26
theorem d_X12_story_48 : decode prog_14_method_99_code 48 = .ok (.ireturn, 1) := gq_1 db00g_21 eb_15
theorem d_X12_story_49 : decode prog_14_method_99_code 49 = .ok (.bipush 6, 2) := gq_2 db00g_21 eb_14
theorem d_X12_story_51 : decode prog_14_method_99_code 51 = .ok (.iload_n 1, 1) := gq_3 db00g_21 eb_9
theorem d_X12_story_52 : decode prog_14_method_99_code 52 = .ok (.imul, 1) := gq_4 db00g_21 eb_34
theorem d_X12_story_53 : decode prog_14_method_99_code 53 = .ok (.aload_n 0, 1) := gq_5 db00g_21 eb_0
theorem d_X12_story_54 : decode prog_14_method_99_code 54 = .ok (.getfield 241, 3) := gq_6 db00g_21 eb_1178
theorem d_X12_story_57 : decode prog_14_method_99_code 57 = .ok (.iload_n 1, 1) := gq_7 db00g_21 eb_9
theorem d_X12_story_58 : decode prog_14_method_99_code 58 = .ok (.iaload, 1) := gq_8 db00g_21 eb_37
theorem d_X12_story_59 : decode prog_14_method_99_code 59 = .ok (.iadd, 1) := gq_9 db00g_21 eb_35
theorem d_X12_story_60 : decode prog_14_method_99_code 60 = .ok (.istore 4, 2) := gq_10 db00g_21 eb_133
theorem d_X12_story_62 : decode prog_14_method_99_code 62 = .ok (.aload_n 0, 1) := gq_11 db00g_21 eb_0
theorem d_X12_story_63 : decode prog_14_method_99_code 63 = .ok (.getfield 232, 3) := gq_12 db00g_21 eb_660
theorem d_X12_story_66 : decode prog_14_method_99_code 66 = .ok (.iload 4, 2) := gq_13 db00g_21 eb_76
theorem d_X12_story_68 : decode prog_14_method_99_code 68 = .ok (.iload_n 2, 1) := gq_14 db00g_21 eb_13
theorem d_X12_story_69 : decode prog_14_method_99_code 69 = .ok (.iastore, 1) := gq_15 db00g_21 eb_38
theorem d_X12_story_70 : decode prog_14_method_99_code 70 = .ok (.aload_n 0, 1) := gq_16 db00g_21 eb_0
theorem d_X12_story_71 : decode prog_14_method_99_code 71 = .ok (.getfield 235, 3) := gq_17 db00g_21 eb_1181
theorem d_X12_story_74 : decode prog_14_method_99_code 74 = .ok (.iload 4, 2) := gq_18 db00g_21 eb_76
theorem d_X12_story_76 : decode prog_14_method_99_code 76 = .ok (.iload_n 3, 1) := gq_19 db00g_21 eb_29
theorem d_X12_story_77 : decode prog_14_method_99_code 77 = .ok (.iastore, 1) := gq_20 db00g_21 eb_38
theorem d_X12_story_78 : decode prog_14_method_99_code 78 = .ok (.aload_n 0, 1) := gq_21 db00g_21 eb_0
theorem d_X12_story_79 : decode prog_14_method_99_code 79 = .ok (.getfield 238, 3) := gq_22 db00g_21 eb_1179
theorem d_X12_story_82 : decode prog_14_method_99_code 82 = .ok (.iload 4, 2) := gq_23 db00g_21 eb_76
theorem db00g_22 : Pf_ prog_14_method_99_code [(84, [0x2a]), (85, [0xb4, 0x01, 0x56]), (88, [0x4f]), (89, [0x2a]), (90, [0xb4, 0x00, 0xf1]), (93, [0x1b]), (94, [0x5c]), (95, [0x2e]), (96, [0x04]), (97, [0x60]), (98, [0x4f]), (99, [0x2a]), (100, [0xb4, 0x00, 0xf1]), (103, [0x1b]), (104, [0x2e]), (105, [0x04]), (106, [0x64]), (107, [0xac])] := pf_ok prog_14_method_99_code _ 84 (by decide +kernel)
theorem d_X12_story_84 : decode prog_14_method_99_code 84 = .ok (.aload_n 0, 1) := gq_0 db00g_22 eb_0
theorem d_X12_story_85 : decode prog_14_method_99_code 85 = .ok (.getfield 342, 3) := gq_1 db00g_22 eb_928
theorem d_X12_story_88 : decode prog_14_method_99_code 88 = .ok (.iastore, 1) := gq_2 db00g_22 eb_38
theorem d_X12_story_89 : decode prog_14_method_99_code 89 = .ok (.aload_n 0, 1) := gq_3 db00g_22 eb_0
theorem d_X12_story_90 : decode prog_14_method_99_code 90 = .ok (.getfield 241, 3) := gq_4 db00g_22 eb_1178
theorem d_X12_story_93 : decode prog_14_method_99_code 93 = .ok (.iload_n 1, 1) := gq_5 db00g_22 eb_9
theorem d_X12_story_94 : decode prog_14_method_99_code 94 = .ok (.dup2, 1) := gq_6 db00g_22 eb_143
theorem d_X12_story_95 : decode prog_14_method_99_code 95 = .ok (.iaload, 1) := gq_7 db00g_22 eb_37
theorem d_X12_story_96 : decode prog_14_method_99_code 96 = .ok (.iconst 1, 1) := gq_8 db00g_22 eb_19
theorem d_X12_story_97 : decode prog_14_method_99_code 97 = .ok (.iadd, 1) := gq_9 db00g_22 eb_35
theorem d_X12_story_98 : decode prog_14_method_99_code 98 = .ok (.iastore, 1) := gq_10 db00g_22 eb_38
theorem d_X12_story_99 : decode prog_14_method_99_code 99 = .ok (.aload_n 0, 1) := gq_11 db00g_22 eb_0
theorem d_X12_story_100 : decode prog_14_method_99_code 100 = .ok (.getfield 241, 3) := gq_12 db00g_22 eb_1178
theorem d_X12_story_103 : decode prog_14_method_99_code 103 = .ok (.iload_n 1, 1) := gq_13 db00g_22 eb_9
theorem d_X12_story_104 : decode prog_14_method_99_code 104 = .ok (.iaload, 1) := gq_14 db00g_22 eb_37
theorem d_X12_story_105 : decode prog_14_method_99_code 105 = .ok (.iconst 1, 1) := gq_15 db00g_22 eb_19
theorem d_X12_story_106 : decode prog_14_method_99_code 106 = .ok (.isub, 1) := gq_16 db00g_22 eb_48
theorem d_X12_story_107 : decode prog_14_method_99_code 107 = .ok (.ireturn, 1) := gq_17 db00g_22 eb_15
theorem db00g_23 : Pf_ prog_14_method_100_code [(0, [0x2a]), (1, [0x1b]), (2, [0xb6, 0x02, 0x4c]), (5, [0x9a, 0x00, 0x05]), (8, [0x02]), (9, [0xac]), (10, [0x2a]), (11, [0x1b]), (12, [0x03]), (13, [0x2a]), (14, [0xb4, 0x01, 0x56]), (17, [0xb6, 0x02, 0x58]), (20, [0x2a]), (21, [0x1b]), (22, [0x06]), (23, [0x2a]), (24, [0xb4, 0x01, 0x56]), (27, [0xb6, 0x02, 0x58]), (30, [0x80]), (31, [0x3d]), (32, [0x2a]), (33, [0x1b]), (34, [0x2a]), (35, [0xb4, 0x01, 0x56])] := pf_ok prog_14_method_100_code _ 0 (by decide +kernel)
theorem d_X12_next_0 : decode prog_14_method_100_code 0 = .ok (.aload_n 0, 1) := gq_0 db00g_23 eb_0
theorem d_X12_next_1 : decode prog_14_method_100_code 1 = .ok (.iload_n 1, 1) := gq_1 db00g_23 eb_9
theorem d_X12_next_2 : decode prog_14_method_100_code 2 = .ok (.invokevirtual 588, 3) := gq_2 db00g_23 eb_1158
theorem d_X12_next_5 : decode prog_14_method_100_code 5 = .ok (.ifCond .ne 5, 3) := gq_3 db00g_23 eb_150
theorem d_X12_next_8 : decode prog_14_method_100_code 8 = .ok (.iconst (-1), 1) := gq_4 db00g_23 eb_26
theorem d_X12_next_9 : decode prog_14_method_100_code 9 = .ok (.ireturn, 1) := gq_5 db00g_23 eb_15
theorem d_X12_next_10 : decode prog_14_method_100_code 10 = .ok (.aload_n 0, 1) := gq_6 db00g_23 eb_0
theorem d_X12_next_11 : decode prog_14_method_100_code 11 = .ok (.iload_n 1, 1) := gq_7 db00g_23 eb_9
theorem d_X12_next_12 : decode prog_14_method_100_code 12 = .ok (.iconst 0, 1) := gq_8 db00g_23 eb_21
theorem d_X12_next_13 : decode prog_14_method_100_code 13 = .ok (.aload_n 0, 1) := gq_9 db00g_23 eb_0
theorem d_X12_next_14 : decode prog_14_method_100_code 14 = .ok (.getfield 342, 3) := gq_10 db00g_23 eb_928
theorem d_X12_next_17 : decode prog_14_method_100_code 17 = .ok (.invokevirtual 600, 3) := gq_11 db00g_23 eb_1176
theorem d_X12_next_20 : decode prog_14_method_100_code 20 = .ok (.aload_n 0, 1) := gq_12 db00g_23 eb_0
theorem d_X12_next_21 : decode prog_14_method_100_code 21 = .ok (.iload_n 1, 1) := gq_13 db00g_23 eb_9
theorem d_X12_next_22 : decode prog_14_method_100_code 22 = .ok (.iconst 3, 1) := gq_14 db00g_23 eb_54
theorem d_X12_next_23 : decode prog_14_method_100_code 23 = .ok (.aload_n 0, 1) := gq_15 db00g_23 eb_0
theorem d_X12_next_24 : decode prog_14_method_100_code 24 = .ok (.getfield 342, 3) := gq_16 db00g_23 eb_928
theorem d_X12_next_27 : decode prog_14_method_100_code 27 = .ok (.invokevirtual 600, 3) := gq_17 db00g_23 eb_1176
theorem d_X12_next_30 : decode prog_14_method_100_code 30 = .ok (.ior, 1) := gq_18 db00g_23 eb_12
theorem d_X12_next_31 : decode prog_14_method_100_code 31 = .ok (.istore_n 2, 1) := gq_19 db00g_23 eb_27
theorem d_X12_next_32 : decode prog_14_method_100_code 32 = .ok (.aload_n 0, 1) := gq_20 db00g_23 eb_0
theorem d_X12_next_33 : decode prog_14_method_100_code 33 = .ok (.iload_n 1, 1) := gq_21 db00g_23 eb_9
theorem d_X12_next_34 : decode prog_14_method_100_code 34 = .ok (.aload_n 0, 1) := gq_22 db00g_23 eb_0
theorem d_X12_next_35 : decode prog_14_method_100_code 35 = .ok (.getfield 342, 3) := gq_23 db00g_23 eb_928
theorem db00g_24 : Pf_ prog_14_method_100_code [(38, [0xb6, 0x02, 0x61]), (41, [0x3e]), (42, [0x02]), (43, [0x36, 0x04]), (45, [0x03]), (46, [0x36, 0x05]), (48, [0x03]), (49, [0x36, 0x06]), (51, [0x03]), (52, [0x36, 0x07]), (54, [0x15, 0x07]), (56, [0x10, 0x08]), (58, [0xa2, 0x00, 0x9a]), (61, [0x03]), (62, [0x36, 0x08]), (64, [0x03]), (65, [0x36, 0x09]), (67, [0x03]), (68, [0x36, 0x0a]), (70, [0x15, 0x0a]), (72, [0x2a]), (73, [0xb4, 0x00, 0xf1]), (76, [0x1b]), (77, [0x2e])] := pf_ok prog_14_method_100_code _ 38 (by decide +kernel)
theorem d_X12_next_38 : decode prog_14_method_100_code 38 = .ok (.invokevirtual 609, 3) := gq_0 db00g_24 eb_1184
theorem d_X12_next_41 : decode prog_14_method_100_code 41 = .ok (.istore_n 3, 1) := gq_1 db00g_24 eb_28
theorem d_X12_next_42 : decode prog_14_method_100_code 42 = .ok (.iconst (-1), 1) := gq_2 db00g_24 eb_26
theorem d_X12_next_43 : decode prog_14_method_100_code 43 = .ok (.istore 4, 2) := gq_3 db00g_24 eb_133
theorem d_X12_next_45 : decode prog_14_method_100_code 45 = .ok (.iconst 0, 1) := gq_4 db00g_24 eb_21
theorem d_X12_next_46 : decode prog_14_method_100_code 46 = .ok (.istore 5, 2) := gq_5 db00g_24 eb_134
theorem d_X12_next_48 : decode prog_14_method_100_code 48 = .ok (.iconst 0, 1) := gq_6 db00g_24 eb_21
theorem d_X12_next_49 : decode prog_14_method_100_code 49 = .ok (.istore 6, 2) := gq_7 db00g_24 eb_58
theorem d_X12_next_51 : decode prog_14_method_100_code 51 = .ok (.iconst 0, 1) := gq_8 db00g_24 eb_21
theorem d_X12_next_52 : decode prog_14_method_100_code 52 = .ok (.istore 7, 2) := gq_9 db00g_24 eb_59
theorem d_X12_next_54 : decode prog_14_method_100_code 54 = .ok (.iload 7, 2) := gq_10 db00g_24 eb_73
theorem d_X12_next_56 : decode prog_14_method_100_code 56 = .ok (.bipush 8, 2) := gq_11 db00g_24 eb_94
theorem d_X12_next_58 : decode prog_14_method_100_code 58 = .ok (.if_icmp .ge 154, 3) := gq_12 db00g_24 eb_1188
theorem d_X12_next_61 : decode prog_14_method_100_code 61 = .ok (.iconst 0, 1) := gq_13 db00g_24 eb_21
theorem d_X12_next_62 : decode prog_14_method_100_code 62 = .ok (.istore 8, 2) := gq_14 db00g_24 eb_61
theorem d_X12_next_64 : decode prog_14_method_100_code 64 = .ok (.iconst 0, 1) := gq_15 db00g_24 eb_21
theorem d_X12_next_65 : decode prog_14_method_100_code 65 = .ok (.istore 9, 2) := gq_16 db00g_24 eb_62
theorem d_X12_next_67 : decode prog_14_method_100_code 67 = .ok (.iconst 0, 1) := gq_17 db00g_24 eb_21
theorem d_X12_next_68 : decode prog_14_method_100_code 68 = .ok (.istore 10, 2) := gq_18 db00g_24 eb_67
theorem d_X12_next_70 : decode prog_14_method_100_code 70 = .ok (.iload 10, 2) := gq_19 db00g_24 eb_68
theorem d_X12_next_72 : decode prog_14_method_100_code 72 = .ok (.aload_n 0, 1) := gq_20 db00g_24 eb_0
theorem d_X12_next_73 : decode prog_14_method_100_code 73 = .ok (.getfield 241, 3) := gq_21 db00g_24 eb_1178
theorem d_X12_next_76 : decode prog_14_method_100_code 76 = .ok (.iload_n 1, 1) := gq_22 db00g_24 eb_9
theorem d_X12_next_77 : decode prog_14_method_100_code 77 = .ok (.iaload, 1) := gq_23 db00g_24 eb_37
theorem db00g_25 : Pf_ prog_14_method_100_code [(78, [0xa2, 0x00, 0x3f]), (81, [0x1d]), (82, [0x15, 0x0a]), (84, [0x7a]), (85, [0x04]), (86, [0x7e]), (87, [0x04]), (88, [0xa0, 0x00, 0x2f]), (91, [0x15, 0x08]), (93, [0x2a]), (94, [0xb4, 0x00, 0xe8]), (97, [0x10, 0x06]), (99, [0x1b]), (100, [0x68]), (101, [0x15, 0x0a]), (103, [0x60]), (104, [0x2e]), (105, [0x15, 0x07]), (107, [0x7a]), (108, [0x04]), (109, [0x7e]), (110, [0x60]), (111, [0x36, 0x08]), (113, [0x15, 0x09])] := pf_ok prog_14_method_100_code _ 78 (by decide +kernel)
theorem d_X12_next_78 : decode prog_14_method_100_code 78 = .ok (.if_icmp .ge 63, 3) := gq_0 db00g_25 eb_784
theorem d_X12_next_81 : decode prog_14_method_100_code 81 = .ok (.iload_n 3, 1) := gq_1 db00g_25 eb_29
theorem d_X12_next_82 : decode prog_14_method_100_code 82 = .ok (.iload 10, 2) := gq_2 db00g_25 eb_68
theorem d_X12_next_84 : decode prog_14_method_100_code 84 = .ok (.ishr, 1) := gq_3 db00g_25 eb_56
theorem d_X12_next_85 : decode prog_14_method_100_code 85 = .ok (.iconst 1, 1) := gq_4 db00g_25 eb_19
theorem d_X12_next_86 : decode prog_14_method_100_code 86 = .ok (.iand, 1) := gq_5 db00g_25 eb_55
theorem d_X12_next_87 : decode prog_14_method_100_code 87 = .ok (.iconst 1, 1) := gq_6 db00g_25 eb_19
theorem d_X12_next_88 : decode prog_14_method_100_code 88 = .ok (.if_icmp .ne 47, 3) := gq_7 db00g_25 eb_1189
theorem d_X12_next_91 : decode prog_14_method_100_code 91 = .ok (.iload 8, 2) := gq_8 db00g_25 eb_64
theorem d_X12_next_93 : decode prog_14_method_100_code 93 = .ok (.aload_n 0, 1) := gq_9 db00g_25 eb_0
theorem d_X12_next_94 : decode prog_14_method_100_code 94 = .ok (.getfield 232, 3) := gq_10 db00g_25 eb_660
theorem d_X12_next_97 : decode prog_14_method_100_code 97 = .ok (.bipush 6, 2) := gq_11 db00g_25 eb_14
theorem d_X12_next_99 : decode prog_14_method_100_code 99 = .ok (.iload_n 1, 1) := gq_12 db00g_25 eb_9
theorem d_X12_next_100 : decode prog_14_method_100_code 100 = .ok (.imul, 1) := gq_13 db00g_25 eb_34
theorem d_X12_next_101 : decode prog_14_method_100_code 101 = .ok (.iload 10, 2) := gq_14 db00g_25 eb_68
theorem d_X12_next_103 : decode prog_14_method_100_code 103 = .ok (.iadd, 1) := gq_15 db00g_25 eb_35
theorem d_X12_next_104 : decode prog_14_method_100_code 104 = .ok (.iaload, 1) := gq_16 db00g_25 eb_37
theorem d_X12_next_105 : decode prog_14_method_100_code 105 = .ok (.iload 7, 2) := gq_17 db00g_25 eb_73
theorem d_X12_next_107 : decode prog_14_method_100_code 107 = .ok (.ishr, 1) := gq_18 db00g_25 eb_56
theorem d_X12_next_108 : decode prog_14_method_100_code 108 = .ok (.iconst 1, 1) := gq_19 db00g_25 eb_19
theorem d_X12_next_109 : decode prog_14_method_100_code 109 = .ok (.iand, 1) := gq_20 db00g_25 eb_55
theorem d_X12_next_110 : decode prog_14_method_100_code 110 = .ok (.iadd, 1) := gq_21 db00g_25 eb_35
theorem d_X12_next_111 : decode prog_14_method_100_code 111 = .ok (.istore 8, 2) := gq_22 db00g_25 eb_61
theorem d_X12_next_113 : decode prog_14_method_100_code 113 = .ok (.iload 9, 2) := gq_23 db00g_25 eb_63
theorem db00g_26 : Pf_ prog_14_method_100_code [(115, [0x2a]), (116, [0xb4, 0x00, 0xeb]), (119, [0x10, 0x06]), (121, [0x1b]), (122, [0x68]), (123, [0x15, 0x0a]), (125, [0x60]), (126, [0x2e]), (127, [0x15, 0x07]), (129, [0x7a]), (130, [0x04]), (131, [0x7e]), (132, [0x60]), (133, [0x36, 0x09]), (135, [0x84, 0x0a, 0x01]), (138, [0xa7, 0xff, 0xbc]), (141, [0x15, 0x08]), (143, [0x15, 0x09]), (145, [0xb8, 0x02, 0x69]), (148, [0x36, 0x0a]), (150, [0x1c]), (151, [0x15, 0x07]), (153, [0x7a]), (154, [0x04])] := pf_ok prog_14_method_100_code _ 115 (by decide +kernel)
theorem d_X12_next_115 : decode prog_14_method_100_code 115 = .ok (.aload_n 0, 1) := gq_0 db00g_26 eb_0
theorem d_X12_next_116 : decode prog_14_method_100_code 116 = .ok (.getfield 235, 3) := gq_1 db00g_26 eb_1181
theorem d_X12_next_119 : decode prog_14_method_100_code 119 = .ok (.bipush 6, 2) := gq_2 db00g_26 eb_14
theorem d_X12_next_121 : decode prog_14_method_100_code 121 = .ok (.iload_n 1, 1) := gq_3 db00g_26 eb_9
theorem d_X12_next_122 : decode prog_14_method_100_code 122 = .ok (.imul, 1) := gq_4 db00g_26 eb_34
theorem d_X12_next_123 : decode prog_14_method_100_code 123 = .ok (.iload 10, 2) := gq_5 db00g_26 eb_68
theorem d_X12_next_125 : decode prog_14_method_100_code 125 = .ok (.iadd, 1) := gq_6 db00g_26 eb_35
theorem d_X12_next_126 : decode prog_14_method_100_code 126 = .ok (.iaload, 1) := gq_7 db00g_26 eb_37
theorem d_X12_next_127 : decode prog_14_method_100_code 127 = .ok (.iload 7, 2) := gq_8 db00g_26 eb_73
theorem d_X12_next_129 : decode prog_14_method_100_code 129 = .ok (.ishr, 1) := gq_9 db00g_26 eb_56
theorem d_X12_next_130 : decode prog_14_method_100_code 130 = .ok (.iconst 1, 1) := gq_10 db00g_26 eb_19
theorem d_X12_next_131 : decode prog_14_method_100_code 131 = .ok (.iand, 1) := gq_11 db00g_26 eb_55
theorem d_X12_next_132 : decode prog_14_method_100_code 132 = .ok (.iadd, 1) := gq_12 db00g_26 eb_35
theorem d_X12_next_133 : decode prog_14_method_100_code 133 = .ok (.istore 9, 2) := gq_13 db00g_26 eb_62
theorem d_X12_next_135 : decode prog_14_method_100_code 135 = .ok (.iinc 10 1, 3) := gq_14 db00g_26 eb_1190
theorem d_X12_next_138 : decode prog_14_method_100_code 138 = .ok (.goto (-68), 3) := gq_15 db00g_26 eb_255
theorem d_X12_next_141 : decode prog_14_method_100_code 141 = .ok (.iload 8, 2) := gq_16 db00g_26 eb_64
theorem d_X12_next_143 : decode prog_14_method_100_code 143 = .ok (.iload 9, 2) := gq_17 db00g_26 eb_63
theorem d_X12_next_145 : decode prog_14_method_100_code 145 = .ok (.invokestatic 617, 3) := gq_18 db00g_26 eb_1191
theorem d_X12_next_148 : decode prog_14_method_100_code 148 = .ok (.istore 10, 2) := gq_19 db00g_26 eb_67
theorem d_X12_next_150 : decode prog_14_method_100_code 150 = .ok (.iload_n 2, 1) := gq_20 db00g_26 eb_13
theorem d_X12_next_151 : decode prog_14_method_100_code 151 = .ok (.iload 7, 2) := gq_21 db00g_26 eb_73
theorem d_X12_next_153 : decode prog_14_method_100_code 153 = .ok (.ishr, 1) := gq_22 db00g_26 eb_56
theorem d_X12_next_154 : decode prog_14_method_100_code 154 = .ok (.iconst 1, 1) := gq_23 db00g_26 eb_19
theorem db00g_27 : Pf_ prog_14_method_100_code [(155, [0x7e]), (156, [0x99, 0x00, 0x32]), (159, [0x15, 0x0a]), (161, [0x9a, 0x00, 0x06]), (164, [0xa7, 0x00, 0x2a]), (167, [0x15, 0x0a]), (169, [0x15, 0x05]), (171, [0xa3, 0x00, 0x14]), (174, [0x15, 0x0a]), (176, [0x15, 0x05]), (178, [0xa0, 0x00, 0x1c]), (181, [0x15, 0x08]), (183, [0x15, 0x09]), (185, [0x60]), (186, [0x15, 0x06]), (188, [0xa4, 0x00, 0x12]), (191, [0x15, 0x07]), (193, [0x36, 0x04]), (195, [0x15, 0x0a]), (197, [0x36, 0x05]), (199, [0x15, 0x08]), (201, [0x15, 0x09]), (203, [0x60]), (204, [0x36, 0x06])] := pf_ok prog_14_method_100_code _ 155 (by decide +kernel)
theorem d_X12_next_155 : decode prog_14_method_100_code 155 = .ok (.iand, 1) := gq_0 db00g_27 eb_55
theorem d_X12_next_156 : decode prog_14_method_100_code 156 = .ok (.ifCond .eq 50, 3) := gq_1 db00g_27 eb_672
theorem d_X12_next_159 : decode prog_14_method_100_code 159 = .ok (.iload 10, 2) := gq_2 db00g_27 eb_68
theorem d_X12_next_161 : decode prog_14_method_100_code 161 = .ok (.ifCond .ne 6, 3) := gq_3 db00g_27 eb_344
theorem d_X12_next_164 : decode prog_14_method_100_code 164 = .ok (.goto 42, 3) := gq_4 db00g_27 eb_1192
theorem d_X12_next_167 : decode prog_14_method_100_code 167 = .ok (.iload 10, 2) := gq_5 db00g_27 eb_68
theorem d_X12_next_169 : decode prog_14_method_100_code 169 = .ok (.iload 5, 2) := gq_6 db00g_27 eb_125
theorem d_X12_next_171 : decode prog_14_method_100_code 171 = .ok (.if_icmp .gt 20, 3) := gq_7 db00g_27 eb_387
theorem d_X12_next_174 : decode prog_14_method_100_code 174 = .ok (.iload 10, 2) := gq_8 db00g_27 eb_68
theorem d_X12_next_176 : decode prog_14_method_100_code 176 = .ok (.iload 5, 2) := gq_9 db00g_27 eb_125
theorem d_X12_next_178 : decode prog_14_method_100_code 178 = .ok (.if_icmp .ne 28, 3) := gq_10 db00g_27 eb_521
theorem d_X12_next_181 : decode prog_14_method_100_code 181 = .ok (.iload 8, 2) := gq_11 db00g_27 eb_64
theorem d_X12_next_183 : decode prog_14_method_100_code 183 = .ok (.iload 9, 2) := gq_12 db00g_27 eb_63
theorem d_X12_next_185 : decode prog_14_method_100_code 185 = .ok (.iadd, 1) := gq_13 db00g_27 eb_35
theorem d_X12_next_186 : decode prog_14_method_100_code 186 = .ok (.iload 6, 2) := gq_14 db00g_27 eb_75
theorem d_X12_next_188 : decode prog_14_method_100_code 188 = .ok (.if_icmp .le 18, 3) := gq_15 db00g_27 eb_1193
theorem d_X12_next_191 : decode prog_14_method_100_code 191 = .ok (.iload 7, 2) := gq_16 db00g_27 eb_73
theorem d_X12_next_193 : decode prog_14_method_100_code 193 = .ok (.istore 4, 2) := gq_17 db00g_27 eb_133
theorem d_X12_next_195 : decode prog_14_method_100_code 195 = .ok (.iload 10, 2) := gq_18 db00g_27 eb_68
theorem d_X12_next_197 : decode prog_14_method_100_code 197 = .ok (.istore 5, 2) := gq_19 db00g_27 eb_134
theorem d_X12_next_199 : decode prog_14_method_100_code 199 = .ok (.iload 8, 2) := gq_20 db00g_27 eb_64
theorem d_X12_next_201 : decode prog_14_method_100_code 201 = .ok (.iload 9, 2) := gq_21 db00g_27 eb_63
theorem d_X12_next_203 : decode prog_14_method_100_code 203 = .ok (.iadd, 1) := gq_22 db00g_27 eb_35
theorem d_X12_next_204 : decode prog_14_method_100_code 204 = .ok (.istore 6, 2) := gq_23 db00g_27 eb_58
theorem db00g_28 : Pf_ prog_14_method_100_code [(206, [0x84, 0x07, 0x01]), (209, [0xa7, 0xff, 0x65]), (212, [0x15, 0x04]), (214, [0xac])] := pf_ok prog_14_method_100_code _ 206 (by decide +kernel)
theorem d_X12_next_206 : decode prog_14_method_100_code 206 = .ok (.iinc 7 1, 3) := gq_0 db00g_28 eb_182
theorem d_X12_next_209 : decode prog_14_method_100_code 209 = .ok (.goto (-155), 3) := gq_1 db00g_28 eb_140
theorem d_X12_next_212 : decode prog_14_method_100_code 212 = .ok (.iload 4, 2) := gq_2 db00g_28 eb_76
theorem d_X12_next_214 : decode prog_14_method_100_code 214 = .ok (.ireturn, 1) := gq_3 db00g_28 eb_15
theorem db00g_29 : Pf_ prog_14_method_101_code [(0, [0x1c]), (1, [0x03]), (2, [0x13, 0x02, 0x6b]), (5, [0xb8, 0x01, 0x43]), (8, [0x99, 0x00, 0x17]), (11, [0x1b]), (12, [0x99, 0x00, 0x0a]), (15, [0x2a]), (16, [0xb4, 0x02, 0x6c]), (19, [0xa7, 0x00, 0x07]), (22, [0x2a]), (23, [0xb4, 0x02, 0x6f]), (26, [0x10, 0x08]), (28, [0xa0, 0x00, 0x05]), (31, [0x02]), (32, [0xac]), (33, [0x1b]), (34, [0x99, 0x00, 0x1e]), (37, [0x2a]), (38, [0xb4, 0x00, 0xf7]), (41, [0x2a]), (42, [0xb4, 0x02, 0x6c]), (45, [0x1c]), (46, [0x4f])] := pf_ok prog_14_method_101_code _ 0 (by decide +kernel)
theorem d_X12_good_0 : decode prog_14_method_101_code 0 = .ok (.iload_n 2, 1) := gq_0 db00g_29 eb_13
theorem d_X12_good_1 : decode prog_14_method_101_code 1 = .ok (.iconst 0, 1) := gq_1 db00g_29 eb_21
theorem d_X12_good_2 : decode prog_14_method_101_code 2 = .ok (.ldc_w 619, 3) := gq_2 db00g_29 eb_1194
theorem d_X12_good_5 : decode prog_14_method_101_code 5 = .ok (.invokestatic 323, 3) := gq_3 db00g_29 eb_913
theorem d_X12_good_8 : decode prog_14_method_101_code 8 = .ok (.ifCond .eq 23, 3) := gq_4 db00g_29 eb_204
theorem d_X12_good_11 : decode prog_14_method_101_code 11 = .ok (.iload_n 1, 1) := gq_5 db00g_29 eb_9
theorem d_X12_good_12 : decode prog_14_method_101_code 12 = .ok (.ifCond .eq 10, 3) := gq_6 db00g_29 eb_202
theorem d_X12_good_15 : decode prog_14_method_101_code 15 = .ok (.aload_n 0, 1) := gq_7 db00g_29 eb_0
theorem d_X12_good_16 : decode prog_14_method_101_code 16 = .ok (.getfield 620, 3) := gq_8 db00g_29 eb_1195
theorem d_X12_good_19 : decode prog_14_method_101_code 19 = .ok (.goto 7, 3) := gq_9 db00g_29 eb_203
theorem d_X12_good_22 : decode prog_14_method_101_code 22 = .ok (.aload_n 0, 1) := gq_10 db00g_29 eb_0
theorem d_X12_good_23 : decode prog_14_method_101_code 23 = .ok (.getfield 623, 3) := gq_11 db00g_29 eb_1196
theorem d_X12_good_26 : decode prog_14_method_101_code 26 = .ok (.bipush 8, 2) := gq_12 db00g_29 eb_94
theorem d_X12_good_28 : decode prog_14_method_101_code 28 = .ok (.if_icmp .ne 5, 3) := gq_13 db00g_29 eb_479
theorem d_X12_good_31 : decode prog_14_method_101_code 31 = .ok (.iconst (-1), 1) := gq_14 db00g_29 eb_26
theorem d_X12_good_32 : decode prog_14_method_101_code 32 = .ok (.ireturn, 1) := gq_15 db00g_29 eb_15
theorem d_X12_good_33 : decode prog_14_method_101_code 33 = .ok (.iload_n 1, 1) := gq_16 db00g_29 eb_9
theorem d_X12_good_34 : decode prog_14_method_101_code 34 = .ok (.ifCond .eq 30, 3) := gq_17 db00g_29 eb_537
theorem d_X12_good_37 : decode prog_14_method_101_code 37 = .ok (.aload_n 0, 1) := gq_18 db00g_29 eb_0
theorem d_X12_good_38 : decode prog_14_method_101_code 38 = .ok (.getfield 247, 3) := gq_19 db00g_29 eb_1197
theorem d_X12_good_41 : decode prog_14_method_101_code 41 = .ok (.aload_n 0, 1) := gq_20 db00g_29 eb_0
theorem d_X12_good_42 : decode prog_14_method_101_code 42 = .ok (.getfield 620, 3) := gq_21 db00g_29 eb_1195
theorem d_X12_good_45 : decode prog_14_method_101_code 45 = .ok (.iload_n 2, 1) := gq_22 db00g_29 eb_13
theorem d_X12_good_46 : decode prog_14_method_101_code 46 = .ok (.iastore, 1) := gq_23 db00g_29 eb_38
theorem db00g_30 : Pf_ prog_14_method_101_code [(47, [0x2a]), (48, [0x59]), (49, [0xb4, 0x02, 0x6c]), (52, [0x04]), (53, [0x60]), (54, [0xb5, 0x02, 0x6c]), (57, [0x2a]), (58, [0xb4, 0x02, 0x6c]), (61, [0x04]), (62, [0x64]), (63, [0xac]), (64, [0x2a]), (65, [0xb4, 0x00, 0xfa]), (68, [0x2a]), (69, [0xb4, 0x02, 0x6f]), (72, [0x1c]), (73, [0x4f]), (74, [0x2a]), (75, [0x59]), (76, [0xb4, 0x02, 0x6f]), (79, [0x04]), (80, [0x60]), (81, [0xb5, 0x02, 0x6f]), (84, [0x2a])] := pf_ok prog_14_method_101_code _ 47 (by decide +kernel)
theorem d_X12_good_47 : decode prog_14_method_101_code 47 = .ok (.aload_n 0, 1) := gq_0 db00g_30 eb_0
theorem d_X12_good_48 : decode prog_14_method_101_code 48 = .ok (.dup, 1) := gq_1 db00g_30 eb_46
theorem d_X12_good_49 : decode prog_14_method_101_code 49 = .ok (.getfield 620, 3) := gq_2 db00g_30 eb_1195
theorem d_X12_good_52 : decode prog_14_method_101_code 52 = .ok (.iconst 1, 1) := gq_3 db00g_30 eb_19
theorem d_X12_good_53 : decode prog_14_method_101_code 53 = .ok (.iadd, 1) := gq_4 db00g_30 eb_35
theorem d_X12_good_54 : decode prog_14_method_101_code 54 = .ok (.putfield 620, 3) := gq_5 db00g_30 eb_1198
theorem d_X12_good_57 : decode prog_14_method_101_code 57 = .ok (.aload_n 0, 1) := gq_6 db00g_30 eb_0
theorem d_X12_good_58 : decode prog_14_method_101_code 58 = .ok (.getfield 620, 3) := gq_7 db00g_30 eb_1195
theorem d_X12_good_61 : decode prog_14_method_101_code 61 = .ok (.iconst 1, 1) := gq_8 db00g_30 eb_19
theorem d_X12_good_62 : decode prog_14_method_101_code 62 = .ok (.isub, 1) := gq_9 db00g_30 eb_48
theorem d_X12_good_63 : decode prog_14_method_101_code 63 = .ok (.ireturn, 1) := gq_10 db00g_30 eb_15
theorem d_X12_good_64 : decode prog_14_method_101_code 64 = .ok (.aload_n 0, 1) := gq_11 db00g_30 eb_0
theorem d_X12_good_65 : decode prog_14_method_101_code 65 = .ok (.getfield 250, 3) := gq_12 db00g_30 eb_1199
theorem d_X12_good_68 : decode prog_14_method_101_code 68 = .ok (.aload_n 0, 1) := gq_13 db00g_30 eb_0
theorem d_X12_good_69 : decode prog_14_method_101_code 69 = .ok (.getfield 623, 3) := gq_14 db00g_30 eb_1196
theorem d_X12_good_72 : decode prog_14_method_101_code 72 = .ok (.iload_n 2, 1) := gq_15 db00g_30 eb_13
theorem d_X12_good_73 : decode prog_14_method_101_code 73 = .ok (.iastore, 1) := gq_16 db00g_30 eb_38
theorem d_X12_good_74 : decode prog_14_method_101_code 74 = .ok (.aload_n 0, 1) := gq_17 db00g_30 eb_0
theorem d_X12_good_75 : decode prog_14_method_101_code 75 = .ok (.dup, 1) := gq_18 db00g_30 eb_46
theorem d_X12_good_76 : decode prog_14_method_101_code 76 = .ok (.getfield 623, 3) := gq_19 db00g_30 eb_1196
theorem d_X12_good_79 : decode prog_14_method_101_code 79 = .ok (.iconst 1, 1) := gq_20 db00g_30 eb_19
theorem d_X12_good_80 : decode prog_14_method_101_code 80 = .ok (.iadd, 1) := gq_21 db00g_30 eb_35
theorem d_X12_good_81 : decode prog_14_method_101_code 81 = .ok (.putfield 623, 3) := gq_22 db00g_30 eb_1200
theorem d_X12_good_84 : decode prog_14_method_101_code 84 = .ok (.aload_n 0, 1) := gq_23 db00g_30 eb_0
theorem db00g_31 : Pf_ prog_14_method_101_code [(85, [0xb4, 0x02, 0x6f]), (88, [0x04]), (89, [0x64]), (90, [0xac])] := pf_ok prog_14_method_101_code _ 85 (by decide +kernel)
theorem d_X12_good_85 : decode prog_14_method_101_code 85 = .ok (.getfield 623, 3) := gq_0 db00g_31 eb_1196
theorem d_X12_good_88 : decode prog_14_method_101_code 88 = .ok (.iconst 1, 1) := gq_1 db00g_31 eb_19
theorem d_X12_good_89 : decode prog_14_method_101_code 89 = .ok (.isub, 1) := gq_2 db00g_31 eb_48
theorem d_X12_good_90 : decode prog_14_method_101_code 90 = .ok (.ireturn, 1) := gq_3 db00g_31 eb_15
theorem db00g_32 : Pf_ prog_14_method_102_code [(0, [0x1b]), (1, [0x04]), (2, [0x08]), (3, [0xb8, 0x01, 0x43]), (6, [0x9a, 0x00, 0x05]), (9, [0x03]), (10, [0xac]), (11, [0x2a]), (12, [0x1b]), (13, [0xb5, 0x00, 0xfd]), (16, [0x04]), (17, [0xac])] := pf_ok prog_14_method_102_code _ 0 (by decide +kernel)
theorem d_X12_least_0 : decode prog_14_method_102_code 0 = .ok (.iload_n 1, 1) := gq_0 db00g_32 eb_9
theorem d_X12_least_1 : decode prog_14_method_102_code 1 = .ok (.iconst 1, 1) := gq_1 db00g_32 eb_19
theorem d_X12_least_2 : decode prog_14_method_102_code 2 = .ok (.iconst 5, 1) := gq_2 db00g_32 eb_122
theorem d_X12_least_3 : decode prog_14_method_102_code 3 = .ok (.invokestatic 323, 3) := gq_3 db00g_32 eb_913
theorem d_X12_least_6 : decode prog_14_method_102_code 6 = .ok (.ifCond .ne 5, 3) := gq_4 db00g_32 eb_150
theorem d_X12_least_9 : decode prog_14_method_102_code 9 = .ok (.iconst 0, 1) := gq_5 db00g_32 eb_21
theorem d_X12_least_10 : decode prog_14_method_102_code 10 = .ok (.ireturn, 1) := gq_6 db00g_32 eb_15
theorem d_X12_least_11 : decode prog_14_method_102_code 11 = .ok (.aload_n 0, 1) := gq_7 db00g_32 eb_0
theorem d_X12_least_12 : decode prog_14_method_102_code 12 = .ok (.iload_n 1, 1) := gq_8 db00g_32 eb_9
theorem d_X12_least_13 : decode prog_14_method_102_code 13 = .ok (.putfield 253, 3) := gq_9 db00g_32 eb_891
theorem d_X12_least_16 : decode prog_14_method_102_code 16 = .ok (.iconst 1, 1) := gq_10 db00g_32 eb_19
theorem d_X12_least_17 : decode prog_14_method_102_code 17 = .ok (.ireturn, 1) := gq_11 db00g_32 eb_15
theorem db00g_33 : Pf_ prog_14_method_103_code [(0, [0x2a]), (1, [0xb4, 0x00, 0xf7]), (4, [0x1b]), (5, [0x2e]), (6, [0x3e]), (7, [0x2a]), (8, [0xb4, 0x00, 0xfa]), (11, [0x1c]), (12, [0x2e]), (13, [0x36, 0x04]), (15, [0x03]), (16, [0x36, 0x05]), (18, [0x03]), (19, [0x36, 0x06]), (21, [0x15, 0x06]), (23, [0x08]), (24, [0xa2, 0x00, 0x2b]), (27, [0x15, 0x05]), (29, [0x1d]), (30, [0x10, 0x0a]), (32, [0x70]), (33, [0x15, 0x04]), (35, [0x10, 0x0a]), (37, [0x70])] := pf_ok prog_14_method_103_code _ 0 (by decide +kernel)
theorem d_X12_like_0 : decode prog_14_method_103_code 0 = .ok (.aload_n 0, 1) := gq_0 db00g_33 eb_0
theorem d_X12_like_1 : decode prog_14_method_103_code 1 = .ok (.getfield 247, 3) := gq_1 db00g_33 eb_1197
theorem d_X12_like_4 : decode prog_14_method_103_code 4 = .ok (.iload_n 1, 1) := gq_2 db00g_33 eb_9
theorem d_X12_like_5 : decode prog_14_method_103_code 5 = .ok (.iaload, 1) := gq_3 db00g_33 eb_37
theorem d_X12_like_6 : decode prog_14_method_103_code 6 = .ok (.istore_n 3, 1) := gq_4 db00g_33 eb_28
theorem d_X12_like_7 : decode prog_14_method_103_code 7 = .ok (.aload_n 0, 1) := gq_5 db00g_33 eb_0
theorem d_X12_like_8 : decode prog_14_method_103_code 8 = .ok (.getfield 250, 3) := gq_6 db00g_33 eb_1199
theorem d_X12_like_11 : decode prog_14_method_103_code 11 = .ok (.iload_n 2, 1) := gq_7 db00g_33 eb_13
theorem d_X12_like_12 : decode prog_14_method_103_code 12 = .ok (.iaload, 1) := gq_8 db00g_33 eb_37
theorem d_X12_like_13 : decode prog_14_method_103_code 13 = .ok (.istore 4, 2) := gq_9 db00g_33 eb_133
theorem d_X12_like_15 : decode prog_14_method_103_code 15 = .ok (.iconst 0, 1) := gq_10 db00g_33 eb_21
theorem d_X12_like_16 : decode prog_14_method_103_code 16 = .ok (.istore 5, 2) := gq_11 db00g_33 eb_134
theorem d_X12_like_18 : decode prog_14_method_103_code 18 = .ok (.iconst 0, 1) := gq_12 db00g_33 eb_21
theorem d_X12_like_19 : decode prog_14_method_103_code 19 = .ok (.istore 6, 2) := gq_13 db00g_33 eb_58
theorem d_X12_like_21 : decode prog_14_method_103_code 21 = .ok (.iload 6, 2) := gq_14 db00g_33 eb_75
theorem d_X12_like_23 : decode prog_14_method_103_code 23 = .ok (.iconst 5, 1) := gq_15 db00g_33 eb_122
theorem d_X12_like_24 : decode prog_14_method_103_code 24 = .ok (.if_icmp .ge 43, 3) := gq_16 db00g_33 eb_246
theorem d_X12_like_27 : decode prog_14_method_103_code 27 = .ok (.iload 5, 2) := gq_17 db00g_33 eb_125
theorem d_X12_like_29 : decode prog_14_method_103_code 29 = .ok (.iload_n 3, 1) := gq_18 db00g_33 eb_29
theorem d_X12_like_30 : decode prog_14_method_103_code 30 = .ok (.bipush 10, 2) := gq_19 db00g_33 eb_93
theorem d_X12_like_32 : decode prog_14_method_103_code 32 = .ok (.irem, 1) := gq_20 db00g_33 eb_218
theorem d_X12_like_33 : decode prog_14_method_103_code 33 = .ok (.iload 4, 2) := gq_21 db00g_33 eb_76
theorem d_X12_like_35 : decode prog_14_method_103_code 35 = .ok (.bipush 10, 2) := gq_22 db00g_33 eb_93
theorem d_X12_like_37 : decode prog_14_method_103_code 37 = .ok (.irem, 1) := gq_23 db00g_33 eb_218
theorem db00g_34 : Pf_ prog_14_method_103_code [(38, [0xa0, 0x00, 0x07]), (41, [0x04]), (42, [0xa7, 0x00, 0x04]), (45, [0x03]), (46, [0x60]), (47, [0x36, 0x05]), (49, [0x1d]), (50, [0x10, 0x0a]), (52, [0x6c]), (53, [0x3e]), (54, [0x15, 0x04]), (56, [0x10, 0x0a]), (58, [0x6c]), (59, [0x36, 0x04]), (61, [0x84, 0x06, 0x01]), (64, [0xa7, 0xff, 0xd5]), (67, [0x15, 0x05]), (69, [0xac])] := pf_ok prog_14_method_103_code _ 38 (by decide +kernel)
theorem d_X12_like_38 : decode prog_14_method_103_code 38 = .ok (.if_icmp .ne 7, 3) := gq_0 db00g_34 eb_135
theorem d_X12_like_41 : decode prog_14_method_103_code 41 = .ok (.iconst 1, 1) := gq_1 db00g_34 eb_19
theorem d_X12_like_42 : decode prog_14_method_103_code 42 = .ok (.goto 4, 3) := gq_2 db00g_34 eb_20
theorem d_X12_like_45 : decode prog_14_method_103_code 45 = .ok (.iconst 0, 1) := gq_3 db00g_34 eb_21
theorem d_X12_like_46 : decode prog_14_method_103_code 46 = .ok (.iadd, 1) := gq_4 db00g_34 eb_35
theorem d_X12_like_47 : decode prog_14_method_103_code 47 = .ok (.istore 5, 2) := gq_5 db00g_34 eb_134
theorem d_X12_like_49 : decode prog_14_method_103_code 49 = .ok (.iload_n 3, 1) := gq_6 db00g_34 eb_29
theorem d_X12_like_50 : decode prog_14_method_103_code 50 = .ok (.bipush 10, 2) := gq_7 db00g_34 eb_93
theorem d_X12_like_52 : decode prog_14_method_103_code 52 = .ok (.idiv, 1) := gq_8 db00g_34 eb_219
theorem d_X12_like_53 : decode prog_14_method_103_code 53 = .ok (.istore_n 3, 1) := gq_9 db00g_34 eb_28
theorem d_X12_like_54 : decode prog_14_method_103_code 54 = .ok (.iload 4, 2) := gq_10 db00g_34 eb_76
theorem d_X12_like_56 : decode prog_14_method_103_code 56 = .ok (.bipush 10, 2) := gq_11 db00g_34 eb_93
theorem d_X12_like_58 : decode prog_14_method_103_code 58 = .ok (.idiv, 1) := gq_12 db00g_34 eb_219
theorem d_X12_like_59 : decode prog_14_method_103_code 59 = .ok (.istore 4, 2) := gq_13 db00g_34 eb_133
theorem d_X12_like_61 : decode prog_14_method_103_code 61 = .ok (.iinc 6 1, 3) := gq_14 db00g_34 eb_72
theorem d_X12_like_64 : decode prog_14_method_103_code 64 = .ok (.goto (-43), 3) := gq_15 db00g_34 eb_339
theorem d_X12_like_67 : decode prog_14_method_103_code 67 = .ok (.iload 5, 2) := gq_16 db00g_34 eb_125
theorem d_X12_like_69 : decode prog_14_method_103_code 69 = .ok (.ireturn, 1) := gq_17 db00g_34 eb_15
theorem db00g_35 : Pf_ prog_14_method_104_code [(0, [0x03]), (1, [0x3e]), (2, [0x1d]), (3, [0x11, 0x01, 0x00]), (6, [0xa2, 0x00, 0x19]), (9, [0x2a]), (10, [0xb4, 0x01, 0x01]), (13, [0x11, 0x01, 0x00]), (16, [0x2a]), (17, [0xb4, 0x02, 0x6c]), (20, [0x68]), (21, [0x1d]), (22, [0x60]), (23, [0x03]), (24, [0x4f]), (25, [0x84, 0x03, 0x01]), (28, [0xa7, 0xff, 0xe6]), (31, [0x2a]), (32, [0xb4, 0x02, 0x6c]), (35, [0x04]), (36, [0x64]), (37, [0x3e]), (38, [0x1d]), (39, [0x9b, 0x00, 0xa2])] := pf_ok prog_14_method_104_code _ 0 (by decide +kernel)
theorem d_X12_bestFrom_0 : decode prog_14_method_104_code 0 = .ok (.iconst 0, 1) := gq_0 db00g_35 eb_21
theorem d_X12_bestFrom_1 : decode prog_14_method_104_code 1 = .ok (.istore_n 3, 1) := gq_1 db00g_35 eb_28
theorem d_X12_bestFrom_2 : decode prog_14_method_104_code 2 = .ok (.iload_n 3, 1) := gq_2 db00g_35 eb_29
theorem d_X12_bestFrom_3 : decode prog_14_method_104_code 3 = .ok (.sipush 256, 3) := gq_3 db00g_35 eb_232
theorem d_X12_bestFrom_6 : decode prog_14_method_104_code 6 = .ok (.if_icmp .ge 25, 3) := gq_4 db00g_35 eb_415
theorem d_X12_bestFrom_9 : decode prog_14_method_104_code 9 = .ok (.aload_n 0, 1) := gq_5 db00g_35 eb_0
theorem d_X12_bestFrom_10 : decode prog_14_method_104_code 10 = .ok (.getfield 257, 3) := gq_6 db00g_35 eb_1201
theorem d_X12_bestFrom_13 : decode prog_14_method_104_code 13 = .ok (.sipush 256, 3) := gq_7 db00g_35 eb_232
theorem d_X12_bestFrom_16 : decode prog_14_method_104_code 16 = .ok (.aload_n 0, 1) := gq_8 db00g_35 eb_0
theorem d_X12_bestFrom_17 : decode prog_14_method_104_code 17 = .ok (.getfield 620, 3) := gq_9 db00g_35 eb_1195
theorem d_X12_bestFrom_20 : decode prog_14_method_104_code 20 = .ok (.imul, 1) := gq_10 db00g_35 eb_34
theorem d_X12_bestFrom_21 : decode prog_14_method_104_code 21 = .ok (.iload_n 3, 1) := gq_11 db00g_35 eb_29
theorem d_X12_bestFrom_22 : decode prog_14_method_104_code 22 = .ok (.iadd, 1) := gq_12 db00g_35 eb_35
theorem d_X12_bestFrom_23 : decode prog_14_method_104_code 23 = .ok (.iconst 0, 1) := gq_13 db00g_35 eb_21
theorem d_X12_bestFrom_24 : decode prog_14_method_104_code 24 = .ok (.iastore, 1) := gq_14 db00g_35 eb_38
theorem d_X12_bestFrom_25 : decode prog_14_method_104_code 25 = .ok (.iinc 3 1, 3) := gq_15 db00g_35 eb_42
theorem d_X12_bestFrom_28 : decode prog_14_method_104_code 28 = .ok (.goto (-26), 3) := gq_16 db00g_35 eb_425
theorem d_X12_bestFrom_31 : decode prog_14_method_104_code 31 = .ok (.aload_n 0, 1) := gq_17 db00g_35 eb_0
theorem d_X12_bestFrom_32 : decode prog_14_method_104_code 32 = .ok (.getfield 620, 3) := gq_18 db00g_35 eb_1195
theorem d_X12_bestFrom_35 : decode prog_14_method_104_code 35 = .ok (.iconst 1, 1) := gq_19 db00g_35 eb_19
theorem d_X12_bestFrom_36 : decode prog_14_method_104_code 36 = .ok (.isub, 1) := gq_20 db00g_35 eb_48
theorem d_X12_bestFrom_37 : decode prog_14_method_104_code 37 = .ok (.istore_n 3, 1) := gq_21 db00g_35 eb_28
theorem d_X12_bestFrom_38 : decode prog_14_method_104_code 38 = .ok (.iload_n 3, 1) := gq_22 db00g_35 eb_29
theorem d_X12_bestFrom_39 : decode prog_14_method_104_code 39 = .ok (.ifCond .lt 162, 3) := gq_23 db00g_35 eb_1202
theorem db00g_36 : Pf_ prog_14_method_104_code [(42, [0x03]), (43, [0x36, 0x04]), (45, [0x15, 0x04]), (47, [0x11, 0x01, 0x00]), (50, [0xa2, 0x00, 0x91]), (53, [0x1d]), (54, [0x1b]), (55, [0xa0, 0x00, 0x08]), (58, [0x1c]), (59, [0x02]), (60, [0xa0, 0x00, 0x15]), (63, [0x2a]), (64, [0xb4, 0x01, 0x01]), (67, [0x11, 0x01, 0x00]), (70, [0x1d]), (71, [0x04]), (72, [0x60]), (73, [0x68]), (74, [0x15, 0x04]), (76, [0x60]), (77, [0x2e]), (78, [0xa7, 0x00, 0x06]), (81, [0x11, 0xfc, 0x18]), (84, [0x36, 0x05])] := pf_ok prog_14_method_104_code _ 42 (by decide +kernel)
theorem d_X12_bestFrom_42 : decode prog_14_method_104_code 42 = .ok (.iconst 0, 1) := gq_0 db00g_36 eb_21
theorem d_X12_bestFrom_43 : decode prog_14_method_104_code 43 = .ok (.istore 4, 2) := gq_1 db00g_36 eb_133
theorem d_X12_bestFrom_45 : decode prog_14_method_104_code 45 = .ok (.iload 4, 2) := gq_2 db00g_36 eb_76
theorem d_X12_bestFrom_47 : decode prog_14_method_104_code 47 = .ok (.sipush 256, 3) := gq_3 db00g_36 eb_232
theorem d_X12_bestFrom_50 : decode prog_14_method_104_code 50 = .ok (.if_icmp .ge 145, 3) := gq_4 db00g_36 eb_1203
theorem d_X12_bestFrom_53 : decode prog_14_method_104_code 53 = .ok (.iload_n 3, 1) := gq_5 db00g_36 eb_29
theorem d_X12_bestFrom_54 : decode prog_14_method_104_code 54 = .ok (.iload_n 1, 1) := gq_6 db00g_36 eb_9
theorem d_X12_bestFrom_55 : decode prog_14_method_104_code 55 = .ok (.if_icmp .ne 8, 3) := gq_7 db00g_36 eb_526
theorem d_X12_bestFrom_58 : decode prog_14_method_104_code 58 = .ok (.iload_n 2, 1) := gq_8 db00g_36 eb_13
theorem d_X12_bestFrom_59 : decode prog_14_method_104_code 59 = .ok (.iconst (-1), 1) := gq_9 db00g_36 eb_26
theorem d_X12_bestFrom_60 : decode prog_14_method_104_code 60 = .ok (.if_icmp .ne 21, 3) := gq_10 db00g_36 eb_426
theorem d_X12_bestFrom_63 : decode prog_14_method_104_code 63 = .ok (.aload_n 0, 1) := gq_11 db00g_36 eb_0
theorem d_X12_bestFrom_64 : decode prog_14_method_104_code 64 = .ok (.getfield 257, 3) := gq_12 db00g_36 eb_1201
theorem d_X12_bestFrom_67 : decode prog_14_method_104_code 67 = .ok (.sipush 256, 3) := gq_13 db00g_36 eb_232
theorem d_X12_bestFrom_70 : decode prog_14_method_104_code 70 = .ok (.iload_n 3, 1) := gq_14 db00g_36 eb_29
theorem d_X12_bestFrom_71 : decode prog_14_method_104_code 71 = .ok (.iconst 1, 1) := gq_15 db00g_36 eb_19
theorem d_X12_bestFrom_72 : decode prog_14_method_104_code 72 = .ok (.iadd, 1) := gq_16 db00g_36 eb_35
theorem d_X12_bestFrom_73 : decode prog_14_method_104_code 73 = .ok (.imul, 1) := gq_17 db00g_36 eb_34
theorem d_X12_bestFrom_74 : decode prog_14_method_104_code 74 = .ok (.iload 4, 2) := gq_18 db00g_36 eb_76
theorem d_X12_bestFrom_76 : decode prog_14_method_104_code 76 = .ok (.iadd, 1) := gq_19 db00g_36 eb_35
theorem d_X12_bestFrom_77 : decode prog_14_method_104_code 77 = .ok (.iaload, 1) := gq_20 db00g_36 eb_37
theorem d_X12_bestFrom_78 : decode prog_14_method_104_code 78 = .ok (.goto 6, 3) := gq_21 db00g_36 eb_719
theorem d_X12_bestFrom_81 : decode prog_14_method_104_code 81 = .ok (.sipush (-1000), 3) := gq_22 db00g_36 eb_1204
theorem d_X12_bestFrom_84 : decode prog_14_method_104_code 84 = .ok (.istore 5, 2) := gq_23 db00g_36 eb_134
theorem db00g_37 : Pf_ prog_14_method_104_code [(86, [0x03]), (87, [0x36, 0x06]), (89, [0x15, 0x06]), (91, [0x2a]), (92, [0xb4, 0x02, 0x6f]), (95, [0xa2, 0x00, 0x4f]), (98, [0x15, 0x04]), (100, [0x15, 0x06]), (102, [0x7a]), (103, [0x04]), (104, [0x7e]), (105, [0x9a, 0x00, 0x3f]), (108, [0x2a]), (109, [0x1d]), (110, [0x15, 0x06]), (112, [0xb6, 0x02, 0x72]), (115, [0x2a]), (116, [0xb4, 0x00, 0xfd]), (119, [0xa1, 0x00, 0x31]), (122, [0x1d]), (123, [0x1b]), (124, [0xa0, 0x00, 0x09]), (127, [0x1c]), (128, [0x15, 0x06])] := pf_ok prog_14_method_104_code _ 86 (by decide +kernel)
theorem d_X12_bestFrom_86 : decode prog_14_method_104_code 86 = .ok (.iconst 0, 1) := gq_0 db00g_37 eb_21
theorem d_X12_bestFrom_87 : decode prog_14_method_104_code 87 = .ok (.istore 6, 2) := gq_1 db00g_37 eb_58
theorem d_X12_bestFrom_89 : decode prog_14_method_104_code 89 = .ok (.iload 6, 2) := gq_2 db00g_37 eb_75
theorem d_X12_bestFrom_91 : decode prog_14_method_104_code 91 = .ok (.aload_n 0, 1) := gq_3 db00g_37 eb_0
theorem d_X12_bestFrom_92 : decode prog_14_method_104_code 92 = .ok (.getfield 623, 3) := gq_4 db00g_37 eb_1196
theorem d_X12_bestFrom_95 : decode prog_14_method_104_code 95 = .ok (.if_icmp .ge 79, 3) := gq_5 db00g_37 eb_658
theorem d_X12_bestFrom_98 : decode prog_14_method_104_code 98 = .ok (.iload 4, 2) := gq_6 db00g_37 eb_76
theorem d_X12_bestFrom_100 : decode prog_14_method_104_code 100 = .ok (.iload 6, 2) := gq_7 db00g_37 eb_75
theorem d_X12_bestFrom_102 : decode prog_14_method_104_code 102 = .ok (.ishr, 1) := gq_8 db00g_37 eb_56
theorem d_X12_bestFrom_103 : decode prog_14_method_104_code 103 = .ok (.iconst 1, 1) := gq_9 db00g_37 eb_19
theorem d_X12_bestFrom_104 : decode prog_14_method_104_code 104 = .ok (.iand, 1) := gq_10 db00g_37 eb_55
theorem d_X12_bestFrom_105 : decode prog_14_method_104_code 105 = .ok (.ifCond .ne 63, 3) := gq_11 db00g_37 eb_1205
theorem d_X12_bestFrom_108 : decode prog_14_method_104_code 108 = .ok (.aload_n 0, 1) := gq_12 db00g_37 eb_0
theorem d_X12_bestFrom_109 : decode prog_14_method_104_code 109 = .ok (.iload_n 3, 1) := gq_13 db00g_37 eb_29
theorem d_X12_bestFrom_110 : decode prog_14_method_104_code 110 = .ok (.iload 6, 2) := gq_14 db00g_37 eb_75
theorem d_X12_bestFrom_112 : decode prog_14_method_104_code 112 = .ok (.invokevirtual 626, 3) := gq_15 db00g_37 eb_1206
theorem d_X12_bestFrom_115 : decode prog_14_method_104_code 115 = .ok (.aload_n 0, 1) := gq_16 db00g_37 eb_0
theorem d_X12_bestFrom_116 : decode prog_14_method_104_code 116 = .ok (.getfield 253, 3) := gq_17 db00g_37 eb_1207
theorem d_X12_bestFrom_119 : decode prog_14_method_104_code 119 = .ok (.if_icmp .lt 49, 3) := gq_18 db00g_37 eb_1208
theorem d_X12_bestFrom_122 : decode prog_14_method_104_code 122 = .ok (.iload_n 3, 1) := gq_19 db00g_37 eb_29
theorem d_X12_bestFrom_123 : decode prog_14_method_104_code 123 = .ok (.iload_n 1, 1) := gq_20 db00g_37 eb_9
theorem d_X12_bestFrom_124 : decode prog_14_method_104_code 124 = .ok (.if_icmp .ne 9, 3) := gq_21 db00g_37 eb_158
theorem d_X12_bestFrom_127 : decode prog_14_method_104_code 127 = .ok (.iload_n 2, 1) := gq_22 db00g_37 eb_13
theorem d_X12_bestFrom_128 : decode prog_14_method_104_code 128 = .ok (.iload 6, 2) := gq_23 db00g_37 eb_75
theorem db00g_38 : Pf_ prog_14_method_104_code [(130, [0xa0, 0x00, 0x26]), (133, [0x15, 0x05]), (135, [0x2a]), (136, [0x1d]), (137, [0x15, 0x06]), (139, [0xb6, 0x02, 0x72]), (142, [0x2a]), (143, [0xb4, 0x01, 0x01]), (146, [0x11, 0x01, 0x00]), (149, [0x1d]), (150, [0x04]), (151, [0x60]), (152, [0x68]), (153, [0x15, 0x04]), (155, [0x04]), (156, [0x15, 0x06]), (158, [0x78]), (159, [0x80]), (160, [0x60]), (161, [0x2e]), (162, [0x60]), (163, [0xb8, 0x02, 0x30]), (166, [0x36, 0x05]), (168, [0x84, 0x06, 0x01])] := pf_ok prog_14_method_104_code _ 130 (by decide +kernel)
theorem d_X12_bestFrom_130 : decode prog_14_method_104_code 130 = .ok (.if_icmp .ne 38, 3) := gq_0 db00g_38 eb_373
theorem d_X12_bestFrom_133 : decode prog_14_method_104_code 133 = .ok (.iload 5, 2) := gq_1 db00g_38 eb_125
theorem d_X12_bestFrom_135 : decode prog_14_method_104_code 135 = .ok (.aload_n 0, 1) := gq_2 db00g_38 eb_0
theorem d_X12_bestFrom_136 : decode prog_14_method_104_code 136 = .ok (.iload_n 3, 1) := gq_3 db00g_38 eb_29
theorem d_X12_bestFrom_137 : decode prog_14_method_104_code 137 = .ok (.iload 6, 2) := gq_4 db00g_38 eb_75
theorem d_X12_bestFrom_139 : decode prog_14_method_104_code 139 = .ok (.invokevirtual 626, 3) := gq_5 db00g_38 eb_1206
theorem d_X12_bestFrom_142 : decode prog_14_method_104_code 142 = .ok (.aload_n 0, 1) := gq_6 db00g_38 eb_0
theorem d_X12_bestFrom_143 : decode prog_14_method_104_code 143 = .ok (.getfield 257, 3) := gq_7 db00g_38 eb_1201
theorem d_X12_bestFrom_146 : decode prog_14_method_104_code 146 = .ok (.sipush 256, 3) := gq_8 db00g_38 eb_232
theorem d_X12_bestFrom_149 : decode prog_14_method_104_code 149 = .ok (.iload_n 3, 1) := gq_9 db00g_38 eb_29
theorem d_X12_bestFrom_150 : decode prog_14_method_104_code 150 = .ok (.iconst 1, 1) := gq_10 db00g_38 eb_19
theorem d_X12_bestFrom_151 : decode prog_14_method_104_code 151 = .ok (.iadd, 1) := gq_11 db00g_38 eb_35
theorem d_X12_bestFrom_152 : decode prog_14_method_104_code 152 = .ok (.imul, 1) := gq_12 db00g_38 eb_34
theorem d_X12_bestFrom_153 : decode prog_14_method_104_code 153 = .ok (.iload 4, 2) := gq_13 db00g_38 eb_76
theorem d_X12_bestFrom_155 : decode prog_14_method_104_code 155 = .ok (.iconst 1, 1) := gq_14 db00g_38 eb_19
theorem d_X12_bestFrom_156 : decode prog_14_method_104_code 156 = .ok (.iload 6, 2) := gq_15 db00g_38 eb_75
theorem d_X12_bestFrom_158 : decode prog_14_method_104_code 158 = .ok (.ishl, 1) := gq_16 db00g_38 eb_11
theorem d_X12_bestFrom_159 : decode prog_14_method_104_code 159 = .ok (.ior, 1) := gq_17 db00g_38 eb_12
theorem d_X12_bestFrom_160 : decode prog_14_method_104_code 160 = .ok (.iadd, 1) := gq_18 db00g_38 eb_35
theorem d_X12_bestFrom_161 : decode prog_14_method_104_code 161 = .ok (.iaload, 1) := gq_19 db00g_38 eb_37
theorem d_X12_bestFrom_162 : decode prog_14_method_104_code 162 = .ok (.iadd, 1) := gq_20 db00g_38 eb_35
theorem d_X12_bestFrom_163 : decode prog_14_method_104_code 163 = .ok (.invokestatic 560, 3) := gq_21 db00g_38 eb_1120
theorem d_X12_bestFrom_166 : decode prog_14_method_104_code 166 = .ok (.istore 5, 2) := gq_22 db00g_38 eb_134
theorem d_X12_bestFrom_168 : decode prog_14_method_104_code 168 = .ok (.iinc 6 1, 3) := gq_23 db00g_38 eb_72
theorem db00g_39 : Pf_ prog_14_method_104_code [(171, [0xa7, 0xff, 0xae]), (174, [0x2a]), (175, [0xb4, 0x01, 0x01]), (178, [0x11, 0x01, 0x00]), (181, [0x1d]), (182, [0x68]), (183, [0x15, 0x04]), (185, [0x60]), (186, [0x15, 0x05]), (188, [0x4f]), (189, [0x84, 0x04, 0x01]), (192, [0xa7, 0xff, 0x6d]), (195, [0x84, 0x03, 0xff]), (198, [0xa7, 0xff, 0x60]), (201, [0x2a]), (202, [0xb4, 0x01, 0x01]), (205, [0x03]), (206, [0x2e]), (207, [0xac])] := pf_ok prog_14_method_104_code _ 171 (by decide +kernel)
theorem d_X12_bestFrom_171 : decode prog_14_method_104_code 171 = .ok (.goto (-82), 3) := gq_0 db00g_39 eb_239
theorem d_X12_bestFrom_174 : decode prog_14_method_104_code 174 = .ok (.aload_n 0, 1) := gq_1 db00g_39 eb_0
theorem d_X12_bestFrom_175 : decode prog_14_method_104_code 175 = .ok (.getfield 257, 3) := gq_2 db00g_39 eb_1201
theorem d_X12_bestFrom_178 : decode prog_14_method_104_code 178 = .ok (.sipush 256, 3) := gq_3 db00g_39 eb_232
theorem d_X12_bestFrom_181 : decode prog_14_method_104_code 181 = .ok (.iload_n 3, 1) := gq_4 db00g_39 eb_29
theorem d_X12_bestFrom_182 : decode prog_14_method_104_code 182 = .ok (.imul, 1) := gq_5 db00g_39 eb_34
theorem d_X12_bestFrom_183 : decode prog_14_method_104_code 183 = .ok (.iload 4, 2) := gq_6 db00g_39 eb_76
theorem d_X12_bestFrom_185 : decode prog_14_method_104_code 185 = .ok (.iadd, 1) := gq_7 db00g_39 eb_35
theorem d_X12_bestFrom_186 : decode prog_14_method_104_code 186 = .ok (.iload 5, 2) := gq_8 db00g_39 eb_125
theorem d_X12_bestFrom_188 : decode prog_14_method_104_code 188 = .ok (.iastore, 1) := gq_9 db00g_39 eb_38
theorem d_X12_bestFrom_189 : decode prog_14_method_104_code 189 = .ok (.iinc 4 1, 3) := gq_10 db00g_39 eb_144
theorem d_X12_bestFrom_192 : decode prog_14_method_104_code 192 = .ok (.goto (-147), 3) := gq_11 db00g_39 eb_1209
theorem d_X12_bestFrom_195 : decode prog_14_method_104_code 195 = .ok (.iinc 3 (-1), 3) := gq_12 db00g_39 eb_1210
theorem d_X12_bestFrom_198 : decode prog_14_method_104_code 198 = .ok (.goto (-160), 3) := gq_13 db00g_39 eb_1211
theorem d_X12_bestFrom_201 : decode prog_14_method_104_code 201 = .ok (.aload_n 0, 1) := gq_14 db00g_39 eb_0
theorem d_X12_bestFrom_202 : decode prog_14_method_104_code 202 = .ok (.getfield 257, 3) := gq_15 db00g_39 eb_1201
theorem d_X12_bestFrom_205 : decode prog_14_method_104_code 205 = .ok (.iconst 0, 1) := gq_16 db00g_39 eb_21
theorem d_X12_bestFrom_206 : decode prog_14_method_104_code 206 = .ok (.iaload, 1) := gq_17 db00g_39 eb_37
theorem d_X12_bestFrom_207 : decode prog_14_method_104_code 207 = .ok (.ireturn, 1) := gq_18 db00g_39 eb_15
theorem db00g_40 : Pf_ prog_14_method_105_code [(0, [0x2a]), (1, [0x02]), (2, [0x02]), (3, [0xb6, 0x02, 0x75]), (6, [0xac])] := pf_ok prog_14_method_105_code _ 0 (by decide +kernel)
theorem d_X12_joining_0 : decode prog_14_method_105_code 0 = .ok (.aload_n 0, 1) := gq_0 db00g_40 eb_0
theorem d_X12_joining_1 : decode prog_14_method_105_code 1 = .ok (.iconst (-1), 1) := gq_1 db00g_40 eb_26
theorem d_X12_joining_2 : decode prog_14_method_105_code 2 = .ok (.iconst (-1), 1) := gq_2 db00g_40 eb_26
theorem d_X12_joining_3 : decode prog_14_method_105_code 3 = .ok (.invokevirtual 629, 3) := gq_3 db00g_40 eb_1212
theorem d_X12_joining_6 : decode prog_14_method_105_code 6 = .ok (.ireturn, 1) := gq_4 db00g_40 eb_15
theorem db00g_41 : Pf_ prog_14_method_106_code [(0, [0x1b]), (1, [0x03]), (2, [0x2a]), (3, [0xb4, 0x02, 0x6c]), (6, [0x04]), (7, [0x64]), (8, [0xb8, 0x01, 0x43]), (11, [0xac])] := pf_ok prog_14_method_106_code _ 0 (by decide +kernel)
theorem d_X12_isLost_0 : decode prog_14_method_106_code 0 = .ok (.iload_n 1, 1) := gq_0 db00g_41 eb_9
theorem d_X12_isLost_1 : decode prog_14_method_106_code 1 = .ok (.iconst 0, 1) := gq_1 db00g_41 eb_21
theorem d_X12_isLost_2 : decode prog_14_method_106_code 2 = .ok (.aload_n 0, 1) := gq_2 db00g_41 eb_0
theorem d_X12_isLost_3 : decode prog_14_method_106_code 3 = .ok (.getfield 620, 3) := gq_3 db00g_41 eb_1195
theorem d_X12_isLost_6 : decode prog_14_method_106_code 6 = .ok (.iconst 1, 1) := gq_4 db00g_41 eb_19
theorem d_X12_isLost_7 : decode prog_14_method_106_code 7 = .ok (.isub, 1) := gq_5 db00g_41 eb_48
theorem d_X12_isLost_8 : decode prog_14_method_106_code 8 = .ok (.invokestatic 323, 3) := gq_6 db00g_41 eb_913
theorem d_X12_isLost_11 : decode prog_14_method_106_code 11 = .ok (.ireturn, 1) := gq_7 db00g_41 eb_15
theorem db00g_42 : Pf_ prog_14_method_107_code [(0, [0x2a]), (1, [0x1b]), (2, [0xb6, 0x02, 0x78]), (5, [0x9a, 0x00, 0x05]), (8, [0x02]), (9, [0xac]), (10, [0x2a]), (11, [0x02]), (12, [0x02]), (13, [0xb6, 0x02, 0x75]), (16, [0x57]), (17, [0x03]), (18, [0x3d]), (19, [0x02]), (20, [0x3e]), (21, [0x03]), (22, [0x36, 0x04]), (24, [0x15, 0x04]), (26, [0x1b]), (27, [0xa3, 0x00, 0x81]), (30, [0x02]), (31, [0x3e]), (32, [0x2a]), (33, [0xb4, 0x02, 0x6f])] := pf_ok prog_14_method_107_code _ 0 (by decide +kernel)
theorem d_X12_joined_0 : decode prog_14_method_107_code 0 = .ok (.aload_n 0, 1) := gq_0 db00g_42 eb_0
theorem d_X12_joined_1 : decode prog_14_method_107_code 1 = .ok (.iload_n 1, 1) := gq_1 db00g_42 eb_9
theorem d_X12_joined_2 : decode prog_14_method_107_code 2 = .ok (.invokevirtual 632, 3) := gq_2 db00g_42 eb_1213
theorem d_X12_joined_5 : decode prog_14_method_107_code 5 = .ok (.ifCond .ne 5, 3) := gq_3 db00g_42 eb_150
theorem d_X12_joined_8 : decode prog_14_method_107_code 8 = .ok (.iconst (-1), 1) := gq_4 db00g_42 eb_26
theorem d_X12_joined_9 : decode prog_14_method_107_code 9 = .ok (.ireturn, 1) := gq_5 db00g_42 eb_15
theorem d_X12_joined_10 : decode prog_14_method_107_code 10 = .ok (.aload_n 0, 1) := gq_6 db00g_42 eb_0
theorem d_X12_joined_11 : decode prog_14_method_107_code 11 = .ok (.iconst (-1), 1) := gq_7 db00g_42 eb_26
theorem d_X12_joined_12 : decode prog_14_method_107_code 12 = .ok (.iconst (-1), 1) := gq_8 db00g_42 eb_26
theorem d_X12_joined_13 : decode prog_14_method_107_code 13 = .ok (.invokevirtual 629, 3) := gq_9 db00g_42 eb_1212
theorem d_X12_joined_16 : decode prog_14_method_107_code 16 = .ok (.pop, 1) := gq_10 db00g_42 eb_466
theorem d_X12_joined_17 : decode prog_14_method_107_code 17 = .ok (.iconst 0, 1) := gq_11 db00g_42 eb_21
theorem d_X12_joined_18 : decode prog_14_method_107_code 18 = .ok (.istore_n 2, 1) := gq_12 db00g_42 eb_27
theorem d_X12_joined_19 : decode prog_14_method_107_code 19 = .ok (.iconst (-1), 1) := gq_13 db00g_42 eb_26
theorem d_X12_joined_20 : decode prog_14_method_107_code 20 = .ok (.istore_n 3, 1) := gq_14 db00g_42 eb_28
theorem d_X12_joined_21 : decode prog_14_method_107_code 21 = .ok (.iconst 0, 1) := gq_15 db00g_42 eb_21
theorem d_X12_joined_22 : decode prog_14_method_107_code 22 = .ok (.istore 4, 2) := gq_16 db00g_42 eb_133
theorem d_X12_joined_24 : decode prog_14_method_107_code 24 = .ok (.iload 4, 2) := gq_17 db00g_42 eb_76
theorem d_X12_joined_26 : decode prog_14_method_107_code 26 = .ok (.iload_n 1, 1) := gq_18 db00g_42 eb_9
theorem d_X12_joined_27 : decode prog_14_method_107_code 27 = .ok (.if_icmp .gt 129, 3) := gq_19 db00g_42 eb_1214
theorem d_X12_joined_30 : decode prog_14_method_107_code 30 = .ok (.iconst (-1), 1) := gq_20 db00g_42 eb_26
theorem d_X12_joined_31 : decode prog_14_method_107_code 31 = .ok (.istore_n 3, 1) := gq_21 db00g_42 eb_28
theorem d_X12_joined_32 : decode prog_14_method_107_code 32 = .ok (.aload_n 0, 1) := gq_22 db00g_42 eb_0
theorem d_X12_joined_33 : decode prog_14_method_107_code 33 = .ok (.getfield 623, 3) := gq_23 db00g_42 eb_1196
theorem db00g_43 : Pf_ prog_14_method_107_code [(36, [0x04]), (37, [0x64]), (38, [0x36, 0x05]), (40, [0x15, 0x05]), (42, [0x9b, 0x00, 0x5d]), (45, [0x1c]), (46, [0x15, 0x05]), (48, [0x7a]), (49, [0x04]), (50, [0x7e]), (51, [0x9a, 0x00, 0x16]), (54, [0x2a]), (55, [0x15, 0x04]), (57, [0x15, 0x05]), (59, [0xb6, 0x02, 0x72]), (62, [0x2a]), (63, [0xb4, 0x00, 0xfd]), (66, [0xa1, 0x00, 0x07]), (69, [0x04]), (70, [0xa7, 0x00, 0x04]), (73, [0x03]), (74, [0x36, 0x06]), (76, [0x15, 0x06]), (78, [0x99, 0x00, 0x33])] := pf_ok prog_14_method_107_code _ 36 (by decide +kernel)
theorem d_X12_joined_36 : decode prog_14_method_107_code 36 = .ok (.iconst 1, 1) := gq_0 db00g_43 eb_19
theorem d_X12_joined_37 : decode prog_14_method_107_code 37 = .ok (.isub, 1) := gq_1 db00g_43 eb_48
theorem d_X12_joined_38 : decode prog_14_method_107_code 38 = .ok (.istore 5, 2) := gq_2 db00g_43 eb_134
theorem d_X12_joined_40 : decode prog_14_method_107_code 40 = .ok (.iload 5, 2) := gq_3 db00g_43 eb_125
theorem d_X12_joined_42 : decode prog_14_method_107_code 42 = .ok (.ifCond .lt 93, 3) := gq_4 db00g_43 eb_1215
theorem d_X12_joined_45 : decode prog_14_method_107_code 45 = .ok (.iload_n 2, 1) := gq_5 db00g_43 eb_13
theorem d_X12_joined_46 : decode prog_14_method_107_code 46 = .ok (.iload 5, 2) := gq_6 db00g_43 eb_125
theorem d_X12_joined_48 : decode prog_14_method_107_code 48 = .ok (.ishr, 1) := gq_7 db00g_43 eb_56
theorem d_X12_joined_49 : decode prog_14_method_107_code 49 = .ok (.iconst 1, 1) := gq_8 db00g_43 eb_19
theorem d_X12_joined_50 : decode prog_14_method_107_code 50 = .ok (.iand, 1) := gq_9 db00g_43 eb_55
theorem d_X12_joined_51 : decode prog_14_method_107_code 51 = .ok (.ifCond .ne 22, 3) := gq_10 db00g_43 eb_1216
theorem d_X12_joined_54 : decode prog_14_method_107_code 54 = .ok (.aload_n 0, 1) := gq_11 db00g_43 eb_0
theorem d_X12_joined_55 : decode prog_14_method_107_code 55 = .ok (.iload 4, 2) := gq_12 db00g_43 eb_76
theorem d_X12_joined_57 : decode prog_14_method_107_code 57 = .ok (.iload 5, 2) := gq_13 db00g_43 eb_125
theorem d_X12_joined_59 : decode prog_14_method_107_code 59 = .ok (.invokevirtual 626, 3) := gq_14 db00g_43 eb_1206
theorem d_X12_joined_62 : decode prog_14_method_107_code 62 = .ok (.aload_n 0, 1) := gq_15 db00g_43 eb_0
theorem d_X12_joined_63 : decode prog_14_method_107_code 63 = .ok (.getfield 253, 3) := gq_16 db00g_43 eb_1207
theorem d_X12_joined_66 : decode prog_14_method_107_code 66 = .ok (.if_icmp .lt 7, 3) := gq_17 db00g_43 eb_154
theorem d_X12_joined_69 : decode prog_14_method_107_code 69 = .ok (.iconst 1, 1) := gq_18 db00g_43 eb_19
theorem d_X12_joined_70 : decode prog_14_method_107_code 70 = .ok (.goto 4, 3) := gq_19 db00g_43 eb_20
theorem d_X12_joined_73 : decode prog_14_method_107_code 73 = .ok (.iconst 0, 1) := gq_20 db00g_43 eb_21
theorem d_X12_joined_74 : decode prog_14_method_107_code 74 = .ok (.istore 6, 2) := gq_21 db00g_43 eb_58
theorem d_X12_joined_76 : decode prog_14_method_107_code 76 = .ok (.iload 6, 2) := gq_22 db00g_43 eb_75
theorem d_X12_joined_78 : decode prog_14_method_107_code 78 = .ok (.ifCond .eq 51, 3) := gq_23 db00g_43 eb_1217
theorem db00g_44 : Pf_ prog_14_method_107_code [(81, [0x2a]), (82, [0x15, 0x04]), (84, [0x15, 0x05]), (86, [0xb6, 0x02, 0x72]), (89, [0x2a]), (90, [0xb4, 0x01, 0x01]), (93, [0x11, 0x01, 0x00]), (96, [0x15, 0x04]), (98, [0x04]), (99, [0x60]), (100, [0x68]), (101, [0x1c]), (102, [0x04]), (103, [0x15, 0x05]), (105, [0x78]), (106, [0x80]), (107, [0x60]), (108, [0x2e]), (109, [0x60]), (110, [0x2a]), (111, [0xb4, 0x01, 0x01]), (114, [0x11, 0x01, 0x00]), (117, [0x15, 0x04]), (119, [0x68])] := pf_ok prog_14_method_107_code _ 81 (by decide +kernel)
theorem d_X12_joined_81 : decode prog_14_method_107_code 81 = .ok (.aload_n 0, 1) := gq_0 db00g_44 eb_0
theorem d_X12_joined_82 : decode prog_14_method_107_code 82 = .ok (.iload 4, 2) := gq_1 db00g_44 eb_76
theorem d_X12_joined_84 : decode prog_14_method_107_code 84 = .ok (.iload 5, 2) := gq_2 db00g_44 eb_125
theorem d_X12_joined_86 : decode prog_14_method_107_code 86 = .ok (.invokevirtual 626, 3) := gq_3 db00g_44 eb_1206
theorem d_X12_joined_89 : decode prog_14_method_107_code 89 = .ok (.aload_n 0, 1) := gq_4 db00g_44 eb_0
theorem d_X12_joined_90 : decode prog_14_method_107_code 90 = .ok (.getfield 257, 3) := gq_5 db00g_44 eb_1201
theorem d_X12_joined_93 : decode prog_14_method_107_code 93 = .ok (.sipush 256, 3) := gq_6 db00g_44 eb_232
theorem d_X12_joined_96 : decode prog_14_method_107_code 96 = .ok (.iload 4, 2) := gq_7 db00g_44 eb_76
theorem d_X12_joined_98 : decode prog_14_method_107_code 98 = .ok (.iconst 1, 1) := gq_8 db00g_44 eb_19
theorem d_X12_joined_99 : decode prog_14_method_107_code 99 = .ok (.iadd, 1) := gq_9 db00g_44 eb_35
theorem d_X12_joined_100 : decode prog_14_method_107_code 100 = .ok (.imul, 1) := gq_10 db00g_44 eb_34
theorem d_X12_joined_101 : decode prog_14_method_107_code 101 = .ok (.iload_n 2, 1) := gq_11 db00g_44 eb_13
theorem d_X12_joined_102 : decode prog_14_method_107_code 102 = .ok (.iconst 1, 1) := gq_12 db00g_44 eb_19
theorem d_X12_joined_103 : decode prog_14_method_107_code 103 = .ok (.iload 5, 2) := gq_13 db00g_44 eb_125
theorem d_X12_joined_105 : decode prog_14_method_107_code 105 = .ok (.ishl, 1) := gq_14 db00g_44 eb_11
theorem d_X12_joined_106 : decode prog_14_method_107_code 106 = .ok (.ior, 1) := gq_15 db00g_44 eb_12
theorem d_X12_joined_107 : decode prog_14_method_107_code 107 = .ok (.iadd, 1) := gq_16 db00g_44 eb_35
theorem d_X12_joined_108 : decode prog_14_method_107_code 108 = .ok (.iaload, 1) := gq_17 db00g_44 eb_37
theorem d_X12_joined_109 : decode prog_14_method_107_code 109 = .ok (.iadd, 1) := gq_18 db00g_44 eb_35
theorem d_X12_joined_110 : decode prog_14_method_107_code 110 = .ok (.aload_n 0, 1) := gq_19 db00g_44 eb_0
theorem d_X12_joined_111 : decode prog_14_method_107_code 111 = .ok (.getfield 257, 3) := gq_20 db00g_44 eb_1201
theorem d_X12_joined_114 : decode prog_14_method_107_code 114 = .ok (.sipush 256, 3) := gq_21 db00g_44 eb_232
theorem d_X12_joined_117 : decode prog_14_method_107_code 117 = .ok (.iload 4, 2) := gq_22 db00g_44 eb_76
theorem d_X12_joined_119 : decode prog_14_method_107_code 119 = .ok (.imul, 1) := gq_23 db00g_44 eb_34
theorem db00g_45 : Pf_ prog_14_method_107_code [(120, [0x1c]), (121, [0x60]), (122, [0x2e]), (123, [0xa0, 0x00, 0x06]), (126, [0x15, 0x05]), (128, [0x3e]), (129, [0x84, 0x05, 0xff]), (132, [0xa7, 0xff, 0xa4]), (135, [0x1c]), (136, [0x1d]), (137, [0x02]), (138, [0xa0, 0x00, 0x07]), (141, [0x03]), (142, [0xa7, 0x00, 0x06]), (145, [0x04]), (146, [0x1d]), (147, [0x78]), (148, [0x80]), (149, [0x3d]), (150, [0x84, 0x04, 0x01]), (153, [0xa7, 0xff, 0x7f]), (156, [0x1d]), (157, [0xac])] := pf_ok prog_14_method_107_code _ 120 (by decide +kernel)
theorem d_X12_joined_120 : decode prog_14_method_107_code 120 = .ok (.iload_n 2, 1) := gq_0 db00g_45 eb_13
theorem d_X12_joined_121 : decode prog_14_method_107_code 121 = .ok (.iadd, 1) := gq_1 db00g_45 eb_35
theorem d_X12_joined_122 : decode prog_14_method_107_code 122 = .ok (.iaload, 1) := gq_2 db00g_45 eb_37
theorem d_X12_joined_123 : decode prog_14_method_107_code 123 = .ok (.if_icmp .ne 6, 3) := gq_3 db00g_45 eb_40
theorem d_X12_joined_126 : decode prog_14_method_107_code 126 = .ok (.iload 5, 2) := gq_4 db00g_45 eb_125
theorem d_X12_joined_128 : decode prog_14_method_107_code 128 = .ok (.istore_n 3, 1) := gq_5 db00g_45 eb_28
theorem d_X12_joined_129 : decode prog_14_method_107_code 129 = .ok (.iinc 5 (-1), 3) := gq_6 db00g_45 eb_384
theorem d_X12_joined_132 : decode prog_14_method_107_code 132 = .ok (.goto (-92), 3) := gq_7 db00g_45 eb_1218
theorem d_X12_joined_135 : decode prog_14_method_107_code 135 = .ok (.iload_n 2, 1) := gq_8 db00g_45 eb_13
theorem d_X12_joined_136 : decode prog_14_method_107_code 136 = .ok (.iload_n 3, 1) := gq_9 db00g_45 eb_29
theorem d_X12_joined_137 : decode prog_14_method_107_code 137 = .ok (.iconst (-1), 1) := gq_10 db00g_45 eb_26
theorem d_X12_joined_138 : decode prog_14_method_107_code 138 = .ok (.if_icmp .ne 7, 3) := gq_11 db00g_45 eb_135
theorem d_X12_joined_141 : decode prog_14_method_107_code 141 = .ok (.iconst 0, 1) := gq_12 db00g_45 eb_21
theorem d_X12_joined_142 : decode prog_14_method_107_code 142 = .ok (.goto 6, 3) := gq_13 db00g_45 eb_719
theorem d_X12_joined_145 : decode prog_14_method_107_code 145 = .ok (.iconst 1, 1) := gq_14 db00g_45 eb_19
theorem d_X12_joined_146 : decode prog_14_method_107_code 146 = .ok (.iload_n 3, 1) := gq_15 db00g_45 eb_29
theorem d_X12_joined_147 : decode prog_14_method_107_code 147 = .ok (.ishl, 1) := gq_16 db00g_45 eb_11
theorem d_X12_joined_148 : decode prog_14_method_107_code 148 = .ok (.ior, 1) := gq_17 db00g_45 eb_12
theorem d_X12_joined_149 : decode prog_14_method_107_code 149 = .ok (.istore_n 2, 1) := gq_18 db00g_45 eb_27
theorem d_X12_joined_150 : decode prog_14_method_107_code 150 = .ok (.iinc 4 1, 3) := gq_19 db00g_45 eb_144
theorem d_X12_joined_153 : decode prog_14_method_107_code 153 = .ok (.goto (-129), 3) := gq_20 db00g_45 eb_1219
theorem d_X12_joined_156 : decode prog_14_method_107_code 156 = .ok (.iload_n 3, 1) := gq_21 db00g_45 eb_29
theorem d_X12_joined_157 : decode prog_14_method_107_code 157 = .ok (.ireturn, 1) := gq_22 db00g_45 eb_15
theorem db00g_46 : Pf_ prog_14_method_108_code [(0, [0x2a]), (1, [0xb6, 0x02, 0x7b]), (4, [0x3d]), (5, [0x03]), (6, [0x3e]), (7, [0x03]), (8, [0x36, 0x04]), (10, [0x15, 0x04]), (12, [0x2a]), (13, [0xb4, 0x02, 0x6f]), (16, [0xa2, 0x00, 0x2d]), (19, [0x1d]), (20, [0x2a]), (21, [0x1b]), (22, [0x15, 0x04]), (24, [0xb6, 0x02, 0x72]), (27, [0x2a]), (28, [0xb4, 0x00, 0xfd]), (31, [0xa1, 0x00, 0x15]), (34, [0x2a]), (35, [0x1b]), (36, [0x15, 0x04]), (38, [0xb6, 0x02, 0x75]), (41, [0x1c])] := pf_ok prog_14_method_108_code _ 0 (by decide +kernel)
theorem d_X12_rivalsOf_0 : decode prog_14_method_108_code 0 = .ok (.aload_n 0, 1) := gq_0 db00g_46 eb_0
theorem d_X12_rivalsOf_1 : decode prog_14_method_108_code 1 = .ok (.invokevirtual 635, 3) := gq_1 db00g_46 eb_1220
theorem d_X12_rivalsOf_4 : decode prog_14_method_108_code 4 = .ok (.istore_n 2, 1) := gq_2 db00g_46 eb_27
theorem d_X12_rivalsOf_5 : decode prog_14_method_108_code 5 = .ok (.iconst 0, 1) := gq_3 db00g_46 eb_21
theorem d_X12_rivalsOf_6 : decode prog_14_method_108_code 6 = .ok (.istore_n 3, 1) := gq_4 db00g_46 eb_28
theorem d_X12_rivalsOf_7 : decode prog_14_method_108_code 7 = .ok (.iconst 0, 1) := gq_5 db00g_46 eb_21
theorem d_X12_rivalsOf_8 : decode prog_14_method_108_code 8 = .ok (.istore 4, 2) := gq_6 db00g_46 eb_133
theorem d_X12_rivalsOf_10 : decode prog_14_method_108_code 10 = .ok (.iload 4, 2) := gq_7 db00g_46 eb_76
theorem d_X12_rivalsOf_12 : decode prog_14_method_108_code 12 = .ok (.aload_n 0, 1) := gq_8 db00g_46 eb_0
theorem d_X12_rivalsOf_13 : decode prog_14_method_108_code 13 = .ok (.getfield 623, 3) := gq_9 db00g_46 eb_1196
theorem d_X12_rivalsOf_16 : decode prog_14_method_108_code 16 = .ok (.if_icmp .ge 45, 3) := gq_10 db00g_46 eb_1221
theorem d_X12_rivalsOf_19 : decode prog_14_method_108_code 19 = .ok (.iload_n 3, 1) := gq_11 db00g_46 eb_29
theorem d_X12_rivalsOf_20 : decode prog_14_method_108_code 20 = .ok (.aload_n 0, 1) := gq_12 db00g_46 eb_0
theorem d_X12_rivalsOf_21 : decode prog_14_method_108_code 21 = .ok (.iload_n 1, 1) := gq_13 db00g_46 eb_9
theorem d_X12_rivalsOf_22 : decode prog_14_method_108_code 22 = .ok (.iload 4, 2) := gq_14 db00g_46 eb_76
theorem d_X12_rivalsOf_24 : decode prog_14_method_108_code 24 = .ok (.invokevirtual 626, 3) := gq_15 db00g_46 eb_1206
theorem d_X12_rivalsOf_27 : decode prog_14_method_108_code 27 = .ok (.aload_n 0, 1) := gq_16 db00g_46 eb_0
theorem d_X12_rivalsOf_28 : decode prog_14_method_108_code 28 = .ok (.getfield 253, 3) := gq_17 db00g_46 eb_1207
theorem d_X12_rivalsOf_31 : decode prog_14_method_108_code 31 = .ok (.if_icmp .lt 21, 3) := gq_18 db00g_46 eb_937
theorem d_X12_rivalsOf_34 : decode prog_14_method_108_code 34 = .ok (.aload_n 0, 1) := gq_19 db00g_46 eb_0
theorem d_X12_rivalsOf_35 : decode prog_14_method_108_code 35 = .ok (.iload_n 1, 1) := gq_20 db00g_46 eb_9
theorem d_X12_rivalsOf_36 : decode prog_14_method_108_code 36 = .ok (.iload 4, 2) := gq_21 db00g_46 eb_76
theorem d_X12_rivalsOf_38 : decode prog_14_method_108_code 38 = .ok (.invokevirtual 629, 3) := gq_22 db00g_46 eb_1212
theorem d_X12_rivalsOf_41 : decode prog_14_method_108_code 41 = .ok (.iload_n 2, 1) := gq_23 db00g_46 eb_13
theorem db00g_47 : Pf_ prog_14_method_108_code [(42, [0xa0, 0x00, 0x0a]), (45, [0x04]), (46, [0x15, 0x04]), (48, [0x78]), (49, [0xa7, 0x00, 0x04]), (52, [0x03]), (53, [0x80]), (54, [0x3e]), (55, [0x84, 0x04, 0x01]), (58, [0xa7, 0xff, 0xd0]), (61, [0x1d]), (62, [0xac])] := pf_ok prog_14_method_108_code _ 42 (by decide +kernel)
theorem d_X12_rivalsOf_42 : decode prog_14_method_108_code 42 = .ok (.if_icmp .ne 10, 3) := gq_0 db00g_47 eb_259
theorem d_X12_rivalsOf_45 : decode prog_14_method_108_code 45 = .ok (.iconst 1, 1) := gq_1 db00g_47 eb_19
theorem d_X12_rivalsOf_46 : decode prog_14_method_108_code 46 = .ok (.iload 4, 2) := gq_2 db00g_47 eb_76
theorem d_X12_rivalsOf_48 : decode prog_14_method_108_code 48 = .ok (.ishl, 1) := gq_3 db00g_47 eb_11
theorem d_X12_rivalsOf_49 : decode prog_14_method_108_code 49 = .ok (.goto 4, 3) := gq_4 db00g_47 eb_20
theorem d_X12_rivalsOf_52 : decode prog_14_method_108_code 52 = .ok (.iconst 0, 1) := gq_5 db00g_47 eb_21
theorem d_X12_rivalsOf_53 : decode prog_14_method_108_code 53 = .ok (.ior, 1) := gq_6 db00g_47 eb_12
theorem d_X12_rivalsOf_54 : decode prog_14_method_108_code 54 = .ok (.istore_n 3, 1) := gq_7 db00g_47 eb_28
theorem d_X12_rivalsOf_55 : decode prog_14_method_108_code 55 = .ok (.iinc 4 1, 3) := gq_8 db00g_47 eb_144
theorem d_X12_rivalsOf_58 : decode prog_14_method_108_code 58 = .ok (.goto (-48), 3) := gq_9 db00g_47 eb_43
theorem d_X12_rivalsOf_61 : decode prog_14_method_108_code 61 = .ok (.iload_n 3, 1) := gq_10 db00g_47 eb_29
theorem d_X12_rivalsOf_62 : decode prog_14_method_108_code 62 = .ok (.ireturn, 1) := gq_11 db00g_47 eb_15
theorem db00g_48 : Pf_ prog_14_method_109_code [(0, [0x2a]), (1, [0x1b]), (2, [0xb6, 0x02, 0x78]), (5, [0x99, 0x00, 0x0b]), (8, [0x2a]), (9, [0x1b]), (10, [0xb6, 0x02, 0x7e]), (13, [0xa7, 0x00, 0x04]), (16, [0x02]), (17, [0xac])] := pf_ok prog_14_method_109_code _ 0 (by decide +kernel)
theorem d_X12_rivals_0 : decode prog_14_method_109_code 0 = .ok (.aload_n 0, 1) := gq_0 db00g_48 eb_0
theorem d_X12_rivals_1 : decode prog_14_method_109_code 1 = .ok (.iload_n 1, 1) := gq_1 db00g_48 eb_9
theorem d_X12_rivals_2 : decode prog_14_method_109_code 2 = .ok (.invokevirtual 632, 3) := gq_2 db00g_48 eb_1213
theorem d_X12_rivals_5 : decode prog_14_method_109_code 5 = .ok (.ifCond .eq 11, 3) := gq_3 db00g_48 eb_715
theorem d_X12_rivals_8 : decode prog_14_method_109_code 8 = .ok (.aload_n 0, 1) := gq_4 db00g_48 eb_0
theorem d_X12_rivals_9 : decode prog_14_method_109_code 9 = .ok (.iload_n 1, 1) := gq_5 db00g_48 eb_9
theorem d_X12_rivals_10 : decode prog_14_method_109_code 10 = .ok (.invokevirtual 638, 3) := gq_6 db00g_48 eb_1222
theorem d_X12_rivals_13 : decode prog_14_method_109_code 13 = .ok (.goto 4, 3) := gq_7 db00g_48 eb_20
theorem d_X12_rivals_16 : decode prog_14_method_109_code 16 = .ok (.iconst (-1), 1) := gq_8 db00g_48 eb_26
theorem d_X12_rivals_17 : decode prog_14_method_109_code 17 = .ok (.ireturn, 1) := gq_9 db00g_48 eb_15
theorem db00g_49 : Pf_ prog_14_method_110_code [(0, [0x2a]), (1, [0x1b]), (2, [0xb6, 0x02, 0x78]), (5, [0x9a, 0x00, 0x05]), (8, [0x02]), (9, [0xac]), (10, [0x2a]), (11, [0xb6, 0x02, 0x7b]), (14, [0x3d]), (15, [0x2a]), (16, [0x1b]), (17, [0xb6, 0x02, 0x7e]), (20, [0xb8, 0x02, 0x64]), (23, [0x2a]), (24, [0x1b]), (25, [0x02]), (26, [0xb6, 0x02, 0x75]), (29, [0x1c]), (30, [0xa0, 0x00, 0x07]), (33, [0x04]), (34, [0xa7, 0x00, 0x04]), (37, [0x03]), (38, [0x60]), (39, [0x3e])] := pf_ok prog_14_method_110_code _ 0 (by decide +kernel)
theorem d_X12_sure_0 : decode prog_14_method_110_code 0 = .ok (.aload_n 0, 1) := gq_0 db00g_49 eb_0
theorem d_X12_sure_1 : decode prog_14_method_110_code 1 = .ok (.iload_n 1, 1) := gq_1 db00g_49 eb_9
theorem d_X12_sure_2 : decode prog_14_method_110_code 2 = .ok (.invokevirtual 632, 3) := gq_2 db00g_49 eb_1213
theorem d_X12_sure_5 : decode prog_14_method_110_code 5 = .ok (.ifCond .ne 5, 3) := gq_3 db00g_49 eb_150
theorem d_X12_sure_8 : decode prog_14_method_110_code 8 = .ok (.iconst (-1), 1) := gq_4 db00g_49 eb_26
theorem d_X12_sure_9 : decode prog_14_method_110_code 9 = .ok (.ireturn, 1) := gq_5 db00g_49 eb_15
theorem d_X12_sure_10 : decode prog_14_method_110_code 10 = .ok (.aload_n 0, 1) := gq_6 db00g_49 eb_0
theorem d_X12_sure_11 : decode prog_14_method_110_code 11 = .ok (.invokevirtual 635, 3) := gq_7 db00g_49 eb_1220
theorem d_X12_sure_14 : decode prog_14_method_110_code 14 = .ok (.istore_n 2, 1) := gq_8 db00g_49 eb_27
theorem d_X12_sure_15 : decode prog_14_method_110_code 15 = .ok (.aload_n 0, 1) := gq_9 db00g_49 eb_0
theorem d_X12_sure_16 : decode prog_14_method_110_code 16 = .ok (.iload_n 1, 1) := gq_10 db00g_49 eb_9
theorem d_X12_sure_17 : decode prog_14_method_110_code 17 = .ok (.invokevirtual 638, 3) := gq_11 db00g_49 eb_1222
theorem d_X12_sure_20 : decode prog_14_method_110_code 20 = .ok (.invokestatic 612, 3) := gq_12 db00g_49 eb_1185
theorem d_X12_sure_23 : decode prog_14_method_110_code 23 = .ok (.aload_n 0, 1) := gq_13 db00g_49 eb_0
theorem d_X12_sure_24 : decode prog_14_method_110_code 24 = .ok (.iload_n 1, 1) := gq_14 db00g_49 eb_9
theorem d_X12_sure_25 : decode prog_14_method_110_code 25 = .ok (.iconst (-1), 1) := gq_15 db00g_49 eb_26
theorem d_X12_sure_26 : decode prog_14_method_110_code 26 = .ok (.invokevirtual 629, 3) := gq_16 db00g_49 eb_1212
theorem d_X12_sure_29 : decode prog_14_method_110_code 29 = .ok (.iload_n 2, 1) := gq_17 db00g_49 eb_13
theorem d_X12_sure_30 : decode prog_14_method_110_code 30 = .ok (.if_icmp .ne 7, 3) := gq_18 db00g_49 eb_135
theorem d_X12_sure_33 : decode prog_14_method_110_code 33 = .ok (.iconst 1, 1) := gq_19 db00g_49 eb_19
theorem d_X12_sure_34 : decode prog_14_method_110_code 34 = .ok (.goto 4, 3) := gq_20 db00g_49 eb_20
theorem d_X12_sure_37 : decode prog_14_method_110_code 37 = .ok (.iconst 0, 1) := gq_21 db00g_49 eb_21
theorem d_X12_sure_38 : decode prog_14_method_110_code 38 = .ok (.iadd, 1) := gq_22 db00g_49 eb_35
theorem d_X12_sure_39 : decode prog_14_method_110_code 39 = .ok (.istore_n 3, 1) := gq_23 db00g_49 eb_28
theorem db00g_50 : Pf_ prog_14_method_110_code [(40, [0x1d]), (41, [0x04]), (42, [0xa0, 0x00, 0x07]), (45, [0x04]), (46, [0xa7, 0x00, 0x04]), (49, [0x03]), (50, [0xac])] := pf_ok prog_14_method_110_code _ 40 (by decide +kernel)
theorem d_X12_sure_40 : decode prog_14_method_110_code 40 = .ok (.iload_n 3, 1) := gq_0 db00g_50 eb_29
theorem d_X12_sure_41 : decode prog_14_method_110_code 41 = .ok (.iconst 1, 1) := gq_1 db00g_50 eb_19
theorem d_X12_sure_42 : decode prog_14_method_110_code 42 = .ok (.if_icmp .ne 7, 3) := gq_2 db00g_50 eb_135
theorem d_X12_sure_45 : decode prog_14_method_110_code 45 = .ok (.iconst 1, 1) := gq_3 db00g_50 eb_19
theorem d_X12_sure_46 : decode prog_14_method_110_code 46 = .ok (.goto 4, 3) := gq_4 db00g_50 eb_20
theorem d_X12_sure_49 : decode prog_14_method_110_code 49 = .ok (.iconst 0, 1) := gq_5 db00g_50 eb_21
theorem d_X12_sure_50 : decode prog_14_method_110_code 50 = .ok (.ireturn, 1) := gq_6 db00g_50 eb_15
theorem db00g_51 : Pf_ prog_14_method_111_code [(0, [0x1b]), (1, [0xb8, 0x01, 0x47]), (4, [0x99, 0x00, 0x22]), (7, [0x1c]), (8, [0x03]), (9, [0x11, 0x05, 0xa0]), (12, [0xb8, 0x01, 0x43]), (15, [0x99, 0x00, 0x17]), (18, [0x1d]), (19, [0x1c]), (20, [0x11, 0x05, 0xa0]), (23, [0xb8, 0x01, 0x43]), (26, [0x99, 0x00, 0x0c]), (29, [0x2a]), (30, [0xb4, 0x02, 0x81]), (33, [0x10, 0x08]), (35, [0xa0, 0x00, 0x05]), (38, [0x02]), (39, [0xac]), (40, [0x2a]), (41, [0xb4, 0x01, 0x04]), (44, [0x2a]), (45, [0xb4, 0x02, 0x81]), (48, [0x1b])] := pf_ok prog_14_method_111_code _ 0 (by decide +kernel)
theorem d_X12_watch_0 : decode prog_14_method_111_code 0 = .ok (.iload_n 1, 1) := gq_0 db00g_51 eb_9
theorem d_X12_watch_1 : decode prog_14_method_111_code 1 = .ok (.invokestatic 327, 3) := gq_1 db00g_51 eb_914
theorem d_X12_watch_4 : decode prog_14_method_111_code 4 = .ok (.ifCond .eq 34, 3) := gq_2 db00g_51 eb_467
theorem d_X12_watch_7 : decode prog_14_method_111_code 7 = .ok (.iload_n 2, 1) := gq_3 db00g_51 eb_13
theorem d_X12_watch_8 : decode prog_14_method_111_code 8 = .ok (.iconst 0, 1) := gq_4 db00g_51 eb_21
theorem d_X12_watch_9 : decode prog_14_method_111_code 9 = .ok (.sipush 1440, 3) := gq_5 db00g_51 eb_289
theorem d_X12_watch_12 : decode prog_14_method_111_code 12 = .ok (.invokestatic 323, 3) := gq_6 db00g_51 eb_913
theorem d_X12_watch_15 : decode prog_14_method_111_code 15 = .ok (.ifCond .eq 23, 3) := gq_7 db00g_51 eb_204
theorem d_X12_watch_18 : decode prog_14_method_111_code 18 = .ok (.iload_n 3, 1) := gq_8 db00g_51 eb_29
theorem d_X12_watch_19 : decode prog_14_method_111_code 19 = .ok (.iload_n 2, 1) := gq_9 db00g_51 eb_13
theorem d_X12_watch_20 : decode prog_14_method_111_code 20 = .ok (.sipush 1440, 3) := gq_10 db00g_51 eb_289
theorem d_X12_watch_23 : decode prog_14_method_111_code 23 = .ok (.invokestatic 323, 3) := gq_11 db00g_51 eb_913
theorem d_X12_watch_26 : decode prog_14_method_111_code 26 = .ok (.ifCond .eq 12, 3) := gq_12 db00g_51 eb_50
theorem d_X12_watch_29 : decode prog_14_method_111_code 29 = .ok (.aload_n 0, 1) := gq_13 db00g_51 eb_0
theorem d_X12_watch_30 : decode prog_14_method_111_code 30 = .ok (.getfield 641, 3) := gq_14 db00g_51 eb_1223
theorem d_X12_watch_33 : decode prog_14_method_111_code 33 = .ok (.bipush 8, 2) := gq_15 db00g_51 eb_94
theorem d_X12_watch_35 : decode prog_14_method_111_code 35 = .ok (.if_icmp .ne 5, 3) := gq_16 db00g_51 eb_479
theorem d_X12_watch_38 : decode prog_14_method_111_code 38 = .ok (.iconst (-1), 1) := gq_17 db00g_51 eb_26
theorem d_X12_watch_39 : decode prog_14_method_111_code 39 = .ok (.ireturn, 1) := gq_18 db00g_51 eb_15
theorem d_X12_watch_40 : decode prog_14_method_111_code 40 = .ok (.aload_n 0, 1) := gq_19 db00g_51 eb_0
theorem d_X12_watch_41 : decode prog_14_method_111_code 41 = .ok (.getfield 260, 3) := gq_20 db00g_51 eb_1224
theorem d_X12_watch_44 : decode prog_14_method_111_code 44 = .ok (.aload_n 0, 1) := gq_21 db00g_51 eb_0
theorem d_X12_watch_45 : decode prog_14_method_111_code 45 = .ok (.getfield 641, 3) := gq_22 db00g_51 eb_1223
theorem d_X12_watch_48 : decode prog_14_method_111_code 48 = .ok (.iload_n 1, 1) := gq_23 db00g_51 eb_9
theorem db00g_52 : Pf_ prog_14_method_111_code [(49, [0x4f]), (50, [0x2a]), (51, [0xb4, 0x01, 0x07]), (54, [0x2a]), (55, [0xb4, 0x02, 0x81]), (58, [0x1c]), (59, [0x4f]), (60, [0x2a]), (61, [0xb4, 0x01, 0x0a]), (64, [0x2a]), (65, [0xb4, 0x02, 0x81]), (68, [0x1d]), (69, [0x4f]), (70, [0x2a]), (71, [0x59]), (72, [0xb4, 0x02, 0x81]), (75, [0x04]), (76, [0x60]), (77, [0xb5, 0x02, 0x81]), (80, [0x2a]), (81, [0xb4, 0x02, 0x81]), (84, [0x04]), (85, [0x64]), (86, [0xac])] := pf_ok prog_14_method_111_code _ 49 (by decide +kernel)
theorem d_X12_watch_49 : decode prog_14_method_111_code 49 = .ok (.iastore, 1) := gq_0 db00g_52 eb_38
theorem d_X12_watch_50 : decode prog_14_method_111_code 50 = .ok (.aload_n 0, 1) := gq_1 db00g_52 eb_0
theorem d_X12_watch_51 : decode prog_14_method_111_code 51 = .ok (.getfield 263, 3) := gq_2 db00g_52 eb_1225
theorem d_X12_watch_54 : decode prog_14_method_111_code 54 = .ok (.aload_n 0, 1) := gq_3 db00g_52 eb_0
theorem d_X12_watch_55 : decode prog_14_method_111_code 55 = .ok (.getfield 641, 3) := gq_4 db00g_52 eb_1223
theorem d_X12_watch_58 : decode prog_14_method_111_code 58 = .ok (.iload_n 2, 1) := gq_5 db00g_52 eb_13
theorem d_X12_watch_59 : decode prog_14_method_111_code 59 = .ok (.iastore, 1) := gq_6 db00g_52 eb_38
theorem d_X12_watch_60 : decode prog_14_method_111_code 60 = .ok (.aload_n 0, 1) := gq_7 db00g_52 eb_0
theorem d_X12_watch_61 : decode prog_14_method_111_code 61 = .ok (.getfield 266, 3) := gq_8 db00g_52 eb_1226
theorem d_X12_watch_64 : decode prog_14_method_111_code 64 = .ok (.aload_n 0, 1) := gq_9 db00g_52 eb_0
theorem d_X12_watch_65 : decode prog_14_method_111_code 65 = .ok (.getfield 641, 3) := gq_10 db00g_52 eb_1223
theorem d_X12_watch_68 : decode prog_14_method_111_code 68 = .ok (.iload_n 3, 1) := gq_11 db00g_52 eb_29
theorem d_X12_watch_69 : decode prog_14_method_111_code 69 = .ok (.iastore, 1) := gq_12 db00g_52 eb_38
theorem d_X12_watch_70 : decode prog_14_method_111_code 70 = .ok (.aload_n 0, 1) := gq_13 db00g_52 eb_0
theorem d_X12_watch_71 : decode prog_14_method_111_code 71 = .ok (.dup, 1) := gq_14 db00g_52 eb_46
theorem d_X12_watch_72 : decode prog_14_method_111_code 72 = .ok (.getfield 641, 3) := gq_15 db00g_52 eb_1223
theorem d_X12_watch_75 : decode prog_14_method_111_code 75 = .ok (.iconst 1, 1) := gq_16 db00g_52 eb_19
theorem d_X12_watch_76 : decode prog_14_method_111_code 76 = .ok (.iadd, 1) := gq_17 db00g_52 eb_35
theorem d_X12_watch_77 : decode prog_14_method_111_code 77 = .ok (.putfield 641, 3) := gq_18 db00g_52 eb_1227
theorem d_X12_watch_80 : decode prog_14_method_111_code 80 = .ok (.aload_n 0, 1) := gq_19 db00g_52 eb_0
theorem d_X12_watch_81 : decode prog_14_method_111_code 81 = .ok (.getfield 641, 3) := gq_20 db00g_52 eb_1223
theorem d_X12_watch_84 : decode prog_14_method_111_code 84 = .ok (.iconst 1, 1) := gq_21 db00g_52 eb_19
theorem d_X12_watch_85 : decode prog_14_method_111_code 85 = .ok (.isub, 1) := gq_22 db00g_52 eb_48
theorem d_X12_watch_86 : decode prog_14_method_111_code 86 = .ok (.ireturn, 1) := gq_23 db00g_52 eb_15
theorem db00g_53 : Pf_ prog_14_method_112_code [(0, [0x03]), (1, [0x3e]), (2, [0x03]), (3, [0x36, 0x04]), (5, [0x11, 0x00, 0x96]), (8, [0x1b]), (9, [0x68]), (10, [0x36, 0x05]), (12, [0x15, 0x05]), (14, [0x11, 0x00, 0x96]), (17, [0x1b]), (18, [0x68]), (19, [0x2a]), (20, [0xb4, 0x00, 0x5d]), (23, [0x1b]), (24, [0x2e]), (25, [0x60]), (26, [0xa2, 0x00, 0x8d]), (29, [0x1d]), (30, [0x11, 0x05, 0xa0]), (33, [0xa3, 0x00, 0x86]), (36, [0x2a]), (37, [0xb4, 0x00, 0x60]), (40, [0x15, 0x05])] := pf_ok prog_14_method_112_code _ 0 (by decide +kernel)
theorem d_X12_doesSee_0 : decode prog_14_method_112_code 0 = .ok (.iconst 0, 1) := gq_0 db00g_53 eb_21
theorem d_X12_doesSee_1 : decode prog_14_method_112_code 1 = .ok (.istore_n 3, 1) := gq_1 db00g_53 eb_28
theorem d_X12_doesSee_2 : decode prog_14_method_112_code 2 = .ok (.iconst 0, 1) := gq_2 db00g_53 eb_21
theorem d_X12_doesSee_3 : decode prog_14_method_112_code 3 = .ok (.istore 4, 2) := gq_3 db00g_53 eb_133
theorem d_X12_doesSee_5 : decode prog_14_method_112_code 5 = .ok (.sipush 150, 3) := gq_4 db00g_53 eb_33
theorem d_X12_doesSee_8 : decode prog_14_method_112_code 8 = .ok (.iload_n 1, 1) := gq_5 db00g_53 eb_9
theorem d_X12_doesSee_9 : decode prog_14_method_112_code 9 = .ok (.imul, 1) := gq_6 db00g_53 eb_34
theorem d_X12_doesSee_10 : decode prog_14_method_112_code 10 = .ok (.istore 5, 2) := gq_7 db00g_53 eb_134
theorem d_X12_doesSee_12 : decode prog_14_method_112_code 12 = .ok (.iload 5, 2) := gq_8 db00g_53 eb_125
theorem d_X12_doesSee_14 : decode prog_14_method_112_code 14 = .ok (.sipush 150, 3) := gq_9 db00g_53 eb_33
theorem d_X12_doesSee_17 : decode prog_14_method_112_code 17 = .ok (.iload_n 1, 1) := gq_10 db00g_53 eb_9
theorem d_X12_doesSee_18 : decode prog_14_method_112_code 18 = .ok (.imul, 1) := gq_11 db00g_53 eb_34
theorem d_X12_doesSee_19 : decode prog_14_method_112_code 19 = .ok (.aload_n 0, 1) := gq_12 db00g_53 eb_0
theorem d_X12_doesSee_20 : decode prog_14_method_112_code 20 = .ok (.getfield 93, 3) := gq_13 db00g_53 eb_996
theorem d_X12_doesSee_23 : decode prog_14_method_112_code 23 = .ok (.iload_n 1, 1) := gq_14 db00g_53 eb_9
theorem d_X12_doesSee_24 : decode prog_14_method_112_code 24 = .ok (.iaload, 1) := gq_15 db00g_53 eb_37
theorem d_X12_doesSee_25 : decode prog_14_method_112_code 25 = .ok (.iadd, 1) := gq_16 db00g_53 eb_35
theorem d_X12_doesSee_26 : decode prog_14_method_112_code 26 = .ok (.if_icmp .ge 141, 3) := gq_17 db00g_53 eb_1228
theorem d_X12_doesSee_29 : decode prog_14_method_112_code 29 = .ok (.iload_n 3, 1) := gq_18 db00g_53 eb_29
theorem d_X12_doesSee_30 : decode prog_14_method_112_code 30 = .ok (.sipush 1440, 3) := gq_19 db00g_53 eb_289
theorem d_X12_doesSee_33 : decode prog_14_method_112_code 33 = .ok (.if_icmp .gt 134, 3) := gq_20 db00g_53 eb_1229
theorem d_X12_doesSee_36 : decode prog_14_method_112_code 36 = .ok (.aload_n 0, 1) := gq_21 db00g_53 eb_0
theorem d_X12_doesSee_37 : decode prog_14_method_112_code 37 = .ok (.getfield 96, 3) := gq_22 db00g_53 eb_989
theorem d_X12_doesSee_40 : decode prog_14_method_112_code 40 = .ok (.iload 5, 2) := gq_23 db00g_53 eb_125
theorem db00g_54 : Pf_ prog_14_method_112_code [(42, [0x2e]), (43, [0x36, 0x06]), (45, [0x15, 0x06]), (47, [0x04]), (48, [0xa0, 0x00, 0x10]), (51, [0x1d]), (52, [0x2a]), (53, [0xb4, 0x00, 0x63]), (56, [0x15, 0x05]), (58, [0x2e]), (59, [0x60]), (60, [0x3e]), (61, [0xa7, 0x00, 0x64]), (64, [0x15, 0x06]), (66, [0x06]), (67, [0xa0, 0x00, 0x26]), (70, [0x84, 0x03, 0x01]), (73, [0x15, 0x04]), (75, [0x2a]), (76, [0xb4, 0x01, 0x04]), (79, [0x1c]), (80, [0x2e]), (81, [0xa0, 0x00, 0x50]), (84, [0x1d])] := pf_ok prog_14_method_112_code _ 42 (by decide +kernel)
theorem d_X12_doesSee_42 : decode prog_14_method_112_code 42 = .ok (.iaload, 1) := gq_0 db00g_54 eb_37
theorem d_X12_doesSee_43 : decode prog_14_method_112_code 43 = .ok (.istore 6, 2) := gq_1 db00g_54 eb_58
theorem d_X12_doesSee_45 : decode prog_14_method_112_code 45 = .ok (.iload 6, 2) := gq_2 db00g_54 eb_75
theorem d_X12_doesSee_47 : decode prog_14_method_112_code 47 = .ok (.iconst 1, 1) := gq_3 db00g_54 eb_19
theorem d_X12_doesSee_48 : decode prog_14_method_112_code 48 = .ok (.if_icmp .ne 16, 3) := gq_4 db00g_54 eb_79
theorem d_X12_doesSee_51 : decode prog_14_method_112_code 51 = .ok (.iload_n 3, 1) := gq_5 db00g_54 eb_29
theorem d_X12_doesSee_52 : decode prog_14_method_112_code 52 = .ok (.aload_n 0, 1) := gq_6 db00g_54 eb_0
theorem d_X12_doesSee_53 : decode prog_14_method_112_code 53 = .ok (.getfield 99, 3) := gq_7 db00g_54 eb_990
theorem d_X12_doesSee_56 : decode prog_14_method_112_code 56 = .ok (.iload 5, 2) := gq_8 db00g_54 eb_125
theorem d_X12_doesSee_58 : decode prog_14_method_112_code 58 = .ok (.iaload, 1) := gq_9 db00g_54 eb_37
theorem d_X12_doesSee_59 : decode prog_14_method_112_code 59 = .ok (.iadd, 1) := gq_10 db00g_54 eb_35
theorem d_X12_doesSee_60 : decode prog_14_method_112_code 60 = .ok (.istore_n 3, 1) := gq_11 db00g_54 eb_28
theorem d_X12_doesSee_61 : decode prog_14_method_112_code 61 = .ok (.goto 100, 3) := gq_12 db00g_54 eb_1230
theorem d_X12_doesSee_64 : decode prog_14_method_112_code 64 = .ok (.iload 6, 2) := gq_13 db00g_54 eb_75
theorem d_X12_doesSee_66 : decode prog_14_method_112_code 66 = .ok (.iconst 3, 1) := gq_14 db00g_54 eb_54
theorem d_X12_doesSee_67 : decode prog_14_method_112_code 67 = .ok (.if_icmp .ne 38, 3) := gq_15 db00g_54 eb_373
theorem d_X12_doesSee_70 : decode prog_14_method_112_code 70 = .ok (.iinc 3 1, 3) := gq_16 db00g_54 eb_42
theorem d_X12_doesSee_73 : decode prog_14_method_112_code 73 = .ok (.iload 4, 2) := gq_17 db00g_54 eb_76
theorem d_X12_doesSee_75 : decode prog_14_method_112_code 75 = .ok (.aload_n 0, 1) := gq_18 db00g_54 eb_0
theorem d_X12_doesSee_76 : decode prog_14_method_112_code 76 = .ok (.getfield 260, 3) := gq_19 db00g_54 eb_1224
theorem d_X12_doesSee_79 : decode prog_14_method_112_code 79 = .ok (.iload_n 2, 1) := gq_20 db00g_54 eb_13
theorem d_X12_doesSee_80 : decode prog_14_method_112_code 80 = .ok (.iaload, 1) := gq_21 db00g_54 eb_37
theorem d_X12_doesSee_81 : decode prog_14_method_112_code 81 = .ok (.if_icmp .ne 80, 3) := gq_22 db00g_54 eb_1231
theorem d_X12_doesSee_84 : decode prog_14_method_112_code 84 = .ok (.iload_n 3, 1) := gq_23 db00g_54 eb_29
theorem db00g_55 : Pf_ prog_14_method_112_code [(85, [0x2a]), (86, [0xb4, 0x01, 0x07]), (89, [0x1c]), (90, [0x2e]), (91, [0x2a]), (92, [0xb4, 0x01, 0x0a]), (95, [0x1c]), (96, [0x2e]), (97, [0xb8, 0x01, 0x43]), (100, [0x99, 0x00, 0x3d]), (103, [0x04]), (104, [0xac]), (105, [0x2a]), (106, [0x15, 0x04]), (108, [0x2a]), (109, [0xb4, 0x00, 0x63]), (112, [0x15, 0x05]), (114, [0x2e]), (115, [0xb6, 0x01, 0x4f]), (118, [0x36, 0x07]), (120, [0x15, 0x07]), (122, [0x02]), (123, [0xa0, 0x00, 0x06]), (126, [0xa7, 0x00, 0x23])] := pf_ok prog_14_method_112_code _ 85 (by decide +kernel)
theorem d_X12_doesSee_85 : decode prog_14_method_112_code 85 = .ok (.aload_n 0, 1) := gq_0 db00g_55 eb_0
theorem d_X12_doesSee_86 : decode prog_14_method_112_code 86 = .ok (.getfield 263, 3) := gq_1 db00g_55 eb_1225
theorem d_X12_doesSee_89 : decode prog_14_method_112_code 89 = .ok (.iload_n 2, 1) := gq_2 db00g_55 eb_13
theorem d_X12_doesSee_90 : decode prog_14_method_112_code 90 = .ok (.iaload, 1) := gq_3 db00g_55 eb_37
theorem d_X12_doesSee_91 : decode prog_14_method_112_code 91 = .ok (.aload_n 0, 1) := gq_4 db00g_55 eb_0
theorem d_X12_doesSee_92 : decode prog_14_method_112_code 92 = .ok (.getfield 266, 3) := gq_5 db00g_55 eb_1226
theorem d_X12_doesSee_95 : decode prog_14_method_112_code 95 = .ok (.iload_n 2, 1) := gq_6 db00g_55 eb_13
theorem d_X12_doesSee_96 : decode prog_14_method_112_code 96 = .ok (.iaload, 1) := gq_7 db00g_55 eb_37
theorem d_X12_doesSee_97 : decode prog_14_method_112_code 97 = .ok (.invokestatic 323, 3) := gq_8 db00g_55 eb_913
theorem d_X12_doesSee_100 : decode prog_14_method_112_code 100 = .ok (.ifCond .eq 61, 3) := gq_9 db00g_55 eb_1009
theorem d_X12_doesSee_103 : decode prog_14_method_112_code 103 = .ok (.iconst 1, 1) := gq_10 db00g_55 eb_19
theorem d_X12_doesSee_104 : decode prog_14_method_112_code 104 = .ok (.ireturn, 1) := gq_11 db00g_55 eb_15
theorem d_X12_doesSee_105 : decode prog_14_method_112_code 105 = .ok (.aload_n 0, 1) := gq_12 db00g_55 eb_0
theorem d_X12_doesSee_106 : decode prog_14_method_112_code 106 = .ok (.iload 4, 2) := gq_13 db00g_55 eb_76
theorem d_X12_doesSee_108 : decode prog_14_method_112_code 108 = .ok (.aload_n 0, 1) := gq_14 db00g_55 eb_0
theorem d_X12_doesSee_109 : decode prog_14_method_112_code 109 = .ok (.getfield 99, 3) := gq_15 db00g_55 eb_990
theorem d_X12_doesSee_112 : decode prog_14_method_112_code 112 = .ok (.iload 5, 2) := gq_16 db00g_55 eb_125
theorem d_X12_doesSee_114 : decode prog_14_method_112_code 114 = .ok (.iaload, 1) := gq_17 db00g_55 eb_37
theorem d_X12_doesSee_115 : decode prog_14_method_112_code 115 = .ok (.invokevirtual 335, 3) := gq_18 db00g_55 eb_925
theorem d_X12_doesSee_118 : decode prog_14_method_112_code 118 = .ok (.istore 7, 2) := gq_19 db00g_55 eb_59
theorem d_X12_doesSee_120 : decode prog_14_method_112_code 120 = .ok (.iload 7, 2) := gq_20 db00g_55 eb_73
theorem d_X12_doesSee_122 : decode prog_14_method_112_code 122 = .ok (.iconst (-1), 1) := gq_21 db00g_55 eb_26
theorem d_X12_doesSee_123 : decode prog_14_method_112_code 123 = .ok (.if_icmp .ne 6, 3) := gq_22 db00g_55 eb_40
theorem d_X12_doesSee_126 : decode prog_14_method_112_code 126 = .ok (.goto 35, 3) := gq_23 db00g_55 eb_1232
theorem db00g_56 : Pf_ prog_14_method_112_code [(129, [0x1d]), (130, [0x15, 0x07]), (132, [0x60]), (133, [0x3e]), (134, [0x2a]), (135, [0xb4, 0x00, 0x63]), (138, [0x15, 0x05]), (140, [0x2e]), (141, [0x36, 0x04]), (143, [0x15, 0x06]), (145, [0x05]), (146, [0xa0, 0x00, 0x0f]), (149, [0x1d]), (150, [0x2a]), (151, [0xb4, 0x00, 0x66]), (154, [0x15, 0x05]), (156, [0x2e]), (157, [0xb8, 0x02, 0x30]), (160, [0x3e]), (161, [0x84, 0x05, 0x01]), (164, [0xa7, 0xff, 0x68]), (167, [0x03]), (168, [0xac])] := pf_ok prog_14_method_112_code _ 129 (by decide +kernel)
theorem d_X12_doesSee_129 : decode prog_14_method_112_code 129 = .ok (.iload_n 3, 1) := gq_0 db00g_56 eb_29
theorem d_X12_doesSee_130 : decode prog_14_method_112_code 130 = .ok (.iload 7, 2) := gq_1 db00g_56 eb_73
theorem d_X12_doesSee_132 : decode prog_14_method_112_code 132 = .ok (.iadd, 1) := gq_2 db00g_56 eb_35
theorem d_X12_doesSee_133 : decode prog_14_method_112_code 133 = .ok (.istore_n 3, 1) := gq_3 db00g_56 eb_28
theorem d_X12_doesSee_134 : decode prog_14_method_112_code 134 = .ok (.aload_n 0, 1) := gq_4 db00g_56 eb_0
theorem d_X12_doesSee_135 : decode prog_14_method_112_code 135 = .ok (.getfield 99, 3) := gq_5 db00g_56 eb_990
theorem d_X12_doesSee_138 : decode prog_14_method_112_code 138 = .ok (.iload 5, 2) := gq_6 db00g_56 eb_125
theorem d_X12_doesSee_140 : decode prog_14_method_112_code 140 = .ok (.iaload, 1) := gq_7 db00g_56 eb_37
theorem d_X12_doesSee_141 : decode prog_14_method_112_code 141 = .ok (.istore 4, 2) := gq_8 db00g_56 eb_133
theorem d_X12_doesSee_143 : decode prog_14_method_112_code 143 = .ok (.iload 6, 2) := gq_9 db00g_56 eb_75
theorem d_X12_doesSee_145 : decode prog_14_method_112_code 145 = .ok (.iconst 2, 1) := gq_10 db00g_56 eb_10
theorem d_X12_doesSee_146 : decode prog_14_method_112_code 146 = .ok (.if_icmp .ne 15, 3) := gq_11 db00g_56 eb_364
theorem d_X12_doesSee_149 : decode prog_14_method_112_code 149 = .ok (.iload_n 3, 1) := gq_12 db00g_56 eb_29
theorem d_X12_doesSee_150 : decode prog_14_method_112_code 150 = .ok (.aload_n 0, 1) := gq_13 db00g_56 eb_0
theorem d_X12_doesSee_151 : decode prog_14_method_112_code 151 = .ok (.getfield 102, 3) := gq_14 db00g_56 eb_992
theorem d_X12_doesSee_154 : decode prog_14_method_112_code 154 = .ok (.iload 5, 2) := gq_15 db00g_56 eb_125
theorem d_X12_doesSee_156 : decode prog_14_method_112_code 156 = .ok (.iaload, 1) := gq_16 db00g_56 eb_37
theorem d_X12_doesSee_157 : decode prog_14_method_112_code 157 = .ok (.invokestatic 560, 3) := gq_17 db00g_56 eb_1120
theorem d_X12_doesSee_160 : decode prog_14_method_112_code 160 = .ok (.istore_n 3, 1) := gq_18 db00g_56 eb_28
theorem d_X12_doesSee_161 : decode prog_14_method_112_code 161 = .ok (.iinc 5 1, 3) := gq_19 db00g_56 eb_220
theorem d_X12_doesSee_164 : decode prog_14_method_112_code 164 = .ok (.goto (-152), 3) := gq_20 db00g_56 eb_1233
theorem d_X12_doesSee_167 : decode prog_14_method_112_code 167 = .ok (.iconst 0, 1) := gq_21 db00g_56 eb_21
theorem d_X12_doesSee_168 : decode prog_14_method_112_code 168 = .ok (.ireturn, 1) := gq_22 db00g_56 eb_15
theorem db00g_57 : Pf_ prog_14_method_113_code [(0, [0x1b]), (1, [0x03]), (2, [0x2a]), (3, [0xb4, 0x01, 0x9d]), (6, [0x04]), (7, [0x64]), (8, [0xb8, 0x01, 0x43]), (11, [0x99, 0x00, 0x22]), (14, [0x1c]), (15, [0x03]), (16, [0x2a]), (17, [0xb4, 0x02, 0x81]), (20, [0x04]), (21, [0x64]), (22, [0xb8, 0x01, 0x43]), (25, [0x99, 0x00, 0x14]), (28, [0x2a]), (29, [0x1b]), (30, [0x1c]), (31, [0xb6, 0x02, 0x84]), (34, [0x99, 0x00, 0x07]), (37, [0x04]), (38, [0xa7, 0x00, 0x08]), (41, [0x03])] := pf_ok prog_14_method_113_code _ 0 (by decide +kernel)
theorem d_X12_sees_0 : decode prog_14_method_113_code 0 = .ok (.iload_n 1, 1) := gq_0 db00g_57 eb_9
theorem d_X12_sees_1 : decode prog_14_method_113_code 1 = .ok (.iconst 0, 1) := gq_1 db00g_57 eb_21
theorem d_X12_sees_2 : decode prog_14_method_113_code 2 = .ok (.aload_n 0, 1) := gq_2 db00g_57 eb_0
theorem d_X12_sees_3 : decode prog_14_method_113_code 3 = .ok (.getfield 413, 3) := gq_3 db00g_57 eb_987
theorem d_X12_sees_6 : decode prog_14_method_113_code 6 = .ok (.iconst 1, 1) := gq_4 db00g_57 eb_19
theorem d_X12_sees_7 : decode prog_14_method_113_code 7 = .ok (.isub, 1) := gq_5 db00g_57 eb_48
theorem d_X12_sees_8 : decode prog_14_method_113_code 8 = .ok (.invokestatic 323, 3) := gq_6 db00g_57 eb_913
theorem d_X12_sees_11 : decode prog_14_method_113_code 11 = .ok (.ifCond .eq 34, 3) := gq_7 db00g_57 eb_467
theorem d_X12_sees_14 : decode prog_14_method_113_code 14 = .ok (.iload_n 2, 1) := gq_8 db00g_57 eb_13
theorem d_X12_sees_15 : decode prog_14_method_113_code 15 = .ok (.iconst 0, 1) := gq_9 db00g_57 eb_21
theorem d_X12_sees_16 : decode prog_14_method_113_code 16 = .ok (.aload_n 0, 1) := gq_10 db00g_57 eb_0
theorem d_X12_sees_17 : decode prog_14_method_113_code 17 = .ok (.getfield 641, 3) := gq_11 db00g_57 eb_1223
theorem d_X12_sees_20 : decode prog_14_method_113_code 20 = .ok (.iconst 1, 1) := gq_12 db00g_57 eb_19
theorem d_X12_sees_21 : decode prog_14_method_113_code 21 = .ok (.isub, 1) := gq_13 db00g_57 eb_48
theorem d_X12_sees_22 : decode prog_14_method_113_code 22 = .ok (.invokestatic 323, 3) := gq_14 db00g_57 eb_913
theorem d_X12_sees_25 : decode prog_14_method_113_code 25 = .ok (.ifCond .eq 20, 3) := gq_15 db00g_57 eb_210
theorem d_X12_sees_28 : decode prog_14_method_113_code 28 = .ok (.aload_n 0, 1) := gq_16 db00g_57 eb_0
theorem d_X12_sees_29 : decode prog_14_method_113_code 29 = .ok (.iload_n 1, 1) := gq_17 db00g_57 eb_9
theorem d_X12_sees_30 : decode prog_14_method_113_code 30 = .ok (.iload_n 2, 1) := gq_18 db00g_57 eb_13
theorem d_X12_sees_31 : decode prog_14_method_113_code 31 = .ok (.invokevirtual 644, 3) := gq_19 db00g_57 eb_1234
theorem d_X12_sees_34 : decode prog_14_method_113_code 34 = .ok (.ifCond .eq 7, 3) := gq_20 db00g_57 eb_123
theorem d_X12_sees_37 : decode prog_14_method_113_code 37 = .ok (.iconst 1, 1) := gq_21 db00g_57 eb_19
theorem d_X12_sees_38 : decode prog_14_method_113_code 38 = .ok (.goto 8, 3) := gq_22 db00g_57 eb_488
theorem d_X12_sees_41 : decode prog_14_method_113_code 41 = .ok (.iconst 0, 1) := gq_23 db00g_57 eb_21
theorem db00g_58 : Pf_ prog_14_method_113_code [(42, [0xa7, 0x00, 0x04]), (45, [0x02]), (46, [0xac])] := pf_ok prog_14_method_113_code _ 42 (by decide +kernel)
theorem d_X12_sees_42 : decode prog_14_method_113_code 42 = .ok (.goto 4, 3) := gq_0 db00g_58 eb_20
theorem d_X12_sees_45 : decode prog_14_method_113_code 45 = .ok (.iconst (-1), 1) := gq_1 db00g_58 eb_26
theorem d_X12_sees_46 : decode prog_14_method_113_code 46 = .ok (.ireturn, 1) := gq_2 db00g_58 eb_15
theorem db00g_59 : Pf_ prog_14_method_114_code [(0, [0x10, 0x0c]), (2, [0x3c]), (3, [0x03]), (4, [0x3d]), (5, [0x03]), (6, [0x3e]), (7, [0x1d]), (8, [0x2a]), (9, [0xb4, 0x02, 0x81]), (12, [0xa2, 0x00, 0x49]), (15, [0x03]), (16, [0x36, 0x04]), (18, [0x03]), (19, [0x36, 0x05]), (21, [0x15, 0x05]), (23, [0x2a]), (24, [0xb4, 0x02, 0x87]), (27, [0xa2, 0x00, 0x28]), (30, [0x15, 0x04]), (32, [0x2a]), (33, [0xb4, 0x01, 0x16]), (36, [0x15, 0x05]), (38, [0x2e]), (39, [0x1d])] := pf_ok prog_14_method_114_code _ 0 (by decide +kernel)
theorem d_X12_weigh_0 : decode prog_14_method_114_code 0 = .ok (.bipush 12, 2) := gq_0 db00g_59 eb_4
theorem d_X12_weigh_2 : decode prog_14_method_114_code 2 = .ok (.istore_n 1, 1) := gq_1 db00g_59 eb_222
theorem d_X12_weigh_3 : decode prog_14_method_114_code 3 = .ok (.iconst 0, 1) := gq_2 db00g_59 eb_21
theorem d_X12_weigh_4 : decode prog_14_method_114_code 4 = .ok (.istore_n 2, 1) := gq_3 db00g_59 eb_27
theorem d_X12_weigh_5 : decode prog_14_method_114_code 5 = .ok (.iconst 0, 1) := gq_4 db00g_59 eb_21
theorem d_X12_weigh_6 : decode prog_14_method_114_code 6 = .ok (.istore_n 3, 1) := gq_5 db00g_59 eb_28
theorem d_X12_weigh_7 : decode prog_14_method_114_code 7 = .ok (.iload_n 3, 1) := gq_6 db00g_59 eb_29
theorem d_X12_weigh_8 : decode prog_14_method_114_code 8 = .ok (.aload_n 0, 1) := gq_7 db00g_59 eb_0
theorem d_X12_weigh_9 : decode prog_14_method_114_code 9 = .ok (.getfield 641, 3) := gq_8 db00g_59 eb_1223
theorem d_X12_weigh_12 : decode prog_14_method_114_code 12 = .ok (.if_icmp .ge 73, 3) := gq_9 db00g_59 eb_1235
theorem d_X12_weigh_15 : decode prog_14_method_114_code 15 = .ok (.iconst 0, 1) := gq_10 db00g_59 eb_21
theorem d_X12_weigh_16 : decode prog_14_method_114_code 16 = .ok (.istore 4, 2) := gq_11 db00g_59 eb_133
theorem d_X12_weigh_18 : decode prog_14_method_114_code 18 = .ok (.iconst 0, 1) := gq_12 db00g_59 eb_21
theorem d_X12_weigh_19 : decode prog_14_method_114_code 19 = .ok (.istore 5, 2) := gq_13 db00g_59 eb_134
theorem d_X12_weigh_21 : decode prog_14_method_114_code 21 = .ok (.iload 5, 2) := gq_14 db00g_59 eb_125
theorem d_X12_weigh_23 : decode prog_14_method_114_code 23 = .ok (.aload_n 0, 1) := gq_15 db00g_59 eb_0
theorem d_X12_weigh_24 : decode prog_14_method_114_code 24 = .ok (.getfield 647, 3) := gq_16 db00g_59 eb_1236
theorem d_X12_weigh_27 : decode prog_14_method_114_code 27 = .ok (.if_icmp .ge 40, 3) := gq_17 db00g_59 eb_662
theorem d_X12_weigh_30 : decode prog_14_method_114_code 30 = .ok (.iload 4, 2) := gq_18 db00g_59 eb_76
theorem d_X12_weigh_32 : decode prog_14_method_114_code 32 = .ok (.aload_n 0, 1) := gq_19 db00g_59 eb_0
theorem d_X12_weigh_33 : decode prog_14_method_114_code 33 = .ok (.getfield 278, 3) := gq_20 db00g_59 eb_1237
theorem d_X12_weigh_36 : decode prog_14_method_114_code 36 = .ok (.iload 5, 2) := gq_21 db00g_59 eb_125
theorem d_X12_weigh_38 : decode prog_14_method_114_code 38 = .ok (.iaload, 1) := gq_22 db00g_59 eb_37
theorem d_X12_weigh_39 : decode prog_14_method_114_code 39 = .ok (.iload_n 3, 1) := gq_23 db00g_59 eb_29
theorem db00g_60 : Pf_ prog_14_method_114_code [(40, [0x7a]), (41, [0x04]), (42, [0x7e]), (43, [0x04]), (44, [0xa0, 0x00, 0x0d]), (47, [0x2a]), (48, [0xb4, 0x01, 0x10]), (51, [0x15, 0x05]), (53, [0x2e]), (54, [0xa7, 0x00, 0x04]), (57, [0x03]), (58, [0x60]), (59, [0x36, 0x04]), (61, [0x84, 0x05, 0x01]), (64, [0xa7, 0xff, 0xd5]), (67, [0x1b]), (68, [0x15, 0x04]), (70, [0xb8, 0x02, 0x69]), (73, [0x3c]), (74, [0x1c]), (75, [0x15, 0x04]), (77, [0x60]), (78, [0x3d]), (79, [0x84, 0x03, 0x01])] := pf_ok prog_14_method_114_code _ 40 (by decide +kernel)
theorem d_X12_weigh_40 : decode prog_14_method_114_code 40 = .ok (.ishr, 1) := gq_0 db00g_60 eb_56
theorem d_X12_weigh_41 : decode prog_14_method_114_code 41 = .ok (.iconst 1, 1) := gq_1 db00g_60 eb_19
theorem d_X12_weigh_42 : decode prog_14_method_114_code 42 = .ok (.iand, 1) := gq_2 db00g_60 eb_55
theorem d_X12_weigh_43 : decode prog_14_method_114_code 43 = .ok (.iconst 1, 1) := gq_3 db00g_60 eb_19
theorem d_X12_weigh_44 : decode prog_14_method_114_code 44 = .ok (.if_icmp .ne 13, 3) := gq_4 db00g_60 eb_423
theorem d_X12_weigh_47 : decode prog_14_method_114_code 47 = .ok (.aload_n 0, 1) := gq_5 db00g_60 eb_0
theorem d_X12_weigh_48 : decode prog_14_method_114_code 48 = .ok (.getfield 272, 3) := gq_6 db00g_60 eb_1238
theorem d_X12_weigh_51 : decode prog_14_method_114_code 51 = .ok (.iload 5, 2) := gq_7 db00g_60 eb_125
theorem d_X12_weigh_53 : decode prog_14_method_114_code 53 = .ok (.iaload, 1) := gq_8 db00g_60 eb_37
theorem d_X12_weigh_54 : decode prog_14_method_114_code 54 = .ok (.goto 4, 3) := gq_9 db00g_60 eb_20
theorem d_X12_weigh_57 : decode prog_14_method_114_code 57 = .ok (.iconst 0, 1) := gq_10 db00g_60 eb_21
theorem d_X12_weigh_58 : decode prog_14_method_114_code 58 = .ok (.iadd, 1) := gq_11 db00g_60 eb_35
theorem d_X12_weigh_59 : decode prog_14_method_114_code 59 = .ok (.istore 4, 2) := gq_12 db00g_60 eb_133
theorem d_X12_weigh_61 : decode prog_14_method_114_code 61 = .ok (.iinc 5 1, 3) := gq_13 db00g_60 eb_220
theorem d_X12_weigh_64 : decode prog_14_method_114_code 64 = .ok (.goto (-43), 3) := gq_14 db00g_60 eb_339
theorem d_X12_weigh_67 : decode prog_14_method_114_code 67 = .ok (.iload_n 1, 1) := gq_15 db00g_60 eb_9
theorem d_X12_weigh_68 : decode prog_14_method_114_code 68 = .ok (.iload 4, 2) := gq_16 db00g_60 eb_76
theorem d_X12_weigh_70 : decode prog_14_method_114_code 70 = .ok (.invokestatic 617, 3) := gq_17 db00g_60 eb_1191
theorem d_X12_weigh_73 : decode prog_14_method_114_code 73 = .ok (.istore_n 1, 1) := gq_18 db00g_60 eb_222
theorem d_X12_weigh_74 : decode prog_14_method_114_code 74 = .ok (.iload_n 2, 1) := gq_19 db00g_60 eb_13
theorem d_X12_weigh_75 : decode prog_14_method_114_code 75 = .ok (.iload 4, 2) := gq_20 db00g_60 eb_76
theorem d_X12_weigh_77 : decode prog_14_method_114_code 77 = .ok (.iadd, 1) := gq_21 db00g_60 eb_35
theorem d_X12_weigh_78 : decode prog_14_method_114_code 78 = .ok (.istore_n 2, 1) := gq_22 db00g_60 eb_27
theorem d_X12_weigh_79 : decode prog_14_method_114_code 79 = .ok (.iinc 3 1, 3) := gq_23 db00g_60 eb_42
theorem db00g_61 : Pf_ prog_14_method_114_code [(82, [0xa7, 0xff, 0xb5]), (85, [0x1b]), (86, [0x2a]), (87, [0xb4, 0x02, 0x8a]), (90, [0xa3, 0x00, 0x13]), (93, [0x1b]), (94, [0x2a]), (95, [0xb4, 0x02, 0x8a]), (98, [0xa0, 0x00, 0x31]), (101, [0x1c]), (102, [0x2a]), (103, [0xb4, 0x02, 0x8d]), (106, [0xa4, 0x00, 0x29]), (109, [0x2a]), (110, [0x1b]), (111, [0xb5, 0x02, 0x8a]), (114, [0x2a]), (115, [0x1c]), (116, [0xb5, 0x02, 0x8d]), (119, [0x03]), (120, [0x3e]), (121, [0x1d]), (122, [0x2a]), (123, [0xb4, 0x02, 0x87])] := pf_ok prog_14_method_114_code _ 82 (by decide +kernel)
theorem d_X12_weigh_82 : decode prog_14_method_114_code 82 = .ok (.goto (-75), 3) := gq_0 db00g_61 eb_313
theorem d_X12_weigh_85 : decode prog_14_method_114_code 85 = .ok (.iload_n 1, 1) := gq_1 db00g_61 eb_9
theorem d_X12_weigh_86 : decode prog_14_method_114_code 86 = .ok (.aload_n 0, 1) := gq_2 db00g_61 eb_0
theorem d_X12_weigh_87 : decode prog_14_method_114_code 87 = .ok (.getfield 650, 3) := gq_3 db00g_61 eb_1239
theorem d_X12_weigh_90 : decode prog_14_method_114_code 90 = .ok (.if_icmp .gt 19, 3) := gq_4 db00g_61 eb_181
theorem d_X12_weigh_93 : decode prog_14_method_114_code 93 = .ok (.iload_n 1, 1) := gq_5 db00g_61 eb_9
theorem d_X12_weigh_94 : decode prog_14_method_114_code 94 = .ok (.aload_n 0, 1) := gq_6 db00g_61 eb_0
theorem d_X12_weigh_95 : decode prog_14_method_114_code 95 = .ok (.getfield 650, 3) := gq_7 db00g_61 eb_1239
theorem d_X12_weigh_98 : decode prog_14_method_114_code 98 = .ok (.if_icmp .ne 49, 3) := gq_8 db00g_61 eb_514
theorem d_X12_weigh_101 : decode prog_14_method_114_code 101 = .ok (.iload_n 2, 1) := gq_9 db00g_61 eb_13
theorem d_X12_weigh_102 : decode prog_14_method_114_code 102 = .ok (.aload_n 0, 1) := gq_10 db00g_61 eb_0
theorem d_X12_weigh_103 : decode prog_14_method_114_code 103 = .ok (.getfield 653, 3) := gq_11 db00g_61 eb_1240
theorem d_X12_weigh_106 : decode prog_14_method_114_code 106 = .ok (.if_icmp .le 41, 3) := gq_12 db00g_61 eb_1241
theorem d_X12_weigh_109 : decode prog_14_method_114_code 109 = .ok (.aload_n 0, 1) := gq_13 db00g_61 eb_0
theorem d_X12_weigh_110 : decode prog_14_method_114_code 110 = .ok (.iload_n 1, 1) := gq_14 db00g_61 eb_9
theorem d_X12_weigh_111 : decode prog_14_method_114_code 111 = .ok (.putfield 650, 3) := gq_15 db00g_61 eb_1242
theorem d_X12_weigh_114 : decode prog_14_method_114_code 114 = .ok (.aload_n 0, 1) := gq_16 db00g_61 eb_0
theorem d_X12_weigh_115 : decode prog_14_method_114_code 115 = .ok (.iload_n 2, 1) := gq_17 db00g_61 eb_13
theorem d_X12_weigh_116 : decode prog_14_method_114_code 116 = .ok (.putfield 653, 3) := gq_18 db00g_61 eb_1243
theorem d_X12_weigh_119 : decode prog_14_method_114_code 119 = .ok (.iconst 0, 1) := gq_19 db00g_61 eb_21
theorem d_X12_weigh_120 : decode prog_14_method_114_code 120 = .ok (.istore_n 3, 1) := gq_20 db00g_61 eb_28
theorem d_X12_weigh_121 : decode prog_14_method_114_code 121 = .ok (.iload_n 3, 1) := gq_21 db00g_61 eb_29
theorem d_X12_weigh_122 : decode prog_14_method_114_code 122 = .ok (.aload_n 0, 1) := gq_22 db00g_61 eb_0
theorem d_X12_weigh_123 : decode prog_14_method_114_code 123 = .ok (.getfield 647, 3) := gq_23 db00g_61 eb_1236
theorem db00g_62 : Pf_ prog_14_method_114_code [(126, [0xa2, 0x00, 0x15]), (129, [0x2a]), (130, [0xb4, 0x01, 0x13]), (133, [0x1d]), (134, [0x2a]), (135, [0xb4, 0x01, 0x10]), (138, [0x1d]), (139, [0x2e]), (140, [0x4f]), (141, [0x84, 0x03, 0x01]), (144, [0xa7, 0xff, 0xe9]), (147, [0xb1])] := pf_ok prog_14_method_114_code _ 126 (by decide +kernel)
theorem d_X12_weigh_126 : decode prog_14_method_114_code 126 = .ok (.if_icmp .ge 21, 3) := gq_0 db00g_62 eb_168
theorem d_X12_weigh_129 : decode prog_14_method_114_code 129 = .ok (.aload_n 0, 1) := gq_1 db00g_62 eb_0
theorem d_X12_weigh_130 : decode prog_14_method_114_code 130 = .ok (.getfield 275, 3) := gq_2 db00g_62 eb_1244
theorem d_X12_weigh_133 : decode prog_14_method_114_code 133 = .ok (.iload_n 3, 1) := gq_3 db00g_62 eb_29
theorem d_X12_weigh_134 : decode prog_14_method_114_code 134 = .ok (.aload_n 0, 1) := gq_4 db00g_62 eb_0
theorem d_X12_weigh_135 : decode prog_14_method_114_code 135 = .ok (.getfield 272, 3) := gq_5 db00g_62 eb_1238
theorem d_X12_weigh_138 : decode prog_14_method_114_code 138 = .ok (.iload_n 3, 1) := gq_6 db00g_62 eb_29
theorem d_X12_weigh_139 : decode prog_14_method_114_code 139 = .ok (.iaload, 1) := gq_7 db00g_62 eb_37
theorem d_X12_weigh_140 : decode prog_14_method_114_code 140 = .ok (.iastore, 1) := gq_8 db00g_62 eb_38
theorem d_X12_weigh_141 : decode prog_14_method_114_code 141 = .ok (.iinc 3 1, 3) := gq_9 db00g_62 eb_42
theorem d_X12_weigh_144 : decode prog_14_method_114_code 144 = .ok (.goto (-23), 3) := gq_10 db00g_62 eb_171
theorem d_X12_weigh_147 : decode prog_14_method_114_code 147 = .ok (.return_, 1) := gq_11 db00g_62 eb_7
theorem db00g_63 : Pf_ prog_14_method_115_code [(0, [0x1b]), (1, [0x2a]), (2, [0xb4, 0x02, 0x87]), (5, [0x04]), (6, [0x64]), (7, [0xa0, 0x00, 0x0f]), (10, [0x2a]), (11, [0xb4, 0x01, 0x10]), (14, [0x1b]), (15, [0x1c]), (16, [0x4f]), (17, [0x2a]), (18, [0xb6, 0x02, 0x90]), (21, [0xb1]), (22, [0x1c]), (23, [0x3e]), (24, [0x1d]), (25, [0x9b, 0x00, 0x1a]), (28, [0x2a]), (29, [0xb4, 0x01, 0x10]), (32, [0x1b]), (33, [0x1d]), (34, [0x4f]), (35, [0x2a])] := pf_ok prog_14_method_115_code _ 0 (by decide +kernel)
theorem d_X12_share1_0 : decode prog_14_method_115_code 0 = .ok (.iload_n 1, 1) := gq_0 db00g_63 eb_9
theorem d_X12_share1_1 : decode prog_14_method_115_code 1 = .ok (.aload_n 0, 1) := gq_1 db00g_63 eb_0
theorem d_X12_share1_2 : decode prog_14_method_115_code 2 = .ok (.getfield 647, 3) := gq_2 db00g_63 eb_1236
theorem d_X12_share1_5 : decode prog_14_method_115_code 5 = .ok (.iconst 1, 1) := gq_3 db00g_63 eb_19
theorem d_X12_share1_6 : decode prog_14_method_115_code 6 = .ok (.isub, 1) := gq_4 db00g_63 eb_48
theorem d_X12_share1_7 : decode prog_14_method_115_code 7 = .ok (.if_icmp .ne 15, 3) := gq_5 db00g_63 eb_364
theorem d_X12_share1_10 : decode prog_14_method_115_code 10 = .ok (.aload_n 0, 1) := gq_6 db00g_63 eb_0
theorem d_X12_share1_11 : decode prog_14_method_115_code 11 = .ok (.getfield 272, 3) := gq_7 db00g_63 eb_1238
theorem d_X12_share1_14 : decode prog_14_method_115_code 14 = .ok (.iload_n 1, 1) := gq_8 db00g_63 eb_9
theorem d_X12_share1_15 : decode prog_14_method_115_code 15 = .ok (.iload_n 2, 1) := gq_9 db00g_63 eb_13
theorem d_X12_share1_16 : decode prog_14_method_115_code 16 = .ok (.iastore, 1) := gq_10 db00g_63 eb_38
theorem d_X12_share1_17 : decode prog_14_method_115_code 17 = .ok (.aload_n 0, 1) := gq_11 db00g_63 eb_0
theorem d_X12_share1_18 : decode prog_14_method_115_code 18 = .ok (.invokevirtual 656, 3) := gq_12 db00g_63 eb_1245
theorem d_X12_share1_21 : decode prog_14_method_115_code 21 = .ok (.return_, 1) := gq_13 db00g_63 eb_7
theorem d_X12_share1_22 : decode prog_14_method_115_code 22 = .ok (.iload_n 2, 1) := gq_14 db00g_63 eb_13
theorem d_X12_share1_23 : decode prog_14_method_115_code 23 = .ok (.istore_n 3, 1) := gq_15 db00g_63 eb_28
theorem d_X12_share1_24 : decode prog_14_method_115_code 24 = .ok (.iload_n 3, 1) := gq_16 db00g_63 eb_29
theorem d_X12_share1_25 : decode prog_14_method_115_code 25 = .ok (.ifCond .lt 26, 3) := gq_17 db00g_63 eb_1246
theorem d_X12_share1_28 : decode prog_14_method_115_code 28 = .ok (.aload_n 0, 1) := gq_18 db00g_63 eb_0
theorem d_X12_share1_29 : decode prog_14_method_115_code 29 = .ok (.getfield 272, 3) := gq_19 db00g_63 eb_1238
theorem d_X12_share1_32 : decode prog_14_method_115_code 32 = .ok (.iload_n 1, 1) := gq_20 db00g_63 eb_9
theorem d_X12_share1_33 : decode prog_14_method_115_code 33 = .ok (.iload_n 3, 1) := gq_21 db00g_63 eb_29
theorem d_X12_share1_34 : decode prog_14_method_115_code 34 = .ok (.iastore, 1) := gq_22 db00g_63 eb_38
theorem d_X12_share1_35 : decode prog_14_method_115_code 35 = .ok (.aload_n 0, 1) := gq_23 db00g_63 eb_0
theorem db00g_64 : Pf_ prog_14_method_115_code [(36, [0x1b]), (37, [0x04]), (38, [0x60]), (39, [0x1c]), (40, [0x1d]), (41, [0x64]), (42, [0xb6, 0x02, 0x93]), (45, [0x84, 0x03, 0xff]), (48, [0xa7, 0xff, 0xe8]), (51, [0xb1])] := pf_ok prog_14_method_115_code _ 36 (by decide +kernel)
theorem d_X12_share1_36 : decode prog_14_method_115_code 36 = .ok (.iload_n 1, 1) := gq_0 db00g_64 eb_9
theorem d_X12_share1_37 : decode prog_14_method_115_code 37 = .ok (.iconst 1, 1) := gq_1 db00g_64 eb_19
theorem d_X12_share1_38 : decode prog_14_method_115_code 38 = .ok (.iadd, 1) := gq_2 db00g_64 eb_35
theorem d_X12_share1_39 : decode prog_14_method_115_code 39 = .ok (.iload_n 2, 1) := gq_3 db00g_64 eb_13
theorem d_X12_share1_40 : decode prog_14_method_115_code 40 = .ok (.iload_n 3, 1) := gq_4 db00g_64 eb_29
theorem d_X12_share1_41 : decode prog_14_method_115_code 41 = .ok (.isub, 1) := gq_5 db00g_64 eb_48
theorem d_X12_share1_42 : decode prog_14_method_115_code 42 = .ok (.invokevirtual 659, 3) := gq_6 db00g_64 eb_1247
theorem d_X12_share1_45 : decode prog_14_method_115_code 45 = .ok (.iinc 3 (-1), 3) := gq_7 db00g_64 eb_1210
theorem d_X12_share1_48 : decode prog_14_method_115_code 48 = .ok (.goto (-24), 3) := gq_8 db00g_64 eb_159
theorem d_X12_share1_51 : decode prog_14_method_115_code 51 = .ok (.return_, 1) := gq_9 db00g_64 eb_7
theorem db00g_65 : Pf_ prog_14_method_116_code [(0, [0x1b]), (1, [0x04]), (2, [0x04]), (3, [0x2a]), (4, [0xb4, 0x01, 0x9d]), (7, [0x78]), (8, [0x04]), (9, [0x64]), (10, [0xb8, 0x01, 0x43]), (13, [0x99, 0x00, 0x0a]), (16, [0x1b]), (17, [0xb8, 0x02, 0x64]), (20, [0xa7, 0x00, 0x04]), (23, [0x03]), (24, [0x3d]), (25, [0x1c]), (26, [0x04]), (27, [0x08]), (28, [0xb8, 0x01, 0x43]), (31, [0x9a, 0x00, 0x05]), (34, [0x03]), (35, [0xac]), (36, [0x2a]), (37, [0x03])] := pf_ok prog_14_method_116_code _ 0 (by decide +kernel)
theorem d_X12_findShares_0 : decode prog_14_method_116_code 0 = .ok (.iload_n 1, 1) := gq_0 db00g_65 eb_9
theorem d_X12_findShares_1 : decode prog_14_method_116_code 1 = .ok (.iconst 1, 1) := gq_1 db00g_65 eb_19
theorem d_X12_findShares_2 : decode prog_14_method_116_code 2 = .ok (.iconst 1, 1) := gq_2 db00g_65 eb_19
theorem d_X12_findShares_3 : decode prog_14_method_116_code 3 = .ok (.aload_n 0, 1) := gq_3 db00g_65 eb_0
theorem d_X12_findShares_4 : decode prog_14_method_116_code 4 = .ok (.getfield 413, 3) := gq_4 db00g_65 eb_987
theorem d_X12_findShares_7 : decode prog_14_method_116_code 7 = .ok (.ishl, 1) := gq_5 db00g_65 eb_11
theorem d_X12_findShares_8 : decode prog_14_method_116_code 8 = .ok (.iconst 1, 1) := gq_6 db00g_65 eb_19
theorem d_X12_findShares_9 : decode prog_14_method_116_code 9 = .ok (.isub, 1) := gq_7 db00g_65 eb_48
theorem d_X12_findShares_10 : decode prog_14_method_116_code 10 = .ok (.invokestatic 323, 3) := gq_8 db00g_65 eb_913
theorem d_X12_findShares_13 : decode prog_14_method_116_code 13 = .ok (.ifCond .eq 10, 3) := gq_9 db00g_65 eb_202
theorem d_X12_findShares_16 : decode prog_14_method_116_code 16 = .ok (.iload_n 1, 1) := gq_10 db00g_65 eb_9
theorem d_X12_findShares_17 : decode prog_14_method_116_code 17 = .ok (.invokestatic 612, 3) := gq_11 db00g_65 eb_1185
theorem d_X12_findShares_20 : decode prog_14_method_116_code 20 = .ok (.goto 4, 3) := gq_12 db00g_65 eb_20
theorem d_X12_findShares_23 : decode prog_14_method_116_code 23 = .ok (.iconst 0, 1) := gq_13 db00g_65 eb_21
theorem d_X12_findShares_24 : decode prog_14_method_116_code 24 = .ok (.istore_n 2, 1) := gq_14 db00g_65 eb_27
theorem d_X12_findShares_25 : decode prog_14_method_116_code 25 = .ok (.iload_n 2, 1) := gq_15 db00g_65 eb_13
theorem d_X12_findShares_26 : decode prog_14_method_116_code 26 = .ok (.iconst 1, 1) := gq_16 db00g_65 eb_19
theorem d_X12_findShares_27 : decode prog_14_method_116_code 27 = .ok (.iconst 5, 1) := gq_17 db00g_65 eb_122
theorem d_X12_findShares_28 : decode prog_14_method_116_code 28 = .ok (.invokestatic 323, 3) := gq_18 db00g_65 eb_913
theorem d_X12_findShares_31 : decode prog_14_method_116_code 31 = .ok (.ifCond .ne 5, 3) := gq_19 db00g_65 eb_150
theorem d_X12_findShares_34 : decode prog_14_method_116_code 34 = .ok (.iconst 0, 1) := gq_20 db00g_65 eb_21
theorem d_X12_findShares_35 : decode prog_14_method_116_code 35 = .ok (.ireturn, 1) := gq_21 db00g_65 eb_15
theorem d_X12_findShares_36 : decode prog_14_method_116_code 36 = .ok (.aload_n 0, 1) := gq_22 db00g_65 eb_0
theorem d_X12_findShares_37 : decode prog_14_method_116_code 37 = .ok (.iconst 0, 1) := gq_23 db00g_65 eb_21
theorem db00g_66 : Pf_ prog_14_method_116_code [(38, [0xb5, 0x02, 0x87]), (41, [0x03]), (42, [0x3e]), (43, [0x1d]), (44, [0x2a]), (45, [0xb4, 0x01, 0x9d]), (48, [0xa2, 0x00, 0x60]), (51, [0x1b]), (52, [0x1d]), (53, [0x7a]), (54, [0x04]), (55, [0x7e]), (56, [0x04]), (57, [0xa0, 0x00, 0x51]), (60, [0x2a]), (61, [0xb4, 0x01, 0x0d]), (64, [0x2a]), (65, [0xb4, 0x02, 0x87]), (68, [0x1d]), (69, [0x4f]), (70, [0x2a]), (71, [0xb4, 0x01, 0x16]), (74, [0x2a]), (75, [0xb4, 0x02, 0x87])] := pf_ok prog_14_method_116_code _ 38 (by decide +kernel)
theorem d_X12_findShares_38 : decode prog_14_method_116_code 38 = .ok (.putfield 647, 3) := gq_0 db00g_66 eb_1248
theorem d_X12_findShares_41 : decode prog_14_method_116_code 41 = .ok (.iconst 0, 1) := gq_1 db00g_66 eb_21
theorem d_X12_findShares_42 : decode prog_14_method_116_code 42 = .ok (.istore_n 3, 1) := gq_2 db00g_66 eb_28
theorem d_X12_findShares_43 : decode prog_14_method_116_code 43 = .ok (.iload_n 3, 1) := gq_3 db00g_66 eb_29
theorem d_X12_findShares_44 : decode prog_14_method_116_code 44 = .ok (.aload_n 0, 1) := gq_4 db00g_66 eb_0
theorem d_X12_findShares_45 : decode prog_14_method_116_code 45 = .ok (.getfield 413, 3) := gq_5 db00g_66 eb_987
theorem d_X12_findShares_48 : decode prog_14_method_116_code 48 = .ok (.if_icmp .ge 96, 3) := gq_6 db00g_66 eb_1249
theorem d_X12_findShares_51 : decode prog_14_method_116_code 51 = .ok (.iload_n 1, 1) := gq_7 db00g_66 eb_9
theorem d_X12_findShares_52 : decode prog_14_method_116_code 52 = .ok (.iload_n 3, 1) := gq_8 db00g_66 eb_29
theorem d_X12_findShares_53 : decode prog_14_method_116_code 53 = .ok (.ishr, 1) := gq_9 db00g_66 eb_56
theorem d_X12_findShares_54 : decode prog_14_method_116_code 54 = .ok (.iconst 1, 1) := gq_10 db00g_66 eb_19
theorem d_X12_findShares_55 : decode prog_14_method_116_code 55 = .ok (.iand, 1) := gq_11 db00g_66 eb_55
theorem d_X12_findShares_56 : decode prog_14_method_116_code 56 = .ok (.iconst 1, 1) := gq_12 db00g_66 eb_19
theorem d_X12_findShares_57 : decode prog_14_method_116_code 57 = .ok (.if_icmp .ne 81, 3) := gq_13 db00g_66 eb_1250
theorem d_X12_findShares_60 : decode prog_14_method_116_code 60 = .ok (.aload_n 0, 1) := gq_14 db00g_66 eb_0
theorem d_X12_findShares_61 : decode prog_14_method_116_code 61 = .ok (.getfield 269, 3) := gq_15 db00g_66 eb_1251
theorem d_X12_findShares_64 : decode prog_14_method_116_code 64 = .ok (.aload_n 0, 1) := gq_16 db00g_66 eb_0
theorem d_X12_findShares_65 : decode prog_14_method_116_code 65 = .ok (.getfield 647, 3) := gq_17 db00g_66 eb_1236
theorem d_X12_findShares_68 : decode prog_14_method_116_code 68 = .ok (.iload_n 3, 1) := gq_18 db00g_66 eb_29
theorem d_X12_findShares_69 : decode prog_14_method_116_code 69 = .ok (.iastore, 1) := gq_19 db00g_66 eb_38
theorem d_X12_findShares_70 : decode prog_14_method_116_code 70 = .ok (.aload_n 0, 1) := gq_20 db00g_66 eb_0
theorem d_X12_findShares_71 : decode prog_14_method_116_code 71 = .ok (.getfield 278, 3) := gq_21 db00g_66 eb_1237
theorem d_X12_findShares_74 : decode prog_14_method_116_code 74 = .ok (.aload_n 0, 1) := gq_22 db00g_66 eb_0
theorem d_X12_findShares_75 : decode prog_14_method_116_code 75 = .ok (.getfield 647, 3) := gq_23 db00g_66 eb_1236
theorem db00g_67 : Pf_ prog_14_method_116_code [(78, [0x03]), (79, [0x4f]), (80, [0x03]), (81, [0x36, 0x04]), (83, [0x15, 0x04]), (85, [0x2a]), (86, [0xb4, 0x02, 0x81]), (89, [0xa2, 0x00, 0x27]), (92, [0x2a]), (93, [0xb4, 0x01, 0x16]), (96, [0x2a]), (97, [0xb4, 0x02, 0x87]), (100, [0x5c]), (101, [0x2e]), (102, [0x2a]), (103, [0x1d]), (104, [0x15, 0x04]), (106, [0xb6, 0x02, 0x84]), (109, [0x99, 0x00, 0x0a]), (112, [0x04]), (113, [0x15, 0x04]), (115, [0x78]), (116, [0xa7, 0x00, 0x04]), (119, [0x03])] := pf_ok prog_14_method_116_code _ 78 (by decide +kernel)
theorem d_X12_findShares_78 : decode prog_14_method_116_code 78 = .ok (.iconst 0, 1) := gq_0 db00g_67 eb_21
theorem d_X12_findShares_79 : decode prog_14_method_116_code 79 = .ok (.iastore, 1) := gq_1 db00g_67 eb_38
theorem d_X12_findShares_80 : decode prog_14_method_116_code 80 = .ok (.iconst 0, 1) := gq_2 db00g_67 eb_21
theorem d_X12_findShares_81 : decode prog_14_method_116_code 81 = .ok (.istore 4, 2) := gq_3 db00g_67 eb_133
theorem d_X12_findShares_83 : decode prog_14_method_116_code 83 = .ok (.iload 4, 2) := gq_4 db00g_67 eb_76
theorem d_X12_findShares_85 : decode prog_14_method_116_code 85 = .ok (.aload_n 0, 1) := gq_5 db00g_67 eb_0
theorem d_X12_findShares_86 : decode prog_14_method_116_code 86 = .ok (.getfield 641, 3) := gq_6 db00g_67 eb_1223
theorem d_X12_findShares_89 : decode prog_14_method_116_code 89 = .ok (.if_icmp .ge 39, 3) := gq_7 db00g_67 eb_419
theorem d_X12_findShares_92 : decode prog_14_method_116_code 92 = .ok (.aload_n 0, 1) := gq_8 db00g_67 eb_0
theorem d_X12_findShares_93 : decode prog_14_method_116_code 93 = .ok (.getfield 278, 3) := gq_9 db00g_67 eb_1237
theorem d_X12_findShares_96 : decode prog_14_method_116_code 96 = .ok (.aload_n 0, 1) := gq_10 db00g_67 eb_0
theorem d_X12_findShares_97 : decode prog_14_method_116_code 97 = .ok (.getfield 647, 3) := gq_11 db00g_67 eb_1236
theorem d_X12_findShares_100 : decode prog_14_method_116_code 100 = .ok (.dup2, 1) := gq_12 db00g_67 eb_143
theorem d_X12_findShares_101 : decode prog_14_method_116_code 101 = .ok (.iaload, 1) := gq_13 db00g_67 eb_37
theorem d_X12_findShares_102 : decode prog_14_method_116_code 102 = .ok (.aload_n 0, 1) := gq_14 db00g_67 eb_0
theorem d_X12_findShares_103 : decode prog_14_method_116_code 103 = .ok (.iload_n 3, 1) := gq_15 db00g_67 eb_29
theorem d_X12_findShares_104 : decode prog_14_method_116_code 104 = .ok (.iload 4, 2) := gq_16 db00g_67 eb_76
theorem d_X12_findShares_106 : decode prog_14_method_116_code 106 = .ok (.invokevirtual 644, 3) := gq_17 db00g_67 eb_1234
theorem d_X12_findShares_109 : decode prog_14_method_116_code 109 = .ok (.ifCond .eq 10, 3) := gq_18 db00g_67 eb_202
theorem d_X12_findShares_112 : decode prog_14_method_116_code 112 = .ok (.iconst 1, 1) := gq_19 db00g_67 eb_19
theorem d_X12_findShares_113 : decode prog_14_method_116_code 113 = .ok (.iload 4, 2) := gq_20 db00g_67 eb_76
theorem d_X12_findShares_115 : decode prog_14_method_116_code 115 = .ok (.ishl, 1) := gq_21 db00g_67 eb_11
theorem d_X12_findShares_116 : decode prog_14_method_116_code 116 = .ok (.goto 4, 3) := gq_22 db00g_67 eb_20
theorem d_X12_findShares_119 : decode prog_14_method_116_code 119 = .ok (.iconst 0, 1) := gq_23 db00g_67 eb_21
theorem db00g_68 : Pf_ prog_14_method_116_code [(120, [0x80]), (121, [0x4f]), (122, [0x84, 0x04, 0x01]), (125, [0xa7, 0xff, 0xd6]), (128, [0x2a]), (129, [0x59]), (130, [0xb4, 0x02, 0x87]), (133, [0x04]), (134, [0x60]), (135, [0xb5, 0x02, 0x87]), (138, [0x84, 0x03, 0x01]), (141, [0xa7, 0xff, 0x9e]), (144, [0x2a]), (145, [0x02]), (146, [0xb5, 0x02, 0x8a]), (149, [0x2a]), (150, [0x02]), (151, [0xb5, 0x02, 0x8d]), (154, [0x2a]), (155, [0x03]), (156, [0x10, 0x0c]), (158, [0xb6, 0x02, 0x93]), (161, [0x04]), (162, [0xac])] := pf_ok prog_14_method_116_code _ 120 (by decide +kernel)
theorem d_X12_findShares_120 : decode prog_14_method_116_code 120 = .ok (.ior, 1) := gq_0 db00g_68 eb_12
theorem d_X12_findShares_121 : decode prog_14_method_116_code 121 = .ok (.iastore, 1) := gq_1 db00g_68 eb_38
theorem d_X12_findShares_122 : decode prog_14_method_116_code 122 = .ok (.iinc 4 1, 3) := gq_2 db00g_68 eb_144
theorem d_X12_findShares_125 : decode prog_14_method_116_code 125 = .ok (.goto (-42), 3) := gq_3 db00g_68 eb_422
theorem d_X12_findShares_128 : decode prog_14_method_116_code 128 = .ok (.aload_n 0, 1) := gq_4 db00g_68 eb_0
theorem d_X12_findShares_129 : decode prog_14_method_116_code 129 = .ok (.dup, 1) := gq_5 db00g_68 eb_46
theorem d_X12_findShares_130 : decode prog_14_method_116_code 130 = .ok (.getfield 647, 3) := gq_6 db00g_68 eb_1236
theorem d_X12_findShares_133 : decode prog_14_method_116_code 133 = .ok (.iconst 1, 1) := gq_7 db00g_68 eb_19
theorem d_X12_findShares_134 : decode prog_14_method_116_code 134 = .ok (.iadd, 1) := gq_8 db00g_68 eb_35
theorem d_X12_findShares_135 : decode prog_14_method_116_code 135 = .ok (.putfield 647, 3) := gq_9 db00g_68 eb_1248
theorem d_X12_findShares_138 : decode prog_14_method_116_code 138 = .ok (.iinc 3 1, 3) := gq_10 db00g_68 eb_42
theorem d_X12_findShares_141 : decode prog_14_method_116_code 141 = .ok (.goto (-98), 3) := gq_11 db00g_68 eb_1252
theorem d_X12_findShares_144 : decode prog_14_method_116_code 144 = .ok (.aload_n 0, 1) := gq_12 db00g_68 eb_0
theorem d_X12_findShares_145 : decode prog_14_method_116_code 145 = .ok (.iconst (-1), 1) := gq_13 db00g_68 eb_26
theorem d_X12_findShares_146 : decode prog_14_method_116_code 146 = .ok (.putfield 650, 3) := gq_14 db00g_68 eb_1242
theorem d_X12_findShares_149 : decode prog_14_method_116_code 149 = .ok (.aload_n 0, 1) := gq_15 db00g_68 eb_0
theorem d_X12_findShares_150 : decode prog_14_method_116_code 150 = .ok (.iconst (-1), 1) := gq_16 db00g_68 eb_26
theorem d_X12_findShares_151 : decode prog_14_method_116_code 151 = .ok (.putfield 653, 3) := gq_17 db00g_68 eb_1243
theorem d_X12_findShares_154 : decode prog_14_method_116_code 154 = .ok (.aload_n 0, 1) := gq_18 db00g_68 eb_0
theorem d_X12_findShares_155 : decode prog_14_method_116_code 155 = .ok (.iconst 0, 1) := gq_19 db00g_68 eb_21
theorem d_X12_findShares_156 : decode prog_14_method_116_code 156 = .ok (.bipush 12, 2) := gq_20 db00g_68 eb_4
theorem d_X12_findShares_158 : decode prog_14_method_116_code 158 = .ok (.invokevirtual 659, 3) := gq_21 db00g_68 eb_1247
theorem d_X12_findShares_161 : decode prog_14_method_116_code 161 = .ok (.iconst 1, 1) := gq_22 db00g_68 eb_19
theorem d_X12_findShares_162 : decode prog_14_method_116_code 162 = .ok (.ireturn, 1) := gq_23 db00g_68 eb_15
theorem db00g_69 : Pf_ prog_14_method_117_code [(0, [0x2a]), (1, [0x1b]), (2, [0xb6, 0x02, 0x96]), (5, [0x99, 0x00, 0x0a]), (8, [0x2a]), (9, [0xb4, 0x02, 0x8a]), (12, [0xa7, 0x00, 0x04]), (15, [0x02]), (16, [0xac])] := pf_ok prog_14_method_117_code _ 0 (by decide +kernel)
theorem d_X12_safe_0 : decode prog_14_method_117_code 0 = .ok (.aload_n 0, 1) := gq_0 db00g_69 eb_0
theorem d_X12_safe_1 : decode prog_14_method_117_code 1 = .ok (.iload_n 1, 1) := gq_1 db00g_69 eb_9
theorem d_X12_safe_2 : decode prog_14_method_117_code 2 = .ok (.invokevirtual 662, 3) := gq_2 db00g_69 eb_1253
theorem d_X12_safe_5 : decode prog_14_method_117_code 5 = .ok (.ifCond .eq 10, 3) := gq_3 db00g_69 eb_202
theorem d_X12_safe_8 : decode prog_14_method_117_code 8 = .ok (.aload_n 0, 1) := gq_4 db00g_69 eb_0
theorem d_X12_safe_9 : decode prog_14_method_117_code 9 = .ok (.getfield 650, 3) := gq_5 db00g_69 eb_1239
theorem d_X12_safe_12 : decode prog_14_method_117_code 12 = .ok (.goto 4, 3) := gq_6 db00g_69 eb_20
theorem d_X12_safe_15 : decode prog_14_method_117_code 15 = .ok (.iconst (-1), 1) := gq_7 db00g_69 eb_26
theorem d_X12_safe_16 : decode prog_14_method_117_code 16 = .ok (.ireturn, 1) := gq_8 db00g_69 eb_15
theorem db00g_70 : Pf_ prog_14_method_118_code [(0, [0x2a]), (1, [0x1b]), (2, [0xb6, 0x02, 0x96]), (5, [0x9a, 0x00, 0x05]), (8, [0x02]), (9, [0xac]), (10, [0x03]), (11, [0x3e]), (12, [0x1d]), (13, [0x2a]), (14, [0xb4, 0x02, 0x87]), (17, [0xa2, 0x00, 0x1a]), (20, [0x2a]), (21, [0xb4, 0x01, 0x0d]), (24, [0x1d]), (25, [0x2e]), (26, [0x1c]), (27, [0xa0, 0x00, 0x0a]), (30, [0x2a]), (31, [0xb4, 0x01, 0x13]), (34, [0x1d]), (35, [0x2e]), (36, [0xac]), (37, [0x84, 0x03, 0x01])] := pf_ok prog_14_method_118_code _ 0 (by decide +kernel)
theorem d_X12_share_0 : decode prog_14_method_118_code 0 = .ok (.aload_n 0, 1) := gq_0 db00g_70 eb_0
theorem d_X12_share_1 : decode prog_14_method_118_code 1 = .ok (.iload_n 1, 1) := gq_1 db00g_70 eb_9
theorem d_X12_share_2 : decode prog_14_method_118_code 2 = .ok (.invokevirtual 662, 3) := gq_2 db00g_70 eb_1253
theorem d_X12_share_5 : decode prog_14_method_118_code 5 = .ok (.ifCond .ne 5, 3) := gq_3 db00g_70 eb_150
theorem d_X12_share_8 : decode prog_14_method_118_code 8 = .ok (.iconst (-1), 1) := gq_4 db00g_70 eb_26
theorem d_X12_share_9 : decode prog_14_method_118_code 9 = .ok (.ireturn, 1) := gq_5 db00g_70 eb_15
theorem d_X12_share_10 : decode prog_14_method_118_code 10 = .ok (.iconst 0, 1) := gq_6 db00g_70 eb_21
theorem d_X12_share_11 : decode prog_14_method_118_code 11 = .ok (.istore_n 3, 1) := gq_7 db00g_70 eb_28
theorem d_X12_share_12 : decode prog_14_method_118_code 12 = .ok (.iload_n 3, 1) := gq_8 db00g_70 eb_29
theorem d_X12_share_13 : decode prog_14_method_118_code 13 = .ok (.aload_n 0, 1) := gq_9 db00g_70 eb_0
theorem d_X12_share_14 : decode prog_14_method_118_code 14 = .ok (.getfield 647, 3) := gq_10 db00g_70 eb_1236
theorem d_X12_share_17 : decode prog_14_method_118_code 17 = .ok (.if_icmp .ge 26, 3) := gq_11 db00g_70 eb_487
theorem d_X12_share_20 : decode prog_14_method_118_code 20 = .ok (.aload_n 0, 1) := gq_12 db00g_70 eb_0
theorem d_X12_share_21 : decode prog_14_method_118_code 21 = .ok (.getfield 269, 3) := gq_13 db00g_70 eb_1251
theorem d_X12_share_24 : decode prog_14_method_118_code 24 = .ok (.iload_n 3, 1) := gq_14 db00g_70 eb_29
theorem d_X12_share_25 : decode prog_14_method_118_code 25 = .ok (.iaload, 1) := gq_15 db00g_70 eb_37
theorem d_X12_share_26 : decode prog_14_method_118_code 26 = .ok (.iload_n 2, 1) := gq_16 db00g_70 eb_13
theorem d_X12_share_27 : decode prog_14_method_118_code 27 = .ok (.if_icmp .ne 10, 3) := gq_17 db00g_70 eb_259
theorem d_X12_share_30 : decode prog_14_method_118_code 30 = .ok (.aload_n 0, 1) := gq_18 db00g_70 eb_0
theorem d_X12_share_31 : decode prog_14_method_118_code 31 = .ok (.getfield 275, 3) := gq_19 db00g_70 eb_1244
theorem d_X12_share_34 : decode prog_14_method_118_code 34 = .ok (.iload_n 3, 1) := gq_20 db00g_70 eb_29
theorem d_X12_share_35 : decode prog_14_method_118_code 35 = .ok (.iaload, 1) := gq_21 db00g_70 eb_37
theorem d_X12_share_36 : decode prog_14_method_118_code 36 = .ok (.ireturn, 1) := gq_22 db00g_70 eb_15
theorem d_X12_share_37 : decode prog_14_method_118_code 37 = .ok (.iinc 3 1, 3) := gq_23 db00g_70 eb_42
theorem db00g_71 : Pf_ prog_14_method_118_code [(40, [0xa7, 0xff, 0xe4]), (43, [0x02]), (44, [0xac])] := pf_ok prog_14_method_118_code _ 40 (by decide +kernel)
theorem d_X12_share_40 : decode prog_14_method_118_code 40 = .ok (.goto (-28), 3) := gq_0 db00g_71 eb_1254
theorem d_X12_share_43 : decode prog_14_method_118_code 43 = .ok (.iconst (-1), 1) := gq_1 db00g_71 eb_26
theorem d_X12_share_44 : decode prog_14_method_118_code 44 = .ok (.ireturn, 1) := gq_2 db00g_71 eb_15
theorem db00g_72 : Pf_ prog_14_method_119_code [(0, [0x1b]), (1, [0xb8, 0x01, 0x47]), (4, [0x99, 0x00, 0x1f]), (7, [0x1c]), (8, [0x03]), (9, [0x11, 0x75, 0x30]), (12, [0xb8, 0x01, 0x43]), (15, [0x99, 0x00, 0x14]), (18, [0x1d]), (19, [0x04]), (20, [0x06]), (21, [0xb8, 0x01, 0x43]), (24, [0x99, 0x00, 0x0b]), (27, [0x2a]), (28, [0xb4, 0x02, 0x99]), (31, [0x07]), (32, [0xa0, 0x00, 0x05]), (35, [0x02]), (36, [0xac]), (37, [0x2a]), (38, [0xb4, 0x01, 0x19]), (41, [0x2a]), (42, [0xb4, 0x02, 0x99]), (45, [0x1b])] := pf_ok prog_14_method_119_code _ 0 (by decide +kernel)
theorem d_X12_fair_0 : decode prog_14_method_119_code 0 = .ok (.iload_n 1, 1) := gq_0 db00g_72 eb_9
theorem d_X12_fair_1 : decode prog_14_method_119_code 1 = .ok (.invokestatic 327, 3) := gq_1 db00g_72 eb_914
theorem d_X12_fair_4 : decode prog_14_method_119_code 4 = .ok (.ifCond .eq 31, 3) := gq_2 db00g_72 eb_758
theorem d_X12_fair_7 : decode prog_14_method_119_code 7 = .ok (.iload_n 2, 1) := gq_3 db00g_72 eb_13
theorem d_X12_fair_8 : decode prog_14_method_119_code 8 = .ok (.iconst 0, 1) := gq_4 db00g_72 eb_21
theorem d_X12_fair_9 : decode prog_14_method_119_code 9 = .ok (.sipush 30000, 3) := gq_5 db00g_72 eb_643
theorem d_X12_fair_12 : decode prog_14_method_119_code 12 = .ok (.invokestatic 323, 3) := gq_6 db00g_72 eb_913
theorem d_X12_fair_15 : decode prog_14_method_119_code 15 = .ok (.ifCond .eq 20, 3) := gq_7 db00g_72 eb_210
theorem d_X12_fair_18 : decode prog_14_method_119_code 18 = .ok (.iload_n 3, 1) := gq_8 db00g_72 eb_29
theorem d_X12_fair_19 : decode prog_14_method_119_code 19 = .ok (.iconst 1, 1) := gq_9 db00g_72 eb_19
theorem d_X12_fair_20 : decode prog_14_method_119_code 20 = .ok (.iconst 3, 1) := gq_10 db00g_72 eb_54
theorem d_X12_fair_21 : decode prog_14_method_119_code 21 = .ok (.invokestatic 323, 3) := gq_11 db00g_72 eb_913
theorem d_X12_fair_24 : decode prog_14_method_119_code 24 = .ok (.ifCond .eq 11, 3) := gq_12 db00g_72 eb_715
theorem d_X12_fair_27 : decode prog_14_method_119_code 27 = .ok (.aload_n 0, 1) := gq_13 db00g_72 eb_0
theorem d_X12_fair_28 : decode prog_14_method_119_code 28 = .ok (.getfield 665, 3) := gq_14 db00g_72 eb_1255
theorem d_X12_fair_31 : decode prog_14_method_119_code 31 = .ok (.iconst 4, 1) := gq_15 db00g_72 eb_291
theorem d_X12_fair_32 : decode prog_14_method_119_code 32 = .ok (.if_icmp .ne 5, 3) := gq_16 db00g_72 eb_479
theorem d_X12_fair_35 : decode prog_14_method_119_code 35 = .ok (.iconst (-1), 1) := gq_17 db00g_72 eb_26
theorem d_X12_fair_36 : decode prog_14_method_119_code 36 = .ok (.ireturn, 1) := gq_18 db00g_72 eb_15
theorem d_X12_fair_37 : decode prog_14_method_119_code 37 = .ok (.aload_n 0, 1) := gq_19 db00g_72 eb_0
theorem d_X12_fair_38 : decode prog_14_method_119_code 38 = .ok (.getfield 281, 3) := gq_20 db00g_72 eb_1256
theorem d_X12_fair_41 : decode prog_14_method_119_code 41 = .ok (.aload_n 0, 1) := gq_21 db00g_72 eb_0
theorem d_X12_fair_42 : decode prog_14_method_119_code 42 = .ok (.getfield 665, 3) := gq_22 db00g_72 eb_1255
theorem d_X12_fair_45 : decode prog_14_method_119_code 45 = .ok (.iload_n 1, 1) := gq_23 db00g_72 eb_9
theorem db00g_73 : Pf_ prog_14_method_119_code [(46, [0x4f]), (47, [0x2a]), (48, [0xb4, 0x01, 0x1c]), (51, [0x2a]), (52, [0xb4, 0x02, 0x99]), (55, [0x1c]), (56, [0x4f]), (57, [0x2a]), (58, [0xb4, 0x01, 0x1f]), (61, [0x2a]), (62, [0xb4, 0x02, 0x99]), (65, [0x1d]), (66, [0x4f]), (67, [0x2a]), (68, [0x59]), (69, [0xb4, 0x02, 0x99]), (72, [0x04]), (73, [0x60]), (74, [0xb5, 0x02, 0x99]), (77, [0x2a]), (78, [0xb4, 0x02, 0x99]), (81, [0x04]), (82, [0x64]), (83, [0xac])] := pf_ok prog_14_method_119_code _ 46 (by decide +kernel)
theorem d_X12_fair_46 : decode prog_14_method_119_code 46 = .ok (.iastore, 1) := gq_0 db00g_73 eb_38
theorem d_X12_fair_47 : decode prog_14_method_119_code 47 = .ok (.aload_n 0, 1) := gq_1 db00g_73 eb_0
theorem d_X12_fair_48 : decode prog_14_method_119_code 48 = .ok (.getfield 284, 3) := gq_2 db00g_73 eb_1257
theorem d_X12_fair_51 : decode prog_14_method_119_code 51 = .ok (.aload_n 0, 1) := gq_3 db00g_73 eb_0
theorem d_X12_fair_52 : decode prog_14_method_119_code 52 = .ok (.getfield 665, 3) := gq_4 db00g_73 eb_1255
theorem d_X12_fair_55 : decode prog_14_method_119_code 55 = .ok (.iload_n 2, 1) := gq_5 db00g_73 eb_13
theorem d_X12_fair_56 : decode prog_14_method_119_code 56 = .ok (.iastore, 1) := gq_6 db00g_73 eb_38
theorem d_X12_fair_57 : decode prog_14_method_119_code 57 = .ok (.aload_n 0, 1) := gq_7 db00g_73 eb_0
theorem d_X12_fair_58 : decode prog_14_method_119_code 58 = .ok (.getfield 287, 3) := gq_8 db00g_73 eb_694
theorem d_X12_fair_61 : decode prog_14_method_119_code 61 = .ok (.aload_n 0, 1) := gq_9 db00g_73 eb_0
theorem d_X12_fair_62 : decode prog_14_method_119_code 62 = .ok (.getfield 665, 3) := gq_10 db00g_73 eb_1255
theorem d_X12_fair_65 : decode prog_14_method_119_code 65 = .ok (.iload_n 3, 1) := gq_11 db00g_73 eb_29
theorem d_X12_fair_66 : decode prog_14_method_119_code 66 = .ok (.iastore, 1) := gq_12 db00g_73 eb_38
theorem d_X12_fair_67 : decode prog_14_method_119_code 67 = .ok (.aload_n 0, 1) := gq_13 db00g_73 eb_0
theorem d_X12_fair_68 : decode prog_14_method_119_code 68 = .ok (.dup, 1) := gq_14 db00g_73 eb_46
theorem d_X12_fair_69 : decode prog_14_method_119_code 69 = .ok (.getfield 665, 3) := gq_15 db00g_73 eb_1255
theorem d_X12_fair_72 : decode prog_14_method_119_code 72 = .ok (.iconst 1, 1) := gq_16 db00g_73 eb_19
theorem d_X12_fair_73 : decode prog_14_method_119_code 73 = .ok (.iadd, 1) := gq_17 db00g_73 eb_35
theorem d_X12_fair_74 : decode prog_14_method_119_code 74 = .ok (.putfield 665, 3) := gq_18 db00g_73 eb_1258
theorem d_X12_fair_77 : decode prog_14_method_119_code 77 = .ok (.aload_n 0, 1) := gq_19 db00g_73 eb_0
theorem d_X12_fair_78 : decode prog_14_method_119_code 78 = .ok (.getfield 665, 3) := gq_20 db00g_73 eb_1255
theorem d_X12_fair_81 : decode prog_14_method_119_code 81 = .ok (.iconst 1, 1) := gq_21 db00g_73 eb_19
theorem d_X12_fair_82 : decode prog_14_method_119_code 82 = .ok (.isub, 1) := gq_22 db00g_73 eb_48
theorem d_X12_fair_83 : decode prog_14_method_119_code 83 = .ok (.ireturn, 1) := gq_23 db00g_73 eb_15
theorem db00g_74 : Pf_ prog_14_method_120_code [(0, [0x2a]), (1, [0x03]), (2, [0xb5, 0x02, 0x99]), (5, [0xb1])] := pf_ok prog_14_method_120_code _ 0 (by decide +kernel)
theorem d_X12_fairs_0 : decode prog_14_method_120_code 0 = .ok (.aload_n 0, 1) := gq_0 db00g_74 eb_0
theorem d_X12_fairs_1 : decode prog_14_method_120_code 1 = .ok (.iconst 0, 1) := gq_1 db00g_74 eb_21
theorem d_X12_fairs_2 : decode prog_14_method_120_code 2 = .ok (.putfield 665, 3) := gq_2 db00g_74 eb_1258
theorem d_X12_fairs_5 : decode prog_14_method_120_code 5 = .ok (.return_, 1) := gq_3 db00g_74 eb_7
theorem db00g_75 : Pf_ prog_14_method_121_code [(0, [0x2a]), (1, [0xb4, 0x00, 0x22]), (4, [0x1b]), (5, [0x2e]), (6, [0x99, 0x00, 0x11]), (9, [0x2a]), (10, [0xb4, 0x00, 0x22]), (13, [0x1b]), (14, [0x2e]), (15, [0x04]), (16, [0x9f, 0x00, 0x07]), (19, [0x13, 0x02, 0x9c]), (22, [0xac]), (23, [0x2a]), (24, [0xb4, 0x00, 0x28]), (27, [0x1b]), (28, [0x2e]), (29, [0x02]), (30, [0xa0, 0x00, 0x0c]), (33, [0x2a]), (34, [0xb4, 0x00, 0x25]), (37, [0x1b]), (38, [0x2e]), (39, [0xa7, 0x00, 0x09])] := pf_ok prog_14_method_121_code _ 0 (by decide +kernel)
theorem d_X12_costOf_0 : decode prog_14_method_121_code 0 = .ok (.aload_n 0, 1) := gq_0 db00g_75 eb_0
theorem d_X12_costOf_1 : decode prog_14_method_121_code 1 = .ok (.getfield 34, 3) := gq_1 db00g_75 eb_36
theorem d_X12_costOf_4 : decode prog_14_method_121_code 4 = .ok (.iload_n 1, 1) := gq_2 db00g_75 eb_9
theorem d_X12_costOf_5 : decode prog_14_method_121_code 5 = .ok (.iaload, 1) := gq_3 db00g_75 eb_37
theorem d_X12_costOf_6 : decode prog_14_method_121_code 6 = .ok (.ifCond .eq 17, 3) := gq_4 db00g_75 eb_112
theorem d_X12_costOf_9 : decode prog_14_method_121_code 9 = .ok (.aload_n 0, 1) := gq_5 db00g_75 eb_0
theorem d_X12_costOf_10 : decode prog_14_method_121_code 10 = .ok (.getfield 34, 3) := gq_6 db00g_75 eb_36
theorem d_X12_costOf_13 : decode prog_14_method_121_code 13 = .ok (.iload_n 1, 1) := gq_7 db00g_75 eb_9
theorem d_X12_costOf_14 : decode prog_14_method_121_code 14 = .ok (.iaload, 1) := gq_8 db00g_75 eb_37
theorem d_X12_costOf_15 : decode prog_14_method_121_code 15 = .ok (.iconst 1, 1) := gq_9 db00g_75 eb_19
theorem d_X12_costOf_16 : decode prog_14_method_121_code 16 = .ok (.if_icmp .eq 7, 3) := gq_10 db00g_75 eb_539
theorem d_X12_costOf_19 : decode prog_14_method_121_code 19 = .ok (.ldc_w 668, 3) := gq_11 db00g_75 eb_1259
theorem d_X12_costOf_22 : decode prog_14_method_121_code 22 = .ok (.ireturn, 1) := gq_12 db00g_75 eb_15
theorem d_X12_costOf_23 : decode prog_14_method_121_code 23 = .ok (.aload_n 0, 1) := gq_13 db00g_75 eb_0
theorem d_X12_costOf_24 : decode prog_14_method_121_code 24 = .ok (.getfield 40, 3) := gq_14 db00g_75 eb_282
theorem d_X12_costOf_27 : decode prog_14_method_121_code 27 = .ok (.iload_n 1, 1) := gq_15 db00g_75 eb_9
theorem d_X12_costOf_28 : decode prog_14_method_121_code 28 = .ok (.iaload, 1) := gq_16 db00g_75 eb_37
theorem d_X12_costOf_29 : decode prog_14_method_121_code 29 = .ok (.iconst (-1), 1) := gq_17 db00g_75 eb_26
theorem d_X12_costOf_30 : decode prog_14_method_121_code 30 = .ok (.if_icmp .ne 12, 3) := gq_18 db00g_75 eb_410
theorem d_X12_costOf_33 : decode prog_14_method_121_code 33 = .ok (.aload_n 0, 1) := gq_19 db00g_75 eb_0
theorem d_X12_costOf_34 : decode prog_14_method_121_code 34 = .ok (.getfield 37, 3) := gq_20 db00g_75 eb_281
theorem d_X12_costOf_37 : decode prog_14_method_121_code 37 = .ok (.iload_n 1, 1) := gq_21 db00g_75 eb_9
theorem d_X12_costOf_38 : decode prog_14_method_121_code 38 = .ok (.iaload, 1) := gq_22 db00g_75 eb_37
theorem d_X12_costOf_39 : decode prog_14_method_121_code 39 = .ok (.goto 9, 3) := gq_23 db00g_75 eb_924
theorem db00g_76 : Pf_ prog_14_method_121_code [(42, [0x2a]), (43, [0xb4, 0x00, 0x28]), (46, [0x1b]), (47, [0x2e]), (48, [0x3e]), (49, [0x2a]), (50, [0xb4, 0x00, 0x28]), (53, [0x1b]), (54, [0x2e]), (55, [0x02]), (56, [0xa0, 0x00, 0x0a]), (59, [0x2a]), (60, [0xb4, 0x01, 0x56]), (63, [0xa7, 0x00, 0x09]), (66, [0x2a]), (67, [0xb4, 0x00, 0x2b]), (70, [0x1b]), (71, [0x2e]), (72, [0x36, 0x04]), (74, [0x2a]), (75, [0x1d]), (76, [0x2a]), (77, [0xb4, 0x01, 0x19]), (80, [0x1c])] := pf_ok prog_14_method_121_code _ 42 (by decide +kernel)
theorem d_X12_costOf_42 : decode prog_14_method_121_code 42 = .ok (.aload_n 0, 1) := gq_0 db00g_76 eb_0
theorem d_X12_costOf_43 : decode prog_14_method_121_code 43 = .ok (.getfield 40, 3) := gq_1 db00g_76 eb_282
theorem d_X12_costOf_46 : decode prog_14_method_121_code 46 = .ok (.iload_n 1, 1) := gq_2 db00g_76 eb_9
theorem d_X12_costOf_47 : decode prog_14_method_121_code 47 = .ok (.iaload, 1) := gq_3 db00g_76 eb_37
theorem d_X12_costOf_48 : decode prog_14_method_121_code 48 = .ok (.istore_n 3, 1) := gq_4 db00g_76 eb_28
theorem d_X12_costOf_49 : decode prog_14_method_121_code 49 = .ok (.aload_n 0, 1) := gq_5 db00g_76 eb_0
theorem d_X12_costOf_50 : decode prog_14_method_121_code 50 = .ok (.getfield 40, 3) := gq_6 db00g_76 eb_282
theorem d_X12_costOf_53 : decode prog_14_method_121_code 53 = .ok (.iload_n 1, 1) := gq_7 db00g_76 eb_9
theorem d_X12_costOf_54 : decode prog_14_method_121_code 54 = .ok (.iaload, 1) := gq_8 db00g_76 eb_37
theorem d_X12_costOf_55 : decode prog_14_method_121_code 55 = .ok (.iconst (-1), 1) := gq_9 db00g_76 eb_26
theorem d_X12_costOf_56 : decode prog_14_method_121_code 56 = .ok (.if_icmp .ne 10, 3) := gq_10 db00g_76 eb_259
theorem d_X12_costOf_59 : decode prog_14_method_121_code 59 = .ok (.aload_n 0, 1) := gq_11 db00g_76 eb_0
theorem d_X12_costOf_60 : decode prog_14_method_121_code 60 = .ok (.getfield 342, 3) := gq_12 db00g_76 eb_928
theorem d_X12_costOf_63 : decode prog_14_method_121_code 63 = .ok (.goto 9, 3) := gq_13 db00g_76 eb_924
theorem d_X12_costOf_66 : decode prog_14_method_121_code 66 = .ok (.aload_n 0, 1) := gq_14 db00g_76 eb_0
theorem d_X12_costOf_67 : decode prog_14_method_121_code 67 = .ok (.getfield 43, 3) := gq_15 db00g_76 eb_283
theorem d_X12_costOf_70 : decode prog_14_method_121_code 70 = .ok (.iload_n 1, 1) := gq_16 db00g_76 eb_9
theorem d_X12_costOf_71 : decode prog_14_method_121_code 71 = .ok (.iaload, 1) := gq_17 db00g_76 eb_37
theorem d_X12_costOf_72 : decode prog_14_method_121_code 72 = .ok (.istore 4, 2) := gq_18 db00g_76 eb_133
theorem d_X12_costOf_74 : decode prog_14_method_121_code 74 = .ok (.aload_n 0, 1) := gq_19 db00g_76 eb_0
theorem d_X12_costOf_75 : decode prog_14_method_121_code 75 = .ok (.iload_n 3, 1) := gq_20 db00g_76 eb_29
theorem d_X12_costOf_76 : decode prog_14_method_121_code 76 = .ok (.aload_n 0, 1) := gq_21 db00g_76 eb_0
theorem d_X12_costOf_77 : decode prog_14_method_121_code 77 = .ok (.getfield 281, 3) := gq_22 db00g_76 eb_1256
theorem d_X12_costOf_80 : decode prog_14_method_121_code 80 = .ok (.iload_n 2, 1) := gq_23 db00g_76 eb_13
theorem db00g_77 : Pf_ prog_14_method_121_code [(81, [0x2e]), (82, [0xb6, 0x01, 0x4f]), (85, [0x36, 0x05]), (87, [0x15, 0x05]), (89, [0x02]), (90, [0x9f, 0x00, 0x11]), (93, [0x15, 0x04]), (95, [0x15, 0x05]), (97, [0x60]), (98, [0x2a]), (99, [0xb4, 0x01, 0x1c]), (102, [0x1c]), (103, [0x2e]), (104, [0xa4, 0x00, 0x07]), (107, [0x13, 0x02, 0x9c]), (110, [0xac]), (111, [0x03]), (112, [0x36, 0x06]), (114, [0x2a]), (115, [0xb4, 0x00, 0x37]), (118, [0x1b]), (119, [0x2e]), (120, [0x36, 0x07]), (122, [0x15, 0x07])] := pf_ok prog_14_method_121_code _ 81 (by decide +kernel)
theorem d_X12_costOf_81 : decode prog_14_method_121_code 81 = .ok (.iaload, 1) := gq_0 db00g_77 eb_37
theorem d_X12_costOf_82 : decode prog_14_method_121_code 82 = .ok (.invokevirtual 335, 3) := gq_1 db00g_77 eb_925
theorem d_X12_costOf_85 : decode prog_14_method_121_code 85 = .ok (.istore 5, 2) := gq_2 db00g_77 eb_134
theorem d_X12_costOf_87 : decode prog_14_method_121_code 87 = .ok (.iload 5, 2) := gq_3 db00g_77 eb_125
theorem d_X12_costOf_89 : decode prog_14_method_121_code 89 = .ok (.iconst (-1), 1) := gq_4 db00g_77 eb_26
theorem d_X12_costOf_90 : decode prog_14_method_121_code 90 = .ok (.if_icmp .eq 17, 3) := gq_5 db00g_77 eb_411
theorem d_X12_costOf_93 : decode prog_14_method_121_code 93 = .ok (.iload 4, 2) := gq_6 db00g_77 eb_76
theorem d_X12_costOf_95 : decode prog_14_method_121_code 95 = .ok (.iload 5, 2) := gq_7 db00g_77 eb_125
theorem d_X12_costOf_97 : decode prog_14_method_121_code 97 = .ok (.iadd, 1) := gq_8 db00g_77 eb_35
theorem d_X12_costOf_98 : decode prog_14_method_121_code 98 = .ok (.aload_n 0, 1) := gq_9 db00g_77 eb_0
theorem d_X12_costOf_99 : decode prog_14_method_121_code 99 = .ok (.getfield 284, 3) := gq_10 db00g_77 eb_1257
theorem d_X12_costOf_102 : decode prog_14_method_121_code 102 = .ok (.iload_n 2, 1) := gq_11 db00g_77 eb_13
theorem d_X12_costOf_103 : decode prog_14_method_121_code 103 = .ok (.iaload, 1) := gq_12 db00g_77 eb_37
theorem d_X12_costOf_104 : decode prog_14_method_121_code 104 = .ok (.if_icmp .le 7, 3) := gq_13 db00g_77 eb_572
theorem d_X12_costOf_107 : decode prog_14_method_121_code 107 = .ok (.ldc_w 668, 3) := gq_14 db00g_77 eb_1259
theorem d_X12_costOf_110 : decode prog_14_method_121_code 110 = .ok (.ireturn, 1) := gq_15 db00g_77 eb_15
theorem d_X12_costOf_111 : decode prog_14_method_121_code 111 = .ok (.iconst 0, 1) := gq_16 db00g_77 eb_21
theorem d_X12_costOf_112 : decode prog_14_method_121_code 112 = .ok (.istore 6, 2) := gq_17 db00g_77 eb_58
theorem d_X12_costOf_114 : decode prog_14_method_121_code 114 = .ok (.aload_n 0, 1) := gq_18 db00g_77 eb_0
theorem d_X12_costOf_115 : decode prog_14_method_121_code 115 = .ok (.getfield 55, 3) := gq_19 db00g_77 eb_273
theorem d_X12_costOf_118 : decode prog_14_method_121_code 118 = .ok (.iload_n 1, 1) := gq_20 db00g_77 eb_9
theorem d_X12_costOf_119 : decode prog_14_method_121_code 119 = .ok (.iaload, 1) := gq_21 db00g_77 eb_37
theorem d_X12_costOf_120 : decode prog_14_method_121_code 120 = .ok (.istore 7, 2) := gq_22 db00g_77 eb_59
theorem d_X12_costOf_122 : decode prog_14_method_121_code 122 = .ok (.iload 7, 2) := gq_23 db00g_77 eb_73
theorem db00g_78 : Pf_ prog_14_method_121_code [(124, [0x2a]), (125, [0xb4, 0x00, 0x3d]), (128, [0x1b]), (129, [0x2e]), (130, [0xa2, 0x00, 0x33]), (133, [0x2a]), (134, [0xb4, 0x00, 0x22]), (137, [0x1b]), (138, [0x2e]), (139, [0x04]), (140, [0xa0, 0x00, 0x29]), (143, [0x15, 0x06]), (145, [0x2a]), (146, [0xb4, 0x00, 0x87]), (149, [0x15, 0x07]), (151, [0x2e]), (152, [0x02]), (153, [0xa0, 0x00, 0x12]), (156, [0x2a]), (157, [0xb4, 0x00, 0x8a]), (160, [0x15, 0x07]), (162, [0x2e]), (163, [0x02]), (164, [0xa0, 0x00, 0x07])] := pf_ok prog_14_method_121_code _ 124 (by decide +kernel)
theorem d_X12_costOf_124 : decode prog_14_method_121_code 124 = .ok (.aload_n 0, 1) := gq_0 db00g_78 eb_0
theorem d_X12_costOf_125 : decode prog_14_method_121_code 125 = .ok (.getfield 61, 3) := gq_1 db00g_78 eb_321
theorem d_X12_costOf_128 : decode prog_14_method_121_code 128 = .ok (.iload_n 1, 1) := gq_2 db00g_78 eb_9
theorem d_X12_costOf_129 : decode prog_14_method_121_code 129 = .ok (.iaload, 1) := gq_3 db00g_78 eb_37
theorem d_X12_costOf_130 : decode prog_14_method_121_code 130 = .ok (.if_icmp .ge 51, 3) := gq_4 db00g_78 eb_1260
theorem d_X12_costOf_133 : decode prog_14_method_121_code 133 = .ok (.aload_n 0, 1) := gq_5 db00g_78 eb_0
theorem d_X12_costOf_134 : decode prog_14_method_121_code 134 = .ok (.getfield 34, 3) := gq_6 db00g_78 eb_36
theorem d_X12_costOf_137 : decode prog_14_method_121_code 137 = .ok (.iload_n 1, 1) := gq_7 db00g_78 eb_9
theorem d_X12_costOf_138 : decode prog_14_method_121_code 138 = .ok (.iaload, 1) := gq_8 db00g_78 eb_37
theorem d_X12_costOf_139 : decode prog_14_method_121_code 139 = .ok (.iconst 1, 1) := gq_9 db00g_78 eb_19
theorem d_X12_costOf_140 : decode prog_14_method_121_code 140 = .ok (.if_icmp .ne 41, 3) := gq_10 db00g_78 eb_1261
theorem d_X12_costOf_143 : decode prog_14_method_121_code 143 = .ok (.iload 6, 2) := gq_11 db00g_78 eb_75
theorem d_X12_costOf_145 : decode prog_14_method_121_code 145 = .ok (.aload_n 0, 1) := gq_12 db00g_78 eb_0
theorem d_X12_costOf_146 : decode prog_14_method_121_code 146 = .ok (.getfield 135, 3) := gq_13 db00g_78 eb_1059
theorem d_X12_costOf_149 : decode prog_14_method_121_code 149 = .ok (.iload 7, 2) := gq_14 db00g_78 eb_73
theorem d_X12_costOf_151 : decode prog_14_method_121_code 151 = .ok (.iaload, 1) := gq_15 db00g_78 eb_37
theorem d_X12_costOf_152 : decode prog_14_method_121_code 152 = .ok (.iconst (-1), 1) := gq_16 db00g_78 eb_26
theorem d_X12_costOf_153 : decode prog_14_method_121_code 153 = .ok (.if_icmp .ne 18, 3) := gq_17 db00g_78 eb_1072
theorem d_X12_costOf_156 : decode prog_14_method_121_code 156 = .ok (.aload_n 0, 1) := gq_18 db00g_78 eb_0
theorem d_X12_costOf_157 : decode prog_14_method_121_code 157 = .ok (.getfield 138, 3) := gq_19 db00g_78 eb_1056
theorem d_X12_costOf_160 : decode prog_14_method_121_code 160 = .ok (.iload 7, 2) := gq_20 db00g_78 eb_73
theorem d_X12_costOf_162 : decode prog_14_method_121_code 162 = .ok (.iaload, 1) := gq_21 db00g_78 eb_37
theorem d_X12_costOf_163 : decode prog_14_method_121_code 163 = .ok (.iconst (-1), 1) := gq_22 db00g_78 eb_26
theorem d_X12_costOf_164 : decode prog_14_method_121_code 164 = .ok (.if_icmp .ne 7, 3) := gq_23 db00g_78 eb_135
theorem db00g_79 : Pf_ prog_14_method_121_code [(167, [0x04]), (168, [0xa7, 0x00, 0x04]), (171, [0x03]), (172, [0x60]), (173, [0x36, 0x06]), (175, [0x84, 0x07, 0x01]), (178, [0xa7, 0xff, 0xc8]), (181, [0x13, 0x02, 0x9d]), (184, [0x15, 0x06]), (186, [0x68]), (187, [0x15, 0x05]), (189, [0x60]), (190, [0xac])] := pf_ok prog_14_method_121_code _ 167 (by decide +kernel)
theorem d_X12_costOf_167 : decode prog_14_method_121_code 167 = .ok (.iconst 1, 1) := gq_0 db00g_79 eb_19
theorem d_X12_costOf_168 : decode prog_14_method_121_code 168 = .ok (.goto 4, 3) := gq_1 db00g_79 eb_20
theorem d_X12_costOf_171 : decode prog_14_method_121_code 171 = .ok (.iconst 0, 1) := gq_2 db00g_79 eb_21
theorem d_X12_costOf_172 : decode prog_14_method_121_code 172 = .ok (.iadd, 1) := gq_3 db00g_79 eb_35
theorem d_X12_costOf_173 : decode prog_14_method_121_code 173 = .ok (.istore 6, 2) := gq_4 db00g_79 eb_58
theorem d_X12_costOf_175 : decode prog_14_method_121_code 175 = .ok (.iinc 7 1, 3) := gq_5 db00g_79 eb_182
theorem d_X12_costOf_178 : decode prog_14_method_121_code 178 = .ok (.goto (-56), 3) := gq_6 db00g_79 eb_1114
theorem d_X12_costOf_181 : decode prog_14_method_121_code 181 = .ok (.ldc_w 669, 3) := gq_7 db00g_79 eb_1262
theorem d_X12_costOf_184 : decode prog_14_method_121_code 184 = .ok (.iload 6, 2) := gq_8 db00g_79 eb_75
theorem d_X12_costOf_186 : decode prog_14_method_121_code 186 = .ok (.imul, 1) := gq_9 db00g_79 eb_34
theorem d_X12_costOf_187 : decode prog_14_method_121_code 187 = .ok (.iload 5, 2) := gq_10 db00g_79 eb_125
theorem d_X12_costOf_189 : decode prog_14_method_121_code 189 = .ok (.iadd, 1) := gq_11 db00g_79 eb_35
theorem d_X12_costOf_190 : decode prog_14_method_121_code 190 = .ok (.ireturn, 1) := gq_12 db00g_79 eb_15
theorem db00g_80 : Pf_ prog_14_method_122_code [(0, [0x1a]), (1, [0x05]), (2, [0x1b]), (3, [0x68]), (4, [0x7a]), (5, [0x06]), (6, [0x7e]), (7, [0xac])] := pf_ok prog_14_method_122_code _ 0 (by decide +kernel)
theorem d_X12_wanted_0 : decode prog_14_method_122_code 0 = .ok (.iload_n 0, 1) := gq_0 db00g_80 eb_8
theorem d_X12_wanted_1 : decode prog_14_method_122_code 1 = .ok (.iconst 2, 1) := gq_1 db00g_80 eb_10
theorem d_X12_wanted_2 : decode prog_14_method_122_code 2 = .ok (.iload_n 1, 1) := gq_2 db00g_80 eb_9
theorem d_X12_wanted_3 : decode prog_14_method_122_code 3 = .ok (.imul, 1) := gq_3 db00g_80 eb_34
theorem d_X12_wanted_4 : decode prog_14_method_122_code 4 = .ok (.ishr, 1) := gq_4 db00g_80 eb_56
theorem d_X12_wanted_5 : decode prog_14_method_122_code 5 = .ok (.iconst 3, 1) := gq_5 db00g_80 eb_54
theorem d_X12_wanted_6 : decode prog_14_method_122_code 6 = .ok (.iand, 1) := gq_6 db00g_80 eb_55
theorem d_X12_wanted_7 : decode prog_14_method_122_code 7 = .ok (.ireturn, 1) := gq_7 db00g_80 eb_15
theorem db00g_81 : Pf_ prog_14_method_123_code [(0, [0x03]), (1, [0x3c]), (2, [0x03]), (3, [0x3d]), (4, [0x1c]), (5, [0x2a]), (6, [0xb4, 0x02, 0x99]), (9, [0xa2, 0x00, 0x16]), (12, [0x1b]), (13, [0x2a]), (14, [0xb4, 0x01, 0x1f]), (17, [0x1c]), (18, [0x2e]), (19, [0x05]), (20, [0x1c]), (21, [0x68]), (22, [0x78]), (23, [0x80]), (24, [0x3c]), (25, [0x84, 0x02, 0x01]), (28, [0xa7, 0xff, 0xe8]), (31, [0x1b]), (32, [0xac])] := pf_ok prog_14_method_123_code _ 0 (by decide +kernel)
theorem d_X12_codeAll_0 : decode prog_14_method_123_code 0 = .ok (.iconst 0, 1) := gq_0 db00g_81 eb_21
theorem d_X12_codeAll_1 : decode prog_14_method_123_code 1 = .ok (.istore_n 1, 1) := gq_1 db00g_81 eb_222
theorem d_X12_codeAll_2 : decode prog_14_method_123_code 2 = .ok (.iconst 0, 1) := gq_2 db00g_81 eb_21
theorem d_X12_codeAll_3 : decode prog_14_method_123_code 3 = .ok (.istore_n 2, 1) := gq_3 db00g_81 eb_27
theorem d_X12_codeAll_4 : decode prog_14_method_123_code 4 = .ok (.iload_n 2, 1) := gq_4 db00g_81 eb_13
theorem d_X12_codeAll_5 : decode prog_14_method_123_code 5 = .ok (.aload_n 0, 1) := gq_5 db00g_81 eb_0
theorem d_X12_codeAll_6 : decode prog_14_method_123_code 6 = .ok (.getfield 665, 3) := gq_6 db00g_81 eb_1255
theorem d_X12_codeAll_9 : decode prog_14_method_123_code 9 = .ok (.if_icmp .ge 22, 3) := gq_7 db00g_81 eb_395
theorem d_X12_codeAll_12 : decode prog_14_method_123_code 12 = .ok (.iload_n 1, 1) := gq_8 db00g_81 eb_9
theorem d_X12_codeAll_13 : decode prog_14_method_123_code 13 = .ok (.aload_n 0, 1) := gq_9 db00g_81 eb_0
theorem d_X12_codeAll_14 : decode prog_14_method_123_code 14 = .ok (.getfield 287, 3) := gq_10 db00g_81 eb_694
theorem d_X12_codeAll_17 : decode prog_14_method_123_code 17 = .ok (.iload_n 2, 1) := gq_11 db00g_81 eb_13
theorem d_X12_codeAll_18 : decode prog_14_method_123_code 18 = .ok (.iaload, 1) := gq_12 db00g_81 eb_37
theorem d_X12_codeAll_19 : decode prog_14_method_123_code 19 = .ok (.iconst 2, 1) := gq_13 db00g_81 eb_10
theorem d_X12_codeAll_20 : decode prog_14_method_123_code 20 = .ok (.iload_n 2, 1) := gq_14 db00g_81 eb_13
theorem d_X12_codeAll_21 : decode prog_14_method_123_code 21 = .ok (.imul, 1) := gq_15 db00g_81 eb_34
theorem d_X12_codeAll_22 : decode prog_14_method_123_code 22 = .ok (.ishl, 1) := gq_16 db00g_81 eb_11
theorem d_X12_codeAll_23 : decode prog_14_method_123_code 23 = .ok (.ior, 1) := gq_17 db00g_81 eb_12
theorem d_X12_codeAll_24 : decode prog_14_method_123_code 24 = .ok (.istore_n 1, 1) := gq_18 db00g_81 eb_222
theorem d_X12_codeAll_25 : decode prog_14_method_123_code 25 = .ok (.iinc 2 1, 3) := gq_19 db00g_81 eb_41
theorem d_X12_codeAll_28 : decode prog_14_method_123_code 28 = .ok (.goto (-24), 3) := gq_20 db00g_81 eb_159
theorem d_X12_codeAll_31 : decode prog_14_method_123_code 31 = .ok (.iload_n 1, 1) := gq_21 db00g_81 eb_9
theorem d_X12_codeAll_32 : decode prog_14_method_123_code 32 = .ok (.ireturn, 1) := gq_22 db00g_81 eb_15
theorem db00g_82 : Pf_ prog_14_method_124_code [(0, [0x03]), (1, [0x3c]), (2, [0x1b]), (3, [0x2a]), (4, [0xb4, 0x01, 0x53]), (7, [0xa2, 0x00, 0x29]), (10, [0x03]), (11, [0x3d]), (12, [0x1c]), (13, [0x2a]), (14, [0xb4, 0x02, 0x99]), (17, [0xa2, 0x00, 0x19]), (20, [0x2a]), (21, [0xb4, 0x01, 0x25]), (24, [0x07]), (25, [0x1b]), (26, [0x68]), (27, [0x1c]), (28, [0x60]), (29, [0x2a]), (30, [0x1b]), (31, [0x1c]), (32, [0xb6, 0x02, 0x9e]), (35, [0x4f])] := pf_ok prog_14_method_124_code _ 0 (by decide +kernel)
theorem d_X12_findLending_0 : decode prog_14_method_124_code 0 = .ok (.iconst 0, 1) := gq_0 db00g_82 eb_21
theorem d_X12_findLending_1 : decode prog_14_method_124_code 1 = .ok (.istore_n 1, 1) := gq_1 db00g_82 eb_222
theorem d_X12_findLending_2 : decode prog_14_method_124_code 2 = .ok (.iload_n 1, 1) := gq_2 db00g_82 eb_9
theorem d_X12_findLending_3 : decode prog_14_method_124_code 3 = .ok (.aload_n 0, 1) := gq_3 db00g_82 eb_0
theorem d_X12_findLending_4 : decode prog_14_method_124_code 4 = .ok (.getfield 339, 3) := gq_4 db00g_82 eb_926
theorem d_X12_findLending_7 : decode prog_14_method_124_code 7 = .ok (.if_icmp .ge 41, 3) := gq_5 db00g_82 eb_1263
theorem d_X12_findLending_10 : decode prog_14_method_124_code 10 = .ok (.iconst 0, 1) := gq_6 db00g_82 eb_21
theorem d_X12_findLending_11 : decode prog_14_method_124_code 11 = .ok (.istore_n 2, 1) := gq_7 db00g_82 eb_27
theorem d_X12_findLending_12 : decode prog_14_method_124_code 12 = .ok (.iload_n 2, 1) := gq_8 db00g_82 eb_13
theorem d_X12_findLending_13 : decode prog_14_method_124_code 13 = .ok (.aload_n 0, 1) := gq_9 db00g_82 eb_0
theorem d_X12_findLending_14 : decode prog_14_method_124_code 14 = .ok (.getfield 665, 3) := gq_10 db00g_82 eb_1255
theorem d_X12_findLending_17 : decode prog_14_method_124_code 17 = .ok (.if_icmp .ge 25, 3) := gq_11 db00g_82 eb_415
theorem d_X12_findLending_20 : decode prog_14_method_124_code 20 = .ok (.aload_n 0, 1) := gq_12 db00g_82 eb_0
theorem d_X12_findLending_21 : decode prog_14_method_124_code 21 = .ok (.getfield 293, 3) := gq_13 db00g_82 eb_1264
theorem d_X12_findLending_24 : decode prog_14_method_124_code 24 = .ok (.iconst 4, 1) := gq_14 db00g_82 eb_291
theorem d_X12_findLending_25 : decode prog_14_method_124_code 25 = .ok (.iload_n 1, 1) := gq_15 db00g_82 eb_9
theorem d_X12_findLending_26 : decode prog_14_method_124_code 26 = .ok (.imul, 1) := gq_16 db00g_82 eb_34
theorem d_X12_findLending_27 : decode prog_14_method_124_code 27 = .ok (.iload_n 2, 1) := gq_17 db00g_82 eb_13
theorem d_X12_findLending_28 : decode prog_14_method_124_code 28 = .ok (.iadd, 1) := gq_18 db00g_82 eb_35
theorem d_X12_findLending_29 : decode prog_14_method_124_code 29 = .ok (.aload_n 0, 1) := gq_19 db00g_82 eb_0
theorem d_X12_findLending_30 : decode prog_14_method_124_code 30 = .ok (.iload_n 1, 1) := gq_20 db00g_82 eb_9
theorem d_X12_findLending_31 : decode prog_14_method_124_code 31 = .ok (.iload_n 2, 1) := gq_21 db00g_82 eb_13
theorem d_X12_findLending_32 : decode prog_14_method_124_code 32 = .ok (.invokevirtual 670, 3) := gq_22 db00g_82 eb_1265
theorem d_X12_findLending_35 : decode prog_14_method_124_code 35 = .ok (.iastore, 1) := gq_23 db00g_82 eb_38
theorem db00g_83 : Pf_ prog_14_method_124_code [(36, [0x84, 0x02, 0x01]), (39, [0xa7, 0xff, 0xe5]), (42, [0x84, 0x01, 0x01]), (45, [0xa7, 0xff, 0xd5]), (48, [0x03]), (49, [0x3c]), (50, [0x1b]), (51, [0x11, 0x01, 0x00]), (54, [0xa2, 0x00, 0x23]), (57, [0x2a]), (58, [0xb4, 0x01, 0x22]), (61, [0x11, 0x01, 0x00]), (64, [0x2a]), (65, [0xb4, 0x01, 0x53]), (68, [0x68]), (69, [0x1b]), (70, [0x60]), (71, [0x1b]), (72, [0x9a, 0x00, 0x07]), (75, [0x03]), (76, [0xa7, 0x00, 0x06]), (79, [0x13, 0x02, 0x9c]), (82, [0x4f]), (83, [0x84, 0x01, 0x01])] := pf_ok prog_14_method_124_code _ 36 (by decide +kernel)
theorem d_X12_findLending_36 : decode prog_14_method_124_code 36 = .ok (.iinc 2 1, 3) := gq_0 db00g_83 eb_41
theorem d_X12_findLending_39 : decode prog_14_method_124_code 39 = .ok (.goto (-27), 3) := gq_1 db00g_83 eb_680
theorem d_X12_findLending_42 : decode prog_14_method_124_code 42 = .ok (.iinc 1 1, 3) := gq_2 db00g_83 eb_228
theorem d_X12_findLending_45 : decode prog_14_method_124_code 45 = .ok (.goto (-43), 3) := gq_3 db00g_83 eb_339
theorem d_X12_findLending_48 : decode prog_14_method_124_code 48 = .ok (.iconst 0, 1) := gq_4 db00g_83 eb_21
theorem d_X12_findLending_49 : decode prog_14_method_124_code 49 = .ok (.istore_n 1, 1) := gq_5 db00g_83 eb_222
theorem d_X12_findLending_50 : decode prog_14_method_124_code 50 = .ok (.iload_n 1, 1) := gq_6 db00g_83 eb_9
theorem d_X12_findLending_51 : decode prog_14_method_124_code 51 = .ok (.sipush 256, 3) := gq_7 db00g_83 eb_232
theorem d_X12_findLending_54 : decode prog_14_method_124_code 54 = .ok (.if_icmp .ge 35, 3) := gq_8 db00g_83 eb_146
theorem d_X12_findLending_57 : decode prog_14_method_124_code 57 = .ok (.aload_n 0, 1) := gq_9 db00g_83 eb_0
theorem d_X12_findLending_58 : decode prog_14_method_124_code 58 = .ok (.getfield 290, 3) := gq_10 db00g_83 eb_696
theorem d_X12_findLending_61 : decode prog_14_method_124_code 61 = .ok (.sipush 256, 3) := gq_11 db00g_83 eb_232
theorem d_X12_findLending_64 : decode prog_14_method_124_code 64 = .ok (.aload_n 0, 1) := gq_12 db00g_83 eb_0
theorem d_X12_findLending_65 : decode prog_14_method_124_code 65 = .ok (.getfield 339, 3) := gq_13 db00g_83 eb_926
theorem d_X12_findLending_68 : decode prog_14_method_124_code 68 = .ok (.imul, 1) := gq_14 db00g_83 eb_34
theorem d_X12_findLending_69 : decode prog_14_method_124_code 69 = .ok (.iload_n 1, 1) := gq_15 db00g_83 eb_9
theorem d_X12_findLending_70 : decode prog_14_method_124_code 70 = .ok (.iadd, 1) := gq_16 db00g_83 eb_35
theorem d_X12_findLending_71 : decode prog_14_method_124_code 71 = .ok (.iload_n 1, 1) := gq_17 db00g_83 eb_9
theorem d_X12_findLending_72 : decode prog_14_method_124_code 72 = .ok (.ifCond .ne 7, 3) := gq_18 db00g_83 eb_164
theorem d_X12_findLending_75 : decode prog_14_method_124_code 75 = .ok (.iconst 0, 1) := gq_19 db00g_83 eb_21
theorem d_X12_findLending_76 : decode prog_14_method_124_code 76 = .ok (.goto 6, 3) := gq_20 db00g_83 eb_719
theorem d_X12_findLending_79 : decode prog_14_method_124_code 79 = .ok (.ldc_w 668, 3) := gq_21 db00g_83 eb_1259
theorem d_X12_findLending_82 : decode prog_14_method_124_code 82 = .ok (.iastore, 1) := gq_22 db00g_83 eb_38
theorem d_X12_findLending_83 : decode prog_14_method_124_code 83 = .ok (.iinc 1 1, 3) := gq_23 db00g_83 eb_228
theorem db00g_84 : Pf_ prog_14_method_124_code [(86, [0xa7, 0xff, 0xdc]), (89, [0x2a]), (90, [0xb4, 0x01, 0x53]), (93, [0x04]), (94, [0x64]), (95, [0x3c]), (96, [0x1b]), (97, [0x9b, 0x00, 0x98]), (100, [0x03]), (101, [0x3d]), (102, [0x1c]), (103, [0x11, 0x01, 0x00]), (106, [0xa2, 0x00, 0x89]), (109, [0x2a]), (110, [0xb4, 0x01, 0x22]), (113, [0x11, 0x01, 0x00]), (116, [0x1b]), (117, [0x04]), (118, [0x60]), (119, [0x68]), (120, [0x1c]), (121, [0x60]), (122, [0x2e]), (123, [0x3e])] := pf_ok prog_14_method_124_code _ 86 (by decide +kernel)
theorem d_X12_findLending_86 : decode prog_14_method_124_code 86 = .ok (.goto (-36), 3) := gq_0 db00g_84 eb_221
theorem d_X12_findLending_89 : decode prog_14_method_124_code 89 = .ok (.aload_n 0, 1) := gq_1 db00g_84 eb_0
theorem d_X12_findLending_90 : decode prog_14_method_124_code 90 = .ok (.getfield 339, 3) := gq_2 db00g_84 eb_926
theorem d_X12_findLending_93 : decode prog_14_method_124_code 93 = .ok (.iconst 1, 1) := gq_3 db00g_84 eb_19
theorem d_X12_findLending_94 : decode prog_14_method_124_code 94 = .ok (.isub, 1) := gq_4 db00g_84 eb_48
theorem d_X12_findLending_95 : decode prog_14_method_124_code 95 = .ok (.istore_n 1, 1) := gq_5 db00g_84 eb_222
theorem d_X12_findLending_96 : decode prog_14_method_124_code 96 = .ok (.iload_n 1, 1) := gq_6 db00g_84 eb_9
theorem d_X12_findLending_97 : decode prog_14_method_124_code 97 = .ok (.ifCond .lt 152, 3) := gq_7 db00g_84 eb_1266
theorem d_X12_findLending_100 : decode prog_14_method_124_code 100 = .ok (.iconst 0, 1) := gq_8 db00g_84 eb_21
theorem d_X12_findLending_101 : decode prog_14_method_124_code 101 = .ok (.istore_n 2, 1) := gq_9 db00g_84 eb_27
theorem d_X12_findLending_102 : decode prog_14_method_124_code 102 = .ok (.iload_n 2, 1) := gq_10 db00g_84 eb_13
theorem d_X12_findLending_103 : decode prog_14_method_124_code 103 = .ok (.sipush 256, 3) := gq_11 db00g_84 eb_232
theorem d_X12_findLending_106 : decode prog_14_method_124_code 106 = .ok (.if_icmp .ge 137, 3) := gq_12 db00g_84 eb_1267
theorem d_X12_findLending_109 : decode prog_14_method_124_code 109 = .ok (.aload_n 0, 1) := gq_13 db00g_84 eb_0
theorem d_X12_findLending_110 : decode prog_14_method_124_code 110 = .ok (.getfield 290, 3) := gq_14 db00g_84 eb_696
theorem d_X12_findLending_113 : decode prog_14_method_124_code 113 = .ok (.sipush 256, 3) := gq_15 db00g_84 eb_232
theorem d_X12_findLending_116 : decode prog_14_method_124_code 116 = .ok (.iload_n 1, 1) := gq_16 db00g_84 eb_9
theorem d_X12_findLending_117 : decode prog_14_method_124_code 117 = .ok (.iconst 1, 1) := gq_17 db00g_84 eb_19
theorem d_X12_findLending_118 : decode prog_14_method_124_code 118 = .ok (.iadd, 1) := gq_18 db00g_84 eb_35
theorem d_X12_findLending_119 : decode prog_14_method_124_code 119 = .ok (.imul, 1) := gq_19 db00g_84 eb_34
theorem d_X12_findLending_120 : decode prog_14_method_124_code 120 = .ok (.iload_n 2, 1) := gq_20 db00g_84 eb_13
theorem d_X12_findLending_121 : decode prog_14_method_124_code 121 = .ok (.iadd, 1) := gq_21 db00g_84 eb_35
theorem d_X12_findLending_122 : decode prog_14_method_124_code 122 = .ok (.iaload, 1) := gq_22 db00g_84 eb_37
theorem d_X12_findLending_123 : decode prog_14_method_124_code 123 = .ok (.istore_n 3, 1) := gq_23 db00g_84 eb_28
theorem db00g_85 : Pf_ prog_14_method_124_code [(124, [0x03]), (125, [0x36, 0x04]), (127, [0x15, 0x04]), (129, [0x2a]), (130, [0xb4, 0x02, 0x99]), (133, [0xa2, 0x00, 0x5b]), (136, [0x1c]), (137, [0x15, 0x04]), (139, [0xb8, 0x02, 0xa1]), (142, [0x9e, 0x00, 0x4c]), (145, [0x2a]), (146, [0xb4, 0x01, 0x25]), (149, [0x07]), (150, [0x1b]), (151, [0x68]), (152, [0x15, 0x04]), (154, [0x60]), (155, [0x2e]), (156, [0x13, 0x02, 0x9c]), (159, [0xa2, 0x00, 0x3b]), (162, [0x2a]), (163, [0xb4, 0x01, 0x22]), (166, [0x11, 0x01, 0x00]), (169, [0x1b])] := pf_ok prog_14_method_124_code _ 124 (by decide +kernel)
theorem d_X12_findLending_124 : decode prog_14_method_124_code 124 = .ok (.iconst 0, 1) := gq_0 db00g_85 eb_21
theorem d_X12_findLending_125 : decode prog_14_method_124_code 125 = .ok (.istore 4, 2) := gq_1 db00g_85 eb_133
theorem d_X12_findLending_127 : decode prog_14_method_124_code 127 = .ok (.iload 4, 2) := gq_2 db00g_85 eb_76
theorem d_X12_findLending_129 : decode prog_14_method_124_code 129 = .ok (.aload_n 0, 1) := gq_3 db00g_85 eb_0
theorem d_X12_findLending_130 : decode prog_14_method_124_code 130 = .ok (.getfield 665, 3) := gq_4 db00g_85 eb_1255
theorem d_X12_findLending_133 : decode prog_14_method_124_code 133 = .ok (.if_icmp .ge 91, 3) := gq_5 db00g_85 eb_1268
theorem d_X12_findLending_136 : decode prog_14_method_124_code 136 = .ok (.iload_n 2, 1) := gq_6 db00g_85 eb_13
theorem d_X12_findLending_137 : decode prog_14_method_124_code 137 = .ok (.iload 4, 2) := gq_7 db00g_85 eb_76
theorem d_X12_findLending_139 : decode prog_14_method_124_code 139 = .ok (.invokestatic 673, 3) := gq_8 db00g_85 eb_1269
theorem d_X12_findLending_142 : decode prog_14_method_124_code 142 = .ok (.ifCond .le 76, 3) := gq_9 db00g_85 eb_1270
theorem d_X12_findLending_145 : decode prog_14_method_124_code 145 = .ok (.aload_n 0, 1) := gq_10 db00g_85 eb_0
theorem d_X12_findLending_146 : decode prog_14_method_124_code 146 = .ok (.getfield 293, 3) := gq_11 db00g_85 eb_1264
theorem d_X12_findLending_149 : decode prog_14_method_124_code 149 = .ok (.iconst 4, 1) := gq_12 db00g_85 eb_291
theorem d_X12_findLending_150 : decode prog_14_method_124_code 150 = .ok (.iload_n 1, 1) := gq_13 db00g_85 eb_9
theorem d_X12_findLending_151 : decode prog_14_method_124_code 151 = .ok (.imul, 1) := gq_14 db00g_85 eb_34
theorem d_X12_findLending_152 : decode prog_14_method_124_code 152 = .ok (.iload 4, 2) := gq_15 db00g_85 eb_76
theorem d_X12_findLending_154 : decode prog_14_method_124_code 154 = .ok (.iadd, 1) := gq_16 db00g_85 eb_35
theorem d_X12_findLending_155 : decode prog_14_method_124_code 155 = .ok (.iaload, 1) := gq_17 db00g_85 eb_37
theorem d_X12_findLending_156 : decode prog_14_method_124_code 156 = .ok (.ldc_w 668, 3) := gq_18 db00g_85 eb_1259
theorem d_X12_findLending_159 : decode prog_14_method_124_code 159 = .ok (.if_icmp .ge 59, 3) := gq_19 db00g_85 eb_1271
theorem d_X12_findLending_162 : decode prog_14_method_124_code 162 = .ok (.aload_n 0, 1) := gq_20 db00g_85 eb_0
theorem d_X12_findLending_163 : decode prog_14_method_124_code 163 = .ok (.getfield 290, 3) := gq_21 db00g_85 eb_696
theorem d_X12_findLending_166 : decode prog_14_method_124_code 166 = .ok (.sipush 256, 3) := gq_22 db00g_85 eb_232
theorem d_X12_findLending_169 : decode prog_14_method_124_code 169 = .ok (.iload_n 1, 1) := gq_23 db00g_85 eb_9
theorem db00g_86 : Pf_ prog_14_method_124_code [(170, [0x04]), (171, [0x60]), (172, [0x68]), (173, [0x1c]), (174, [0x60]), (175, [0x04]), (176, [0x05]), (177, [0x15, 0x04]), (179, [0x68]), (180, [0x78]), (181, [0x64]), (182, [0x2e]), (183, [0x36, 0x05]), (185, [0x1d]), (186, [0x15, 0x05]), (188, [0x13, 0x02, 0x9c]), (191, [0xa0, 0x00, 0x09]), (194, [0x13, 0x02, 0x9c]), (197, [0xa7, 0x00, 0x11]), (200, [0x2a]), (201, [0xb4, 0x01, 0x25]), (204, [0x07]), (205, [0x1b]), (206, [0x68])] := pf_ok prog_14_method_124_code _ 170 (by decide +kernel)
theorem d_X12_findLending_170 : decode prog_14_method_124_code 170 = .ok (.iconst 1, 1) := gq_0 db00g_86 eb_19
theorem d_X12_findLending_171 : decode prog_14_method_124_code 171 = .ok (.iadd, 1) := gq_1 db00g_86 eb_35
theorem d_X12_findLending_172 : decode prog_14_method_124_code 172 = .ok (.imul, 1) := gq_2 db00g_86 eb_34
theorem d_X12_findLending_173 : decode prog_14_method_124_code 173 = .ok (.iload_n 2, 1) := gq_3 db00g_86 eb_13
theorem d_X12_findLending_174 : decode prog_14_method_124_code 174 = .ok (.iadd, 1) := gq_4 db00g_86 eb_35
theorem d_X12_findLending_175 : decode prog_14_method_124_code 175 = .ok (.iconst 1, 1) := gq_5 db00g_86 eb_19
theorem d_X12_findLending_176 : decode prog_14_method_124_code 176 = .ok (.iconst 2, 1) := gq_6 db00g_86 eb_10
theorem d_X12_findLending_177 : decode prog_14_method_124_code 177 = .ok (.iload 4, 2) := gq_7 db00g_86 eb_76
theorem d_X12_findLending_179 : decode prog_14_method_124_code 179 = .ok (.imul, 1) := gq_8 db00g_86 eb_34
theorem d_X12_findLending_180 : decode prog_14_method_124_code 180 = .ok (.ishl, 1) := gq_9 db00g_86 eb_11
theorem d_X12_findLending_181 : decode prog_14_method_124_code 181 = .ok (.isub, 1) := gq_10 db00g_86 eb_48
theorem d_X12_findLending_182 : decode prog_14_method_124_code 182 = .ok (.iaload, 1) := gq_11 db00g_86 eb_37
theorem d_X12_findLending_183 : decode prog_14_method_124_code 183 = .ok (.istore 5, 2) := gq_12 db00g_86 eb_134
theorem d_X12_findLending_185 : decode prog_14_method_124_code 185 = .ok (.iload_n 3, 1) := gq_13 db00g_86 eb_29
theorem d_X12_findLending_186 : decode prog_14_method_124_code 186 = .ok (.iload 5, 2) := gq_14 db00g_86 eb_125
theorem d_X12_findLending_188 : decode prog_14_method_124_code 188 = .ok (.ldc_w 668, 3) := gq_15 db00g_86 eb_1259
theorem d_X12_findLending_191 : decode prog_14_method_124_code 191 = .ok (.if_icmp .ne 9, 3) := gq_16 db00g_86 eb_158
theorem d_X12_findLending_194 : decode prog_14_method_124_code 194 = .ok (.ldc_w 668, 3) := gq_17 db00g_86 eb_1259
theorem d_X12_findLending_197 : decode prog_14_method_124_code 197 = .ok (.goto 17, 3) := gq_18 db00g_86 eb_1049
theorem d_X12_findLending_200 : decode prog_14_method_124_code 200 = .ok (.aload_n 0, 1) := gq_19 db00g_86 eb_0
theorem d_X12_findLending_201 : decode prog_14_method_124_code 201 = .ok (.getfield 293, 3) := gq_20 db00g_86 eb_1264
theorem d_X12_findLending_204 : decode prog_14_method_124_code 204 = .ok (.iconst 4, 1) := gq_21 db00g_86 eb_291
theorem d_X12_findLending_205 : decode prog_14_method_124_code 205 = .ok (.iload_n 1, 1) := gq_22 db00g_86 eb_9
theorem d_X12_findLending_206 : decode prog_14_method_124_code 206 = .ok (.imul, 1) := gq_23 db00g_86 eb_34
theorem db00g_87 : Pf_ prog_14_method_124_code [(207, [0x15, 0x04]), (209, [0x60]), (210, [0x2e]), (211, [0x15, 0x05]), (213, [0x60]), (214, [0xb8, 0x02, 0x69]), (217, [0x3e]), (218, [0x84, 0x04, 0x01]), (221, [0xa7, 0xff, 0xa2]), (224, [0x2a]), (225, [0xb4, 0x01, 0x22]), (228, [0x11, 0x01, 0x00]), (231, [0x1b]), (232, [0x68]), (233, [0x1c]), (234, [0x60]), (235, [0x1d]), (236, [0x4f]), (237, [0x84, 0x02, 0x01]), (240, [0xa7, 0xff, 0x76]), (243, [0x84, 0x01, 0xff]), (246, [0xa7, 0xff, 0x6a]), (249, [0x2a]), (250, [0xb4, 0x01, 0x22])] := pf_ok prog_14_method_124_code _ 207 (by decide +kernel)
theorem d_X12_findLending_207 : decode prog_14_method_124_code 207 = .ok (.iload 4, 2) := gq_0 db00g_87 eb_76
theorem d_X12_findLending_209 : decode prog_14_method_124_code 209 = .ok (.iadd, 1) := gq_1 db00g_87 eb_35
theorem d_X12_findLending_210 : decode prog_14_method_124_code 210 = .ok (.iaload, 1) := gq_2 db00g_87 eb_37
theorem d_X12_findLending_211 : decode prog_14_method_124_code 211 = .ok (.iload 5, 2) := gq_3 db00g_87 eb_125
theorem d_X12_findLending_213 : decode prog_14_method_124_code 213 = .ok (.iadd, 1) := gq_4 db00g_87 eb_35
theorem d_X12_findLending_214 : decode prog_14_method_124_code 214 = .ok (.invokestatic 617, 3) := gq_5 db00g_87 eb_1191
theorem d_X12_findLending_217 : decode prog_14_method_124_code 217 = .ok (.istore_n 3, 1) := gq_6 db00g_87 eb_28
theorem d_X12_findLending_218 : decode prog_14_method_124_code 218 = .ok (.iinc 4 1, 3) := gq_7 db00g_87 eb_144
theorem d_X12_findLending_221 : decode prog_14_method_124_code 221 = .ok (.goto (-94), 3) := gq_8 db00g_87 eb_241
theorem d_X12_findLending_224 : decode prog_14_method_124_code 224 = .ok (.aload_n 0, 1) := gq_9 db00g_87 eb_0
theorem d_X12_findLending_225 : decode prog_14_method_124_code 225 = .ok (.getfield 290, 3) := gq_10 db00g_87 eb_696
theorem d_X12_findLending_228 : decode prog_14_method_124_code 228 = .ok (.sipush 256, 3) := gq_11 db00g_87 eb_232
theorem d_X12_findLending_231 : decode prog_14_method_124_code 231 = .ok (.iload_n 1, 1) := gq_12 db00g_87 eb_9
theorem d_X12_findLending_232 : decode prog_14_method_124_code 232 = .ok (.imul, 1) := gq_13 db00g_87 eb_34
theorem d_X12_findLending_233 : decode prog_14_method_124_code 233 = .ok (.iload_n 2, 1) := gq_14 db00g_87 eb_13
theorem d_X12_findLending_234 : decode prog_14_method_124_code 234 = .ok (.iadd, 1) := gq_15 db00g_87 eb_35
theorem d_X12_findLending_235 : decode prog_14_method_124_code 235 = .ok (.iload_n 3, 1) := gq_16 db00g_87 eb_29
theorem d_X12_findLending_236 : decode prog_14_method_124_code 236 = .ok (.iastore, 1) := gq_17 db00g_87 eb_38
theorem d_X12_findLending_237 : decode prog_14_method_124_code 237 = .ok (.iinc 2 1, 3) := gq_18 db00g_87 eb_41
theorem d_X12_findLending_240 : decode prog_14_method_124_code 240 = .ok (.goto (-138), 3) := gq_19 db00g_87 eb_1272
theorem d_X12_findLending_243 : decode prog_14_method_124_code 243 = .ok (.iinc 1 (-1), 3) := gq_20 db00g_87 eb_1052
theorem d_X12_findLending_246 : decode prog_14_method_124_code 246 = .ok (.goto (-150), 3) := gq_21 db00g_87 eb_1172
theorem d_X12_findLending_249 : decode prog_14_method_124_code 249 = .ok (.aload_n 0, 1) := gq_22 db00g_87 eb_0
theorem d_X12_findLending_250 : decode prog_14_method_124_code 250 = .ok (.getfield 290, 3) := gq_23 db00g_87 eb_696
theorem db00g_88 : Pf_ prog_14_method_124_code [(253, [0x2a]), (254, [0xb6, 0x02, 0xa4]), (257, [0x2e]), (258, [0xac])] := pf_ok prog_14_method_124_code _ 253 (by decide +kernel)
theorem d_X12_findLending_253 : decode prog_14_method_124_code 253 = .ok (.aload_n 0, 1) := gq_0 db00g_88 eb_0
theorem d_X12_findLending_254 : decode prog_14_method_124_code 254 = .ok (.invokevirtual 676, 3) := gq_1 db00g_88 eb_1273
theorem d_X12_findLending_257 : decode prog_14_method_124_code 257 = .ok (.iaload, 1) := gq_2 db00g_88 eb_37
theorem d_X12_findLending_258 : decode prog_14_method_124_code 258 = .ok (.ireturn, 1) := gq_3 db00g_88 eb_15
theorem db00g_89 : Pf_ prog_14_method_125_code [(0, [0x1b]), (1, [0x03]), (2, [0x04]), (3, [0xb8, 0x01, 0x43]), (6, [0x99, 0x00, 0x0a]), (9, [0x2a]), (10, [0xb6, 0x02, 0xa7]), (13, [0xa7, 0x00, 0x06]), (16, [0x13, 0x02, 0x9c]), (19, [0x3d]), (20, [0x1c]), (21, [0x13, 0x02, 0x9c]), (24, [0xa0, 0x00, 0x07]), (27, [0x02]), (28, [0xa7, 0x00, 0x14]), (31, [0x1b]), (32, [0x9a, 0x00, 0x0b]), (35, [0x1c]), (36, [0x13, 0x02, 0x9d]), (39, [0x6c]), (40, [0xa7, 0x00, 0x08]), (43, [0x1c]), (44, [0x13, 0x02, 0x9d]), (47, [0x70])] := pf_ok prog_14_method_125_code _ 0 (by decide +kernel)
theorem d_X12_lending_0 : decode prog_14_method_125_code 0 = .ok (.iload_n 1, 1) := gq_0 db00g_89 eb_9
theorem d_X12_lending_1 : decode prog_14_method_125_code 1 = .ok (.iconst 0, 1) := gq_1 db00g_89 eb_21
theorem d_X12_lending_2 : decode prog_14_method_125_code 2 = .ok (.iconst 1, 1) := gq_2 db00g_89 eb_19
theorem d_X12_lending_3 : decode prog_14_method_125_code 3 = .ok (.invokestatic 323, 3) := gq_3 db00g_89 eb_913
theorem d_X12_lending_6 : decode prog_14_method_125_code 6 = .ok (.ifCond .eq 10, 3) := gq_4 db00g_89 eb_202
theorem d_X12_lending_9 : decode prog_14_method_125_code 9 = .ok (.aload_n 0, 1) := gq_5 db00g_89 eb_0
theorem d_X12_lending_10 : decode prog_14_method_125_code 10 = .ok (.invokevirtual 679, 3) := gq_6 db00g_89 eb_1274
theorem d_X12_lending_13 : decode prog_14_method_125_code 13 = .ok (.goto 6, 3) := gq_7 db00g_89 eb_719
theorem d_X12_lending_16 : decode prog_14_method_125_code 16 = .ok (.ldc_w 668, 3) := gq_8 db00g_89 eb_1259
theorem d_X12_lending_19 : decode prog_14_method_125_code 19 = .ok (.istore_n 2, 1) := gq_9 db00g_89 eb_27
theorem d_X12_lending_20 : decode prog_14_method_125_code 20 = .ok (.iload_n 2, 1) := gq_10 db00g_89 eb_13
theorem d_X12_lending_21 : decode prog_14_method_125_code 21 = .ok (.ldc_w 668, 3) := gq_11 db00g_89 eb_1259
theorem d_X12_lending_24 : decode prog_14_method_125_code 24 = .ok (.if_icmp .ne 7, 3) := gq_12 db00g_89 eb_135
theorem d_X12_lending_27 : decode prog_14_method_125_code 27 = .ok (.iconst (-1), 1) := gq_13 db00g_89 eb_26
theorem d_X12_lending_28 : decode prog_14_method_125_code 28 = .ok (.goto 20, 3) := gq_14 db00g_89 eb_205
theorem d_X12_lending_31 : decode prog_14_method_125_code 31 = .ok (.iload_n 1, 1) := gq_15 db00g_89 eb_9
theorem d_X12_lending_32 : decode prog_14_method_125_code 32 = .ok (.ifCond .ne 11, 3) := gq_16 db00g_89 eb_1101
theorem d_X12_lending_35 : decode prog_14_method_125_code 35 = .ok (.iload_n 2, 1) := gq_17 db00g_89 eb_13
theorem d_X12_lending_36 : decode prog_14_method_125_code 36 = .ok (.ldc_w 669, 3) := gq_18 db00g_89 eb_1262
theorem d_X12_lending_39 : decode prog_14_method_125_code 39 = .ok (.idiv, 1) := gq_19 db00g_89 eb_219
theorem d_X12_lending_40 : decode prog_14_method_125_code 40 = .ok (.goto 8, 3) := gq_20 db00g_89 eb_488
theorem d_X12_lending_43 : decode prog_14_method_125_code 43 = .ok (.iload_n 2, 1) := gq_21 db00g_89 eb_13
theorem d_X12_lending_44 : decode prog_14_method_125_code 44 = .ok (.ldc_w 669, 3) := gq_22 db00g_89 eb_1262
theorem d_X12_lending_47 : decode prog_14_method_125_code 47 = .ok (.irem, 1) := gq_23 db00g_89 eb_218
theorem db00g_90 : Pf_ prog_14_method_125_code [(48, [0xac])] := pf_ok prog_14_method_125_code _ 48 (by decide +kernel)
theorem d_X12_lending_48 : decode prog_14_method_125_code 48 = .ok (.ireturn, 1) := gq_0 db00g_90 eb_15
theorem db00g_91 : Pf_ prog_14_method_126_code [(0, [0x2a]), (1, [0x1b]), (2, [0xb6, 0x01, 0x59]), (5, [0x99, 0x00, 0x0d]), (8, [0x2a]), (9, [0xb6, 0x02, 0xa7]), (12, [0x13, 0x02, 0x9c]), (15, [0xa0, 0x00, 0x05]), (18, [0x02]), (19, [0xac]), (20, [0x2a]), (21, [0xb6, 0x02, 0xa4]), (24, [0x3d]), (25, [0x02]), (26, [0x3e]), (27, [0x03]), (28, [0x36, 0x04]), (30, [0x15, 0x04]), (32, [0x1b]), (33, [0xa3, 0x00, 0x89]), (36, [0x02]), (37, [0x3e]), (38, [0x2a]), (39, [0xb4, 0x02, 0x99])] := pf_ok prog_14_method_126_code _ 0 (by decide +kernel)
theorem d_X12_lent_0 : decode prog_14_method_126_code 0 = .ok (.aload_n 0, 1) := gq_0 db00g_91 eb_0
theorem d_X12_lent_1 : decode prog_14_method_126_code 1 = .ok (.iload_n 1, 1) := gq_1 db00g_91 eb_9
theorem d_X12_lent_2 : decode prog_14_method_126_code 2 = .ok (.invokevirtual 345, 3) := gq_2 db00g_91 eb_930
theorem d_X12_lent_5 : decode prog_14_method_126_code 5 = .ok (.ifCond .eq 13, 3) := gq_3 db00g_91 eb_119
theorem d_X12_lent_8 : decode prog_14_method_126_code 8 = .ok (.aload_n 0, 1) := gq_4 db00g_91 eb_0
theorem d_X12_lent_9 : decode prog_14_method_126_code 9 = .ok (.invokevirtual 679, 3) := gq_5 db00g_91 eb_1274
theorem d_X12_lent_12 : decode prog_14_method_126_code 12 = .ok (.ldc_w 668, 3) := gq_6 db00g_91 eb_1259
theorem d_X12_lent_15 : decode prog_14_method_126_code 15 = .ok (.if_icmp .ne 5, 3) := gq_7 db00g_91 eb_479
theorem d_X12_lent_18 : decode prog_14_method_126_code 18 = .ok (.iconst (-1), 1) := gq_8 db00g_91 eb_26
theorem d_X12_lent_19 : decode prog_14_method_126_code 19 = .ok (.ireturn, 1) := gq_9 db00g_91 eb_15
theorem d_X12_lent_20 : decode prog_14_method_126_code 20 = .ok (.aload_n 0, 1) := gq_10 db00g_91 eb_0
theorem d_X12_lent_21 : decode prog_14_method_126_code 21 = .ok (.invokevirtual 676, 3) := gq_11 db00g_91 eb_1273
theorem d_X12_lent_24 : decode prog_14_method_126_code 24 = .ok (.istore_n 2, 1) := gq_12 db00g_91 eb_27
theorem d_X12_lent_25 : decode prog_14_method_126_code 25 = .ok (.iconst (-1), 1) := gq_13 db00g_91 eb_26
theorem d_X12_lent_26 : decode prog_14_method_126_code 26 = .ok (.istore_n 3, 1) := gq_14 db00g_91 eb_28
theorem d_X12_lent_27 : decode prog_14_method_126_code 27 = .ok (.iconst 0, 1) := gq_15 db00g_91 eb_21
theorem d_X12_lent_28 : decode prog_14_method_126_code 28 = .ok (.istore 4, 2) := gq_16 db00g_91 eb_133
theorem d_X12_lent_30 : decode prog_14_method_126_code 30 = .ok (.iload 4, 2) := gq_17 db00g_91 eb_76
theorem d_X12_lent_32 : decode prog_14_method_126_code 32 = .ok (.iload_n 1, 1) := gq_18 db00g_91 eb_9
theorem d_X12_lent_33 : decode prog_14_method_126_code 33 = .ok (.if_icmp .gt 137, 3) := gq_19 db00g_91 eb_1275
theorem d_X12_lent_36 : decode prog_14_method_126_code 36 = .ok (.iconst (-1), 1) := gq_20 db00g_91 eb_26
theorem d_X12_lent_37 : decode prog_14_method_126_code 37 = .ok (.istore_n 3, 1) := gq_21 db00g_91 eb_28
theorem d_X12_lent_38 : decode prog_14_method_126_code 38 = .ok (.aload_n 0, 1) := gq_22 db00g_91 eb_0
theorem d_X12_lent_39 : decode prog_14_method_126_code 39 = .ok (.getfield 665, 3) := gq_23 db00g_91 eb_1255
theorem db00g_92 : Pf_ prog_14_method_126_code [(42, [0x04]), (43, [0x64]), (44, [0x36, 0x05]), (46, [0x15, 0x05]), (48, [0x9b, 0x00, 0x63]), (51, [0x2a]), (52, [0xb4, 0x01, 0x25]), (55, [0x07]), (56, [0x15, 0x04]), (58, [0x68]), (59, [0x15, 0x05]), (61, [0x60]), (62, [0x2e]), (63, [0x36, 0x06]), (65, [0x1c]), (66, [0x15, 0x05]), (68, [0xb8, 0x02, 0xa1]), (71, [0x99, 0x00, 0x46]), (74, [0x15, 0x06]), (76, [0x13, 0x02, 0x9c]), (79, [0xa0, 0x00, 0x06]), (82, [0xa7, 0x00, 0x3b]), (85, [0x2a]), (86, [0xb4, 0x01, 0x22])] := pf_ok prog_14_method_126_code _ 42 (by decide +kernel)
theorem d_X12_lent_42 : decode prog_14_method_126_code 42 = .ok (.iconst 1, 1) := gq_0 db00g_92 eb_19
theorem d_X12_lent_43 : decode prog_14_method_126_code 43 = .ok (.isub, 1) := gq_1 db00g_92 eb_48
theorem d_X12_lent_44 : decode prog_14_method_126_code 44 = .ok (.istore 5, 2) := gq_2 db00g_92 eb_134
theorem d_X12_lent_46 : decode prog_14_method_126_code 46 = .ok (.iload 5, 2) := gq_3 db00g_92 eb_125
theorem d_X12_lent_48 : decode prog_14_method_126_code 48 = .ok (.ifCond .lt 99, 3) := gq_4 db00g_92 eb_1276
theorem d_X12_lent_51 : decode prog_14_method_126_code 51 = .ok (.aload_n 0, 1) := gq_5 db00g_92 eb_0
theorem d_X12_lent_52 : decode prog_14_method_126_code 52 = .ok (.getfield 293, 3) := gq_6 db00g_92 eb_1264
theorem d_X12_lent_55 : decode prog_14_method_126_code 55 = .ok (.iconst 4, 1) := gq_7 db00g_92 eb_291
theorem d_X12_lent_56 : decode prog_14_method_126_code 56 = .ok (.iload 4, 2) := gq_8 db00g_92 eb_76
theorem d_X12_lent_58 : decode prog_14_method_126_code 58 = .ok (.imul, 1) := gq_9 db00g_92 eb_34
theorem d_X12_lent_59 : decode prog_14_method_126_code 59 = .ok (.iload 5, 2) := gq_10 db00g_92 eb_125
theorem d_X12_lent_61 : decode prog_14_method_126_code 61 = .ok (.iadd, 1) := gq_11 db00g_92 eb_35
theorem d_X12_lent_62 : decode prog_14_method_126_code 62 = .ok (.iaload, 1) := gq_12 db00g_92 eb_37
theorem d_X12_lent_63 : decode prog_14_method_126_code 63 = .ok (.istore 6, 2) := gq_13 db00g_92 eb_58
theorem d_X12_lent_65 : decode prog_14_method_126_code 65 = .ok (.iload_n 2, 1) := gq_14 db00g_92 eb_13
theorem d_X12_lent_66 : decode prog_14_method_126_code 66 = .ok (.iload 5, 2) := gq_15 db00g_92 eb_125
theorem d_X12_lent_68 : decode prog_14_method_126_code 68 = .ok (.invokestatic 673, 3) := gq_16 db00g_92 eb_1269
theorem d_X12_lent_71 : decode prog_14_method_126_code 71 = .ok (.ifCond .eq 70, 3) := gq_17 db00g_92 eb_1277
theorem d_X12_lent_74 : decode prog_14_method_126_code 74 = .ok (.iload 6, 2) := gq_18 db00g_92 eb_75
theorem d_X12_lent_76 : decode prog_14_method_126_code 76 = .ok (.ldc_w 668, 3) := gq_19 db00g_92 eb_1259
theorem d_X12_lent_79 : decode prog_14_method_126_code 79 = .ok (.if_icmp .ne 6, 3) := gq_20 db00g_92 eb_40
theorem d_X12_lent_82 : decode prog_14_method_126_code 82 = .ok (.goto 59, 3) := gq_21 db00g_92 eb_1278
theorem d_X12_lent_85 : decode prog_14_method_126_code 85 = .ok (.aload_n 0, 1) := gq_22 db00g_92 eb_0
theorem d_X12_lent_86 : decode prog_14_method_126_code 86 = .ok (.getfield 290, 3) := gq_23 db00g_92 eb_696
theorem db00g_93 : Pf_ prog_14_method_126_code [(89, [0x11, 0x01, 0x00]), (92, [0x15, 0x04]), (94, [0x04]), (95, [0x60]), (96, [0x68]), (97, [0x1c]), (98, [0x60]), (99, [0x04]), (100, [0x05]), (101, [0x15, 0x05]), (103, [0x68]), (104, [0x78]), (105, [0x64]), (106, [0x2e]), (107, [0x36, 0x07]), (109, [0x15, 0x07]), (111, [0x13, 0x02, 0x9c]), (114, [0xa2, 0x00, 0x1b]), (117, [0x15, 0x06]), (119, [0x15, 0x07]), (121, [0x60]), (122, [0x2a]), (123, [0xb4, 0x01, 0x22]), (126, [0x11, 0x01, 0x00])] := pf_ok prog_14_method_126_code _ 89 (by decide +kernel)
theorem d_X12_lent_89 : decode prog_14_method_126_code 89 = .ok (.sipush 256, 3) := gq_0 db00g_93 eb_232
theorem d_X12_lent_92 : decode prog_14_method_126_code 92 = .ok (.iload 4, 2) := gq_1 db00g_93 eb_76
theorem d_X12_lent_94 : decode prog_14_method_126_code 94 = .ok (.iconst 1, 1) := gq_2 db00g_93 eb_19
theorem d_X12_lent_95 : decode prog_14_method_126_code 95 = .ok (.iadd, 1) := gq_3 db00g_93 eb_35
theorem d_X12_lent_96 : decode prog_14_method_126_code 96 = .ok (.imul, 1) := gq_4 db00g_93 eb_34
theorem d_X12_lent_97 : decode prog_14_method_126_code 97 = .ok (.iload_n 2, 1) := gq_5 db00g_93 eb_13
theorem d_X12_lent_98 : decode prog_14_method_126_code 98 = .ok (.iadd, 1) := gq_6 db00g_93 eb_35
theorem d_X12_lent_99 : decode prog_14_method_126_code 99 = .ok (.iconst 1, 1) := gq_7 db00g_93 eb_19
theorem d_X12_lent_100 : decode prog_14_method_126_code 100 = .ok (.iconst 2, 1) := gq_8 db00g_93 eb_10
theorem d_X12_lent_101 : decode prog_14_method_126_code 101 = .ok (.iload 5, 2) := gq_9 db00g_93 eb_125
theorem d_X12_lent_103 : decode prog_14_method_126_code 103 = .ok (.imul, 1) := gq_10 db00g_93 eb_34
theorem d_X12_lent_104 : decode prog_14_method_126_code 104 = .ok (.ishl, 1) := gq_11 db00g_93 eb_11
theorem d_X12_lent_105 : decode prog_14_method_126_code 105 = .ok (.isub, 1) := gq_12 db00g_93 eb_48
theorem d_X12_lent_106 : decode prog_14_method_126_code 106 = .ok (.iaload, 1) := gq_13 db00g_93 eb_37
theorem d_X12_lent_107 : decode prog_14_method_126_code 107 = .ok (.istore 7, 2) := gq_14 db00g_93 eb_59
theorem d_X12_lent_109 : decode prog_14_method_126_code 109 = .ok (.iload 7, 2) := gq_15 db00g_93 eb_73
theorem d_X12_lent_111 : decode prog_14_method_126_code 111 = .ok (.ldc_w 668, 3) := gq_16 db00g_93 eb_1259
theorem d_X12_lent_114 : decode prog_14_method_126_code 114 = .ok (.if_icmp .ge 27, 3) := gq_17 db00g_93 eb_336
theorem d_X12_lent_117 : decode prog_14_method_126_code 117 = .ok (.iload 6, 2) := gq_18 db00g_93 eb_75
theorem d_X12_lent_119 : decode prog_14_method_126_code 119 = .ok (.iload 7, 2) := gq_19 db00g_93 eb_73
theorem d_X12_lent_121 : decode prog_14_method_126_code 121 = .ok (.iadd, 1) := gq_20 db00g_93 eb_35
theorem d_X12_lent_122 : decode prog_14_method_126_code 122 = .ok (.aload_n 0, 1) := gq_21 db00g_93 eb_0
theorem d_X12_lent_123 : decode prog_14_method_126_code 123 = .ok (.getfield 290, 3) := gq_22 db00g_93 eb_696
theorem d_X12_lent_126 : decode prog_14_method_126_code 126 = .ok (.sipush 256, 3) := gq_23 db00g_93 eb_232
theorem db00g_94 : Pf_ prog_14_method_126_code [(129, [0x15, 0x04]), (131, [0x68]), (132, [0x1c]), (133, [0x60]), (134, [0x2e]), (135, [0xa0, 0x00, 0x06]), (138, [0x15, 0x05]), (140, [0x3e]), (141, [0x84, 0x05, 0xff]), (144, [0xa7, 0xff, 0x9e]), (147, [0x1c]), (148, [0x1d]), (149, [0x02]), (150, [0xa0, 0x00, 0x07]), (153, [0x03]), (154, [0xa7, 0x00, 0x08]), (157, [0x04]), (158, [0x05]), (159, [0x1d]), (160, [0x68]), (161, [0x78]), (162, [0x64]), (163, [0x3d]), (164, [0x84, 0x04, 0x01])] := pf_ok prog_14_method_126_code _ 129 (by decide +kernel)
theorem d_X12_lent_129 : decode prog_14_method_126_code 129 = .ok (.iload 4, 2) := gq_0 db00g_94 eb_76
theorem d_X12_lent_131 : decode prog_14_method_126_code 131 = .ok (.imul, 1) := gq_1 db00g_94 eb_34
theorem d_X12_lent_132 : decode prog_14_method_126_code 132 = .ok (.iload_n 2, 1) := gq_2 db00g_94 eb_13
theorem d_X12_lent_133 : decode prog_14_method_126_code 133 = .ok (.iadd, 1) := gq_3 db00g_94 eb_35
theorem d_X12_lent_134 : decode prog_14_method_126_code 134 = .ok (.iaload, 1) := gq_4 db00g_94 eb_37
theorem d_X12_lent_135 : decode prog_14_method_126_code 135 = .ok (.if_icmp .ne 6, 3) := gq_5 db00g_94 eb_40
theorem d_X12_lent_138 : decode prog_14_method_126_code 138 = .ok (.iload 5, 2) := gq_6 db00g_94 eb_125
theorem d_X12_lent_140 : decode prog_14_method_126_code 140 = .ok (.istore_n 3, 1) := gq_7 db00g_94 eb_28
theorem d_X12_lent_141 : decode prog_14_method_126_code 141 = .ok (.iinc 5 (-1), 3) := gq_8 db00g_94 eb_384
theorem d_X12_lent_144 : decode prog_14_method_126_code 144 = .ok (.goto (-98), 3) := gq_9 db00g_94 eb_1252
theorem d_X12_lent_147 : decode prog_14_method_126_code 147 = .ok (.iload_n 2, 1) := gq_10 db00g_94 eb_13
theorem d_X12_lent_148 : decode prog_14_method_126_code 148 = .ok (.iload_n 3, 1) := gq_11 db00g_94 eb_29
theorem d_X12_lent_149 : decode prog_14_method_126_code 149 = .ok (.iconst (-1), 1) := gq_12 db00g_94 eb_26
theorem d_X12_lent_150 : decode prog_14_method_126_code 150 = .ok (.if_icmp .ne 7, 3) := gq_13 db00g_94 eb_135
theorem d_X12_lent_153 : decode prog_14_method_126_code 153 = .ok (.iconst 0, 1) := gq_14 db00g_94 eb_21
theorem d_X12_lent_154 : decode prog_14_method_126_code 154 = .ok (.goto 8, 3) := gq_15 db00g_94 eb_488
theorem d_X12_lent_157 : decode prog_14_method_126_code 157 = .ok (.iconst 1, 1) := gq_16 db00g_94 eb_19
theorem d_X12_lent_158 : decode prog_14_method_126_code 158 = .ok (.iconst 2, 1) := gq_17 db00g_94 eb_10
theorem d_X12_lent_159 : decode prog_14_method_126_code 159 = .ok (.iload_n 3, 1) := gq_18 db00g_94 eb_29
theorem d_X12_lent_160 : decode prog_14_method_126_code 160 = .ok (.imul, 1) := gq_19 db00g_94 eb_34
theorem d_X12_lent_161 : decode prog_14_method_126_code 161 = .ok (.ishl, 1) := gq_20 db00g_94 eb_11
theorem d_X12_lent_162 : decode prog_14_method_126_code 162 = .ok (.isub, 1) := gq_21 db00g_94 eb_48
theorem d_X12_lent_163 : decode prog_14_method_126_code 163 = .ok (.istore_n 2, 1) := gq_22 db00g_94 eb_27
theorem d_X12_lent_164 : decode prog_14_method_126_code 164 = .ok (.iinc 4 1, 3) := gq_23 db00g_94 eb_144
theorem db00g_95 : Pf_ prog_14_method_126_code [(167, [0xa7, 0xff, 0x77]), (170, [0x1d]), (171, [0xac])] := pf_ok prog_14_method_126_code _ 167 (by decide +kernel)
theorem d_X12_lent_167 : decode prog_14_method_126_code 167 = .ok (.goto (-137), 3) := gq_0 db00g_95 eb_1279
theorem d_X12_lent_170 : decode prog_14_method_126_code 170 = .ok (.iload_n 3, 1) := gq_1 db00g_95 eb_29
theorem d_X12_lent_171 : decode prog_14_method_126_code 171 = .ok (.ireturn, 1) := gq_2 db00g_95 eb_15
theorem db00g_96 : Pf_ prog_14_method_127_code [(0, [0x03]), (1, [0x36, 0x04]), (3, [0x03]), (4, [0x36, 0x05]), (6, [0x03]), (7, [0x36, 0x06]), (9, [0x15, 0x06]), (11, [0x2a]), (12, [0xb4, 0x01, 0xfb]), (15, [0xa2, 0x00, 0x68]), (18, [0x2a]), (19, [0xb4, 0x00, 0x7e]), (22, [0x15, 0x06]), (24, [0x2e]), (25, [0x1b]), (26, [0xa0, 0x00, 0x57]), (29, [0x2a]), (30, [0xb4, 0x00, 0x84]), (33, [0x15, 0x06]), (35, [0x2e]), (36, [0x11, 0x05, 0xa0]), (39, [0x6c]), (40, [0x1c]), (41, [0x9f, 0x00, 0x06])] := pf_ok prog_14_method_127_code _ 0 (by decide +kernel)
theorem d_X12_payOf_0 : decode prog_14_method_127_code 0 = .ok (.iconst 0, 1) := gq_0 db00g_96 eb_21
theorem d_X12_payOf_1 : decode prog_14_method_127_code 1 = .ok (.istore 4, 2) := gq_1 db00g_96 eb_133
theorem d_X12_payOf_3 : decode prog_14_method_127_code 3 = .ok (.iconst 0, 1) := gq_2 db00g_96 eb_21
theorem d_X12_payOf_4 : decode prog_14_method_127_code 4 = .ok (.istore 5, 2) := gq_3 db00g_96 eb_134
theorem d_X12_payOf_6 : decode prog_14_method_127_code 6 = .ok (.iconst 0, 1) := gq_4 db00g_96 eb_21
theorem d_X12_payOf_7 : decode prog_14_method_127_code 7 = .ok (.istore 6, 2) := gq_5 db00g_96 eb_58
theorem d_X12_payOf_9 : decode prog_14_method_127_code 9 = .ok (.iload 6, 2) := gq_6 db00g_96 eb_75
theorem d_X12_payOf_11 : decode prog_14_method_127_code 11 = .ok (.aload_n 0, 1) := gq_7 db00g_96 eb_0
theorem d_X12_payOf_12 : decode prog_14_method_127_code 12 = .ok (.getfield 507, 3) := gq_8 db00g_96 eb_1067
theorem d_X12_payOf_15 : decode prog_14_method_127_code 15 = .ok (.if_icmp .ge 104, 3) := gq_9 db00g_96 eb_1280
theorem d_X12_payOf_18 : decode prog_14_method_127_code 18 = .ok (.aload_n 0, 1) := gq_10 db00g_96 eb_0
theorem d_X12_payOf_19 : decode prog_14_method_127_code 19 = .ok (.getfield 126, 3) := gq_11 db00g_96 eb_613
theorem d_X12_payOf_22 : decode prog_14_method_127_code 22 = .ok (.iload 6, 2) := gq_12 db00g_96 eb_75
theorem d_X12_payOf_24 : decode prog_14_method_127_code 24 = .ok (.iaload, 1) := gq_13 db00g_96 eb_37
theorem d_X12_payOf_25 : decode prog_14_method_127_code 25 = .ok (.iload_n 1, 1) := gq_14 db00g_96 eb_9
theorem d_X12_payOf_26 : decode prog_14_method_127_code 26 = .ok (.if_icmp .ne 87, 3) := gq_15 db00g_96 eb_1281
theorem d_X12_payOf_29 : decode prog_14_method_127_code 29 = .ok (.aload_n 0, 1) := gq_16 db00g_96 eb_0
theorem d_X12_payOf_30 : decode prog_14_method_127_code 30 = .ok (.getfield 132, 3) := gq_17 db00g_96 eb_1070
theorem d_X12_payOf_33 : decode prog_14_method_127_code 33 = .ok (.iload 6, 2) := gq_18 db00g_96 eb_75
theorem d_X12_payOf_35 : decode prog_14_method_127_code 35 = .ok (.iaload, 1) := gq_19 db00g_96 eb_37
theorem d_X12_payOf_36 : decode prog_14_method_127_code 36 = .ok (.sipush 1440, 3) := gq_20 db00g_96 eb_289
theorem d_X12_payOf_39 : decode prog_14_method_127_code 39 = .ok (.idiv, 1) := gq_21 db00g_96 eb_219
theorem d_X12_payOf_40 : decode prog_14_method_127_code 40 = .ok (.iload_n 2, 1) := gq_22 db00g_96 eb_13
theorem d_X12_payOf_41 : decode prog_14_method_127_code 41 = .ok (.if_icmp .eq 6, 3) := gq_23 db00g_96 eb_173
theorem db00g_97 : Pf_ prog_14_method_127_code [(44, [0xa7, 0x00, 0x45]), (47, [0x2a]), (48, [0x15, 0x06]), (50, [0x1d]), (51, [0xb6, 0x01, 0xfe]), (54, [0x36, 0x07]), (56, [0x15, 0x07]), (58, [0x05]), (59, [0xa0, 0x00, 0x0d]), (62, [0x2a]), (63, [0x15, 0x06]), (65, [0x1d]), (66, [0xb6, 0x02, 0x01]), (69, [0xa7, 0x00, 0x04]), (72, [0x03]), (73, [0x36, 0x08]), (75, [0x15, 0x04]), (77, [0x15, 0x07]), (79, [0x04]), (80, [0xa0, 0x00, 0x07]), (83, [0x04]), (84, [0xa7, 0x00, 0x04]), (87, [0x03]), (88, [0x60])] := pf_ok prog_14_method_127_code _ 44 (by decide +kernel)
theorem d_X12_payOf_44 : decode prog_14_method_127_code 44 = .ok (.goto 69, 3) := gq_0 db00g_97 eb_1282
theorem d_X12_payOf_47 : decode prog_14_method_127_code 47 = .ok (.aload_n 0, 1) := gq_1 db00g_97 eb_0
theorem d_X12_payOf_48 : decode prog_14_method_127_code 48 = .ok (.iload 6, 2) := gq_2 db00g_97 eb_75
theorem d_X12_payOf_50 : decode prog_14_method_127_code 50 = .ok (.iload_n 3, 1) := gq_3 db00g_97 eb_29
theorem d_X12_payOf_51 : decode prog_14_method_127_code 51 = .ok (.invokevirtual 510, 3) := gq_4 db00g_97 eb_787
theorem d_X12_payOf_54 : decode prog_14_method_127_code 54 = .ok (.istore 7, 2) := gq_5 db00g_97 eb_59
theorem d_X12_payOf_56 : decode prog_14_method_127_code 56 = .ok (.iload 7, 2) := gq_6 db00g_97 eb_73
theorem d_X12_payOf_58 : decode prog_14_method_127_code 58 = .ok (.iconst 2, 1) := gq_7 db00g_97 eb_10
theorem d_X12_payOf_59 : decode prog_14_method_127_code 59 = .ok (.if_icmp .ne 13, 3) := gq_8 db00g_97 eb_423
theorem d_X12_payOf_62 : decode prog_14_method_127_code 62 = .ok (.aload_n 0, 1) := gq_9 db00g_97 eb_0
theorem d_X12_payOf_63 : decode prog_14_method_127_code 63 = .ok (.iload 6, 2) := gq_10 db00g_97 eb_75
theorem d_X12_payOf_65 : decode prog_14_method_127_code 65 = .ok (.iload_n 3, 1) := gq_11 db00g_97 eb_29
theorem d_X12_payOf_66 : decode prog_14_method_127_code 66 = .ok (.invokevirtual 513, 3) := gq_12 db00g_97 eb_788
theorem d_X12_payOf_69 : decode prog_14_method_127_code 69 = .ok (.goto 4, 3) := gq_13 db00g_97 eb_20
theorem d_X12_payOf_72 : decode prog_14_method_127_code 72 = .ok (.iconst 0, 1) := gq_14 db00g_97 eb_21
theorem d_X12_payOf_73 : decode prog_14_method_127_code 73 = .ok (.istore 8, 2) := gq_15 db00g_97 eb_61
theorem d_X12_payOf_75 : decode prog_14_method_127_code 75 = .ok (.iload 4, 2) := gq_16 db00g_97 eb_76
theorem d_X12_payOf_77 : decode prog_14_method_127_code 77 = .ok (.iload 7, 2) := gq_17 db00g_97 eb_73
theorem d_X12_payOf_79 : decode prog_14_method_127_code 79 = .ok (.iconst 1, 1) := gq_18 db00g_97 eb_19
theorem d_X12_payOf_80 : decode prog_14_method_127_code 80 = .ok (.if_icmp .ne 7, 3) := gq_19 db00g_97 eb_135
theorem d_X12_payOf_83 : decode prog_14_method_127_code 83 = .ok (.iconst 1, 1) := gq_20 db00g_97 eb_19
theorem d_X12_payOf_84 : decode prog_14_method_127_code 84 = .ok (.goto 4, 3) := gq_21 db00g_97 eb_20
theorem d_X12_payOf_87 : decode prog_14_method_127_code 87 = .ok (.iconst 0, 1) := gq_22 db00g_97 eb_21
theorem d_X12_payOf_88 : decode prog_14_method_127_code 88 = .ok (.iadd, 1) := gq_23 db00g_97 eb_35
theorem db00g_98 : Pf_ prog_14_method_127_code [(89, [0x36, 0x04]), (91, [0x15, 0x05]), (93, [0x15, 0x08]), (95, [0x04]), (96, [0x9f, 0x00, 0x09]), (99, [0x15, 0x08]), (101, [0x08]), (102, [0xa1, 0x00, 0x07]), (105, [0x04]), (106, [0xa7, 0x00, 0x04]), (109, [0x03]), (110, [0x60]), (111, [0x36, 0x05]), (113, [0x84, 0x06, 0x01]), (116, [0xa7, 0xff, 0x95]), (119, [0x03]), (120, [0x36, 0x06]), (122, [0x03]), (123, [0x36, 0x07]), (125, [0x03]), (126, [0x36, 0x08]), (128, [0x15, 0x08]), (130, [0x2a]), (131, [0xb4, 0x02, 0x04])] := pf_ok prog_14_method_127_code _ 89 (by decide +kernel)
theorem d_X12_payOf_89 : decode prog_14_method_127_code 89 = .ok (.istore 4, 2) := gq_0 db00g_98 eb_133
theorem d_X12_payOf_91 : decode prog_14_method_127_code 91 = .ok (.iload 5, 2) := gq_1 db00g_98 eb_125
theorem d_X12_payOf_93 : decode prog_14_method_127_code 93 = .ok (.iload 8, 2) := gq_2 db00g_98 eb_64
theorem d_X12_payOf_95 : decode prog_14_method_127_code 95 = .ok (.iconst 1, 1) := gq_3 db00g_98 eb_19
theorem d_X12_payOf_96 : decode prog_14_method_127_code 96 = .ok (.if_icmp .eq 9, 3) := gq_4 db00g_98 eb_431
theorem d_X12_payOf_99 : decode prog_14_method_127_code 99 = .ok (.iload 8, 2) := gq_5 db00g_98 eb_64
theorem d_X12_payOf_101 : decode prog_14_method_127_code 101 = .ok (.iconst 5, 1) := gq_6 db00g_98 eb_122
theorem d_X12_payOf_102 : decode prog_14_method_127_code 102 = .ok (.if_icmp .lt 7, 3) := gq_7 db00g_98 eb_154
theorem d_X12_payOf_105 : decode prog_14_method_127_code 105 = .ok (.iconst 1, 1) := gq_8 db00g_98 eb_19
theorem d_X12_payOf_106 : decode prog_14_method_127_code 106 = .ok (.goto 4, 3) := gq_9 db00g_98 eb_20
theorem d_X12_payOf_109 : decode prog_14_method_127_code 109 = .ok (.iconst 0, 1) := gq_10 db00g_98 eb_21
theorem d_X12_payOf_110 : decode prog_14_method_127_code 110 = .ok (.iadd, 1) := gq_11 db00g_98 eb_35
theorem d_X12_payOf_111 : decode prog_14_method_127_code 111 = .ok (.istore 5, 2) := gq_12 db00g_98 eb_134
theorem d_X12_payOf_113 : decode prog_14_method_127_code 113 = .ok (.iinc 6 1, 3) := gq_13 db00g_98 eb_72
theorem d_X12_payOf_116 : decode prog_14_method_127_code 116 = .ok (.goto (-107), 3) := gq_14 db00g_98 eb_184
theorem d_X12_payOf_119 : decode prog_14_method_127_code 119 = .ok (.iconst 0, 1) := gq_15 db00g_98 eb_21
theorem d_X12_payOf_120 : decode prog_14_method_127_code 120 = .ok (.istore 6, 2) := gq_16 db00g_98 eb_58
theorem d_X12_payOf_122 : decode prog_14_method_127_code 122 = .ok (.iconst 0, 1) := gq_17 db00g_98 eb_21
theorem d_X12_payOf_123 : decode prog_14_method_127_code 123 = .ok (.istore 7, 2) := gq_18 db00g_98 eb_59
theorem d_X12_payOf_125 : decode prog_14_method_127_code 125 = .ok (.iconst 0, 1) := gq_19 db00g_98 eb_21
theorem d_X12_payOf_126 : decode prog_14_method_127_code 126 = .ok (.istore 8, 2) := gq_20 db00g_98 eb_61
theorem d_X12_payOf_128 : decode prog_14_method_127_code 128 = .ok (.iload 8, 2) := gq_21 db00g_98 eb_64
theorem d_X12_payOf_130 : decode prog_14_method_127_code 130 = .ok (.aload_n 0, 1) := gq_22 db00g_98 eb_0
theorem d_X12_payOf_131 : decode prog_14_method_127_code 131 = .ok (.getfield 516, 3) := gq_23 db00g_98 eb_1073
theorem db00g_99 : Pf_ prog_14_method_127_code [(134, [0xa2, 0x00, 0x5e]), (137, [0x2a]), (138, [0xb4, 0x00, 0xb2]), (141, [0x15, 0x08]), (143, [0x2e]), (144, [0x1b]), (145, [0xa0, 0x00, 0x4d]), (148, [0x2a]), (149, [0xb4, 0x00, 0xb8]), (152, [0x15, 0x08]), (154, [0x2e]), (155, [0x11, 0x05, 0xa0]), (158, [0x6c]), (159, [0x1c]), (160, [0xa0, 0x00, 0x3e]), (163, [0x2a]), (164, [0xb4, 0x00, 0xbb]), (167, [0x15, 0x08]), (169, [0x2e]), (170, [0x06]), (171, [0xa0, 0x00, 0x33]), (174, [0x2a]), (175, [0x15, 0x08]), (177, [0x1d])] := pf_ok prog_14_method_127_code _ 134 (by decide +kernel)
theorem d_X12_payOf_134 : decode prog_14_method_127_code 134 = .ok (.if_icmp .ge 94, 3) := gq_0 db00g_99 eb_1283
theorem d_X12_payOf_137 : decode prog_14_method_127_code 137 = .ok (.aload_n 0, 1) := gq_1 db00g_99 eb_0
theorem d_X12_payOf_138 : decode prog_14_method_127_code 138 = .ok (.getfield 178, 3) := gq_2 db00g_99 eb_1074
theorem d_X12_payOf_141 : decode prog_14_method_127_code 141 = .ok (.iload 8, 2) := gq_3 db00g_99 eb_64
theorem d_X12_payOf_143 : decode prog_14_method_127_code 143 = .ok (.iaload, 1) := gq_4 db00g_99 eb_37
theorem d_X12_payOf_144 : decode prog_14_method_127_code 144 = .ok (.iload_n 1, 1) := gq_5 db00g_99 eb_9
theorem d_X12_payOf_145 : decode prog_14_method_127_code 145 = .ok (.if_icmp .ne 77, 3) := gq_6 db00g_99 eb_1284
theorem d_X12_payOf_148 : decode prog_14_method_127_code 148 = .ok (.aload_n 0, 1) := gq_7 db00g_99 eb_0
theorem d_X12_payOf_149 : decode prog_14_method_127_code 149 = .ok (.getfield 184, 3) := gq_8 db00g_99 eb_1141
theorem d_X12_payOf_152 : decode prog_14_method_127_code 152 = .ok (.iload 8, 2) := gq_9 db00g_99 eb_64
theorem d_X12_payOf_154 : decode prog_14_method_127_code 154 = .ok (.iaload, 1) := gq_10 db00g_99 eb_37
theorem d_X12_payOf_155 : decode prog_14_method_127_code 155 = .ok (.sipush 1440, 3) := gq_11 db00g_99 eb_289
theorem d_X12_payOf_158 : decode prog_14_method_127_code 158 = .ok (.idiv, 1) := gq_12 db00g_99 eb_219
theorem d_X12_payOf_159 : decode prog_14_method_127_code 159 = .ok (.iload_n 2, 1) := gq_13 db00g_99 eb_13
theorem d_X12_payOf_160 : decode prog_14_method_127_code 160 = .ok (.if_icmp .ne 62, 3) := gq_14 db00g_99 eb_1100
theorem d_X12_payOf_163 : decode prog_14_method_127_code 163 = .ok (.aload_n 0, 1) := gq_15 db00g_99 eb_0
theorem d_X12_payOf_164 : decode prog_14_method_127_code 164 = .ok (.getfield 187, 3) := gq_16 db00g_99 eb_1075
theorem d_X12_payOf_167 : decode prog_14_method_127_code 167 = .ok (.iload 8, 2) := gq_17 db00g_99 eb_64
theorem d_X12_payOf_169 : decode prog_14_method_127_code 169 = .ok (.iaload, 1) := gq_18 db00g_99 eb_37
theorem d_X12_payOf_170 : decode prog_14_method_127_code 170 = .ok (.iconst 3, 1) := gq_19 db00g_99 eb_54
theorem d_X12_payOf_171 : decode prog_14_method_127_code 171 = .ok (.if_icmp .ne 51, 3) := gq_20 db00g_99 eb_1285
theorem d_X12_payOf_174 : decode prog_14_method_127_code 174 = .ok (.aload_n 0, 1) := gq_21 db00g_99 eb_0
theorem d_X12_payOf_175 : decode prog_14_method_127_code 175 = .ok (.iload 8, 2) := gq_22 db00g_99 eb_64
theorem d_X12_payOf_177 : decode prog_14_method_127_code 177 = .ok (.iload_n 3, 1) := gq_23 db00g_99 eb_29
theorem db00g_100 : Pf_ prog_14_method_127_code [(178, [0xb6, 0x02, 0x3d]), (181, [0x06]), (182, [0xa0, 0x00, 0x07]), (185, [0x04]), (186, [0xa7, 0x00, 0x04]), (189, [0x03]), (190, [0x36, 0x09]), (192, [0x15, 0x06]), (194, [0x15, 0x09]), (196, [0x99, 0x00, 0x07]), (199, [0x04]), (200, [0xa7, 0x00, 0x04]), (203, [0x03]), (204, [0x60]), (205, [0x36, 0x06]), (207, [0x15, 0x07]), (209, [0x15, 0x09]), (211, [0x99, 0x00, 0x07]), (214, [0x03]), (215, [0xa7, 0x00, 0x04]), (218, [0x04]), (219, [0x60]), (220, [0x36, 0x07]), (222, [0x84, 0x08, 0x01])] := pf_ok prog_14_method_127_code _ 178 (by decide +kernel)
theorem d_X12_payOf_178 : decode prog_14_method_127_code 178 = .ok (.invokevirtual 573, 3) := gq_0 db00g_100 eb_1143
theorem d_X12_payOf_181 : decode prog_14_method_127_code 181 = .ok (.iconst 3, 1) := gq_1 db00g_100 eb_54
theorem d_X12_payOf_182 : decode prog_14_method_127_code 182 = .ok (.if_icmp .ne 7, 3) := gq_2 db00g_100 eb_135
theorem d_X12_payOf_185 : decode prog_14_method_127_code 185 = .ok (.iconst 1, 1) := gq_3 db00g_100 eb_19
theorem d_X12_payOf_186 : decode prog_14_method_127_code 186 = .ok (.goto 4, 3) := gq_4 db00g_100 eb_20
theorem d_X12_payOf_189 : decode prog_14_method_127_code 189 = .ok (.iconst 0, 1) := gq_5 db00g_100 eb_21
theorem d_X12_payOf_190 : decode prog_14_method_127_code 190 = .ok (.istore 9, 2) := gq_6 db00g_100 eb_62
theorem d_X12_payOf_192 : decode prog_14_method_127_code 192 = .ok (.iload 6, 2) := gq_7 db00g_100 eb_75
theorem d_X12_payOf_194 : decode prog_14_method_127_code 194 = .ok (.iload 9, 2) := gq_8 db00g_100 eb_63
theorem d_X12_payOf_196 : decode prog_14_method_127_code 196 = .ok (.ifCond .eq 7, 3) := gq_9 db00g_100 eb_123
theorem d_X12_payOf_199 : decode prog_14_method_127_code 199 = .ok (.iconst 1, 1) := gq_10 db00g_100 eb_19
theorem d_X12_payOf_200 : decode prog_14_method_127_code 200 = .ok (.goto 4, 3) := gq_11 db00g_100 eb_20
theorem d_X12_payOf_203 : decode prog_14_method_127_code 203 = .ok (.iconst 0, 1) := gq_12 db00g_100 eb_21
theorem d_X12_payOf_204 : decode prog_14_method_127_code 204 = .ok (.iadd, 1) := gq_13 db00g_100 eb_35
theorem d_X12_payOf_205 : decode prog_14_method_127_code 205 = .ok (.istore 6, 2) := gq_14 db00g_100 eb_58
theorem d_X12_payOf_207 : decode prog_14_method_127_code 207 = .ok (.iload 7, 2) := gq_15 db00g_100 eb_73
theorem d_X12_payOf_209 : decode prog_14_method_127_code 209 = .ok (.iload 9, 2) := gq_16 db00g_100 eb_63
theorem d_X12_payOf_211 : decode prog_14_method_127_code 211 = .ok (.ifCond .eq 7, 3) := gq_17 db00g_100 eb_123
theorem d_X12_payOf_214 : decode prog_14_method_127_code 214 = .ok (.iconst 0, 1) := gq_18 db00g_100 eb_21
theorem d_X12_payOf_215 : decode prog_14_method_127_code 215 = .ok (.goto 4, 3) := gq_19 db00g_100 eb_20
theorem d_X12_payOf_218 : decode prog_14_method_127_code 218 = .ok (.iconst 1, 1) := gq_20 db00g_100 eb_19
theorem d_X12_payOf_219 : decode prog_14_method_127_code 219 = .ok (.iadd, 1) := gq_21 db00g_100 eb_35
theorem d_X12_payOf_220 : decode prog_14_method_127_code 220 = .ok (.istore 7, 2) := gq_22 db00g_100 eb_59
theorem d_X12_payOf_222 : decode prog_14_method_127_code 222 = .ok (.iinc 8 1, 3) := gq_23 db00g_100 eb_183
theorem db00g_101 : Pf_ prog_14_method_127_code [(225, [0xa7, 0xff, 0x9f]), (228, [0x2a]), (229, [0xb4, 0x00, 0x78]), (232, [0x10, 0x63]), (234, [0x2a]), (235, [0x1b]), (236, [0x1c]), (237, [0x1d]), (238, [0xb6, 0x01, 0x62]), (241, [0x4f]), (242, [0x2a]), (243, [0xb4, 0x00, 0x78]), (246, [0x10, 0x79]), (248, [0x2a]), (249, [0xb4, 0x00, 0x19]), (252, [0x1b]), (253, [0x2e]), (254, [0x4f]), (255, [0x2a]), (256, [0xb4, 0x00, 0x78]), (259, [0x10, 0x6d]), (261, [0x15, 0x04])] := pf_ok prog_14_method_127_code _ 225 (by decide +kernel)
theorem d_X12_payOf_225 : decode prog_14_method_127_code 225 = .ok (.goto (-97), 3) := gq_0 db00g_101 eb_1286
theorem d_X12_payOf_228 : decode prog_14_method_127_code 228 = .ok (.aload_n 0, 1) := gq_1 db00g_101 eb_0
theorem d_X12_payOf_229 : decode prog_14_method_127_code 229 = .ok (.getfield 120, 3) := gq_2 db00g_101 eb_1050
theorem d_X12_payOf_232 : decode prog_14_method_127_code 232 = .ok (.bipush 99, 2) := gq_3 db00g_101 eb_1287
theorem d_X12_payOf_234 : decode prog_14_method_127_code 234 = .ok (.aload_n 0, 1) := gq_4 db00g_101 eb_0
theorem d_X12_payOf_235 : decode prog_14_method_127_code 235 = .ok (.iload_n 1, 1) := gq_5 db00g_101 eb_9
theorem d_X12_payOf_236 : decode prog_14_method_127_code 236 = .ok (.iload_n 2, 1) := gq_6 db00g_101 eb_13
theorem d_X12_payOf_237 : decode prog_14_method_127_code 237 = .ok (.iload_n 3, 1) := gq_7 db00g_101 eb_29
theorem d_X12_payOf_238 : decode prog_14_method_127_code 238 = .ok (.invokevirtual 354, 3) := gq_8 db00g_101 eb_939
theorem d_X12_payOf_241 : decode prog_14_method_127_code 241 = .ok (.iastore, 1) := gq_9 db00g_101 eb_38
theorem d_X12_payOf_242 : decode prog_14_method_127_code 242 = .ok (.aload_n 0, 1) := gq_10 db00g_101 eb_0
theorem d_X12_payOf_243 : decode prog_14_method_127_code 243 = .ok (.getfield 120, 3) := gq_11 db00g_101 eb_1050
theorem d_X12_payOf_246 : decode prog_14_method_127_code 246 = .ok (.bipush 121, 2) := gq_12 db00g_101 eb_1288
theorem d_X12_payOf_248 : decode prog_14_method_127_code 248 = .ok (.aload_n 0, 1) := gq_13 db00g_101 eb_0
theorem d_X12_payOf_249 : decode prog_14_method_127_code 249 = .ok (.getfield 25, 3) := gq_14 db00g_101 eb_24
theorem d_X12_payOf_252 : decode prog_14_method_127_code 252 = .ok (.iload_n 1, 1) := gq_15 db00g_101 eb_9
theorem d_X12_payOf_253 : decode prog_14_method_127_code 253 = .ok (.iaload, 1) := gq_16 db00g_101 eb_37
theorem d_X12_payOf_254 : decode prog_14_method_127_code 254 = .ok (.iastore, 1) := gq_17 db00g_101 eb_38
theorem d_X12_payOf_255 : decode prog_14_method_127_code 255 = .ok (.aload_n 0, 1) := gq_18 db00g_101 eb_0
theorem d_X12_payOf_256 : decode prog_14_method_127_code 256 = .ok (.getfield 120, 3) := gq_19 db00g_101 eb_1050
theorem d_X12_payOf_259 : decode prog_14_method_127_code 259 = .ok (.bipush 109, 2) := gq_20 db00g_101 eb_1289
theorem d_X12_payOf_261 : decode prog_14_method_127_code 261 = .ok (.iload 4, 2) := gq_21 db00g_101 eb_76
end
section
theorem db00h_0 : Pf_ prog_14_method_127_code [(263, [0x4f]), (264, [0x2a]), (265, [0xb4, 0x00, 0x78]), (268, [0x10, 0x78]), (270, [0x15, 0x05]), (272, [0x4f]), (273, [0x2a]), (274, [0xb4, 0x00, 0x78]), (277, [0x10, 0x74]), (279, [0x15, 0x06]), (281, [0x4f]), (282, [0x2a]), (283, [0xb4, 0x00, 0x78]), (286, [0x10, 0x61]), (288, [0x15, 0x07]), (290, [0x4f]), (291, [0x03]), (292, [0x11, 0x27, 0x10]), (295, [0x2a]), (296, [0x04]), (297, [0x2a]), (298, [0x04]), (299, [0x1c]), (300, [0x1d])] := pf_ok prog_14_method_127_code _ 263 (by decide +kernel)
theorem d_X12_payOf_263 : decode prog_14_method_127_code 263 = .ok (.iastore, 1) := gq_0 db00h_0 eb_38
theorem d_X12_payOf_264 : decode prog_14_method_127_code 264 = .ok (.aload_n 0, 1) := gq_1 db00h_0 eb_0
theorem d_X12_payOf_265 : decode prog_14_method_127_code 265 = .ok (.getfield 120, 3) := gq_2 db00h_0 eb_1050
theorem d_X12_payOf_268 : decode prog_14_method_127_code 268 = .ok (.bipush 120, 2) := gq_3 db00h_0 eb_1017
theorem d_X12_payOf_270 : decode prog_14_method_127_code 270 = .ok (.iload 5, 2) := gq_4 db00h_0 eb_125
theorem d_X12_payOf_272 : decode prog_14_method_127_code 272 = .ok (.iastore, 1) := gq_5 db00h_0 eb_38
theorem d_X12_payOf_273 : decode prog_14_method_127_code 273 = .ok (.aload_n 0, 1) := gq_6 db00h_0 eb_0
theorem d_X12_payOf_274 : decode prog_14_method_127_code 274 = .ok (.getfield 120, 3) := gq_7 db00h_0 eb_1050
theorem d_X12_payOf_277 : decode prog_14_method_127_code 277 = .ok (.bipush 116, 2) := gq_8 db00h_0 eb_1022
theorem d_X12_payOf_279 : decode prog_14_method_127_code 279 = .ok (.iload 6, 2) := gq_9 db00h_0 eb_75
theorem d_X12_payOf_281 : decode prog_14_method_127_code 281 = .ok (.iastore, 1) := gq_10 db00h_0 eb_38
theorem d_X12_payOf_282 : decode prog_14_method_127_code 282 = .ok (.aload_n 0, 1) := gq_11 db00h_0 eb_0
theorem d_X12_payOf_283 : decode prog_14_method_127_code 283 = .ok (.getfield 120, 3) := gq_12 db00h_0 eb_1050
theorem d_X12_payOf_286 : decode prog_14_method_127_code 286 = .ok (.bipush 97, 2) := gq_13 db00h_0 eb_1290
theorem d_X12_payOf_288 : decode prog_14_method_127_code 288 = .ok (.iload 7, 2) := gq_14 db00h_0 eb_73
theorem d_X12_payOf_290 : decode prog_14_method_127_code 290 = .ok (.iastore, 1) := gq_15 db00h_0 eb_38
theorem d_X12_payOf_291 : decode prog_14_method_127_code 291 = .ok (.iconst 0, 1) := gq_16 db00h_0 eb_21
theorem d_X12_payOf_292 : decode prog_14_method_127_code 292 = .ok (.sipush 10000, 3) := gq_17 db00h_0 eb_803
theorem d_X12_payOf_295 : decode prog_14_method_127_code 295 = .ok (.aload_n 0, 1) := gq_18 db00h_0 eb_0
theorem d_X12_payOf_296 : decode prog_14_method_127_code 296 = .ok (.iconst 1, 1) := gq_19 db00h_0 eb_19
theorem d_X12_payOf_297 : decode prog_14_method_127_code 297 = .ok (.aload_n 0, 1) := gq_20 db00h_0 eb_0
theorem d_X12_payOf_298 : decode prog_14_method_127_code 298 = .ok (.iconst 1, 1) := gq_21 db00h_0 eb_19
theorem d_X12_payOf_299 : decode prog_14_method_127_code 299 = .ok (.iload_n 2, 1) := gq_22 db00h_0 eb_13
theorem d_X12_payOf_300 : decode prog_14_method_127_code 300 = .ok (.iload_n 3, 1) := gq_23 db00h_0 eb_29
theorem db00h_1 : Pf_ prog_14_method_127_code [(301, [0xb6, 0x01, 0xd7]), (304, [0xb6, 0x02, 0x49]), (307, [0xb8, 0x02, 0x69]), (310, [0xb8, 0x02, 0x30]), (313, [0xac])] := pf_ok prog_14_method_127_code _ 301 (by decide +kernel)
theorem d_X12_payOf_301 : decode prog_14_method_127_code 301 = .ok (.invokevirtual 471, 3) := gq_0 db00h_1 eb_1040
theorem d_X12_payOf_304 : decode prog_14_method_127_code 304 = .ok (.invokevirtual 585, 3) := gq_1 db00h_1 eb_1151
theorem d_X12_payOf_307 : decode prog_14_method_127_code 307 = .ok (.invokestatic 617, 3) := gq_2 db00h_1 eb_1191
theorem d_X12_payOf_310 : decode prog_14_method_127_code 310 = .ok (.invokestatic 560, 3) := gq_3 db00h_1 eb_1120
theorem d_X12_payOf_313 : decode prog_14_method_127_code 313 = .ok (.ireturn, 1) := gq_4 db00h_1 eb_15
theorem db00h_2 : Pf_ prog_14_method_128_code [(0, [0x2a]), (1, [0x1b]), (2, [0xb6, 0x01, 0x59]), (5, [0x99, 0x00, 0x24]), (8, [0x2a]), (9, [0x1d]), (10, [0xb6, 0x01, 0x5f]), (13, [0x99, 0x00, 0x1c]), (16, [0x1c]), (17, [0x03]), (18, [0x1d]), (19, [0x11, 0x05, 0xa0]), (22, [0x6c]), (23, [0x04]), (24, [0x64]), (25, [0xb8, 0x01, 0x43]), (28, [0x99, 0x00, 0x0d]), (31, [0x2a]), (32, [0x1b]), (33, [0x1c]), (34, [0x1d]), (35, [0xb6, 0x02, 0xaa]), (38, [0xa7, 0x00, 0x04]), (41, [0x02])] := pf_ok prog_14_method_128_code _ 0 (by decide +kernel)
theorem d_X12_paid_0 : decode prog_14_method_128_code 0 = .ok (.aload_n 0, 1) := gq_0 db00h_2 eb_0
theorem d_X12_paid_1 : decode prog_14_method_128_code 1 = .ok (.iload_n 1, 1) := gq_1 db00h_2 eb_9
theorem d_X12_paid_2 : decode prog_14_method_128_code 2 = .ok (.invokevirtual 345, 3) := gq_2 db00h_2 eb_930
theorem d_X12_paid_5 : decode prog_14_method_128_code 5 = .ok (.ifCond .eq 36, 3) := gq_3 db00h_2 eb_278
theorem d_X12_paid_8 : decode prog_14_method_128_code 8 = .ok (.aload_n 0, 1) := gq_4 db00h_2 eb_0
theorem d_X12_paid_9 : decode prog_14_method_128_code 9 = .ok (.iload_n 3, 1) := gq_5 db00h_2 eb_29
theorem d_X12_paid_10 : decode prog_14_method_128_code 10 = .ok (.invokevirtual 351, 3) := gq_6 db00h_2 eb_938
theorem d_X12_paid_13 : decode prog_14_method_128_code 13 = .ok (.ifCond .eq 28, 3) := gq_7 db00h_2 eb_623
theorem d_X12_paid_16 : decode prog_14_method_128_code 16 = .ok (.iload_n 2, 1) := gq_8 db00h_2 eb_13
theorem d_X12_paid_17 : decode prog_14_method_128_code 17 = .ok (.iconst 0, 1) := gq_9 db00h_2 eb_21
theorem d_X12_paid_18 : decode prog_14_method_128_code 18 = .ok (.iload_n 3, 1) := gq_10 db00h_2 eb_29
theorem d_X12_paid_19 : decode prog_14_method_128_code 19 = .ok (.sipush 1440, 3) := gq_11 db00h_2 eb_289
theorem d_X12_paid_22 : decode prog_14_method_128_code 22 = .ok (.idiv, 1) := gq_12 db00h_2 eb_219
theorem d_X12_paid_23 : decode prog_14_method_128_code 23 = .ok (.iconst 1, 1) := gq_13 db00h_2 eb_19
theorem d_X12_paid_24 : decode prog_14_method_128_code 24 = .ok (.isub, 1) := gq_14 db00h_2 eb_48
theorem d_X12_paid_25 : decode prog_14_method_128_code 25 = .ok (.invokestatic 323, 3) := gq_15 db00h_2 eb_913
theorem d_X12_paid_28 : decode prog_14_method_128_code 28 = .ok (.ifCond .eq 13, 3) := gq_16 db00h_2 eb_119
theorem d_X12_paid_31 : decode prog_14_method_128_code 31 = .ok (.aload_n 0, 1) := gq_17 db00h_2 eb_0
theorem d_X12_paid_32 : decode prog_14_method_128_code 32 = .ok (.iload_n 1, 1) := gq_18 db00h_2 eb_9
theorem d_X12_paid_33 : decode prog_14_method_128_code 33 = .ok (.iload_n 2, 1) := gq_19 db00h_2 eb_13
theorem d_X12_paid_34 : decode prog_14_method_128_code 34 = .ok (.iload_n 3, 1) := gq_20 db00h_2 eb_29
theorem d_X12_paid_35 : decode prog_14_method_128_code 35 = .ok (.invokevirtual 682, 3) := gq_21 db00h_2 eb_1291
theorem d_X12_paid_38 : decode prog_14_method_128_code 38 = .ok (.goto 4, 3) := gq_22 db00h_2 eb_20
theorem d_X12_paid_41 : decode prog_14_method_128_code 41 = .ok (.iconst (-1), 1) := gq_23 db00h_2 eb_26
theorem db00h_3 : Pf_ prog_14_method_128_code [(42, [0xac])] := pf_ok prog_14_method_128_code _ 42 (by decide +kernel)
theorem d_X12_paid_42 : decode prog_14_method_128_code 42 = .ok (.ireturn, 1) := gq_0 db00h_3 eb_15
theorem db00h_4 : Pf_ prog_14_method_129_code [(0, [0x03]), (1, [0x3c]), (2, [0x03]), (3, [0x3d]), (4, [0x1c]), (5, [0x2a]), (6, [0xb4, 0x01, 0x56]), (9, [0x11, 0x05, 0xa0]), (12, [0x6c]), (13, [0xa2, 0x00, 0x39]), (16, [0x03]), (17, [0x3e]), (18, [0x1d]), (19, [0x2a]), (20, [0xb4, 0x01, 0x53]), (23, [0xa2, 0x00, 0x29]), (26, [0x1b]), (27, [0x2a]), (28, [0x1d]), (29, [0x1c]), (30, [0x2a]), (31, [0xb4, 0x01, 0x56]), (34, [0xb6, 0x02, 0xaa]), (37, [0x2a])] := pf_ok prog_14_method_129_code _ 0 (by decide +kernel)
theorem d_X12_book_0 : decode prog_14_method_129_code 0 = .ok (.iconst 0, 1) := gq_0 db00h_4 eb_21
theorem d_X12_book_1 : decode prog_14_method_129_code 1 = .ok (.istore_n 1, 1) := gq_1 db00h_4 eb_222
theorem d_X12_book_2 : decode prog_14_method_129_code 2 = .ok (.iconst 0, 1) := gq_2 db00h_4 eb_21
theorem d_X12_book_3 : decode prog_14_method_129_code 3 = .ok (.istore_n 2, 1) := gq_3 db00h_4 eb_27
theorem d_X12_book_4 : decode prog_14_method_129_code 4 = .ok (.iload_n 2, 1) := gq_4 db00h_4 eb_13
theorem d_X12_book_5 : decode prog_14_method_129_code 5 = .ok (.aload_n 0, 1) := gq_5 db00h_4 eb_0
theorem d_X12_book_6 : decode prog_14_method_129_code 6 = .ok (.getfield 342, 3) := gq_6 db00h_4 eb_928
theorem d_X12_book_9 : decode prog_14_method_129_code 9 = .ok (.sipush 1440, 3) := gq_7 db00h_4 eb_289
theorem d_X12_book_12 : decode prog_14_method_129_code 12 = .ok (.idiv, 1) := gq_8 db00h_4 eb_219
theorem d_X12_book_13 : decode prog_14_method_129_code 13 = .ok (.if_icmp .ge 57, 3) := gq_9 db00h_4 eb_1058
theorem d_X12_book_16 : decode prog_14_method_129_code 16 = .ok (.iconst 0, 1) := gq_10 db00h_4 eb_21
theorem d_X12_book_17 : decode prog_14_method_129_code 17 = .ok (.istore_n 3, 1) := gq_11 db00h_4 eb_28
theorem d_X12_book_18 : decode prog_14_method_129_code 18 = .ok (.iload_n 3, 1) := gq_12 db00h_4 eb_29
theorem d_X12_book_19 : decode prog_14_method_129_code 19 = .ok (.aload_n 0, 1) := gq_13 db00h_4 eb_0
theorem d_X12_book_20 : decode prog_14_method_129_code 20 = .ok (.getfield 339, 3) := gq_14 db00h_4 eb_926
theorem d_X12_book_23 : decode prog_14_method_129_code 23 = .ok (.if_icmp .ge 41, 3) := gq_15 db00h_4 eb_1263
theorem d_X12_book_26 : decode prog_14_method_129_code 26 = .ok (.iload_n 1, 1) := gq_16 db00h_4 eb_9
theorem d_X12_book_27 : decode prog_14_method_129_code 27 = .ok (.aload_n 0, 1) := gq_17 db00h_4 eb_0
theorem d_X12_book_28 : decode prog_14_method_129_code 28 = .ok (.iload_n 3, 1) := gq_18 db00h_4 eb_29
theorem d_X12_book_29 : decode prog_14_method_129_code 29 = .ok (.iload_n 2, 1) := gq_19 db00h_4 eb_13
theorem d_X12_book_30 : decode prog_14_method_129_code 30 = .ok (.aload_n 0, 1) := gq_20 db00h_4 eb_0
theorem d_X12_book_31 : decode prog_14_method_129_code 31 = .ok (.getfield 342, 3) := gq_21 db00h_4 eb_928
theorem d_X12_book_34 : decode prog_14_method_129_code 34 = .ok (.invokevirtual 682, 3) := gq_22 db00h_4 eb_1291
theorem d_X12_book_37 : decode prog_14_method_129_code 37 = .ok (.aload_n 0, 1) := gq_23 db00h_4 eb_0
theorem db00h_5 : Pf_ prog_14_method_129_code [(38, [0xb4, 0x01, 0x28]), (41, [0x10, 0x1f]), (43, [0x1d]), (44, [0x68]), (45, [0x1c]), (46, [0x60]), (47, [0x2e]), (48, [0x9f, 0x00, 0x07]), (51, [0x04]), (52, [0xa7, 0x00, 0x04]), (55, [0x03]), (56, [0x60]), (57, [0x3c]), (58, [0x84, 0x03, 0x01]), (61, [0xa7, 0xff, 0xd5]), (64, [0x84, 0x02, 0x01]), (67, [0xa7, 0xff, 0xc1]), (70, [0x2a]), (71, [0xb4, 0x02, 0xad]), (74, [0x1b]), (75, [0x60]), (76, [0x11, 0x02, 0x58]), (79, [0xa4, 0x00, 0x05]), (82, [0x02])] := pf_ok prog_14_method_129_code _ 38 (by decide +kernel)
theorem d_X12_book_38 : decode prog_14_method_129_code 38 = .ok (.getfield 296, 3) := gq_0 db00h_5 eb_1292
theorem d_X12_book_41 : decode prog_14_method_129_code 41 = .ok (.bipush 31, 2) := gq_1 db00h_5 eb_707
theorem d_X12_book_43 : decode prog_14_method_129_code 43 = .ok (.iload_n 3, 1) := gq_2 db00h_5 eb_29
theorem d_X12_book_44 : decode prog_14_method_129_code 44 = .ok (.imul, 1) := gq_3 db00h_5 eb_34
theorem d_X12_book_45 : decode prog_14_method_129_code 45 = .ok (.iload_n 2, 1) := gq_4 db00h_5 eb_13
theorem d_X12_book_46 : decode prog_14_method_129_code 46 = .ok (.iadd, 1) := gq_5 db00h_5 eb_35
theorem d_X12_book_47 : decode prog_14_method_129_code 47 = .ok (.iaload, 1) := gq_6 db00h_5 eb_37
theorem d_X12_book_48 : decode prog_14_method_129_code 48 = .ok (.if_icmp .eq 7, 3) := gq_7 db00h_5 eb_539
theorem d_X12_book_51 : decode prog_14_method_129_code 51 = .ok (.iconst 1, 1) := gq_8 db00h_5 eb_19
theorem d_X12_book_52 : decode prog_14_method_129_code 52 = .ok (.goto 4, 3) := gq_9 db00h_5 eb_20
theorem d_X12_book_55 : decode prog_14_method_129_code 55 = .ok (.iconst 0, 1) := gq_10 db00h_5 eb_21
theorem d_X12_book_56 : decode prog_14_method_129_code 56 = .ok (.iadd, 1) := gq_11 db00h_5 eb_35
theorem d_X12_book_57 : decode prog_14_method_129_code 57 = .ok (.istore_n 1, 1) := gq_12 db00h_5 eb_222
theorem d_X12_book_58 : decode prog_14_method_129_code 58 = .ok (.iinc 3 1, 3) := gq_13 db00h_5 eb_42
theorem d_X12_book_61 : decode prog_14_method_129_code 61 = .ok (.goto (-43), 3) := gq_14 db00h_5 eb_339
theorem d_X12_book_64 : decode prog_14_method_129_code 64 = .ok (.iinc 2 1, 3) := gq_15 db00h_5 eb_41
theorem d_X12_book_67 : decode prog_14_method_129_code 67 = .ok (.goto (-63), 3) := gq_16 db00h_5 eb_515
theorem d_X12_book_70 : decode prog_14_method_129_code 70 = .ok (.aload_n 0, 1) := gq_17 db00h_5 eb_0
theorem d_X12_book_71 : decode prog_14_method_129_code 71 = .ok (.getfield 685, 3) := gq_18 db00h_5 eb_1293
theorem d_X12_book_74 : decode prog_14_method_129_code 74 = .ok (.iload_n 1, 1) := gq_19 db00h_5 eb_9
theorem d_X12_book_75 : decode prog_14_method_129_code 75 = .ok (.iadd, 1) := gq_20 db00h_5 eb_35
theorem d_X12_book_76 : decode prog_14_method_129_code 76 = .ok (.sipush 600, 3) := gq_21 db00h_5 eb_316
theorem d_X12_book_79 : decode prog_14_method_129_code 79 = .ok (.if_icmp .le 5, 3) := gq_22 db00h_5 eb_334
theorem d_X12_book_82 : decode prog_14_method_129_code 82 = .ok (.iconst (-1), 1) := gq_23 db00h_5 eb_26
theorem db00h_6 : Pf_ prog_14_method_129_code [(83, [0xac]), (84, [0x03]), (85, [0x3d]), (86, [0x1c]), (87, [0x2a]), (88, [0xb4, 0x01, 0x56]), (91, [0x11, 0x05, 0xa0]), (94, [0x6c]), (95, [0xa2, 0x00, 0x84]), (98, [0x03]), (99, [0x3e]), (100, [0x1d]), (101, [0x2a]), (102, [0xb4, 0x01, 0x53]), (105, [0xa2, 0x00, 0x74]), (108, [0x2a]), (109, [0x1d]), (110, [0x1c]), (111, [0x2a]), (112, [0xb4, 0x01, 0x56]), (115, [0xb6, 0x02, 0xaa]), (118, [0x36, 0x04]), (120, [0x15, 0x04]), (122, [0x2a])] := pf_ok prog_14_method_129_code _ 83 (by decide +kernel)
theorem d_X12_book_83 : decode prog_14_method_129_code 83 = .ok (.ireturn, 1) := gq_0 db00h_6 eb_15
theorem d_X12_book_84 : decode prog_14_method_129_code 84 = .ok (.iconst 0, 1) := gq_1 db00h_6 eb_21
theorem d_X12_book_85 : decode prog_14_method_129_code 85 = .ok (.istore_n 2, 1) := gq_2 db00h_6 eb_27
theorem d_X12_book_86 : decode prog_14_method_129_code 86 = .ok (.iload_n 2, 1) := gq_3 db00h_6 eb_13
theorem d_X12_book_87 : decode prog_14_method_129_code 87 = .ok (.aload_n 0, 1) := gq_4 db00h_6 eb_0
theorem d_X12_book_88 : decode prog_14_method_129_code 88 = .ok (.getfield 342, 3) := gq_5 db00h_6 eb_928
theorem d_X12_book_91 : decode prog_14_method_129_code 91 = .ok (.sipush 1440, 3) := gq_6 db00h_6 eb_289
theorem d_X12_book_94 : decode prog_14_method_129_code 94 = .ok (.idiv, 1) := gq_7 db00h_6 eb_219
theorem d_X12_book_95 : decode prog_14_method_129_code 95 = .ok (.if_icmp .ge 132, 3) := gq_8 db00h_6 eb_1294
theorem d_X12_book_98 : decode prog_14_method_129_code 98 = .ok (.iconst 0, 1) := gq_9 db00h_6 eb_21
theorem d_X12_book_99 : decode prog_14_method_129_code 99 = .ok (.istore_n 3, 1) := gq_10 db00h_6 eb_28
theorem d_X12_book_100 : decode prog_14_method_129_code 100 = .ok (.iload_n 3, 1) := gq_11 db00h_6 eb_29
theorem d_X12_book_101 : decode prog_14_method_129_code 101 = .ok (.aload_n 0, 1) := gq_12 db00h_6 eb_0
theorem d_X12_book_102 : decode prog_14_method_129_code 102 = .ok (.getfield 339, 3) := gq_13 db00h_6 eb_926
theorem d_X12_book_105 : decode prog_14_method_129_code 105 = .ok (.if_icmp .ge 116, 3) := gq_14 db00h_6 eb_408
theorem d_X12_book_108 : decode prog_14_method_129_code 108 = .ok (.aload_n 0, 1) := gq_15 db00h_6 eb_0
theorem d_X12_book_109 : decode prog_14_method_129_code 109 = .ok (.iload_n 3, 1) := gq_16 db00h_6 eb_29
theorem d_X12_book_110 : decode prog_14_method_129_code 110 = .ok (.iload_n 2, 1) := gq_17 db00h_6 eb_13
theorem d_X12_book_111 : decode prog_14_method_129_code 111 = .ok (.aload_n 0, 1) := gq_18 db00h_6 eb_0
theorem d_X12_book_112 : decode prog_14_method_129_code 112 = .ok (.getfield 342, 3) := gq_19 db00h_6 eb_928
theorem d_X12_book_115 : decode prog_14_method_129_code 115 = .ok (.invokevirtual 682, 3) := gq_20 db00h_6 eb_1291
theorem d_X12_book_118 : decode prog_14_method_129_code 118 = .ok (.istore 4, 2) := gq_21 db00h_6 eb_133
theorem d_X12_book_120 : decode prog_14_method_129_code 120 = .ok (.iload 4, 2) := gq_22 db00h_6 eb_76
theorem d_X12_book_122 : decode prog_14_method_129_code 122 = .ok (.aload_n 0, 1) := gq_23 db00h_6 eb_0
theorem db00h_7 : Pf_ prog_14_method_129_code [(123, [0xb4, 0x01, 0x28]), (126, [0x10, 0x1f]), (128, [0x1d]), (129, [0x68]), (130, [0x1c]), (131, [0x60]), (132, [0x2e]), (133, [0x9f, 0x00, 0x52]), (136, [0x2a]), (137, [0xb4, 0x01, 0x2b]), (140, [0x2a]), (141, [0xb4, 0x02, 0xad]), (144, [0x1d]), (145, [0x4f]), (146, [0x2a]), (147, [0xb4, 0x01, 0x2e]), (150, [0x2a]), (151, [0xb4, 0x02, 0xad]), (154, [0x1c]), (155, [0x4f]), (156, [0x2a]), (157, [0xb4, 0x01, 0x31]), (160, [0x2a]), (161, [0xb4, 0x02, 0xad])] := pf_ok prog_14_method_129_code _ 123 (by decide +kernel)
theorem d_X12_book_123 : decode prog_14_method_129_code 123 = .ok (.getfield 296, 3) := gq_0 db00h_7 eb_1292
theorem d_X12_book_126 : decode prog_14_method_129_code 126 = .ok (.bipush 31, 2) := gq_1 db00h_7 eb_707
theorem d_X12_book_128 : decode prog_14_method_129_code 128 = .ok (.iload_n 3, 1) := gq_2 db00h_7 eb_29
theorem d_X12_book_129 : decode prog_14_method_129_code 129 = .ok (.imul, 1) := gq_3 db00h_7 eb_34
theorem d_X12_book_130 : decode prog_14_method_129_code 130 = .ok (.iload_n 2, 1) := gq_4 db00h_7 eb_13
theorem d_X12_book_131 : decode prog_14_method_129_code 131 = .ok (.iadd, 1) := gq_5 db00h_7 eb_35
theorem d_X12_book_132 : decode prog_14_method_129_code 132 = .ok (.iaload, 1) := gq_6 db00h_7 eb_37
theorem d_X12_book_133 : decode prog_14_method_129_code 133 = .ok (.if_icmp .eq 82, 3) := gq_7 db00h_7 eb_1295
theorem d_X12_book_136 : decode prog_14_method_129_code 136 = .ok (.aload_n 0, 1) := gq_8 db00h_7 eb_0
theorem d_X12_book_137 : decode prog_14_method_129_code 137 = .ok (.getfield 299, 3) := gq_9 db00h_7 eb_1296
theorem d_X12_book_140 : decode prog_14_method_129_code 140 = .ok (.aload_n 0, 1) := gq_10 db00h_7 eb_0
theorem d_X12_book_141 : decode prog_14_method_129_code 141 = .ok (.getfield 685, 3) := gq_11 db00h_7 eb_1293
theorem d_X12_book_144 : decode prog_14_method_129_code 144 = .ok (.iload_n 3, 1) := gq_12 db00h_7 eb_29
theorem d_X12_book_145 : decode prog_14_method_129_code 145 = .ok (.iastore, 1) := gq_13 db00h_7 eb_38
theorem d_X12_book_146 : decode prog_14_method_129_code 146 = .ok (.aload_n 0, 1) := gq_14 db00h_7 eb_0
theorem d_X12_book_147 : decode prog_14_method_129_code 147 = .ok (.getfield 302, 3) := gq_15 db00h_7 eb_1297
theorem d_X12_book_150 : decode prog_14_method_129_code 150 = .ok (.aload_n 0, 1) := gq_16 db00h_7 eb_0
theorem d_X12_book_151 : decode prog_14_method_129_code 151 = .ok (.getfield 685, 3) := gq_17 db00h_7 eb_1293
theorem d_X12_book_154 : decode prog_14_method_129_code 154 = .ok (.iload_n 2, 1) := gq_18 db00h_7 eb_13
theorem d_X12_book_155 : decode prog_14_method_129_code 155 = .ok (.iastore, 1) := gq_19 db00h_7 eb_38
theorem d_X12_book_156 : decode prog_14_method_129_code 156 = .ok (.aload_n 0, 1) := gq_20 db00h_7 eb_0
theorem d_X12_book_157 : decode prog_14_method_129_code 157 = .ok (.getfield 305, 3) := gq_21 db00h_7 eb_1298
theorem d_X12_book_160 : decode prog_14_method_129_code 160 = .ok (.aload_n 0, 1) := gq_22 db00h_7 eb_0
theorem d_X12_book_161 : decode prog_14_method_129_code 161 = .ok (.getfield 685, 3) := gq_23 db00h_7 eb_1293
theorem db00h_8 : Pf_ prog_14_method_129_code [(164, [0x15, 0x04]), (166, [0x2a]), (167, [0xb4, 0x01, 0x28]), (170, [0x10, 0x1f]), (172, [0x1d]), (173, [0x68]), (174, [0x1c]), (175, [0x60]), (176, [0x2e]), (177, [0x64]), (178, [0x4f]), (179, [0x2a]), (180, [0xb4, 0x01, 0x34]), (183, [0x2a]), (184, [0xb4, 0x02, 0xad]), (187, [0x2a]), (188, [0xb4, 0x01, 0x56]), (191, [0x4f]), (192, [0x2a]), (193, [0x59]), (194, [0xb4, 0x02, 0xad]), (197, [0x04]), (198, [0x60]), (199, [0xb5, 0x02, 0xad])] := pf_ok prog_14_method_129_code _ 164 (by decide +kernel)
theorem d_X12_book_164 : decode prog_14_method_129_code 164 = .ok (.iload 4, 2) := gq_0 db00h_8 eb_76
theorem d_X12_book_166 : decode prog_14_method_129_code 166 = .ok (.aload_n 0, 1) := gq_1 db00h_8 eb_0
theorem d_X12_book_167 : decode prog_14_method_129_code 167 = .ok (.getfield 296, 3) := gq_2 db00h_8 eb_1292
theorem d_X12_book_170 : decode prog_14_method_129_code 170 = .ok (.bipush 31, 2) := gq_3 db00h_8 eb_707
theorem d_X12_book_172 : decode prog_14_method_129_code 172 = .ok (.iload_n 3, 1) := gq_4 db00h_8 eb_29
theorem d_X12_book_173 : decode prog_14_method_129_code 173 = .ok (.imul, 1) := gq_5 db00h_8 eb_34
theorem d_X12_book_174 : decode prog_14_method_129_code 174 = .ok (.iload_n 2, 1) := gq_6 db00h_8 eb_13
theorem d_X12_book_175 : decode prog_14_method_129_code 175 = .ok (.iadd, 1) := gq_7 db00h_8 eb_35
theorem d_X12_book_176 : decode prog_14_method_129_code 176 = .ok (.iaload, 1) := gq_8 db00h_8 eb_37
theorem d_X12_book_177 : decode prog_14_method_129_code 177 = .ok (.isub, 1) := gq_9 db00h_8 eb_48
theorem d_X12_book_178 : decode prog_14_method_129_code 178 = .ok (.iastore, 1) := gq_10 db00h_8 eb_38
theorem d_X12_book_179 : decode prog_14_method_129_code 179 = .ok (.aload_n 0, 1) := gq_11 db00h_8 eb_0
theorem d_X12_book_180 : decode prog_14_method_129_code 180 = .ok (.getfield 308, 3) := gq_12 db00h_8 eb_1299
theorem d_X12_book_183 : decode prog_14_method_129_code 183 = .ok (.aload_n 0, 1) := gq_13 db00h_8 eb_0
theorem d_X12_book_184 : decode prog_14_method_129_code 184 = .ok (.getfield 685, 3) := gq_14 db00h_8 eb_1293
theorem d_X12_book_187 : decode prog_14_method_129_code 187 = .ok (.aload_n 0, 1) := gq_15 db00h_8 eb_0
theorem d_X12_book_188 : decode prog_14_method_129_code 188 = .ok (.getfield 342, 3) := gq_16 db00h_8 eb_928
theorem d_X12_book_191 : decode prog_14_method_129_code 191 = .ok (.iastore, 1) := gq_17 db00h_8 eb_38
theorem d_X12_book_192 : decode prog_14_method_129_code 192 = .ok (.aload_n 0, 1) := gq_18 db00h_8 eb_0
theorem d_X12_book_193 : decode prog_14_method_129_code 193 = .ok (.dup, 1) := gq_19 db00h_8 eb_46
theorem d_X12_book_194 : decode prog_14_method_129_code 194 = .ok (.getfield 685, 3) := gq_20 db00h_8 eb_1293
theorem d_X12_book_197 : decode prog_14_method_129_code 197 = .ok (.iconst 1, 1) := gq_21 db00h_8 eb_19
theorem d_X12_book_198 : decode prog_14_method_129_code 198 = .ok (.iadd, 1) := gq_22 db00h_8 eb_35
theorem d_X12_book_199 : decode prog_14_method_129_code 199 = .ok (.putfield 685, 3) := gq_23 db00h_8 eb_1300
theorem db00h_9 : Pf_ prog_14_method_129_code [(202, [0x2a]), (203, [0xb4, 0x01, 0x28]), (206, [0x10, 0x1f]), (208, [0x1d]), (209, [0x68]), (210, [0x1c]), (211, [0x60]), (212, [0x15, 0x04]), (214, [0x4f]), (215, [0x84, 0x03, 0x01]), (218, [0xa7, 0xff, 0x8a]), (221, [0x84, 0x02, 0x01]), (224, [0xa7, 0xff, 0x76]), (227, [0x1b]), (228, [0xac])] := pf_ok prog_14_method_129_code _ 202 (by decide +kernel)
theorem d_X12_book_202 : decode prog_14_method_129_code 202 = .ok (.aload_n 0, 1) := gq_0 db00h_9 eb_0
theorem d_X12_book_203 : decode prog_14_method_129_code 203 = .ok (.getfield 296, 3) := gq_1 db00h_9 eb_1292
theorem d_X12_book_206 : decode prog_14_method_129_code 206 = .ok (.bipush 31, 2) := gq_2 db00h_9 eb_707
theorem d_X12_book_208 : decode prog_14_method_129_code 208 = .ok (.iload_n 3, 1) := gq_3 db00h_9 eb_29
theorem d_X12_book_209 : decode prog_14_method_129_code 209 = .ok (.imul, 1) := gq_4 db00h_9 eb_34
theorem d_X12_book_210 : decode prog_14_method_129_code 210 = .ok (.iload_n 2, 1) := gq_5 db00h_9 eb_13
theorem d_X12_book_211 : decode prog_14_method_129_code 211 = .ok (.iadd, 1) := gq_6 db00h_9 eb_35
theorem d_X12_book_212 : decode prog_14_method_129_code 212 = .ok (.iload 4, 2) := gq_7 db00h_9 eb_76
theorem d_X12_book_214 : decode prog_14_method_129_code 214 = .ok (.iastore, 1) := gq_8 db00h_9 eb_38
theorem d_X12_book_215 : decode prog_14_method_129_code 215 = .ok (.iinc 3 1, 3) := gq_9 db00h_9 eb_42
theorem d_X12_book_218 : decode prog_14_method_129_code 218 = .ok (.goto (-118), 3) := gq_10 db00h_9 eb_550
theorem d_X12_book_221 : decode prog_14_method_129_code 221 = .ok (.iinc 2 1, 3) := gq_11 db00h_9 eb_41
theorem d_X12_book_224 : decode prog_14_method_129_code 224 = .ok (.goto (-138), 3) := gq_12 db00h_9 eb_1272
theorem d_X12_book_227 : decode prog_14_method_129_code 227 = .ok (.iload_n 1, 1) := gq_13 db00h_9 eb_9
theorem d_X12_book_228 : decode prog_14_method_129_code 228 = .ok (.ireturn, 1) := gq_14 db00h_9 eb_15
theorem d_X12_line_19 : decode prog_14_method_130_code 19 = .ok (.tableswitch 57 0 3 #[29, 36, 43, 50], 29) := by decide +kernel
theorem db00h_10 : Pf_ prog_14_method_130_code [(0, [0x1b]), (1, [0x03]), (2, [0x2a]), (3, [0xb4, 0x02, 0xad]), (6, [0x04]), (7, [0x64]), (8, [0xb8, 0x01, 0x43]), (11, [0x9a, 0x00, 0x07]), (14, [0x13, 0x02, 0xb0]), (17, [0xac]), (18, [0x1c]), (48, [0x2a]), (49, [0xb4, 0x01, 0x2b]), (52, [0x1b]), (53, [0x2e]), (54, [0xac]), (55, [0x2a]), (56, [0xb4, 0x01, 0x2e]), (59, [0x1b]), (60, [0x2e]), (61, [0xac]), (62, [0x2a]), (63, [0xb4, 0x01, 0x31]), (66, [0x1b])] := pf_ok prog_14_method_130_code _ 0 (by decide +kernel)
theorem d_X12_line_0 : decode prog_14_method_130_code 0 = .ok (.iload_n 1, 1) := gq_0 db00h_10 eb_9
theorem d_X12_line_1 : decode prog_14_method_130_code 1 = .ok (.iconst 0, 1) := gq_1 db00h_10 eb_21
theorem d_X12_line_2 : decode prog_14_method_130_code 2 = .ok (.aload_n 0, 1) := gq_2 db00h_10 eb_0
theorem d_X12_line_3 : decode prog_14_method_130_code 3 = .ok (.getfield 685, 3) := gq_3 db00h_10 eb_1293
theorem d_X12_line_6 : decode prog_14_method_130_code 6 = .ok (.iconst 1, 1) := gq_4 db00h_10 eb_19
theorem d_X12_line_7 : decode prog_14_method_130_code 7 = .ok (.isub, 1) := gq_5 db00h_10 eb_48
theorem d_X12_line_8 : decode prog_14_method_130_code 8 = .ok (.invokestatic 323, 3) := gq_6 db00h_10 eb_913
theorem d_X12_line_11 : decode prog_14_method_130_code 11 = .ok (.ifCond .ne 7, 3) := gq_7 db00h_10 eb_164
theorem d_X12_line_14 : decode prog_14_method_130_code 14 = .ok (.ldc_w 688, 3) := gq_8 db00h_10 eb_1301
theorem d_X12_line_17 : decode prog_14_method_130_code 17 = .ok (.ireturn, 1) := gq_9 db00h_10 eb_15
theorem d_X12_line_18 : decode prog_14_method_130_code 18 = .ok (.iload_n 2, 1) := gq_10 db00h_10 eb_13
theorem d_X12_line_48 : decode prog_14_method_130_code 48 = .ok (.aload_n 0, 1) := gq_11 db00h_10 eb_0
theorem d_X12_line_49 : decode prog_14_method_130_code 49 = .ok (.getfield 299, 3) := gq_12 db00h_10 eb_1296
theorem d_X12_line_52 : decode prog_14_method_130_code 52 = .ok (.iload_n 1, 1) := gq_13 db00h_10 eb_9
theorem d_X12_line_53 : decode prog_14_method_130_code 53 = .ok (.iaload, 1) := gq_14 db00h_10 eb_37
theorem d_X12_line_54 : decode prog_14_method_130_code 54 = .ok (.ireturn, 1) := gq_15 db00h_10 eb_15
theorem d_X12_line_55 : decode prog_14_method_130_code 55 = .ok (.aload_n 0, 1) := gq_16 db00h_10 eb_0
theorem d_X12_line_56 : decode prog_14_method_130_code 56 = .ok (.getfield 302, 3) := gq_17 db00h_10 eb_1297
theorem d_X12_line_59 : decode prog_14_method_130_code 59 = .ok (.iload_n 1, 1) := gq_18 db00h_10 eb_9
theorem d_X12_line_60 : decode prog_14_method_130_code 60 = .ok (.iaload, 1) := gq_19 db00h_10 eb_37
theorem d_X12_line_61 : decode prog_14_method_130_code 61 = .ok (.ireturn, 1) := gq_20 db00h_10 eb_15
theorem d_X12_line_62 : decode prog_14_method_130_code 62 = .ok (.aload_n 0, 1) := gq_21 db00h_10 eb_0
theorem d_X12_line_63 : decode prog_14_method_130_code 63 = .ok (.getfield 305, 3) := gq_22 db00h_10 eb_1298
theorem d_X12_line_66 : decode prog_14_method_130_code 66 = .ok (.iload_n 1, 1) := gq_23 db00h_10 eb_9
theorem db00h_11 : Pf_ prog_14_method_130_code [(67, [0x2e]), (68, [0xac]), (69, [0x2a]), (70, [0xb4, 0x01, 0x34]), (73, [0x1b]), (74, [0x2e]), (75, [0xac]), (76, [0x13, 0x02, 0xb0]), (79, [0xac])] := pf_ok prog_14_method_130_code _ 67 (by decide +kernel)
theorem d_X12_line_67 : decode prog_14_method_130_code 67 = .ok (.iaload, 1) := gq_0 db00h_11 eb_37
theorem d_X12_line_68 : decode prog_14_method_130_code 68 = .ok (.ireturn, 1) := gq_1 db00h_11 eb_15
theorem d_X12_line_69 : decode prog_14_method_130_code 69 = .ok (.aload_n 0, 1) := gq_2 db00h_11 eb_0
theorem d_X12_line_70 : decode prog_14_method_130_code 70 = .ok (.getfield 308, 3) := gq_3 db00h_11 eb_1299
theorem d_X12_line_73 : decode prog_14_method_130_code 73 = .ok (.iload_n 1, 1) := gq_4 db00h_11 eb_9
theorem d_X12_line_74 : decode prog_14_method_130_code 74 = .ok (.iaload, 1) := gq_5 db00h_11 eb_37
theorem d_X12_line_75 : decode prog_14_method_130_code 75 = .ok (.ireturn, 1) := gq_6 db00h_11 eb_15
theorem d_X12_line_76 : decode prog_14_method_130_code 76 = .ok (.ldc_w 688, 3) := gq_7 db00h_11 eb_1301
theorem d_X12_line_79 : decode prog_14_method_130_code 79 = .ok (.ireturn, 1) := gq_8 db00h_11 eb_15
theorem db00h_12 : Pf_ prog_14_method_131_code [(0, [0x1b]), (1, [0x03]), (2, [0x06]), (3, [0xb8, 0x01, 0x43]), (6, [0x99, 0x00, 0x15]), (9, [0x2a]), (10, [0x1c]), (11, [0xb6, 0x01, 0x59]), (14, [0x99, 0x00, 0x0d]), (17, [0x1d]), (18, [0x03]), (19, [0x10, 0x0a]), (21, [0xb8, 0x01, 0x43]), (24, [0x9a, 0x00, 0x05]), (27, [0x03]), (28, [0xac]), (29, [0x2a]), (30, [0xb4, 0x01, 0x37]), (33, [0x10, 0x0c]), (35, [0x1b]), (36, [0x68]), (37, [0x1c]), (38, [0x60]), (39, [0x1d])] := pf_ok prog_14_method_131_code _ 0 (by decide +kernel)
theorem d_X12_mark_0 : decode prog_14_method_131_code 0 = .ok (.iload_n 1, 1) := gq_0 db00h_12 eb_9
theorem d_X12_mark_1 : decode prog_14_method_131_code 1 = .ok (.iconst 0, 1) := gq_1 db00h_12 eb_21
theorem d_X12_mark_2 : decode prog_14_method_131_code 2 = .ok (.iconst 3, 1) := gq_2 db00h_12 eb_54
theorem d_X12_mark_3 : decode prog_14_method_131_code 3 = .ok (.invokestatic 323, 3) := gq_3 db00h_12 eb_913
theorem d_X12_mark_6 : decode prog_14_method_131_code 6 = .ok (.ifCond .eq 21, 3) := gq_4 db00h_12 eb_326
theorem d_X12_mark_9 : decode prog_14_method_131_code 9 = .ok (.aload_n 0, 1) := gq_5 db00h_12 eb_0
theorem d_X12_mark_10 : decode prog_14_method_131_code 10 = .ok (.iload_n 2, 1) := gq_6 db00h_12 eb_13
theorem d_X12_mark_11 : decode prog_14_method_131_code 11 = .ok (.invokevirtual 345, 3) := gq_7 db00h_12 eb_930
theorem d_X12_mark_14 : decode prog_14_method_131_code 14 = .ok (.ifCond .eq 13, 3) := gq_8 db00h_12 eb_119
theorem d_X12_mark_17 : decode prog_14_method_131_code 17 = .ok (.iload_n 3, 1) := gq_9 db00h_12 eb_29
theorem d_X12_mark_18 : decode prog_14_method_131_code 18 = .ok (.iconst 0, 1) := gq_10 db00h_12 eb_21
theorem d_X12_mark_19 : decode prog_14_method_131_code 19 = .ok (.bipush 10, 2) := gq_11 db00h_12 eb_93
theorem d_X12_mark_21 : decode prog_14_method_131_code 21 = .ok (.invokestatic 323, 3) := gq_12 db00h_12 eb_913
theorem d_X12_mark_24 : decode prog_14_method_131_code 24 = .ok (.ifCond .ne 5, 3) := gq_13 db00h_12 eb_150
theorem d_X12_mark_27 : decode prog_14_method_131_code 27 = .ok (.iconst 0, 1) := gq_14 db00h_12 eb_21
theorem d_X12_mark_28 : decode prog_14_method_131_code 28 = .ok (.ireturn, 1) := gq_15 db00h_12 eb_15
theorem d_X12_mark_29 : decode prog_14_method_131_code 29 = .ok (.aload_n 0, 1) := gq_16 db00h_12 eb_0
theorem d_X12_mark_30 : decode prog_14_method_131_code 30 = .ok (.getfield 311, 3) := gq_17 db00h_12 eb_1302
theorem d_X12_mark_33 : decode prog_14_method_131_code 33 = .ok (.bipush 12, 2) := gq_18 db00h_12 eb_4
theorem d_X12_mark_35 : decode prog_14_method_131_code 35 = .ok (.iload_n 1, 1) := gq_19 db00h_12 eb_9
theorem d_X12_mark_36 : decode prog_14_method_131_code 36 = .ok (.imul, 1) := gq_20 db00h_12 eb_34
theorem d_X12_mark_37 : decode prog_14_method_131_code 37 = .ok (.iload_n 2, 1) := gq_21 db00h_12 eb_13
theorem d_X12_mark_38 : decode prog_14_method_131_code 38 = .ok (.iadd, 1) := gq_22 db00h_12 eb_35
theorem d_X12_mark_39 : decode prog_14_method_131_code 39 = .ok (.iload_n 3, 1) := gq_23 db00h_12 eb_29
theorem db00h_13 : Pf_ prog_14_method_131_code [(40, [0x4f]), (41, [0x2a]), (42, [0xb4, 0x01, 0x3a]), (45, [0x10, 0x0c]), (47, [0x1b]), (48, [0x68]), (49, [0x1c]), (50, [0x60]), (51, [0x04]), (52, [0x54]), (53, [0x04]), (54, [0xac])] := pf_ok prog_14_method_131_code _ 40 (by decide +kernel)
theorem d_X12_mark_40 : decode prog_14_method_131_code 40 = .ok (.iastore, 1) := gq_0 db00h_13 eb_38
theorem d_X12_mark_41 : decode prog_14_method_131_code 41 = .ok (.aload_n 0, 1) := gq_1 db00h_13 eb_0
theorem d_X12_mark_42 : decode prog_14_method_131_code 42 = .ok (.getfield 314, 3) := gq_2 db00h_13 eb_1303
theorem d_X12_mark_45 : decode prog_14_method_131_code 45 = .ok (.bipush 12, 2) := gq_3 db00h_13 eb_4
theorem d_X12_mark_47 : decode prog_14_method_131_code 47 = .ok (.iload_n 1, 1) := gq_4 db00h_13 eb_9
theorem d_X12_mark_48 : decode prog_14_method_131_code 48 = .ok (.imul, 1) := gq_5 db00h_13 eb_34
theorem d_X12_mark_49 : decode prog_14_method_131_code 49 = .ok (.iload_n 2, 1) := gq_6 db00h_13 eb_13
theorem d_X12_mark_50 : decode prog_14_method_131_code 50 = .ok (.iadd, 1) := gq_7 db00h_13 eb_35
theorem d_X12_mark_51 : decode prog_14_method_131_code 51 = .ok (.iconst 1, 1) := gq_8 db00h_13 eb_19
theorem d_X12_mark_52 : decode prog_14_method_131_code 52 = .ok (.bastore, 1) := gq_9 db00h_13 eb_244
theorem d_X12_mark_53 : decode prog_14_method_131_code 53 = .ok (.iconst 1, 1) := gq_10 db00h_13 eb_19
theorem d_X12_mark_54 : decode prog_14_method_131_code 54 = .ok (.ireturn, 1) := gq_11 db00h_13 eb_15
theorem db00h_14 : Pf_ prog_14_method_132_code [(0, [0x1b]), (1, [0x04]), (2, [0x10, 0x0c]), (4, [0xb8, 0x01, 0x43]), (7, [0x9a, 0x00, 0x05]), (10, [0x03]), (11, [0xac]), (12, [0x2a]), (13, [0x1b]), (14, [0xb5, 0x01, 0x3d]), (17, [0x04]), (18, [0xac])] := pf_ok prog_14_method_132_code _ 0 (by decide +kernel)
theorem d_X12_size_0 : decode prog_14_method_132_code 0 = .ok (.iload_n 1, 1) := gq_0 db00h_14 eb_9
theorem d_X12_size_1 : decode prog_14_method_132_code 1 = .ok (.iconst 1, 1) := gq_1 db00h_14 eb_19
theorem d_X12_size_2 : decode prog_14_method_132_code 2 = .ok (.bipush 12, 2) := gq_2 db00h_14 eb_4
theorem d_X12_size_4 : decode prog_14_method_132_code 4 = .ok (.invokestatic 323, 3) := gq_3 db00h_14 eb_913
theorem d_X12_size_7 : decode prog_14_method_132_code 7 = .ok (.ifCond .ne 5, 3) := gq_4 db00h_14 eb_150
theorem d_X12_size_10 : decode prog_14_method_132_code 10 = .ok (.iconst 0, 1) := gq_5 db00h_14 eb_21
theorem d_X12_size_11 : decode prog_14_method_132_code 11 = .ok (.ireturn, 1) := gq_6 db00h_14 eb_15
theorem d_X12_size_12 : decode prog_14_method_132_code 12 = .ok (.aload_n 0, 1) := gq_7 db00h_14 eb_0
theorem d_X12_size_13 : decode prog_14_method_132_code 13 = .ok (.iload_n 1, 1) := gq_8 db00h_14 eb_9
theorem d_X12_size_14 : decode prog_14_method_132_code 14 = .ok (.putfield 317, 3) := gq_9 db00h_14 eb_911
theorem d_X12_size_17 : decode prog_14_method_132_code 17 = .ok (.iconst 1, 1) := gq_10 db00h_14 eb_19
theorem d_X12_size_18 : decode prog_14_method_132_code 18 = .ok (.ireturn, 1) := gq_11 db00h_14 eb_15
theorem db00h_15 : Pf_ prog_14_method_133_code [(0, [0x1b]), (1, [0x03]), (2, [0x06]), (3, [0xb8, 0x01, 0x43]), (6, [0x99, 0x00, 0x11]), (9, [0x1c]), (10, [0x03]), (11, [0x06]), (12, [0xb8, 0x01, 0x43]), (15, [0x99, 0x00, 0x08]), (18, [0x1b]), (19, [0x1c]), (20, [0xa0, 0x00, 0x07]), (23, [0x13, 0x02, 0xb0]), (26, [0xac]), (27, [0x03]), (28, [0x3e]), (29, [0x03]), (30, [0x36, 0x04]), (32, [0x03]), (33, [0x36, 0x05]), (35, [0x15, 0x05]), (37, [0x2a]), (38, [0xb4, 0x01, 0x53])] := pf_ok prog_14_method_133_code _ 0 (by decide +kernel)
theorem d_X12_habit_0 : decode prog_14_method_133_code 0 = .ok (.iload_n 1, 1) := gq_0 db00h_15 eb_9
theorem d_X12_habit_1 : decode prog_14_method_133_code 1 = .ok (.iconst 0, 1) := gq_1 db00h_15 eb_21
theorem d_X12_habit_2 : decode prog_14_method_133_code 2 = .ok (.iconst 3, 1) := gq_2 db00h_15 eb_54
theorem d_X12_habit_3 : decode prog_14_method_133_code 3 = .ok (.invokestatic 323, 3) := gq_3 db00h_15 eb_913
theorem d_X12_habit_6 : decode prog_14_method_133_code 6 = .ok (.ifCond .eq 17, 3) := gq_4 db00h_15 eb_112
theorem d_X12_habit_9 : decode prog_14_method_133_code 9 = .ok (.iload_n 2, 1) := gq_5 db00h_15 eb_13
theorem d_X12_habit_10 : decode prog_14_method_133_code 10 = .ok (.iconst 0, 1) := gq_6 db00h_15 eb_21
theorem d_X12_habit_11 : decode prog_14_method_133_code 11 = .ok (.iconst 3, 1) := gq_7 db00h_15 eb_54
theorem d_X12_habit_12 : decode prog_14_method_133_code 12 = .ok (.invokestatic 323, 3) := gq_8 db00h_15 eb_913
theorem d_X12_habit_15 : decode prog_14_method_133_code 15 = .ok (.ifCond .eq 8, 3) := gq_9 db00h_15 eb_489
theorem d_X12_habit_18 : decode prog_14_method_133_code 18 = .ok (.iload_n 1, 1) := gq_10 db00h_15 eb_9
theorem d_X12_habit_19 : decode prog_14_method_133_code 19 = .ok (.iload_n 2, 1) := gq_11 db00h_15 eb_13
theorem d_X12_habit_20 : decode prog_14_method_133_code 20 = .ok (.if_icmp .ne 7, 3) := gq_12 db00h_15 eb_135
theorem d_X12_habit_23 : decode prog_14_method_133_code 23 = .ok (.ldc_w 688, 3) := gq_13 db00h_15 eb_1301
theorem d_X12_habit_26 : decode prog_14_method_133_code 26 = .ok (.ireturn, 1) := gq_14 db00h_15 eb_15
theorem d_X12_habit_27 : decode prog_14_method_133_code 27 = .ok (.iconst 0, 1) := gq_15 db00h_15 eb_21
theorem d_X12_habit_28 : decode prog_14_method_133_code 28 = .ok (.istore_n 3, 1) := gq_16 db00h_15 eb_28
theorem d_X12_habit_29 : decode prog_14_method_133_code 29 = .ok (.iconst 0, 1) := gq_17 db00h_15 eb_21
theorem d_X12_habit_30 : decode prog_14_method_133_code 30 = .ok (.istore 4, 2) := gq_18 db00h_15 eb_133
theorem d_X12_habit_32 : decode prog_14_method_133_code 32 = .ok (.iconst 0, 1) := gq_19 db00h_15 eb_21
theorem d_X12_habit_33 : decode prog_14_method_133_code 33 = .ok (.istore 5, 2) := gq_20 db00h_15 eb_134
theorem d_X12_habit_35 : decode prog_14_method_133_code 35 = .ok (.iload 5, 2) := gq_21 db00h_15 eb_125
theorem d_X12_habit_37 : decode prog_14_method_133_code 37 = .ok (.aload_n 0, 1) := gq_22 db00h_15 eb_0
theorem d_X12_habit_38 : decode prog_14_method_133_code 38 = .ok (.getfield 339, 3) := gq_23 db00h_15 eb_926
theorem db00h_16 : Pf_ prog_14_method_133_code [(41, [0xa2, 0x00, 0x48]), (44, [0x2a]), (45, [0xb4, 0x01, 0x3a]), (48, [0x10, 0x0c]), (50, [0x1b]), (51, [0x68]), (52, [0x15, 0x05]), (54, [0x60]), (55, [0x33]), (56, [0x99, 0x00, 0x33]), (59, [0x2a]), (60, [0xb4, 0x01, 0x3a]), (63, [0x10, 0x0c]), (65, [0x1c]), (66, [0x68]), (67, [0x15, 0x05]), (69, [0x60]), (70, [0x33]), (71, [0x99, 0x00, 0x24]), (74, [0x84, 0x03, 0x01]), (77, [0x15, 0x04]), (79, [0x2a]), (80, [0xb4, 0x01, 0x37]), (83, [0x10, 0x0c])] := pf_ok prog_14_method_133_code _ 41 (by decide +kernel)
theorem d_X12_habit_41 : decode prog_14_method_133_code 41 = .ok (.if_icmp .ge 72, 3) := gq_0 db00h_16 eb_308
theorem d_X12_habit_44 : decode prog_14_method_133_code 44 = .ok (.aload_n 0, 1) := gq_1 db00h_16 eb_0
theorem d_X12_habit_45 : decode prog_14_method_133_code 45 = .ok (.getfield 314, 3) := gq_2 db00h_16 eb_1303
theorem d_X12_habit_48 : decode prog_14_method_133_code 48 = .ok (.bipush 12, 2) := gq_3 db00h_16 eb_4
theorem d_X12_habit_50 : decode prog_14_method_133_code 50 = .ok (.iload_n 1, 1) := gq_4 db00h_16 eb_9
theorem d_X12_habit_51 : decode prog_14_method_133_code 51 = .ok (.imul, 1) := gq_5 db00h_16 eb_34
theorem d_X12_habit_52 : decode prog_14_method_133_code 52 = .ok (.iload 5, 2) := gq_6 db00h_16 eb_125
theorem d_X12_habit_54 : decode prog_14_method_133_code 54 = .ok (.iadd, 1) := gq_7 db00h_16 eb_35
theorem d_X12_habit_55 : decode prog_14_method_133_code 55 = .ok (.baload, 1) := gq_8 db00h_16 eb_248
theorem d_X12_habit_56 : decode prog_14_method_133_code 56 = .ok (.ifCond .eq 51, 3) := gq_9 db00h_16 eb_1217
theorem d_X12_habit_59 : decode prog_14_method_133_code 59 = .ok (.aload_n 0, 1) := gq_10 db00h_16 eb_0
theorem d_X12_habit_60 : decode prog_14_method_133_code 60 = .ok (.getfield 314, 3) := gq_11 db00h_16 eb_1303
theorem d_X12_habit_63 : decode prog_14_method_133_code 63 = .ok (.bipush 12, 2) := gq_12 db00h_16 eb_4
theorem d_X12_habit_65 : decode prog_14_method_133_code 65 = .ok (.iload_n 2, 1) := gq_13 db00h_16 eb_13
theorem d_X12_habit_66 : decode prog_14_method_133_code 66 = .ok (.imul, 1) := gq_14 db00h_16 eb_34
theorem d_X12_habit_67 : decode prog_14_method_133_code 67 = .ok (.iload 5, 2) := gq_15 db00h_16 eb_125
theorem d_X12_habit_69 : decode prog_14_method_133_code 69 = .ok (.iadd, 1) := gq_16 db00h_16 eb_35
theorem d_X12_habit_70 : decode prog_14_method_133_code 70 = .ok (.baload, 1) := gq_17 db00h_16 eb_248
theorem d_X12_habit_71 : decode prog_14_method_133_code 71 = .ok (.ifCond .eq 36, 3) := gq_18 db00h_16 eb_278
theorem d_X12_habit_74 : decode prog_14_method_133_code 74 = .ok (.iinc 3 1, 3) := gq_19 db00h_16 eb_42
theorem d_X12_habit_77 : decode prog_14_method_133_code 77 = .ok (.iload 4, 2) := gq_20 db00h_16 eb_76
theorem d_X12_habit_79 : decode prog_14_method_133_code 79 = .ok (.aload_n 0, 1) := gq_21 db00h_16 eb_0
theorem d_X12_habit_80 : decode prog_14_method_133_code 80 = .ok (.getfield 311, 3) := gq_22 db00h_16 eb_1302
theorem d_X12_habit_83 : decode prog_14_method_133_code 83 = .ok (.bipush 12, 2) := gq_23 db00h_16 eb_4
theorem db00h_17 : Pf_ prog_14_method_133_code [(85, [0x1b]), (86, [0x68]), (87, [0x15, 0x05]), (89, [0x60]), (90, [0x2e]), (91, [0x2a]), (92, [0xb4, 0x01, 0x37]), (95, [0x10, 0x0c]), (97, [0x1c]), (98, [0x68]), (99, [0x15, 0x05]), (101, [0x60]), (102, [0x2e]), (103, [0x64]), (104, [0x60]), (105, [0x36, 0x04]), (107, [0x84, 0x05, 0x01]), (110, [0xa7, 0xff, 0xb5]), (113, [0x1d]), (114, [0x2a]), (115, [0xb4, 0x01, 0x3d]), (118, [0xa2, 0x00, 0x09]), (121, [0x13, 0x02, 0xb0]), (124, [0xa7, 0x00, 0x05])] := pf_ok prog_14_method_133_code _ 85 (by decide +kernel)
theorem d_X12_habit_85 : decode prog_14_method_133_code 85 = .ok (.iload_n 1, 1) := gq_0 db00h_17 eb_9
theorem d_X12_habit_86 : decode prog_14_method_133_code 86 = .ok (.imul, 1) := gq_1 db00h_17 eb_34
theorem d_X12_habit_87 : decode prog_14_method_133_code 87 = .ok (.iload 5, 2) := gq_2 db00h_17 eb_125
theorem d_X12_habit_89 : decode prog_14_method_133_code 89 = .ok (.iadd, 1) := gq_3 db00h_17 eb_35
theorem d_X12_habit_90 : decode prog_14_method_133_code 90 = .ok (.iaload, 1) := gq_4 db00h_17 eb_37
theorem d_X12_habit_91 : decode prog_14_method_133_code 91 = .ok (.aload_n 0, 1) := gq_5 db00h_17 eb_0
theorem d_X12_habit_92 : decode prog_14_method_133_code 92 = .ok (.getfield 311, 3) := gq_6 db00h_17 eb_1302
theorem d_X12_habit_95 : decode prog_14_method_133_code 95 = .ok (.bipush 12, 2) := gq_7 db00h_17 eb_4
theorem d_X12_habit_97 : decode prog_14_method_133_code 97 = .ok (.iload_n 2, 1) := gq_8 db00h_17 eb_13
theorem d_X12_habit_98 : decode prog_14_method_133_code 98 = .ok (.imul, 1) := gq_9 db00h_17 eb_34
theorem d_X12_habit_99 : decode prog_14_method_133_code 99 = .ok (.iload 5, 2) := gq_10 db00h_17 eb_125
theorem d_X12_habit_101 : decode prog_14_method_133_code 101 = .ok (.iadd, 1) := gq_11 db00h_17 eb_35
theorem d_X12_habit_102 : decode prog_14_method_133_code 102 = .ok (.iaload, 1) := gq_12 db00h_17 eb_37
theorem d_X12_habit_103 : decode prog_14_method_133_code 103 = .ok (.isub, 1) := gq_13 db00h_17 eb_48
theorem d_X12_habit_104 : decode prog_14_method_133_code 104 = .ok (.iadd, 1) := gq_14 db00h_17 eb_35
theorem d_X12_habit_105 : decode prog_14_method_133_code 105 = .ok (.istore 4, 2) := gq_15 db00h_17 eb_133
theorem d_X12_habit_107 : decode prog_14_method_133_code 107 = .ok (.iinc 5 1, 3) := gq_16 db00h_17 eb_220
theorem d_X12_habit_110 : decode prog_14_method_133_code 110 = .ok (.goto (-75), 3) := gq_17 db00h_17 eb_313
theorem d_X12_habit_113 : decode prog_14_method_133_code 113 = .ok (.iload_n 3, 1) := gq_18 db00h_17 eb_29
theorem d_X12_habit_114 : decode prog_14_method_133_code 114 = .ok (.aload_n 0, 1) := gq_19 db00h_17 eb_0
theorem d_X12_habit_115 : decode prog_14_method_133_code 115 = .ok (.getfield 317, 3) := gq_20 db00h_17 eb_1304
theorem d_X12_habit_118 : decode prog_14_method_133_code 118 = .ok (.if_icmp .ge 9, 3) := gq_21 db00h_17 eb_1305
theorem d_X12_habit_121 : decode prog_14_method_133_code 121 = .ok (.ldc_w 688, 3) := gq_22 db00h_17 eb_1301
theorem d_X12_habit_124 : decode prog_14_method_133_code 124 = .ok (.goto 5, 3) := gq_23 db00h_17 eb_89
theorem db00h_18 : Pf_ prog_14_method_133_code [(127, [0x15, 0x04]), (129, [0xac])] := pf_ok prog_14_method_133_code _ 127 (by decide +kernel)
theorem d_X12_habit_127 : decode prog_14_method_133_code 127 = .ok (.iload 4, 2) := gq_0 db00h_18 eb_76
theorem d_X12_habit_129 : decode prog_14_method_133_code 129 = .ok (.ireturn, 1) := gq_1 db00h_18 eb_15
theorem db00h_19 : Pf_ prog_14_method_134_code [(0, [0x03]), (1, [0x3d]), (2, [0x03]), (3, [0x3e]), (4, [0x03]), (5, [0x36, 0x04]), (7, [0x15, 0x04]), (9, [0x2a]), (10, [0xb4, 0x02, 0x32]), (13, [0xa2, 0x00, 0x1b]), (16, [0x1c]), (17, [0x2a]), (18, [0xb4, 0x00, 0xaf]), (21, [0x15, 0x04]), (23, [0x33]), (24, [0x99, 0x00, 0x07]), (27, [0x04]), (28, [0xa7, 0x00, 0x04]), (31, [0x03]), (32, [0x60]), (33, [0x3d]), (34, [0x84, 0x04, 0x01]), (37, [0xa7, 0xff, 0xe2]), (40, [0x03])] := pf_ok prog_14_method_134_code _ 0 (by decide +kernel)
theorem d_X12_count_0 : decode prog_14_method_134_code 0 = .ok (.iconst 0, 1) := gq_0 db00h_19 eb_21
theorem d_X12_count_1 : decode prog_14_method_134_code 1 = .ok (.istore_n 2, 1) := gq_1 db00h_19 eb_27
theorem d_X12_count_2 : decode prog_14_method_134_code 2 = .ok (.iconst 0, 1) := gq_2 db00h_19 eb_21
theorem d_X12_count_3 : decode prog_14_method_134_code 3 = .ok (.istore_n 3, 1) := gq_3 db00h_19 eb_28
theorem d_X12_count_4 : decode prog_14_method_134_code 4 = .ok (.iconst 0, 1) := gq_4 db00h_19 eb_21
theorem d_X12_count_5 : decode prog_14_method_134_code 5 = .ok (.istore 4, 2) := gq_5 db00h_19 eb_133
theorem d_X12_count_7 : decode prog_14_method_134_code 7 = .ok (.iload 4, 2) := gq_6 db00h_19 eb_76
theorem d_X12_count_9 : decode prog_14_method_134_code 9 = .ok (.aload_n 0, 1) := gq_7 db00h_19 eb_0
theorem d_X12_count_10 : decode prog_14_method_134_code 10 = .ok (.getfield 562, 3) := gq_8 db00h_19 eb_1125
theorem d_X12_count_13 : decode prog_14_method_134_code 13 = .ok (.if_icmp .ge 27, 3) := gq_9 db00h_19 eb_336
theorem d_X12_count_16 : decode prog_14_method_134_code 16 = .ok (.iload_n 2, 1) := gq_10 db00h_19 eb_13
theorem d_X12_count_17 : decode prog_14_method_134_code 17 = .ok (.aload_n 0, 1) := gq_11 db00h_19 eb_0
theorem d_X12_count_18 : decode prog_14_method_134_code 18 = .ok (.getfield 175, 3) := gq_12 db00h_19 eb_1137
theorem d_X12_count_21 : decode prog_14_method_134_code 21 = .ok (.iload 4, 2) := gq_13 db00h_19 eb_76
theorem d_X12_count_23 : decode prog_14_method_134_code 23 = .ok (.baload, 1) := gq_14 db00h_19 eb_248
theorem d_X12_count_24 : decode prog_14_method_134_code 24 = .ok (.ifCond .eq 7, 3) := gq_15 db00h_19 eb_123
theorem d_X12_count_27 : decode prog_14_method_134_code 27 = .ok (.iconst 1, 1) := gq_16 db00h_19 eb_19
theorem d_X12_count_28 : decode prog_14_method_134_code 28 = .ok (.goto 4, 3) := gq_17 db00h_19 eb_20
theorem d_X12_count_31 : decode prog_14_method_134_code 31 = .ok (.iconst 0, 1) := gq_18 db00h_19 eb_21
theorem d_X12_count_32 : decode prog_14_method_134_code 32 = .ok (.iadd, 1) := gq_19 db00h_19 eb_35
theorem d_X12_count_33 : decode prog_14_method_134_code 33 = .ok (.istore_n 2, 1) := gq_20 db00h_19 eb_27
theorem d_X12_count_34 : decode prog_14_method_134_code 34 = .ok (.iinc 4 1, 3) := gq_21 db00h_19 eb_144
theorem d_X12_count_37 : decode prog_14_method_134_code 37 = .ok (.goto (-30), 3) := gq_22 db00h_19 eb_1306
theorem d_X12_count_40 : decode prog_14_method_134_code 40 = .ok (.iconst 0, 1) := gq_23 db00h_19 eb_21
theorem d_X12_count_69 : decode prog_14_method_134_code 69 = .ok (.tableswitch 184 0 18 #[91, 96, 101, 106, 111, 116, 121, 123, 130, 135, 140, 145, 150, 155, 160, 165, 172, 177, 179], 91) := by decide +kernel
theorem db00h_20 : Pf_ prog_14_method_134_code [(41, [0x36, 0x04]), (43, [0x15, 0x04]), (45, [0x2a]), (46, [0xb4, 0x02, 0xad]), (49, [0xa2, 0x00, 0x13]), (52, [0x1d]), (53, [0x2a]), (54, [0xb4, 0x01, 0x31]), (57, [0x15, 0x04]), (59, [0x2e]), (60, [0x60]), (61, [0x3e]), (62, [0x84, 0x04, 0x01]), (65, [0xa7, 0xff, 0xea]), (68, [0x1b]), (160, [0x2a]), (161, [0xb4, 0x01, 0x56]), (164, [0xac]), (165, [0x2a]), (166, [0xb4, 0x01, 0x4b]), (169, [0xac]), (170, [0x2a]), (171, [0xb4, 0x01, 0x53]), (174, [0xac])] := pf_ok prog_14_method_134_code _ 41 (by decide +kernel)
theorem d_X12_count_41 : decode prog_14_method_134_code 41 = .ok (.istore 4, 2) := gq_0 db00h_20 eb_133
theorem d_X12_count_43 : decode prog_14_method_134_code 43 = .ok (.iload 4, 2) := gq_1 db00h_20 eb_76
theorem d_X12_count_45 : decode prog_14_method_134_code 45 = .ok (.aload_n 0, 1) := gq_2 db00h_20 eb_0
theorem d_X12_count_46 : decode prog_14_method_134_code 46 = .ok (.getfield 685, 3) := gq_3 db00h_20 eb_1293
theorem d_X12_count_49 : decode prog_14_method_134_code 49 = .ok (.if_icmp .ge 19, 3) := gq_4 db00h_20 eb_1307
theorem d_X12_count_52 : decode prog_14_method_134_code 52 = .ok (.iload_n 3, 1) := gq_5 db00h_20 eb_29
theorem d_X12_count_53 : decode prog_14_method_134_code 53 = .ok (.aload_n 0, 1) := gq_6 db00h_20 eb_0
theorem d_X12_count_54 : decode prog_14_method_134_code 54 = .ok (.getfield 305, 3) := gq_7 db00h_20 eb_1298
theorem d_X12_count_57 : decode prog_14_method_134_code 57 = .ok (.iload 4, 2) := gq_8 db00h_20 eb_76
theorem d_X12_count_59 : decode prog_14_method_134_code 59 = .ok (.iaload, 1) := gq_9 db00h_20 eb_37
theorem d_X12_count_60 : decode prog_14_method_134_code 60 = .ok (.iadd, 1) := gq_10 db00h_20 eb_35
theorem d_X12_count_61 : decode prog_14_method_134_code 61 = .ok (.istore_n 3, 1) := gq_11 db00h_20 eb_28
theorem d_X12_count_62 : decode prog_14_method_134_code 62 = .ok (.iinc 4 1, 3) := gq_12 db00h_20 eb_144
theorem d_X12_count_65 : decode prog_14_method_134_code 65 = .ok (.goto (-22), 3) := gq_13 db00h_20 eb_984
theorem d_X12_count_68 : decode prog_14_method_134_code 68 = .ok (.iload_n 1, 1) := gq_14 db00h_20 eb_9
theorem d_X12_count_160 : decode prog_14_method_134_code 160 = .ok (.aload_n 0, 1) := gq_15 db00h_20 eb_0
theorem d_X12_count_161 : decode prog_14_method_134_code 161 = .ok (.getfield 342, 3) := gq_16 db00h_20 eb_928
theorem d_X12_count_164 : decode prog_14_method_134_code 164 = .ok (.ireturn, 1) := gq_17 db00h_20 eb_15
theorem d_X12_count_165 : decode prog_14_method_134_code 165 = .ok (.aload_n 0, 1) := gq_18 db00h_20 eb_0
theorem d_X12_count_166 : decode prog_14_method_134_code 166 = .ok (.getfield 331, 3) := gq_19 db00h_20 eb_915
theorem d_X12_count_169 : decode prog_14_method_134_code 169 = .ok (.ireturn, 1) := gq_20 db00h_20 eb_15
theorem d_X12_count_170 : decode prog_14_method_134_code 170 = .ok (.aload_n 0, 1) := gq_21 db00h_20 eb_0
theorem d_X12_count_171 : decode prog_14_method_134_code 171 = .ok (.getfield 339, 3) := gq_22 db00h_20 eb_926
theorem d_X12_count_174 : decode prog_14_method_134_code 174 = .ok (.ireturn, 1) := gq_23 db00h_20 eb_15
theorem db00h_21 : Pf_ prog_14_method_134_code [(175, [0x2a]), (176, [0xb4, 0x01, 0x9d]), (179, [0xac]), (180, [0x2a]), (181, [0xb4, 0x01, 0xfb]), (184, [0xac]), (185, [0x2a]), (186, [0xb4, 0x02, 0x32]), (189, [0xac]), (190, [0x1c]), (191, [0xac]), (192, [0x2a]), (193, [0xb4, 0x00, 0x75]), (196, [0x03]), (197, [0x2e]), (198, [0xac]), (199, [0x2a]), (200, [0xb4, 0x02, 0x04]), (203, [0xac]), (204, [0x2a]), (205, [0xb4, 0x02, 0x40]), (208, [0xac]), (209, [0x2a]), (210, [0xb4, 0x02, 0x4f])] := pf_ok prog_14_method_134_code _ 175 (by decide +kernel)
theorem d_X12_count_175 : decode prog_14_method_134_code 175 = .ok (.aload_n 0, 1) := gq_0 db00h_21 eb_0
theorem d_X12_count_176 : decode prog_14_method_134_code 176 = .ok (.getfield 413, 3) := gq_1 db00h_21 eb_987
theorem d_X12_count_179 : decode prog_14_method_134_code 179 = .ok (.ireturn, 1) := gq_2 db00h_21 eb_15
theorem d_X12_count_180 : decode prog_14_method_134_code 180 = .ok (.aload_n 0, 1) := gq_3 db00h_21 eb_0
theorem d_X12_count_181 : decode prog_14_method_134_code 181 = .ok (.getfield 507, 3) := gq_4 db00h_21 eb_1067
theorem d_X12_count_184 : decode prog_14_method_134_code 184 = .ok (.ireturn, 1) := gq_5 db00h_21 eb_15
theorem d_X12_count_185 : decode prog_14_method_134_code 185 = .ok (.aload_n 0, 1) := gq_6 db00h_21 eb_0
theorem d_X12_count_186 : decode prog_14_method_134_code 186 = .ok (.getfield 562, 3) := gq_7 db00h_21 eb_1125
theorem d_X12_count_189 : decode prog_14_method_134_code 189 = .ok (.ireturn, 1) := gq_8 db00h_21 eb_15
theorem d_X12_count_190 : decode prog_14_method_134_code 190 = .ok (.iload_n 2, 1) := gq_9 db00h_21 eb_13
theorem d_X12_count_191 : decode prog_14_method_134_code 191 = .ok (.ireturn, 1) := gq_10 db00h_21 eb_15
theorem d_X12_count_192 : decode prog_14_method_134_code 192 = .ok (.aload_n 0, 1) := gq_11 db00h_21 eb_0
theorem d_X12_count_193 : decode prog_14_method_134_code 193 = .ok (.getfield 117, 3) := gq_12 db00h_21 eb_1031
theorem d_X12_count_196 : decode prog_14_method_134_code 196 = .ok (.iconst 0, 1) := gq_13 db00h_21 eb_21
theorem d_X12_count_197 : decode prog_14_method_134_code 197 = .ok (.iaload, 1) := gq_14 db00h_21 eb_37
theorem d_X12_count_198 : decode prog_14_method_134_code 198 = .ok (.ireturn, 1) := gq_15 db00h_21 eb_15
theorem d_X12_count_199 : decode prog_14_method_134_code 199 = .ok (.aload_n 0, 1) := gq_16 db00h_21 eb_0
theorem d_X12_count_200 : decode prog_14_method_134_code 200 = .ok (.getfield 516, 3) := gq_17 db00h_21 eb_1073
theorem d_X12_count_203 : decode prog_14_method_134_code 203 = .ok (.ireturn, 1) := gq_18 db00h_21 eb_15
theorem d_X12_count_204 : decode prog_14_method_134_code 204 = .ok (.aload_n 0, 1) := gq_19 db00h_21 eb_0
theorem d_X12_count_205 : decode prog_14_method_134_code 205 = .ok (.getfield 576, 3) := gq_20 db00h_21 eb_1146
theorem d_X12_count_208 : decode prog_14_method_134_code 208 = .ok (.ireturn, 1) := gq_21 db00h_21 eb_15
theorem d_X12_count_209 : decode prog_14_method_134_code 209 = .ok (.aload_n 0, 1) := gq_22 db00h_21 eb_0
theorem d_X12_count_210 : decode prog_14_method_134_code 210 = .ok (.getfield 591, 3) := gq_23 db00h_21 eb_1160
theorem db00h_22 : Pf_ prog_14_method_134_code [(213, [0xac]), (214, [0x2a]), (215, [0xb4, 0x02, 0x6c]), (218, [0xac]), (219, [0x2a]), (220, [0xb4, 0x02, 0x6f]), (223, [0xac]), (224, [0x2a]), (225, [0xb4, 0x02, 0x81]), (228, [0xac]), (229, [0x2a]), (230, [0xb4, 0x02, 0x99]), (233, [0xac]), (234, [0x2a]), (235, [0xb4, 0x00, 0x75]), (238, [0x04]), (239, [0x2e]), (240, [0xac]), (241, [0x2a]), (242, [0xb4, 0x02, 0xad]), (245, [0xac]), (246, [0x1d]), (247, [0xac]), (248, [0x2a])] := pf_ok prog_14_method_134_code _ 213 (by decide +kernel)
theorem d_X12_count_213 : decode prog_14_method_134_code 213 = .ok (.ireturn, 1) := gq_0 db00h_22 eb_15
theorem d_X12_count_214 : decode prog_14_method_134_code 214 = .ok (.aload_n 0, 1) := gq_1 db00h_22 eb_0
theorem d_X12_count_215 : decode prog_14_method_134_code 215 = .ok (.getfield 620, 3) := gq_2 db00h_22 eb_1195
theorem d_X12_count_218 : decode prog_14_method_134_code 218 = .ok (.ireturn, 1) := gq_3 db00h_22 eb_15
theorem d_X12_count_219 : decode prog_14_method_134_code 219 = .ok (.aload_n 0, 1) := gq_4 db00h_22 eb_0
theorem d_X12_count_220 : decode prog_14_method_134_code 220 = .ok (.getfield 623, 3) := gq_5 db00h_22 eb_1196
theorem d_X12_count_223 : decode prog_14_method_134_code 223 = .ok (.ireturn, 1) := gq_6 db00h_22 eb_15
theorem d_X12_count_224 : decode prog_14_method_134_code 224 = .ok (.aload_n 0, 1) := gq_7 db00h_22 eb_0
theorem d_X12_count_225 : decode prog_14_method_134_code 225 = .ok (.getfield 641, 3) := gq_8 db00h_22 eb_1223
theorem d_X12_count_228 : decode prog_14_method_134_code 228 = .ok (.ireturn, 1) := gq_9 db00h_22 eb_15
theorem d_X12_count_229 : decode prog_14_method_134_code 229 = .ok (.aload_n 0, 1) := gq_10 db00h_22 eb_0
theorem d_X12_count_230 : decode prog_14_method_134_code 230 = .ok (.getfield 665, 3) := gq_11 db00h_22 eb_1255
theorem d_X12_count_233 : decode prog_14_method_134_code 233 = .ok (.ireturn, 1) := gq_12 db00h_22 eb_15
theorem d_X12_count_234 : decode prog_14_method_134_code 234 = .ok (.aload_n 0, 1) := gq_13 db00h_22 eb_0
theorem d_X12_count_235 : decode prog_14_method_134_code 235 = .ok (.getfield 117, 3) := gq_14 db00h_22 eb_1031
theorem d_X12_count_238 : decode prog_14_method_134_code 238 = .ok (.iconst 1, 1) := gq_15 db00h_22 eb_19
theorem d_X12_count_239 : decode prog_14_method_134_code 239 = .ok (.iaload, 1) := gq_16 db00h_22 eb_37
theorem d_X12_count_240 : decode prog_14_method_134_code 240 = .ok (.ireturn, 1) := gq_17 db00h_22 eb_15
theorem d_X12_count_241 : decode prog_14_method_134_code 241 = .ok (.aload_n 0, 1) := gq_18 db00h_22 eb_0
theorem d_X12_count_242 : decode prog_14_method_134_code 242 = .ok (.getfield 685, 3) := gq_19 db00h_22 eb_1293
theorem d_X12_count_245 : decode prog_14_method_134_code 245 = .ok (.ireturn, 1) := gq_20 db00h_22 eb_15
theorem d_X12_count_246 : decode prog_14_method_134_code 246 = .ok (.iload_n 3, 1) := gq_21 db00h_22 eb_29
theorem d_X12_count_247 : decode prog_14_method_134_code 247 = .ok (.ireturn, 1) := gq_22 db00h_22 eb_15
theorem d_X12_count_248 : decode prog_14_method_134_code 248 = .ok (.aload_n 0, 1) := gq_23 db00h_22 eb_0
theorem db00h_23 : Pf_ prog_14_method_134_code [(249, [0xb4, 0x01, 0x6a]), (252, [0xac]), (253, [0x02]), (254, [0xac])] := pf_ok prog_14_method_134_code _ 249 (by decide +kernel)
theorem d_X12_count_249 : decode prog_14_method_134_code 249 = .ok (.getfield 362, 3) := gq_0 db00h_23 eb_943
theorem d_X12_count_252 : decode prog_14_method_134_code 252 = .ok (.ireturn, 1) := gq_1 db00h_23 eb_15
theorem d_X12_count_253 : decode prog_14_method_134_code 253 = .ok (.iconst (-1), 1) := gq_2 db00h_23 eb_26
theorem d_X12_count_254 : decode prog_14_method_134_code 254 = .ok (.ireturn, 1) := gq_3 db00h_23 eb_15
theorem d_J6_bitCount_0f7a4_3 : decode prog_18_method_49_code 3 = .ok (.iushr, 1) := by decide +kernel
theorem d_J6_bitCount_0f7a4_17 : decode prog_18_method_49_code 17 = .ok (.iushr, 1) := by decide +kernel
theorem d_J6_bitCount_0f7a4_27 : decode prog_18_method_49_code 27 = .ok (.iushr, 1) := by decide +kernel
theorem db00h_27 : Pf_ prog_18_method_49_code [(0, [0x1a]), (1, [0x1a]), (2, [0x04]), (4, [0x13, 0x01, 0x09]), (7, [0x7e]), (8, [0x64]), (9, [0x3b]), (10, [0x1a]), (11, [0x13, 0x01, 0x0a]), (14, [0x7e]), (15, [0x1a]), (16, [0x05]), (18, [0x13, 0x01, 0x0a]), (21, [0x7e]), (22, [0x60]), (23, [0x3b]), (24, [0x1a]), (25, [0x1a]), (26, [0x07]), (28, [0x60]), (29, [0x13, 0x01, 0x0b]), (32, [0x7e]), (33, [0x3b]), (34, [0x1a])] := pf_ok prog_18_method_49_code _ 0 (by decide +kernel)
theorem d_J6_bitCount_0f7a4_0 : decode prog_18_method_49_code 0 = .ok (.iload_n 0, 1) := gq_0 db00h_27 eb_8
theorem d_J6_bitCount_0f7a4_1 : decode prog_18_method_49_code 1 = .ok (.iload_n 0, 1) := gq_1 db00h_27 eb_8
theorem d_J6_bitCount_0f7a4_2 : decode prog_18_method_49_code 2 = .ok (.iconst 1, 1) := gq_2 db00h_27 eb_19
theorem d_J6_bitCount_0f7a4_4 : decode prog_18_method_49_code 4 = .ok (.ldc_w 265, 3) := gq_3 db00h_27 eb_1310
theorem d_J6_bitCount_0f7a4_7 : decode prog_18_method_49_code 7 = .ok (.iand, 1) := gq_4 db00h_27 eb_55
theorem d_J6_bitCount_0f7a4_8 : decode prog_18_method_49_code 8 = .ok (.isub, 1) := gq_5 db00h_27 eb_48
theorem d_J6_bitCount_0f7a4_9 : decode prog_18_method_49_code 9 = .ok (.istore_n 0, 1) := gq_6 db00h_27 eb_1311
theorem d_J6_bitCount_0f7a4_10 : decode prog_18_method_49_code 10 = .ok (.iload_n 0, 1) := gq_7 db00h_27 eb_8
theorem d_J6_bitCount_0f7a4_11 : decode prog_18_method_49_code 11 = .ok (.ldc_w 266, 3) := gq_8 db00h_27 eb_1312
theorem d_J6_bitCount_0f7a4_14 : decode prog_18_method_49_code 14 = .ok (.iand, 1) := gq_9 db00h_27 eb_55
theorem d_J6_bitCount_0f7a4_15 : decode prog_18_method_49_code 15 = .ok (.iload_n 0, 1) := gq_10 db00h_27 eb_8
theorem d_J6_bitCount_0f7a4_16 : decode prog_18_method_49_code 16 = .ok (.iconst 2, 1) := gq_11 db00h_27 eb_10
theorem d_J6_bitCount_0f7a4_18 : decode prog_18_method_49_code 18 = .ok (.ldc_w 266, 3) := gq_12 db00h_27 eb_1312
theorem d_J6_bitCount_0f7a4_21 : decode prog_18_method_49_code 21 = .ok (.iand, 1) := gq_13 db00h_27 eb_55
theorem d_J6_bitCount_0f7a4_22 : decode prog_18_method_49_code 22 = .ok (.iadd, 1) := gq_14 db00h_27 eb_35
theorem d_J6_bitCount_0f7a4_23 : decode prog_18_method_49_code 23 = .ok (.istore_n 0, 1) := gq_15 db00h_27 eb_1311
theorem d_J6_bitCount_0f7a4_24 : decode prog_18_method_49_code 24 = .ok (.iload_n 0, 1) := gq_16 db00h_27 eb_8
theorem d_J6_bitCount_0f7a4_25 : decode prog_18_method_49_code 25 = .ok (.iload_n 0, 1) := gq_17 db00h_27 eb_8
theorem d_J6_bitCount_0f7a4_26 : decode prog_18_method_49_code 26 = .ok (.iconst 4, 1) := gq_18 db00h_27 eb_291
theorem d_J6_bitCount_0f7a4_28 : decode prog_18_method_49_code 28 = .ok (.iadd, 1) := gq_19 db00h_27 eb_35
theorem d_J6_bitCount_0f7a4_29 : decode prog_18_method_49_code 29 = .ok (.ldc_w 267, 3) := gq_20 db00h_27 eb_1313
theorem d_J6_bitCount_0f7a4_32 : decode prog_18_method_49_code 32 = .ok (.iand, 1) := gq_21 db00h_27 eb_55
theorem d_J6_bitCount_0f7a4_33 : decode prog_18_method_49_code 33 = .ok (.istore_n 0, 1) := gq_22 db00h_27 eb_1311
theorem d_J6_bitCount_0f7a4_34 : decode prog_18_method_49_code 34 = .ok (.iload_n 0, 1) := gq_23 db00h_27 eb_8
theorem d_J6_bitCount_0f7a4_38 : decode prog_18_method_49_code 38 = .ok (.iushr, 1) := by decide +kernel
theorem d_J6_bitCount_0f7a4_45 : decode prog_18_method_49_code 45 = .ok (.iushr, 1) := by decide +kernel
theorem db00h_28 : Pf_ prog_18_method_49_code [(35, [0x1a]), (36, [0x10, 0x08]), (39, [0x60]), (40, [0x3b]), (41, [0x1a]), (42, [0x1a]), (43, [0x10, 0x10]), (46, [0x60]), (47, [0x3b]), (48, [0x1a]), (49, [0x10, 0x3f]), (51, [0x7e]), (52, [0xac])] := pf_ok prog_18_method_49_code _ 35 (by decide +kernel)
theorem d_J6_bitCount_0f7a4_35 : decode prog_18_method_49_code 35 = .ok (.iload_n 0, 1) := gq_0 db00h_28 eb_8
theorem d_J6_bitCount_0f7a4_36 : decode prog_18_method_49_code 36 = .ok (.bipush 8, 2) := gq_1 db00h_28 eb_94
theorem d_J6_bitCount_0f7a4_39 : decode prog_18_method_49_code 39 = .ok (.iadd, 1) := gq_2 db00h_28 eb_35
theorem d_J6_bitCount_0f7a4_40 : decode prog_18_method_49_code 40 = .ok (.istore_n 0, 1) := gq_3 db00h_28 eb_1311
theorem d_J6_bitCount_0f7a4_41 : decode prog_18_method_49_code 41 = .ok (.iload_n 0, 1) := gq_4 db00h_28 eb_8
theorem d_J6_bitCount_0f7a4_42 : decode prog_18_method_49_code 42 = .ok (.iload_n 0, 1) := gq_5 db00h_28 eb_8
theorem d_J6_bitCount_0f7a4_43 : decode prog_18_method_49_code 43 = .ok (.bipush 16, 2) := gq_6 db00h_28 eb_99
theorem d_J6_bitCount_0f7a4_46 : decode prog_18_method_49_code 46 = .ok (.iadd, 1) := gq_7 db00h_28 eb_35
theorem d_J6_bitCount_0f7a4_47 : decode prog_18_method_49_code 47 = .ok (.istore_n 0, 1) := gq_8 db00h_28 eb_1311
theorem d_J6_bitCount_0f7a4_48 : decode prog_18_method_49_code 48 = .ok (.iload_n 0, 1) := gq_9 db00h_28 eb_8
theorem d_J6_bitCount_0f7a4_49 : decode prog_18_method_49_code 49 = .ok (.bipush 63, 2) := gq_10 db00h_28 eb_497
theorem d_J6_bitCount_0f7a4_51 : decode prog_18_method_49_code 51 = .ok (.iand, 1) := gq_11 db00h_28 eb_55
theorem d_J6_bitCount_0f7a4_52 : decode prog_18_method_49_code 52 = .ok (.ireturn, 1) := gq_12 db00h_28 eb_15
theorem db00h_33 : Pf_ prog_21_method_54_code [(0, [0x2a]), (1, [0xb4, 0x00, 0x09]), (4, [0xbe]), (5, [0x2a]), (6, [0xb6, 0x01, 0x4f]), (9, [0x7a]), (10, [0xac])] := pf_ok prog_21_method_54_code _ 0 (by decide +kernel)
theorem d_J0_length_8abf5_0 : decode prog_21_method_54_code 0 = .ok (.aload_n 0, 1) := gq_0 db00h_33 eb_0
theorem d_J0_length_8abf5_1 : decode prog_21_method_54_code 1 = .ok (.getfield 9, 3) := gq_1 db00h_33 eb_544
theorem d_J0_length_8abf5_4 : decode prog_21_method_54_code 4 = .ok (.arraylength, 1) := gq_2 db00h_33 eb_52
theorem d_J0_length_8abf5_5 : decode prog_21_method_54_code 5 = .ok (.aload_n 0, 1) := gq_3 db00h_33 eb_0
theorem d_J0_length_8abf5_6 : decode prog_21_method_54_code 6 = .ok (.invokevirtual 335, 3) := gq_4 db00h_33 eb_925
theorem d_J0_length_8abf5_9 : decode prog_21_method_54_code 9 = .ok (.ishr, 1) := gq_5 db00h_33 eb_56
theorem d_J0_length_8abf5_10 : decode prog_21_method_54_code 10 = .ok (.ireturn, 1) := gq_6 db00h_33 eb_15
theorem db00h_34 : Pf_ prog_21_method_56_code [(0, [0x2a]), (1, [0xb6, 0x01, 0xec]), (4, [0x99, 0x00, 0x0c]), (7, [0x2a]), (8, [0xb4, 0x00, 0x09]), (11, [0x1b]), (12, [0xb8, 0x01, 0xef]), (15, [0xac]), (16, [0x2a]), (17, [0xb4, 0x00, 0x09]), (20, [0x1b]), (21, [0xb8, 0x01, 0xf2]), (24, [0xac])] := pf_ok prog_21_method_56_code _ 0 (by decide +kernel)
theorem d_J0_charAt_5068e_0 : decode prog_21_method_56_code 0 = .ok (.aload_n 0, 1) := gq_0 db00h_34 eb_0
theorem d_J0_charAt_5068e_1 : decode prog_21_method_56_code 1 = .ok (.invokevirtual 492, 3) := gq_1 db00h_34 eb_1317
theorem d_J0_charAt_5068e_4 : decode prog_21_method_56_code 4 = .ok (.ifCond .eq 12, 3) := gq_2 db00h_34 eb_50
theorem d_J0_charAt_5068e_7 : decode prog_21_method_56_code 7 = .ok (.aload_n 0, 1) := gq_3 db00h_34 eb_0
theorem d_J0_charAt_5068e_8 : decode prog_21_method_56_code 8 = .ok (.getfield 9, 3) := gq_4 db00h_34 eb_544
theorem d_J0_charAt_5068e_11 : decode prog_21_method_56_code 11 = .ok (.iload_n 1, 1) := gq_5 db00h_34 eb_9
theorem d_J0_charAt_5068e_12 : decode prog_21_method_56_code 12 = .ok (.invokestatic 495, 3) := gq_6 db00h_34 eb_1318
theorem d_J0_charAt_5068e_15 : decode prog_21_method_56_code 15 = .ok (.ireturn, 1) := gq_7 db00h_34 eb_15
theorem db00h_35 : Pf_ prog_21_method_79_code [(0, [0x2a]), (1, [0x1b]), (2, [0x03]), (3, [0xb6, 0x02, 0x79]), (6, [0xac])] := pf_ok prog_21_method_79_code _ 0 (by decide +kernel)
theorem d_J0_indexOf_0f7a4_0 : decode prog_21_method_79_code 0 = .ok (.aload_n 0, 1) := gq_0 db00h_35 eb_0
theorem d_J0_indexOf_0f7a4_1 : decode prog_21_method_79_code 1 = .ok (.iload_n 1, 1) := gq_1 db00h_35 eb_9
theorem d_J0_indexOf_0f7a4_2 : decode prog_21_method_79_code 2 = .ok (.iconst 0, 1) := gq_2 db00h_35 eb_21
theorem d_J0_indexOf_0f7a4_3 : decode prog_21_method_79_code 3 = .ok (.invokevirtual 633, 3) := gq_3 db00h_35 eb_1320
theorem d_J0_indexOf_0f7a4_6 : decode prog_21_method_79_code 6 = .ok (.ireturn, 1) := gq_4 db00h_35 eb_15
theorem d_J0_coder_7d493_0 : decode prog_21_method_152_code 0 = .ok (.getstatic 38, 3) := by decide +kernel
theorem db00h_36 : Pf_ prog_21_method_80_code [(0, [0x2a]), (1, [0xb6, 0x01, 0xec]), (4, [0x99, 0x00, 0x13]), (7, [0x2a]), (8, [0xb4, 0x00, 0x09]), (11, [0x1b]), (12, [0x1c]), (13, [0x2a]), (14, [0xb6, 0x01, 0xf9]), (17, [0xb8, 0x02, 0x7d]), (20, [0xa7, 0x00, 0x10]), (23, [0x2a]), (24, [0xb4, 0x00, 0x09]), (27, [0x1b]), (28, [0x1c]), (29, [0x2a]), (30, [0xb6, 0x01, 0xf9]), (33, [0xb8, 0x02, 0x80]), (36, [0xac])] := pf_ok prog_21_method_80_code _ 0 (by decide +kernel)
theorem d_J0_indexOf_7cf53_0 : decode prog_21_method_80_code 0 = .ok (.aload_n 0, 1) := gq_0 db00h_36 eb_0
theorem d_J0_indexOf_7cf53_1 : decode prog_21_method_80_code 1 = .ok (.invokevirtual 492, 3) := gq_1 db00h_36 eb_1317
theorem d_J0_indexOf_7cf53_4 : decode prog_21_method_80_code 4 = .ok (.ifCond .eq 19, 3) := gq_2 db00h_36 eb_670
theorem d_J0_indexOf_7cf53_7 : decode prog_21_method_80_code 7 = .ok (.aload_n 0, 1) := gq_3 db00h_36 eb_0
theorem d_J0_indexOf_7cf53_8 : decode prog_21_method_80_code 8 = .ok (.getfield 9, 3) := gq_4 db00h_36 eb_544
theorem d_J0_indexOf_7cf53_11 : decode prog_21_method_80_code 11 = .ok (.iload_n 1, 1) := gq_5 db00h_36 eb_9
theorem d_J0_indexOf_7cf53_12 : decode prog_21_method_80_code 12 = .ok (.iload_n 2, 1) := gq_6 db00h_36 eb_13
theorem d_J0_indexOf_7cf53_13 : decode prog_21_method_80_code 13 = .ok (.aload_n 0, 1) := gq_7 db00h_36 eb_0
theorem d_J0_indexOf_7cf53_14 : decode prog_21_method_80_code 14 = .ok (.invokevirtual 505, 3) := gq_8 db00h_36 eb_1321
theorem d_J0_indexOf_7cf53_17 : decode prog_21_method_80_code 17 = .ok (.invokestatic 637, 3) := gq_9 db00h_36 eb_1322
theorem d_J0_indexOf_7cf53_20 : decode prog_21_method_80_code 20 = .ok (.goto 16, 3) := gq_10 db00h_36 eb_527
theorem d_J0_indexOf_7cf53_36 : decode prog_21_method_80_code 36 = .ok (.ireturn, 1) := gq_18 db00h_36 eb_15
theorem d_J0_isLatin1_aae02_0 : decode prog_21_method_154_code 0 = .ok (.getstatic 38, 3) := by decide +kernel
theorem db00h_37 : Pf_ prog_21_method_152_code [(3, [0x99, 0x00, 0x0a]), (6, [0x2a]), (7, [0xb4, 0x00, 0x0f]), (10, [0xa7, 0x00, 0x04]), (13, [0x04]), (14, [0xac])] := pf_ok prog_21_method_152_code _ 3 (by decide +kernel)
theorem d_J0_coder_7d493_3 : decode prog_21_method_152_code 3 = .ok (.ifCond .eq 10, 3) := gq_0 db00h_37 eb_202
theorem d_J0_coder_7d493_6 : decode prog_21_method_152_code 6 = .ok (.aload_n 0, 1) := gq_1 db00h_37 eb_0
theorem d_J0_coder_7d493_7 : decode prog_21_method_152_code 7 = .ok (.getfield 15, 3) := gq_2 db00h_37 eb_44
theorem d_J0_coder_7d493_10 : decode prog_21_method_152_code 10 = .ok (.goto 4, 3) := gq_3 db00h_37 eb_20
theorem d_J0_coder_7d493_14 : decode prog_21_method_152_code 14 = .ok (.ireturn, 1) := gq_5 db00h_37 eb_15
theorem db00h_38 : Pf_ prog_21_method_154_code [(3, [0x99, 0x00, 0x0e]), (6, [0x2a]), (7, [0xb4, 0x00, 0x0f]), (10, [0x9a, 0x00, 0x07]), (13, [0x04]), (14, [0xa7, 0x00, 0x04]), (17, [0x03]), (18, [0xac])] := pf_ok prog_21_method_154_code _ 3 (by decide +kernel)
theorem d_J0_isLatin1_aae02_3 : decode prog_21_method_154_code 3 = .ok (.ifCond .eq 14, 3) := gq_0 db00h_38 eb_174
theorem d_J0_isLatin1_aae02_6 : decode prog_21_method_154_code 6 = .ok (.aload_n 0, 1) := gq_1 db00h_38 eb_0
theorem d_J0_isLatin1_aae02_7 : decode prog_21_method_154_code 7 = .ok (.getfield 15, 3) := gq_2 db00h_38 eb_44
theorem d_J0_isLatin1_aae02_10 : decode prog_21_method_154_code 10 = .ok (.ifCond .ne 7, 3) := gq_3 db00h_38 eb_164
theorem d_J0_isLatin1_aae02_13 : decode prog_21_method_154_code 13 = .ok (.iconst 1, 1) := gq_4 db00h_38 eb_19
theorem d_J0_isLatin1_aae02_14 : decode prog_21_method_154_code 14 = .ok (.goto 4, 3) := gq_5 db00h_38 eb_20
theorem d_J0_isLatin1_aae02_18 : decode prog_21_method_154_code 18 = .ok (.ireturn, 1) := gq_7 db00h_38 eb_15
theorem d_J0_checkIndex_df160_2 : decode prog_21_method_155_code 2 = .ok (.getstatic 1053, 3) := by decide +kernel
theorem db00h_39 : Pf_ prog_21_method_155_code [(0, [0x1a]), (1, [0x1b]), (5, [0xb8, 0x04, 0x23]), (8, [0x57]), (9, [0xb1])] := pf_ok prog_21_method_155_code _ 0 (by decide +kernel)
theorem d_J0_checkIndex_df160_0 : decode prog_21_method_155_code 0 = .ok (.iload_n 0, 1) := gq_0 db00h_39 eb_8
theorem d_J0_checkIndex_df160_1 : decode prog_21_method_155_code 1 = .ok (.iload_n 1, 1) := gq_1 db00h_39 eb_9
theorem d_J0_checkIndex_df160_5 : decode prog_21_method_155_code 5 = .ok (.invokestatic 1059, 3) := gq_2 db00h_39 eb_1324
theorem d_J0_checkIndex_df160_8 : decode prog_21_method_155_code 8 = .ok (.pop, 1) := gq_3 db00h_39 eb_466
theorem d_J0_checkIndex_df160_9 : decode prog_21_method_155_code 9 = .ok (.return_, 1) := gq_4 db00h_39 eb_7
theorem d_J1_charAt_3b067_13 : decode prog_22_method_2_code 13 = .ok (.i2c, 1) := by decide +kernel
theorem db00h_41 : Pf_ prog_22_method_2_code [(0, [0x1b]), (1, [0x2a]), (2, [0xbe]), (3, [0xb8, 0x00, 0x09]), (6, [0x2a]), (7, [0x1b]), (8, [0x33]), (9, [0x11, 0x00, 0xff]), (12, [0x7e]), (14, [0xac])] := pf_ok prog_22_method_2_code _ 0 (by decide +kernel)
theorem d_J1_charAt_3b067_0 : decode prog_22_method_2_code 0 = .ok (.iload_n 1, 1) := gq_0 db00h_41 eb_9
theorem d_J1_charAt_3b067_1 : decode prog_22_method_2_code 1 = .ok (.aload_n 0, 1) := gq_1 db00h_41 eb_0
theorem d_J1_charAt_3b067_2 : decode prog_22_method_2_code 2 = .ok (.arraylength, 1) := gq_2 db00h_41 eb_52
theorem d_J1_charAt_3b067_3 : decode prog_22_method_2_code 3 = .ok (.invokestatic 9, 3) := gq_3 db00h_41 eb_1326
theorem d_J1_charAt_3b067_6 : decode prog_22_method_2_code 6 = .ok (.aload_n 0, 1) := gq_4 db00h_41 eb_0
theorem d_J1_charAt_3b067_7 : decode prog_22_method_2_code 7 = .ok (.iload_n 1, 1) := gq_5 db00h_41 eb_9
theorem d_J1_charAt_3b067_8 : decode prog_22_method_2_code 8 = .ok (.baload, 1) := gq_6 db00h_41 eb_248
theorem d_J1_charAt_3b067_9 : decode prog_22_method_2_code 9 = .ok (.sipush 255, 3) := gq_7 db00h_41 eb_443
theorem d_J1_charAt_3b067_12 : decode prog_22_method_2_code 12 = .ok (.iand, 1) := gq_8 db00h_41 eb_55
theorem d_J1_charAt_3b067_14 : decode prog_22_method_2_code 14 = .ok (.ireturn, 1) := gq_9 db00h_41 eb_15
theorem db00h_42 : Pf_ prog_22_method_4_code [(0, [0x1a]), (1, [0x9b, 0x00, 0x0e]), (4, [0x1a]), (5, [0x11, 0x00, 0xff]), (8, [0xa3, 0x00, 0x07]), (11, [0x04]), (12, [0xa7, 0x00, 0x04]), (15, [0x03]), (16, [0xac])] := pf_ok prog_22_method_4_code _ 0 (by decide +kernel)
theorem d_J1_canEncode_9a6ad_0 : decode prog_22_method_4_code 0 = .ok (.iload_n 0, 1) := gq_0 db00h_42 eb_8
theorem d_J1_canEncode_9a6ad_1 : decode prog_22_method_4_code 1 = .ok (.ifCond .lt 14, 3) := gq_1 db00h_42 eb_1327
theorem d_J1_canEncode_9a6ad_4 : decode prog_22_method_4_code 4 = .ok (.iload_n 0, 1) := gq_2 db00h_42 eb_8
theorem d_J1_canEncode_9a6ad_5 : decode prog_22_method_4_code 5 = .ok (.sipush 255, 3) := gq_3 db00h_42 eb_443
theorem d_J1_canEncode_9a6ad_8 : decode prog_22_method_4_code 8 = .ok (.if_icmp .gt 7, 3) := gq_4 db00h_42 eb_113
theorem d_J1_canEncode_9a6ad_11 : decode prog_22_method_4_code 11 = .ok (.iconst 1, 1) := gq_5 db00h_42 eb_19
theorem d_J1_canEncode_9a6ad_12 : decode prog_22_method_4_code 12 = .ok (.goto 4, 3) := gq_6 db00h_42 eb_20
theorem d_J1_canEncode_9a6ad_15 : decode prog_22_method_4_code 15 = .ok (.iconst 0, 1) := gq_7 db00h_42 eb_21
theorem d_J1_canEncode_9a6ad_16 : decode prog_22_method_4_code 16 = .ok (.ireturn, 1) := gq_8 db00h_42 eb_15
theorem db00h_43 : Pf_ prog_22_method_22_code [(0, [0x1b]), (1, [0xb8, 0x00, 0x58]), (4, [0x9a, 0x00, 0x05]), (7, [0x02]), (8, [0xac]), (9, [0x1c]), (10, [0x03]), (11, [0xb8, 0x00, 0x5c]), (14, [0x3d]), (15, [0x1d]), (16, [0x2a]), (17, [0xbe]), (18, [0xb8, 0x00, 0x26]), (21, [0x3e]), (22, [0x1c]), (23, [0x1d]), (24, [0xa1, 0x00, 0x05]), (27, [0x02]), (28, [0xac]), (29, [0x2a]), (30, [0x1b]), (31, [0x1c]), (32, [0x1d]), (33, [0xb8, 0x00, 0x5f])] := pf_ok prog_22_method_22_code _ 0 (by decide +kernel)
theorem d_J1_indexOf_4cfef_0 : decode prog_22_method_22_code 0 = .ok (.iload_n 1, 1) := gq_0 db00h_43 eb_9
theorem d_J1_indexOf_4cfef_1 : decode prog_22_method_22_code 1 = .ok (.invokestatic 88, 3) := gq_1 db00h_43 eb_1328
theorem d_J1_indexOf_4cfef_4 : decode prog_22_method_22_code 4 = .ok (.ifCond .ne 5, 3) := gq_2 db00h_43 eb_150
theorem d_J1_indexOf_4cfef_7 : decode prog_22_method_22_code 7 = .ok (.iconst (-1), 1) := gq_3 db00h_43 eb_26
theorem d_J1_indexOf_4cfef_8 : decode prog_22_method_22_code 8 = .ok (.ireturn, 1) := gq_4 db00h_43 eb_15
theorem d_J1_indexOf_4cfef_9 : decode prog_22_method_22_code 9 = .ok (.iload_n 2, 1) := gq_5 db00h_43 eb_13
theorem d_J1_indexOf_4cfef_10 : decode prog_22_method_22_code 10 = .ok (.iconst 0, 1) := gq_6 db00h_43 eb_21
theorem d_J1_indexOf_4cfef_11 : decode prog_22_method_22_code 11 = .ok (.invokestatic 92, 3) := gq_7 db00h_43 eb_1329
theorem d_J1_indexOf_4cfef_14 : decode prog_22_method_22_code 14 = .ok (.istore_n 2, 1) := gq_8 db00h_43 eb_27
theorem d_J1_indexOf_4cfef_15 : decode prog_22_method_22_code 15 = .ok (.iload_n 3, 1) := gq_9 db00h_43 eb_29
theorem d_J1_indexOf_4cfef_16 : decode prog_22_method_22_code 16 = .ok (.aload_n 0, 1) := gq_10 db00h_43 eb_0
theorem d_J1_indexOf_4cfef_17 : decode prog_22_method_22_code 17 = .ok (.arraylength, 1) := gq_11 db00h_43 eb_52
theorem d_J1_indexOf_4cfef_18 : decode prog_22_method_22_code 18 = .ok (.invokestatic 38, 3) := gq_12 db00h_43 eb_1330
theorem d_J1_indexOf_4cfef_21 : decode prog_22_method_22_code 21 = .ok (.istore_n 3, 1) := gq_13 db00h_43 eb_28
theorem d_J1_indexOf_4cfef_22 : decode prog_22_method_22_code 22 = .ok (.iload_n 2, 1) := gq_14 db00h_43 eb_13
theorem d_J1_indexOf_4cfef_23 : decode prog_22_method_22_code 23 = .ok (.iload_n 3, 1) := gq_15 db00h_43 eb_29
theorem d_J1_indexOf_4cfef_24 : decode prog_22_method_22_code 24 = .ok (.if_icmp .lt 5, 3) := gq_16 db00h_43 eb_114
theorem d_J1_indexOf_4cfef_27 : decode prog_22_method_22_code 27 = .ok (.iconst (-1), 1) := gq_17 db00h_43 eb_26
theorem d_J1_indexOf_4cfef_28 : decode prog_22_method_22_code 28 = .ok (.ireturn, 1) := gq_18 db00h_43 eb_15
theorem d_J1_indexOf_4cfef_29 : decode prog_22_method_22_code 29 = .ok (.aload_n 0, 1) := gq_19 db00h_43 eb_0
theorem d_J1_indexOf_4cfef_30 : decode prog_22_method_22_code 30 = .ok (.iload_n 1, 1) := gq_20 db00h_43 eb_9
theorem d_J1_indexOf_4cfef_31 : decode prog_22_method_22_code 31 = .ok (.iload_n 2, 1) := gq_21 db00h_43 eb_13
theorem d_J1_indexOf_4cfef_32 : decode prog_22_method_22_code 32 = .ok (.iload_n 3, 1) := gq_22 db00h_43 eb_29
theorem d_J1_indexOf_4cfef_33 : decode prog_22_method_22_code 33 = .ok (.invokestatic 95, 3) := gq_23 db00h_43 eb_1331
theorem db00h_44 : Pf_ prog_22_method_22_code [(36, [0xac])] := pf_ok prog_22_method_22_code _ 36 (by decide +kernel)
theorem d_J1_indexOf_4cfef_36 : decode prog_22_method_22_code 36 = .ok (.ireturn, 1) := gq_0 db00h_44 eb_15
theorem d_J1_indexOfChar_4cfef_1 : decode prog_22_method_23_code 1 = .ok (.i2b, 1) := by decide +kernel
theorem db00h_45 : Pf_ prog_22_method_23_code [(0, [0x1b]), (2, [0x36, 0x04]), (4, [0x1c]), (5, [0x36, 0x05]), (7, [0x15, 0x05]), (9, [0x1d]), (10, [0xa2, 0x00, 0x15]), (13, [0x2a]), (14, [0x15, 0x05]), (16, [0x33]), (17, [0x15, 0x04]), (19, [0xa0, 0x00, 0x06]), (22, [0x15, 0x05]), (24, [0xac]), (25, [0x84, 0x05, 0x01]), (28, [0xa7, 0xff, 0xeb]), (31, [0x02]), (32, [0xac])] := pf_ok prog_22_method_23_code _ 0 (by decide +kernel)
theorem d_J1_indexOfChar_4cfef_0 : decode prog_22_method_23_code 0 = .ok (.iload_n 1, 1) := gq_0 db00h_45 eb_9
theorem d_J1_indexOfChar_4cfef_2 : decode prog_22_method_23_code 2 = .ok (.istore 4, 2) := gq_1 db00h_45 eb_133
theorem d_J1_indexOfChar_4cfef_4 : decode prog_22_method_23_code 4 = .ok (.iload_n 2, 1) := gq_2 db00h_45 eb_13
theorem d_J1_indexOfChar_4cfef_5 : decode prog_22_method_23_code 5 = .ok (.istore 5, 2) := gq_3 db00h_45 eb_134
theorem d_J1_indexOfChar_4cfef_7 : decode prog_22_method_23_code 7 = .ok (.iload 5, 2) := gq_4 db00h_45 eb_125
theorem d_J1_indexOfChar_4cfef_9 : decode prog_22_method_23_code 9 = .ok (.iload_n 3, 1) := gq_5 db00h_45 eb_29
theorem d_J1_indexOfChar_4cfef_10 : decode prog_22_method_23_code 10 = .ok (.if_icmp .ge 21, 3) := gq_6 db00h_45 eb_168
theorem d_J1_indexOfChar_4cfef_13 : decode prog_22_method_23_code 13 = .ok (.aload_n 0, 1) := gq_7 db00h_45 eb_0
theorem d_J1_indexOfChar_4cfef_14 : decode prog_22_method_23_code 14 = .ok (.iload 5, 2) := gq_8 db00h_45 eb_125
theorem d_J1_indexOfChar_4cfef_16 : decode prog_22_method_23_code 16 = .ok (.baload, 1) := gq_9 db00h_45 eb_248
theorem d_J1_indexOfChar_4cfef_17 : decode prog_22_method_23_code 17 = .ok (.iload 4, 2) := gq_10 db00h_45 eb_76
theorem d_J1_indexOfChar_4cfef_19 : decode prog_22_method_23_code 19 = .ok (.if_icmp .ne 6, 3) := gq_11 db00h_45 eb_40
theorem d_J1_indexOfChar_4cfef_22 : decode prog_22_method_23_code 22 = .ok (.iload 5, 2) := gq_12 db00h_45 eb_125
theorem d_J1_indexOfChar_4cfef_24 : decode prog_22_method_23_code 24 = .ok (.ireturn, 1) := gq_13 db00h_45 eb_15
theorem d_J1_indexOfChar_4cfef_25 : decode prog_22_method_23_code 25 = .ok (.iinc 5 1, 3) := gq_14 db00h_45 eb_220
theorem d_J1_indexOfChar_4cfef_28 : decode prog_22_method_23_code 28 = .ok (.goto (-21), 3) := gq_15 db00h_45 eb_485
theorem d_J1_indexOfChar_4cfef_31 : decode prog_22_method_23_code 31 = .ok (.iconst (-1), 1) := gq_16 db00h_45 eb_26
theorem d_J1_indexOfChar_4cfef_32 : decode prog_22_method_23_code 32 = .ok (.ireturn, 1) := gq_17 db00h_45 eb_15
theorem db00h_58 : Pf_ prog_26_method_103_code [(0, [0x03]), (1, [0x3d]), (2, [0x2a]), (3, [0xbe]), (4, [0x3e]), (5, [0x1c]), (6, [0x1d]), (7, [0xa2, 0x00, 0x0d]), (10, [0x2a]), (11, [0x1c]), (12, [0x1b]), (13, [0x4f]), (14, [0x84, 0x02, 0x01]), (17, [0xa7, 0xff, 0xf4]), (20, [0xb1])] := pf_ok prog_26_method_103_code _ 0 (by decide +kernel)
theorem d_J7_fill_53178_0 : decode prog_26_method_103_code 0 = .ok (.iconst 0, 1) := gq_0 db00h_58 eb_21
theorem d_J7_fill_53178_1 : decode prog_26_method_103_code 1 = .ok (.istore_n 2, 1) := gq_1 db00h_58 eb_27
theorem d_J7_fill_53178_2 : decode prog_26_method_103_code 2 = .ok (.aload_n 0, 1) := gq_2 db00h_58 eb_0
theorem d_J7_fill_53178_3 : decode prog_26_method_103_code 3 = .ok (.arraylength, 1) := gq_3 db00h_58 eb_52
theorem d_J7_fill_53178_4 : decode prog_26_method_103_code 4 = .ok (.istore_n 3, 1) := gq_4 db00h_58 eb_28
theorem d_J7_fill_53178_5 : decode prog_26_method_103_code 5 = .ok (.iload_n 2, 1) := gq_5 db00h_58 eb_13
theorem d_J7_fill_53178_6 : decode prog_26_method_103_code 6 = .ok (.iload_n 3, 1) := gq_6 db00h_58 eb_29
theorem d_J7_fill_53178_7 : decode prog_26_method_103_code 7 = .ok (.if_icmp .ge 13, 3) := gq_7 db00h_58 eb_1349
theorem d_J7_fill_53178_10 : decode prog_26_method_103_code 10 = .ok (.aload_n 0, 1) := gq_8 db00h_58 eb_0
theorem d_J7_fill_53178_11 : decode prog_26_method_103_code 11 = .ok (.iload_n 2, 1) := gq_9 db00h_58 eb_13
theorem d_J7_fill_53178_12 : decode prog_26_method_103_code 12 = .ok (.iload_n 1, 1) := gq_10 db00h_58 eb_9
theorem d_J7_fill_53178_13 : decode prog_26_method_103_code 13 = .ok (.iastore, 1) := gq_11 db00h_58 eb_38
theorem d_J7_fill_53178_14 : decode prog_26_method_103_code 14 = .ok (.iinc 2 1, 3) := gq_12 db00h_58 eb_41
theorem d_J7_fill_53178_17 : decode prog_26_method_103_code 17 = .ok (.goto (-12), 3) := gq_13 db00h_58 eb_1350
theorem d_J7_fill_53178_20 : decode prog_26_method_103_code 20 = .ok (.return_, 1) := gq_14 db00h_58 eb_7
theorem d_J7_copyOf_c38d5_15 : decode prog_26_method_124_code 15 = .ok (.newarray .long, 2) := by decide +kernel
theorem d_J7_copyOf_c38d5_17 : decode prog_26_method_124_code 17 = .ok (.astore_n 2, 1) := by decide +kernel
theorem d_J7_copyOf_c38d5_32 : decode prog_26_method_124_code 32 = .ok (.areturn, 1) := by decide +kernel
theorem db00h_59 : Pf_ prog_26_method_124_code [(0, [0x1b]), (1, [0x2a]), (2, [0xbe]), (3, [0xa0, 0x00, 0x0b]), (6, [0x2a]), (7, [0xb6, 0x01, 0x3f]), (14, [0x1b]), (18, [0x2a]), (19, [0x03]), (20, [0x2c]), (21, [0x03]), (22, [0x2a]), (23, [0xbe]), (24, [0x1b]), (25, [0xb8, 0x01, 0x30]), (28, [0xb8, 0x00, 0x96]), (31, [0x2c])] := pf_ok prog_26_method_124_code _ 0 (by decide +kernel)
theorem d_J7_copyOf_c38d5_0 : decode prog_26_method_124_code 0 = .ok (.iload_n 1, 1) := gq_0 db00h_59 eb_9
theorem d_J7_copyOf_c38d5_1 : decode prog_26_method_124_code 1 = .ok (.aload_n 0, 1) := gq_1 db00h_59 eb_0
theorem d_J7_copyOf_c38d5_2 : decode prog_26_method_124_code 2 = .ok (.arraylength, 1) := gq_2 db00h_59 eb_52
theorem d_J7_copyOf_c38d5_3 : decode prog_26_method_124_code 3 = .ok (.if_icmp .ne 11, 3) := gq_3 db00h_59 eb_675
theorem d_J7_copyOf_c38d5_14 : decode prog_26_method_124_code 14 = .ok (.iload_n 1, 1) := gq_6 db00h_59 eb_9
theorem d_J7_copyOf_c38d5_18 : decode prog_26_method_124_code 18 = .ok (.aload_n 0, 1) := gq_7 db00h_59 eb_0
theorem d_J7_copyOf_c38d5_19 : decode prog_26_method_124_code 19 = .ok (.iconst 0, 1) := gq_8 db00h_59 eb_21
theorem d_J7_copyOf_c38d5_20 : decode prog_26_method_124_code 20 = .ok (.aload_n 2, 1) := gq_9 db00h_59 eb_301
theorem d_J7_copyOf_c38d5_21 : decode prog_26_method_124_code 21 = .ok (.iconst 0, 1) := gq_10 db00h_59 eb_21
theorem d_J7_copyOf_c38d5_22 : decode prog_26_method_124_code 22 = .ok (.aload_n 0, 1) := gq_11 db00h_59 eb_0
theorem d_J7_copyOf_c38d5_23 : decode prog_26_method_124_code 23 = .ok (.arraylength, 1) := gq_12 db00h_59 eb_52
theorem d_J7_copyOf_c38d5_24 : decode prog_26_method_124_code 24 = .ok (.iload_n 1, 1) := gq_13 db00h_59 eb_9
theorem d_J7_copyOf_c38d5_25 : decode prog_26_method_124_code 25 = .ok (.invokestatic 304, 3) := gq_14 db00h_59 eb_1352
theorem d_J7_copyOf_c38d5_28 : decode prog_26_method_124_code 28 = .ok (.invokestatic 150, 3) := gq_15 db00h_59 eb_1353
theorem d_J7_copyOf_c38d5_31 : decode prog_26_method_124_code 31 = .ok (.aload_n 2, 1) := gq_16 db00h_59 eb_301
theorem db00h_60 : Pf_ prog_28_method_11_code [(0, [0x1a]), (1, [0x9b, 0x00, 0x08]), (4, [0x1a]), (5, [0x1b]), (6, [0xa1, 0x00, 0x0a]), (9, [0x2c]), (10, [0x1a]), (11, [0x1b]), (12, [0xb8, 0x00, 0x5f]), (16, [0x1a]), (17, [0xac])] := pf_ok prog_28_method_11_code _ 0 (by decide +kernel)
theorem d_J3_checkIndex_8e157_0 : decode prog_28_method_11_code 0 = .ok (.iload_n 0, 1) := gq_0 db00h_60 eb_8
theorem d_J3_checkIndex_8e157_1 : decode prog_28_method_11_code 1 = .ok (.ifCond .lt 8, 3) := gq_1 db00h_60 eb_1354
theorem d_J3_checkIndex_8e157_4 : decode prog_28_method_11_code 4 = .ok (.iload_n 0, 1) := gq_2 db00h_60 eb_8
theorem d_J3_checkIndex_8e157_5 : decode prog_28_method_11_code 5 = .ok (.iload_n 1, 1) := gq_3 db00h_60 eb_9
theorem d_J3_checkIndex_8e157_6 : decode prog_28_method_11_code 6 = .ok (.if_icmp .lt 10, 3) := gq_4 db00h_60 eb_1355
theorem d_J3_checkIndex_8e157_16 : decode prog_28_method_11_code 16 = .ok (.iload_n 0, 1) := gq_9 db00h_60 eb_8
theorem d_J3_checkIndex_8e157_17 : decode prog_28_method_11_code 17 = .ok (.ireturn, 1) := gq_10 db00h_60 eb_15
end
section
theorem is_1800 : (Int16.ofInt (1800)).toInt32 = 1800 := by decide
theorem ib_12 : (Int8.ofInt (12)).toInt32 = 12 := by decide
theorem ic_2 : Int32.ofInt (2) = 2 := by decide
theorem ib_6 : (Int8.ofInt (6)).toInt32 = 6 := by decide
theorem ic_1 : Int32.ofInt (1) = 1 := by decide
theorem ic_0 : Int32.ofInt (0) = 0 := by decide
theorem ic_m1 : Int32.ofInt (-1) = -1 := by decide
theorem is_150 : (Int16.ofInt (150)).toInt32 = 150 := by decide
theorem ic_3 : Int32.ofInt (3) = 3 := by decide
theorem ib_15 : (Int8.ofInt (15)).toInt32 = 15 := by decide
theorem ib_30 : (Int8.ofInt (30)).toInt32 = 30 := by decide
theorem ib_10 : (Int8.ofInt (10)).toInt32 = 10 := by decide
theorem ib_8 : (Int8.ofInt (8)).toInt32 = 8 := by decide
theorem is_200 : (Int16.ofInt (200)).toInt32 = 200 := by decide
theorem ib_16 : (Int8.ofInt (16)).toInt32 = 16 := by decide
theorem is_180 : (Int16.ofInt (180)).toInt32 = 180 := by decide
theorem ic_5 : Int32.ofInt (5) = 5 := by decide
theorem ib_7 : (Int8.ofInt (7)).toInt32 = 7 := by decide
theorem ib_64 : (Int8.ofInt (64)).toInt32 = 64 := by decide
theorem is_2304 : (Int16.ofInt (2304)).toInt32 = 2304 := by decide
theorem is_m257 : (Int16.ofInt (-257)).toInt32 = -257 := by decide
theorem is_256 : (Int16.ofInt (256)).toInt32 = 256 := by decide
theorem ib_80 : (Int8.ofInt (80)).toInt32 = 80 := by decide
theorem is_300 : (Int16.ofInt (300)).toInt32 = 300 := by decide
theorem is_2700 : (Int16.ofInt (2700)).toInt32 = 2700 := by decide
theorem ib_9 : (Int8.ofInt (9)).toInt32 = 9 := by decide
theorem is_1440 : (Int16.ofInt (1440)).toInt32 = 1440 := by decide
theorem ib_60 : (Int8.ofInt (60)).toInt32 = 60 := by decide
theorem ic_4 : Int32.ofInt (4) = 4 := by decide
theorem ib_40 : (Int8.ofInt (40)).toInt32 = 40 := by decide
theorem is_168 : (Int16.ofInt (168)).toInt32 = 168 := by decide
theorem is_600 : (Int16.ofInt (600)).toInt32 = 600 := by decide
theorem ib_48 : (Int8.ofInt (48)).toInt32 = 48 := by decide
theorem ib_11 : (Int8.ofInt (11)).toInt32 = 11 := by decide
theorem ib_13 : (Int8.ofInt (13)).toInt32 = 13 := by decide
theorem ib_14 : (Int8.ofInt (14)).toInt32 = 14 := by decide
theorem is_3328 : (Int16.ofInt (3328)).toInt32 = 3328 := by decide
theorem is_400 : (Int16.ofInt (400)).toInt32 = 400 := by decide
theorem is_160 : (Int16.ofInt (160)).toInt32 = 160 := by decide
theorem is_164 : (Int16.ofInt (164)).toInt32 = 164 := by decide
theorem ib_24 : (Int8.ofInt (24)).toInt32 = 24 := by decide
theorem is_255 : (Int16.ofInt (255)).toInt32 = 255 := by decide
theorem ib_32 : (Int8.ofInt (32)).toInt32 = 32 := by decide
theorem ib_57 : (Int8.ofInt (57)).toInt32 = 57 := by decide
theorem ib_59 : (Int8.ofInt (59)).toInt32 = 59 := by decide
theorem is_240 : (Int16.ofInt (240)).toInt32 = 240 := by decide
theorem ib_41 : (Int8.ofInt (41)).toInt32 = 41 := by decide
theorem ib_20 : (Int8.ofInt (20)).toInt32 = 20 := by decide
theorem ib_63 : (Int8.ofInt (63)).toInt32 = 63 := by decide
theorem ib_33 : (Int8.ofInt (33)).toInt32 = 33 := by decide
theorem ib_124 : (Int8.ofInt (124)).toInt32 = 124 := by decide
theorem ib_38 : (Int8.ofInt (38)).toInt32 = 38 := by decide
theorem ib_61 : (Int8.ofInt (61)).toInt32 = 61 := by decide
theorem ib_62 : (Int8.ofInt (62)).toInt32 = 62 := by decide
theorem ib_43 : (Int8.ofInt (43)).toInt32 = 43 := by decide
theorem ib_45 : (Int8.ofInt (45)).toInt32 = 45 := by decide
theorem ib_42 : (Int8.ofInt (42)).toInt32 = 42 := by decide
theorem is_9999 : (Int16.ofInt (9999)).toInt32 = 9999 := by decide
theorem ib_91 : (Int8.ofInt (91)).toInt32 = 91 := by decide
theorem ib_93 : (Int8.ofInt (93)).toInt32 = 93 := by decide
theorem is_3280 : (Int16.ofInt (3280)).toInt32 = 3280 := by decide
theorem ib_m2 : (Int8.ofInt (-2)).toInt32 = -2 := by decide
theorem is_30000 : (Int16.ofInt (30000)).toInt32 = 30000 := by decide
theorem is_1500 : (Int16.ofInt (1500)).toInt32 = 1500 := by decide
theorem is_20000 : (Int16.ofInt (20000)).toInt32 = 20000 := by decide
theorem ib_31 : (Int8.ofInt (31)).toInt32 = 31 := by decide
theorem ib_17 : (Int8.ofInt (17)).toInt32 = 17 := by decide
theorem is_10000 : (Int16.ofInt (10000)).toInt32 = 10000 := by decide
theorem is_560 : (Int16.ofInt (560)).toInt32 = 560 := by decide
theorem is_22400 : (Int16.ofInt (22400)).toInt32 = 22400 := by decide
theorem is_128 : (Int16.ofInt (128)).toInt32 = 128 := by decide
theorem is_372 : (Int16.ofInt (372)).toInt32 = 372 := by decide
theorem ib_103 : (Int8.ofInt (103)).toInt32 = 103 := by decide
theorem ib_119 : (Int8.ofInt (119)).toInt32 = 119 := by decide
theorem ib_112 : (Int8.ofInt (112)).toInt32 = 112 := by decide
theorem ib_108 : (Int8.ofInt (108)).toInt32 = 108 := by decide
theorem ib_120 : (Int8.ofInt (120)).toInt32 = 120 := by decide
theorem ib_110 : (Int8.ofInt (110)).toInt32 = 110 := by decide
theorem ib_114 : (Int8.ofInt (114)).toInt32 = 114 := by decide
theorem ib_116 : (Int8.ofInt (116)).toInt32 = 116 := by decide
theorem is_20001 : (Int16.ofInt (20001)).toInt32 = 20001 := by decide
theorem is_m1000 : (Int16.ofInt (-1000)).toInt32 = -1000 := by decide
theorem ib_99 : (Int8.ofInt (99)).toInt32 = 99 := by decide
theorem ib_121 : (Int8.ofInt (121)).toInt32 = 121 := by decide
theorem ib_109 : (Int8.ofInt (109)).toInt32 = 109 := by decide
theorem ib_97 : (Int8.ofInt (97)).toInt32 = 97 := by decide
end
section
/-- a private method of a class that the tables say can be made, by its rows of tables_1 -/
noncomputable def lw_okq (q : MethodName × Nat) : Prop := (q.1.cls ≠ "java/lang/invoke/MethodHandle" ∧ q.1.cls ≠ "java/lang/invoke/VarHandle") ∧ Cond.instantiable q.1.cls q.2 ∈ tables_1 ∧ Cond.privateMethod q.1 ∈ tables_1 ∧ Cond.instanceMethod q.1 ∈ tables_1
theorem tm_1 {w : Cond} (i : Nat) (h0 : tables_1_1[i]? = some w) : w ∈ tables_1 := by
  have h : w ∈ tables_1_1 := List.mem_of_getElem? h0
  unfold tables_1
  exact (List.mem_append_left _ h)
theorem tm_2 {w : Cond} (i : Nat) (h0 : tables_1_2[i]? = some w) : w ∈ tables_1 := by
  have h : w ∈ tables_1_2 := List.mem_of_getElem? h0
  unfold tables_1
  exact (List.mem_append_right _ (List.mem_append_left _ h))
theorem tm_3 {w : Cond} (i : Nat) (h0 : tables_1_3[i]? = some w) : w ∈ tables_1 := by
  have h : w ∈ tables_1_3 := List.mem_of_getElem? h0
  unfold tables_1
  exact (List.mem_append_right _ (List.mem_append_right _ (List.mem_append_left _ h)))
theorem tm_4 {w : Cond} (i : Nat) (h0 : tables_1_4[i]? = some w) : w ∈ tables_1 := by
  have h : w ∈ tables_1_4 := List.mem_of_getElem? h0
  unfold tables_1
  exact (List.mem_append_right _ (List.mem_append_right _ (List.mem_append_right _ (List.mem_append_left _ h))))
theorem tm_5 {w : Cond} (i : Nat) (h0 : tables_1_5[i]? = some w) : w ∈ tables_1 := by
  have h : w ∈ tables_1_5 := List.mem_of_getElem? h0
  unfold tables_1
  exact (List.mem_append_right _ (List.mem_append_right _ (List.mem_append_right _ (List.mem_append_right _ (List.mem_append_left _ h)))))
theorem tm_6 {w : Cond} (i : Nat) (h0 : tables_1_6[i]? = some w) : w ∈ tables_1 := by
  have h : w ∈ tables_1_6 := List.mem_of_getElem? h0
  unfold tables_1
  exact (List.mem_append_right _ (List.mem_append_right _ (List.mem_append_right _ (List.mem_append_right _ (List.mem_append_right _ (List.mem_append_left _ h))))))
theorem tm_7 {w : Cond} (i : Nat) (h0 : tables_1_7[i]? = some w) : w ∈ tables_1 := by
  have h : w ∈ tables_1_7 := List.mem_of_getElem? h0
  unfold tables_1
  exact (List.mem_append_right _ (List.mem_append_right _ (List.mem_append_right _ (List.mem_append_right _ (List.mem_append_right _ (List.mem_append_right _ (List.mem_append_left _ h)))))))
theorem tm_8 {w : Cond} (i : Nat) (h0 : tables_1_8[i]? = some w) : w ∈ tables_1 := by
  have h : w ∈ tables_1_8 := List.mem_of_getElem? h0
  unfold tables_1
  exact (List.mem_append_right _ (List.mem_append_right _ (List.mem_append_right _ (List.mem_append_right _ (List.mem_append_right _ (List.mem_append_right _ (List.mem_append_right _ (List.mem_append_left _ h))))))))
theorem tm_9 {w : Cond} (i : Nat) (h0 : tables_1_9[i]? = some w) : w ∈ tables_1 := by
  have h : w ∈ tables_1_9 := List.mem_of_getElem? h0
  unfold tables_1
  exact (List.mem_append_right _ (List.mem_append_right _ (List.mem_append_right _ (List.mem_append_right _ (List.mem_append_right _ (List.mem_append_right _ (List.mem_append_right _ (List.mem_append_right _ (List.mem_append_left _ h)))))))))
theorem tm_10 {w : Cond} (i : Nat) (h0 : tables_1_10[i]? = some w) : w ∈ tables_1 := by
  have h : w ∈ tables_1_10 := List.mem_of_getElem? h0
  unfold tables_1
  exact (List.mem_append_right _ (List.mem_append_right _ (List.mem_append_right _ (List.mem_append_right _ (List.mem_append_right _ (List.mem_append_right _ (List.mem_append_right _ (List.mem_append_right _ (List.mem_append_right _ (List.mem_append_left _ h))))))))))
theorem tm_11 {w : Cond} (i : Nat) (h0 : tables_1_11[i]? = some w) : w ∈ tables_1 := by
  have h : w ∈ tables_1_11 := List.mem_of_getElem? h0
  unfold tables_1
  exact (List.mem_append_right _ (List.mem_append_right _ (List.mem_append_right _ (List.mem_append_right _ (List.mem_append_right _ (List.mem_append_right _ (List.mem_append_right _ (List.mem_append_right _ (List.mem_append_right _ (List.mem_append_right _ (List.mem_append_left _ h)))))))))))
theorem tm_12 {w : Cond} (i : Nat) (h0 : tables_1_12[i]? = some w) : w ∈ tables_1 := by
  have h : w ∈ tables_1_12 := List.mem_of_getElem? h0
  unfold tables_1
  exact (List.mem_append_right _ (List.mem_append_right _ (List.mem_append_right _ (List.mem_append_right _ (List.mem_append_right _ (List.mem_append_right _ (List.mem_append_right _ (List.mem_append_right _ (List.mem_append_right _ (List.mem_append_right _ (List.mem_append_right _ h)))))))))))
theorem lw_p0 : lw_okq (⟨"CountyWatch", "putAt", "(LCountyWatch$Constable;I)V"⟩, 16) := ⟨⟨by decide +kernel, by decide +kernel⟩, tm_1 28 (by decide +kernel), tm_3 155 (by decide +kernel), tm_3 156 (by decide +kernel)⟩
theorem lw_p1 : lw_okq (⟨"CountyWatch$Reader", "append", "(I)V"⟩, 10) := ⟨⟨by decide +kernel, by decide +kernel⟩, tm_1 53 (by decide +kernel), tm_3 173 (by decide +kernel), tm_3 174 (by decide +kernel)⟩
theorem lw_p2 : lw_okq (⟨"CountyWatch$Reader", "restart", "(Ljava/lang/String;)V"⟩, 10) := ⟨⟨by decide +kernel, by decide +kernel⟩, tm_1 53 (by decide +kernel), tm_3 194 (by decide +kernel), tm_3 195 (by decide +kernel)⟩
theorem lw_p3 : lw_okq (⟨"CountyWatch$Reader", "readSteps", "(I)Z"⟩, 10) := ⟨⟨by decide +kernel, by decide +kernel⟩, tm_1 53 (by decide +kernel), tm_3 198 (by decide +kernel), tm_3 199 (by decide +kernel)⟩
theorem lw_p4 : lw_okq (⟨"CountyWatch$Reader", "readStep", "(I)Z"⟩, 10) := ⟨⟨by decide +kernel, by decide +kernel⟩, tm_1 53 (by decide +kernel), tm_3 202 (by decide +kernel), tm_3 203 (by decide +kernel)⟩
theorem lw_p5 : lw_okq (⟨"CountyWatch$Reader", "peek", "()I"⟩, 10) := ⟨⟨by decide +kernel, by decide +kernel⟩, tm_1 53 (by decide +kernel), tm_3 206 (by decide +kernel), tm_3 207 (by decide +kernel)⟩
theorem lw_p6 : lw_okq (⟨"CountyWatch$Reader", "readNumber", "(II)I"⟩, 10) := ⟨⟨by decide +kernel, by decide +kernel⟩, tm_1 53 (by decide +kernel), tm_3 210 (by decide +kernel), tm_3 211 (by decide +kernel)⟩
theorem lw_p7 : lw_okq (⟨"CountyWatch$Reader", "addStep", "(III)Z"⟩, 10) := ⟨⟨by decide +kernel, by decide +kernel⟩, tm_1 53 (by decide +kernel), tm_3 217 (by decide +kernel), tm_3 218 (by decide +kernel)⟩
theorem lw_p8 : lw_okq (⟨"CountyWatch$Reader", "appendStep", "(I)V"⟩, 10) := ⟨⟨by decide +kernel, by decide +kernel⟩, tm_1 53 (by decide +kernel), tm_3 224 (by decide +kernel), tm_3 225 (by decide +kernel)⟩
theorem lw_p9 : lw_okq (⟨"CountyWatch$Reader", "readPoint", "()Z"⟩, 10) := ⟨⟨by decide +kernel, by decide +kernel⟩, tm_1 53 (by decide +kernel), tm_3 228 (by decide +kernel), tm_3 229 (by decide +kernel)⟩
theorem lw_p10 : lw_okq (⟨"CountyWatch$Reader", "readGroup", "(I)Z"⟩, 10) := ⟨⟨by decide +kernel, by decide +kernel⟩, tm_1 53 (by decide +kernel), tm_3 232 (by decide +kernel), tm_3 233 (by decide +kernel)⟩
theorem lw_p11 : lw_okq (⟨"CountyWatch$Reader", "fail", "()Z"⟩, 10) := ⟨⟨by decide +kernel, by decide +kernel⟩, tm_1 53 (by decide +kernel), tm_3 236 (by decide +kernel), tm_3 237 (by decide +kernel)⟩
theorem lw_p12 : lw_okq (⟨"CountyWatch$Reader", "expect", "(I)Z"⟩, 10) := ⟨⟨by decide +kernel, by decide +kernel⟩, tm_1 53 (by decide +kernel), tm_4 0 (by decide +kernel), tm_4 1 (by decide +kernel)⟩
theorem lw_p13 : lw_okq (⟨"CountyWatch$Reader", "readActClause", "()Z"⟩, 10) := ⟨⟨by decide +kernel, by decide +kernel⟩, tm_1 53 (by decide +kernel), tm_4 10 (by decide +kernel), tm_4 11 (by decide +kernel)⟩
theorem lw_p14 : lw_okq (⟨"CountyWatch$Reader", "readCondition", "(I)Z"⟩, 10) := ⟨⟨by decide +kernel, by decide +kernel⟩, tm_1 53 (by decide +kernel), tm_4 14 (by decide +kernel), tm_4 15 (by decide +kernel)⟩
theorem lw_p15 : lw_okq (⟨"CountyWatch$Reader", "readUnit", "(I)Z"⟩, 10) := ⟨⟨by decide +kernel, by decide +kernel⟩, tm_1 53 (by decide +kernel), tm_4 18 (by decide +kernel), tm_4 19 (by decide +kernel)⟩
noncomputable def lw_privs_1 : List (MethodName × Nat) := [(⟨"CountyWatch", "putAt", "(LCountyWatch$Constable;I)V"⟩, 16), (⟨"CountyWatch$Reader", "append", "(I)V"⟩, 10), (⟨"CountyWatch$Reader", "restart", "(Ljava/lang/String;)V"⟩, 10), (⟨"CountyWatch$Reader", "readSteps", "(I)Z"⟩, 10), (⟨"CountyWatch$Reader", "readStep", "(I)Z"⟩, 10), (⟨"CountyWatch$Reader", "peek", "()I"⟩, 10), (⟨"CountyWatch$Reader", "readNumber", "(II)I"⟩, 10), (⟨"CountyWatch$Reader", "addStep", "(III)Z"⟩, 10), (⟨"CountyWatch$Reader", "appendStep", "(I)V"⟩, 10), (⟨"CountyWatch$Reader", "readPoint", "()Z"⟩, 10), (⟨"CountyWatch$Reader", "readGroup", "(I)Z"⟩, 10), (⟨"CountyWatch$Reader", "fail", "()Z"⟩, 10), (⟨"CountyWatch$Reader", "expect", "(I)Z"⟩, 10), (⟨"CountyWatch$Reader", "readActClause", "()Z"⟩, 10), (⟨"CountyWatch$Reader", "readCondition", "(I)Z"⟩, 10), (⟨"CountyWatch$Reader", "readUnit", "(I)Z"⟩, 10)]
theorem lw_r1 : ∀ q ∈ lw_privs_1, lw_okq q := List.forall_mem_cons.mpr ⟨lw_p0, List.forall_mem_cons.mpr ⟨lw_p1, List.forall_mem_cons.mpr ⟨lw_p2, List.forall_mem_cons.mpr ⟨lw_p3, List.forall_mem_cons.mpr ⟨lw_p4, List.forall_mem_cons.mpr ⟨lw_p5, List.forall_mem_cons.mpr ⟨lw_p6, List.forall_mem_cons.mpr ⟨lw_p7, List.forall_mem_cons.mpr ⟨lw_p8, List.forall_mem_cons.mpr ⟨lw_p9, List.forall_mem_cons.mpr ⟨lw_p10, List.forall_mem_cons.mpr ⟨lw_p11, List.forall_mem_cons.mpr ⟨lw_p12, List.forall_mem_cons.mpr ⟨lw_p13, List.forall_mem_cons.mpr ⟨lw_p14, List.forall_mem_cons.mpr ⟨lw_p15, fun _ h => absurd h List.not_mem_nil⟩⟩⟩⟩⟩⟩⟩⟩⟩⟩⟩⟩⟩⟩⟩⟩
theorem lw_p16 : lw_okq (⟨"CountyWatch$Reader", "readSum", "(I)Z"⟩, 10) := ⟨⟨by decide +kernel, by decide +kernel⟩, tm_1 53 (by decide +kernel), tm_4 22 (by decide +kernel), tm_4 23 (by decide +kernel)⟩
theorem lw_p17 : lw_okq (⟨"CountyWatch$Reader", "readTerm", "(I)Z"⟩, 10) := ⟨⟨by decide +kernel, by decide +kernel⟩, tm_1 53 (by decide +kernel), tm_4 26 (by decide +kernel), tm_4 27 (by decide +kernel)⟩
theorem lw_p18 : lw_okq (⟨"CountyWatch$Reader", "readAtom", "(I)Z"⟩, 10) := ⟨⟨by decide +kernel, by decide +kernel⟩, tm_1 53 (by decide +kernel), tm_4 30 (by decide +kernel), tm_4 31 (by decide +kernel)⟩
theorem lw_p19 : lw_okq (⟨"CountyWatch$Reader", "emit", "(II)I"⟩, 10) := ⟨⟨by decide +kernel, by decide +kernel⟩, tm_1 53 (by decide +kernel), tm_4 34 (by decide +kernel), tm_4 35 (by decide +kernel)⟩
theorem lw_p20 : lw_okq (⟨"CountyWatch$Reader", "readComparison", "(I)Z"⟩, 10) := ⟨⟨by decide +kernel, by decide +kernel⟩, tm_1 53 (by decide +kernel), tm_4 125 (by decide +kernel), tm_4 126 (by decide +kernel)⟩
theorem lw_p21 : lw_okq (⟨"CountyWatch$Reader", "readMoreParts", "(I)Z"⟩, 10) := ⟨⟨by decide +kernel, by decide +kernel⟩, tm_1 53 (by decide +kernel), tm_4 132 (by decide +kernel), tm_4 133 (by decide +kernel)⟩
theorem lw_p22 : lw_okq (⟨"CountyWatch$Reader", "readMoreUnits", "(I)Z"⟩, 10) := ⟨⟨by decide +kernel, by decide +kernel⟩, tm_1 53 (by decide +kernel), tm_4 136 (by decide +kernel), tm_4 137 (by decide +kernel)⟩
theorem lw_p23 : lw_okq (⟨"CountyWatch$Reader", "endClause", "(I)V"⟩, 10) := ⟨⟨by decide +kernel, by decide +kernel⟩, tm_1 53 (by decide +kernel), tm_4 141 (by decide +kernel), tm_4 142 (by decide +kernel)⟩
theorem lw_p24 : lw_okq (⟨"CountyWatch$Reader", "readPayClause", "()Z"⟩, 10) := ⟨⟨by decide +kernel, by decide +kernel⟩, tm_1 53 (by decide +kernel), tm_4 145 (by decide +kernel), tm_4 146 (by decide +kernel)⟩
theorem lw_p25 : lw_okq (⟨"CountyWatch$Reader", "readPayAnswer", "()Z"⟩, 10) := ⟨⟨by decide +kernel, by decide +kernel⟩, tm_1 53 (by decide +kernel), tm_4 149 (by decide +kernel), tm_4 150 (by decide +kernel)⟩
theorem lw_p26 : lw_okq (⟨"CountyWatch", "manOf", "(I)LCountyWatch$Constable;"⟩, 16) := ⟨⟨by decide +kernel, by decide +kernel⟩, tm_1 28 (by decide +kernel), tm_4 185 (by decide +kernel), tm_4 186 (by decide +kernel)⟩
theorem lw_p27 : lw_okq (⟨"CountyWatch", "writeRows", "(LCountyWatch$Constable;)V"⟩, 16) := ⟨⟨by decide +kernel, by decide +kernel⟩, tm_1 28 (by decide +kernel), tm_4 193 (by decide +kernel), tm_4 194 (by decide +kernel)⟩
theorem lw_p28 : lw_okq (⟨"CountyWatch", "doSteps", "(LCountyWatch$Constable;)V"⟩, 16) := ⟨⟨by decide +kernel, by decide +kernel⟩, tm_1 28 (by decide +kernel), tm_4 212 (by decide +kernel), tm_4 213 (by decide +kernel)⟩
theorem lw_p29 : lw_okq (⟨"CountyWatch", "takesTime", "(LCountyWatch$Constable;)Z"⟩, 16) := ⟨⟨by decide +kernel, by decide +kernel⟩, tm_1 28 (by decide +kernel), tm_4 216 (by decide +kernel), tm_4 217 (by decide +kernel)⟩
theorem lw_p30 : lw_okq (⟨"CountyWatch", "goesToMeet", "(LCountyWatch$Constable;I)Z"⟩, 16) := ⟨⟨by decide +kernel, by decide +kernel⟩, tm_1 28 (by decide +kernel), tm_4 220 (by decide +kernel), tm_4 221 (by decide +kernel)⟩
theorem lw_p31 : lw_okq (⟨"CountyWatch", "settleRow", "(LCountyWatch$Constable;II)V"⟩, 16) := ⟨⟨by decide +kernel, by decide +kernel⟩, tm_1 28 (by decide +kernel), tm_4 224 (by decide +kernel), tm_4 225 (by decide +kernel)⟩
noncomputable def lw_privs_2 : List (MethodName × Nat) := [(⟨"CountyWatch$Reader", "readSum", "(I)Z"⟩, 10), (⟨"CountyWatch$Reader", "readTerm", "(I)Z"⟩, 10), (⟨"CountyWatch$Reader", "readAtom", "(I)Z"⟩, 10), (⟨"CountyWatch$Reader", "emit", "(II)I"⟩, 10), (⟨"CountyWatch$Reader", "readComparison", "(I)Z"⟩, 10), (⟨"CountyWatch$Reader", "readMoreParts", "(I)Z"⟩, 10), (⟨"CountyWatch$Reader", "readMoreUnits", "(I)Z"⟩, 10), (⟨"CountyWatch$Reader", "endClause", "(I)V"⟩, 10), (⟨"CountyWatch$Reader", "readPayClause", "()Z"⟩, 10), (⟨"CountyWatch$Reader", "readPayAnswer", "()Z"⟩, 10), (⟨"CountyWatch", "manOf", "(I)LCountyWatch$Constable;"⟩, 16), (⟨"CountyWatch", "writeRows", "(LCountyWatch$Constable;)V"⟩, 16), (⟨"CountyWatch", "doSteps", "(LCountyWatch$Constable;)V"⟩, 16), (⟨"CountyWatch", "takesTime", "(LCountyWatch$Constable;)Z"⟩, 16), (⟨"CountyWatch", "goesToMeet", "(LCountyWatch$Constable;I)Z"⟩, 16), (⟨"CountyWatch", "settleRow", "(LCountyWatch$Constable;II)V"⟩, 16)]
theorem lw_r2 : ∀ q ∈ lw_privs_2, lw_okq q := List.forall_mem_cons.mpr ⟨lw_p16, List.forall_mem_cons.mpr ⟨lw_p17, List.forall_mem_cons.mpr ⟨lw_p18, List.forall_mem_cons.mpr ⟨lw_p19, List.forall_mem_cons.mpr ⟨lw_p20, List.forall_mem_cons.mpr ⟨lw_p21, List.forall_mem_cons.mpr ⟨lw_p22, List.forall_mem_cons.mpr ⟨lw_p23, List.forall_mem_cons.mpr ⟨lw_p24, List.forall_mem_cons.mpr ⟨lw_p25, List.forall_mem_cons.mpr ⟨lw_p26, List.forall_mem_cons.mpr ⟨lw_p27, List.forall_mem_cons.mpr ⟨lw_p28, List.forall_mem_cons.mpr ⟨lw_p29, List.forall_mem_cons.mpr ⟨lw_p30, List.forall_mem_cons.mpr ⟨lw_p31, fun _ h => absurd h List.not_mem_nil⟩⟩⟩⟩⟩⟩⟩⟩⟩⟩⟩⟩⟩⟩⟩⟩
theorem lw_p32 : lw_okq (⟨"CountyWatch", "setsOut", "(LCountyWatch$Constable;I)Z"⟩, 16) := ⟨⟨by decide +kernel, by decide +kernel⟩, tm_1 28 (by decide +kernel), tm_4 232 (by decide +kernel), tm_4 233 (by decide +kernel)⟩
theorem lw_p33 : lw_okq (⟨"CountyWatch", "waitsAtPoint", "(LCountyWatch$Constable;I)Z"⟩, 16) := ⟨⟨by decide +kernel, by decide +kernel⟩, tm_1 28 (by decide +kernel), tm_4 236 (by decide +kernel), tm_4 237 (by decide +kernel)⟩
theorem lw_p34 : lw_okq (⟨"CountyWatch", "goHome", "(LCountyWatch$Constable;)V"⟩, 16) := ⟨⟨by decide +kernel, by decide +kernel⟩, tm_1 28 (by decide +kernel), tm_5 0 (by decide +kernel), tm_5 1 (by decide +kernel)⟩
theorem lw_p35 : lw_okq (⟨"CountyWatch", "setFree", "(LCountyWatch$Constable;)V"⟩, 16) := ⟨⟨by decide +kernel, by decide +kernel⟩, tm_1 28 (by decide +kernel), tm_5 4 (by decide +kernel), tm_5 5 (by decide +kernel)⟩
theorem lw_p36 : lw_okq (⟨"CountyWatch", "drop", "(LCountyWatch$Constable;I)V"⟩, 16) := ⟨⟨by decide +kernel, by decide +kernel⟩, tm_1 28 (by decide +kernel), tm_5 16 (by decide +kernel), tm_5 17 (by decide +kernel)⟩
theorem lw_p37 : lw_okq (⟨"CountyWatch", "serveDrawn", "(LCountyWatch$Constable;)V"⟩, 16) := ⟨⟨by decide +kernel, by decide +kernel⟩, tm_1 28 (by decide +kernel), tm_5 24 (by decide +kernel), tm_5 25 (by decide +kernel)⟩
theorem lw_p38 : lw_okq (⟨"CountyWatch", "makeHistory", "(I)V"⟩, 16) := ⟨⟨by decide +kernel, by decide +kernel⟩, tm_1 28 (by decide +kernel), tm_5 36 (by decide +kernel), tm_5 37 (by decide +kernel)⟩
theorem lw_p39 : lw_okq (⟨"CountyWatch", "goOn", "(LCountyWatch$Constable;)V"⟩, 16) := ⟨⟨by decide +kernel, by decide +kernel⟩, tm_1 28 (by decide +kernel), tm_5 56 (by decide +kernel), tm_5 57 (by decide +kernel)⟩
theorem lw_p40 : lw_okq (⟨"CountyWatch", "endsStep", "(LCountyWatch$Constable;Z)Z"⟩, 16) := ⟨⟨by decide +kernel, by decide +kernel⟩, tm_1 28 (by decide +kernel), tm_5 60 (by decide +kernel), tm_5 61 (by decide +kernel)⟩
theorem lw_p41 : lw_okq (⟨"CountyWatch", "look", "(LCountyWatch$Constable;)V"⟩, 16) := ⟨⟨by decide +kernel, by decide +kernel⟩, tm_1 28 (by decide +kernel), tm_5 64 (by decide +kernel), tm_5 65 (by decide +kernel)⟩
theorem lw_p42 : lw_okq (⟨"CountyWatch", "see", "(LCountyWatch$Constable;I)V"⟩, 16) := ⟨⟨by decide +kernel, by decide +kernel⟩, tm_1 28 (by decide +kernel), tm_5 73 (by decide +kernel), tm_5 74 (by decide +kernel)⟩
theorem lw_p43 : lw_okq (⟨"CountyWatch", "countMenAt", "(I)I"⟩, 16) := ⟨⟨by decide +kernel, by decide +kernel⟩, tm_1 28 (by decide +kernel), tm_5 94 (by decide +kernel), tm_5 95 (by decide +kernel)⟩
theorem lw_p44 : lw_okq (⟨"CountyWatch", "isMan", "(I)Z"⟩, 16) := ⟨⟨by decide +kernel, by decide +kernel⟩, tm_1 28 (by decide +kernel), tm_5 139 (by decide +kernel), tm_5 140 (by decide +kernel)⟩
theorem lw_p45 : lw_okq (⟨"CountyWatch", "isKnown", "(I)Z"⟩, 16) := ⟨⟨by decide +kernel, by decide +kernel⟩, tm_1 28 (by decide +kernel), tm_5 143 (by decide +kernel), tm_5 144 (by decide +kernel)⟩
theorem lw_p46 : lw_okq (⟨"CountyWatch", "placeSign", "(II)I"⟩, 16) := ⟨⟨by decide +kernel, by decide +kernel⟩, tm_1 28 (by decide +kernel), tm_5 147 (by decide +kernel), tm_5 148 (by decide +kernel)⟩
theorem lw_p47 : lw_okq (⟨"CountyWatch$Points", "outcomeAt", "(II)I"⟩, 12) := ⟨⟨by decide +kernel, by decide +kernel⟩, tm_1 147 (by decide +kernel), tm_5 164 (by decide +kernel), tm_5 165 (by decide +kernel)⟩
noncomputable def lw_privs_3 : List (MethodName × Nat) := [(⟨"CountyWatch", "setsOut", "(LCountyWatch$Constable;I)Z"⟩, 16), (⟨"CountyWatch", "waitsAtPoint", "(LCountyWatch$Constable;I)Z"⟩, 16), (⟨"CountyWatch", "goHome", "(LCountyWatch$Constable;)V"⟩, 16), (⟨"CountyWatch", "setFree", "(LCountyWatch$Constable;)V"⟩, 16), (⟨"CountyWatch", "drop", "(LCountyWatch$Constable;I)V"⟩, 16), (⟨"CountyWatch", "serveDrawn", "(LCountyWatch$Constable;)V"⟩, 16), (⟨"CountyWatch", "makeHistory", "(I)V"⟩, 16), (⟨"CountyWatch", "goOn", "(LCountyWatch$Constable;)V"⟩, 16), (⟨"CountyWatch", "endsStep", "(LCountyWatch$Constable;Z)Z"⟩, 16), (⟨"CountyWatch", "look", "(LCountyWatch$Constable;)V"⟩, 16), (⟨"CountyWatch", "see", "(LCountyWatch$Constable;I)V"⟩, 16), (⟨"CountyWatch", "countMenAt", "(I)I"⟩, 16), (⟨"CountyWatch", "isMan", "(I)Z"⟩, 16), (⟨"CountyWatch", "isKnown", "(I)Z"⟩, 16), (⟨"CountyWatch", "placeSign", "(II)I"⟩, 16), (⟨"CountyWatch$Points", "outcomeAt", "(II)I"⟩, 12)]
theorem lw_r3 : ∀ q ∈ lw_privs_3, lw_okq q := List.forall_mem_cons.mpr ⟨lw_p32, List.forall_mem_cons.mpr ⟨lw_p33, List.forall_mem_cons.mpr ⟨lw_p34, List.forall_mem_cons.mpr ⟨lw_p35, List.forall_mem_cons.mpr ⟨lw_p36, List.forall_mem_cons.mpr ⟨lw_p37, List.forall_mem_cons.mpr ⟨lw_p38, List.forall_mem_cons.mpr ⟨lw_p39, List.forall_mem_cons.mpr ⟨lw_p40, List.forall_mem_cons.mpr ⟨lw_p41, List.forall_mem_cons.mpr ⟨lw_p42, List.forall_mem_cons.mpr ⟨lw_p43, List.forall_mem_cons.mpr ⟨lw_p44, List.forall_mem_cons.mpr ⟨lw_p45, List.forall_mem_cons.mpr ⟨lw_p46, List.forall_mem_cons.mpr ⟨lw_p47, fun _ h => absurd h List.not_mem_nil⟩⟩⟩⟩⟩⟩⟩⟩⟩⟩⟩⟩⟩⟩⟩⟩
theorem lw_p48 : lw_okq (⟨"CountyWatch$Points", "causeAt", "(II)I"⟩, 12) := ⟨⟨by decide +kernel, by decide +kernel⟩, tm_1 147 (by decide +kernel), tm_5 168 (by decide +kernel), tm_5 169 (by decide +kernel)⟩
theorem lw_p49 : lw_okq (⟨"CountyWatch", "keepRule", "(LCountyWatch$Rules;I)I"⟩, 16) := ⟨⟨by decide +kernel, by decide +kernel⟩, tm_1 28 (by decide +kernel), tm_5 200 (by decide +kernel), tm_5 201 (by decide +kernel)⟩
theorem lw_p50 : lw_okq (⟨"CountyWatch$Cases", "wholeStanding", "(II)I"⟩, 16) := ⟨⟨by decide +kernel, by decide +kernel⟩, tm_2 14 (by decide +kernel), tm_6 37 (by decide +kernel), tm_6 38 (by decide +kernel)⟩
theorem lw_p51 : lw_okq (⟨"CountyWatch$Cases", "stillHeard", "(I)I"⟩, 16) := ⟨⟨by decide +kernel, by decide +kernel⟩, tm_2 14 (by decide +kernel), tm_6 45 (by decide +kernel), tm_6 46 (by decide +kernel)⟩
theorem lw_p52 : lw_okq (⟨"CountyWatch$Cases", "standing", "(I)I"⟩, 16) := ⟨⟨by decide +kernel, by decide +kernel⟩, tm_2 14 (by decide +kernel), tm_6 49 (by decide +kernel), tm_6 50 (by decide +kernel)⟩
theorem lw_p53 : lw_okq (⟨"CountyWatch$Cases", "needsOf", "(I)I"⟩, 16) := ⟨⟨by decide +kernel, by decide +kernel⟩, tm_2 14 (by decide +kernel), tm_6 53 (by decide +kernel), tm_6 54 (by decide +kernel)⟩
theorem lw_p54 : lw_okq (⟨"CountyWatch$Cases", "factsThatAre", "(I)I"⟩, 16) := ⟨⟨by decide +kernel, by decide +kernel⟩, tm_2 14 (by decide +kernel), tm_6 58 (by decide +kernel), tm_6 59 (by decide +kernel)⟩
theorem lw_p55 : lw_okq (⟨"CountyWatch$Cases", "lacks", "(I)I"⟩, 16) := ⟨⟨by decide +kernel, by decide +kernel⟩, tm_2 14 (by decide +kernel), tm_6 72 (by decide +kernel), tm_6 73 (by decide +kernel)⟩
theorem lw_p56 : lw_okq (⟨"CountyWatch$Cases", "countStories", "(IIIZ)I"⟩, 16) := ⟨⟨by decide +kernel, by decide +kernel⟩, tm_2 14 (by decide +kernel), tm_6 94 (by decide +kernel), tm_6 95 (by decide +kernel)⟩
theorem lw_p57 : lw_okq (⟨"CountyWatch$Goods", "solve", "()V"⟩, 11) := ⟨⟨by decide +kernel, by decide +kernel⟩, tm_2 76 (by decide +kernel), tm_6 140 (by decide +kernel), tm_6 141 (by decide +kernel)⟩
theorem lw_p58 : lw_okq (⟨"CountyWatch$Goods", "fillGains", "()V"⟩, 11) := ⟨⟨by decide +kernel, by decide +kernel⟩, tm_2 76 (by decide +kernel), tm_6 144 (by decide +kernel), tm_6 145 (by decide +kernel)⟩
theorem lw_p59 : lw_okq (⟨"CountyWatch$Goods", "fillBest", "()V"⟩, 11) := ⟨⟨by decide +kernel, by decide +kernel⟩, tm_2 76 (by decide +kernel), tm_6 151 (by decide +kernel), tm_6 152 (by decide +kernel)⟩
theorem lw_p60 : lw_okq (⟨"CountyWatch$Goods", "canJoin", "(III)Z"⟩, 11) := ⟨⟨by decide +kernel, by decide +kernel⟩, tm_2 76 (by decide +kernel), tm_6 156 (by decide +kernel), tm_6 157 (by decide +kernel)⟩
theorem lw_p61 : lw_okq (⟨"CountyWatch$Goods", "sumWith", "(III)I"⟩, 11) := ⟨⟨by decide +kernel, by decide +kernel⟩, tm_2 76 (by decide +kernel), tm_6 160 (by decide +kernel), tm_6 161 (by decide +kernel)⟩
theorem lw_p62 : lw_okq (⟨"CountyWatch$Goods", "fillChoices", "()V"⟩, 11) := ⟨⟨by decide +kernel, by decide +kernel⟩, tm_2 76 (by decide +kernel), tm_6 165 (by decide +kernel), tm_6 166 (by decide +kernel)⟩
theorem lw_p63 : lw_okq (⟨"CountyWatch$Goods", "spreadFrom", "(II)V"⟩, 11) := ⟨⟨by decide +kernel, by decide +kernel⟩, tm_2 76 (by decide +kernel), tm_6 169 (by decide +kernel), tm_6 170 (by decide +kernel)⟩
noncomputable def lw_privs_4 : List (MethodName × Nat) := [(⟨"CountyWatch$Points", "causeAt", "(II)I"⟩, 12), (⟨"CountyWatch", "keepRule", "(LCountyWatch$Rules;I)I"⟩, 16), (⟨"CountyWatch$Cases", "wholeStanding", "(II)I"⟩, 16), (⟨"CountyWatch$Cases", "stillHeard", "(I)I"⟩, 16), (⟨"CountyWatch$Cases", "standing", "(I)I"⟩, 16), (⟨"CountyWatch$Cases", "needsOf", "(I)I"⟩, 16), (⟨"CountyWatch$Cases", "factsThatAre", "(I)I"⟩, 16), (⟨"CountyWatch$Cases", "lacks", "(I)I"⟩, 16), (⟨"CountyWatch$Cases", "countStories", "(IIIZ)I"⟩, 16), (⟨"CountyWatch$Goods", "solve", "()V"⟩, 11), (⟨"CountyWatch$Goods", "fillGains", "()V"⟩, 11), (⟨"CountyWatch$Goods", "fillBest", "()V"⟩, 11), (⟨"CountyWatch$Goods", "canJoin", "(III)Z"⟩, 11), (⟨"CountyWatch$Goods", "sumWith", "(III)I"⟩, 11), (⟨"CountyWatch$Goods", "fillChoices", "()V"⟩, 11), (⟨"CountyWatch$Goods", "spreadFrom", "(II)V"⟩, 11)]
theorem lw_r4 : ∀ q ∈ lw_privs_4, lw_okq q := List.forall_mem_cons.mpr ⟨lw_p48, List.forall_mem_cons.mpr ⟨lw_p49, List.forall_mem_cons.mpr ⟨lw_p50, List.forall_mem_cons.mpr ⟨lw_p51, List.forall_mem_cons.mpr ⟨lw_p52, List.forall_mem_cons.mpr ⟨lw_p53, List.forall_mem_cons.mpr ⟨lw_p54, List.forall_mem_cons.mpr ⟨lw_p55, List.forall_mem_cons.mpr ⟨lw_p56, List.forall_mem_cons.mpr ⟨lw_p57, List.forall_mem_cons.mpr ⟨lw_p58, List.forall_mem_cons.mpr ⟨lw_p59, List.forall_mem_cons.mpr ⟨lw_p60, List.forall_mem_cons.mpr ⟨lw_p61, List.forall_mem_cons.mpr ⟨lw_p62, List.forall_mem_cons.mpr ⟨lw_p63, fun _ h => absurd h List.not_mem_nil⟩⟩⟩⟩⟩⟩⟩⟩⟩⟩⟩⟩⟩⟩⟩⟩
theorem lw_p64 : lw_okq (⟨"CountyWatch$Goods", "fillFirst", "()V"⟩, 11) := ⟨⟨by decide +kernel, by decide +kernel⟩, tm_2 76 (by decide +kernel), tm_6 173 (by decide +kernel), tm_6 174 (by decide +kernel)⟩
theorem lw_p65 : lw_okq (⟨"CountyWatch", "canShare", "(I)Z"⟩, 16) := ⟨⟨by decide +kernel, by decide +kernel⟩, tm_1 28 (by decide +kernel), tm_7 3 (by decide +kernel), tm_7 4 (by decide +kernel)⟩
theorem lw_p66 : lw_okq (⟨"CountyWatch$Plans", "findShares", "(ILCountyWatch$Beats;LCountyWatch$Roads;)V"⟩, 20) := ⟨⟨by decide +kernel, by decide +kernel⟩, tm_2 118 (by decide +kernel), tm_7 12 (by decide +kernel), tm_7 13 (by decide +kernel)⟩
theorem lw_p67 : lw_okq (⟨"CountyWatch$Plans", "sightOf", "(ILCountyWatch$Beats;LCountyWatch$Roads;)J"⟩, 20) := ⟨⟨by decide +kernel, by decide +kernel⟩, tm_2 118 (by decide +kernel), tm_7 16 (by decide +kernel), tm_7 17 (by decide +kernel)⟩
theorem lw_p68 : lw_okq (⟨"CountyWatch$Plans", "deal", "(IIJ)V"⟩, 20) := ⟨⟨by decide +kernel, by decide +kernel⟩, tm_2 118 (by decide +kernel), tm_7 21 (by decide +kernel), tm_7 22 (by decide +kernel)⟩
theorem lw_p69 : lw_okq (⟨"CountyWatch$Plans", "judge", "(J)V"⟩, 20) := ⟨⟨by decide +kernel, by decide +kernel⟩, tm_2 118 (by decide +kernel), tm_7 25 (by decide +kernel), tm_7 26 (by decide +kernel)⟩
theorem lw_p70 : lw_okq (⟨"CountyWatch", "findLending", "()Z"⟩, 16) := ⟨⟨by decide +kernel, by decide +kernel⟩, tm_1 28 (by decide +kernel), tm_7 53 (by decide +kernel), tm_7 54 (by decide +kernel)⟩
theorem lw_p71 : lw_okq (⟨"CountyWatch", "priceOf", "(LCountyWatch$Constable;II)I"⟩, 16) := ⟨⟨by decide +kernel, by decide +kernel⟩, tm_1 28 (by decide +kernel), tm_7 65 (by decide +kernel), tm_7 66 (by decide +kernel)⟩
theorem lw_p72 : lw_okq (⟨"CountyWatch$Plans", "allWanted", "()I"⟩, 20) := ⟨⟨by decide +kernel, by decide +kernel⟩, tm_2 118 (by decide +kernel), tm_7 81 (by decide +kernel), tm_7 82 (by decide +kernel)⟩
theorem lw_p73 : lw_okq (⟨"CountyWatch$Plans", "leastCost", "(II)I"⟩, 20) := ⟨⟨by decide +kernel, by decide +kernel⟩, tm_2 118 (by decide +kernel), tm_7 86 (by decide +kernel), tm_7 87 (by decide +kernel)⟩
theorem lw_p74 : lw_okq (⟨"CountyWatch$Plans", "costWith", "(III)I"⟩, 20) := ⟨⟨by decide +kernel, by decide +kernel⟩, tm_2 118 (by decide +kernel), tm_7 90 (by decide +kernel), tm_7 91 (by decide +kernel)⟩
theorem lw_p75 : lw_okq (⟨"CountyWatch$Plans", "traceLending", "(II)V"⟩, 20) := ⟨⟨by decide +kernel, by decide +kernel⟩, tm_2 118 (by decide +kernel), tm_7 94 (by decide +kernel), tm_7 95 (by decide +kernel)⟩
theorem lw_p76 : lw_okq (⟨"CountyWatch", "wageOf", "(LCountyWatch$Constable;II)I"⟩, 16) := ⟨⟨by decide +kernel, by decide +kernel⟩, tm_1 28 (by decide +kernel), tm_7 142 (by decide +kernel), tm_7 143 (by decide +kernel)⟩
theorem lw_p77 : lw_okq (⟨"CountyWatch$Points", "wasDue", "(III)Z"⟩, 12) := ⟨⟨by decide +kernel, by decide +kernel⟩, tm_1 147 (by decide +kernel), tm_7 150 (by decide +kernel), tm_7 151 (by decide +kernel)⟩
theorem lw_p78 : lw_okq (⟨"CountyWatch$Payroll", "writeLine", "(II)V"⟩, 16) := ⟨⟨by decide +kernel, by decide +kernel⟩, tm_2 188 (by decide +kernel), tm_7 176 (by decide +kernel), tm_7 177 (by decide +kernel)⟩
theorem lw_p79 : lw_okq (⟨"CountyWatch", "countMore", "(I)I"⟩, 16) := ⟨⟨by decide +kernel, by decide +kernel⟩, tm_1 28 (by decide +kernel), tm_7 218 (by decide +kernel), tm_7 219 (by decide +kernel)⟩
noncomputable def lw_privs_5 : List (MethodName × Nat) := [(⟨"CountyWatch$Goods", "fillFirst", "()V"⟩, 11), (⟨"CountyWatch", "canShare", "(I)Z"⟩, 16), (⟨"CountyWatch$Plans", "findShares", "(ILCountyWatch$Beats;LCountyWatch$Roads;)V"⟩, 20), (⟨"CountyWatch$Plans", "sightOf", "(ILCountyWatch$Beats;LCountyWatch$Roads;)J"⟩, 20), (⟨"CountyWatch$Plans", "deal", "(IIJ)V"⟩, 20), (⟨"CountyWatch$Plans", "judge", "(J)V"⟩, 20), (⟨"CountyWatch", "findLending", "()Z"⟩, 16), (⟨"CountyWatch", "priceOf", "(LCountyWatch$Constable;II)I"⟩, 16), (⟨"CountyWatch$Plans", "allWanted", "()I"⟩, 20), (⟨"CountyWatch$Plans", "leastCost", "(II)I"⟩, 20), (⟨"CountyWatch$Plans", "costWith", "(III)I"⟩, 20), (⟨"CountyWatch$Plans", "traceLending", "(II)V"⟩, 20), (⟨"CountyWatch", "wageOf", "(LCountyWatch$Constable;II)I"⟩, 16), (⟨"CountyWatch$Points", "wasDue", "(III)Z"⟩, 12), (⟨"CountyWatch$Payroll", "writeLine", "(II)V"⟩, 16), (⟨"CountyWatch", "countMore", "(I)I"⟩, 16)]
theorem lw_r5 : ∀ q ∈ lw_privs_5, lw_okq q := List.forall_mem_cons.mpr ⟨lw_p64, List.forall_mem_cons.mpr ⟨lw_p65, List.forall_mem_cons.mpr ⟨lw_p66, List.forall_mem_cons.mpr ⟨lw_p67, List.forall_mem_cons.mpr ⟨lw_p68, List.forall_mem_cons.mpr ⟨lw_p69, List.forall_mem_cons.mpr ⟨lw_p70, List.forall_mem_cons.mpr ⟨lw_p71, List.forall_mem_cons.mpr ⟨lw_p72, List.forall_mem_cons.mpr ⟨lw_p73, List.forall_mem_cons.mpr ⟨lw_p74, List.forall_mem_cons.mpr ⟨lw_p75, List.forall_mem_cons.mpr ⟨lw_p76, List.forall_mem_cons.mpr ⟨lw_p77, List.forall_mem_cons.mpr ⟨lw_p78, List.forall_mem_cons.mpr ⟨lw_p79, fun _ h => absurd h List.not_mem_nil⟩⟩⟩⟩⟩⟩⟩⟩⟩⟩⟩⟩⟩⟩⟩⟩
theorem lw_p80 : lw_okq (⟨"java/lang/Throwable", "fillInStackTrace", "(I)Ljava/lang/Throwable;"⟩, 6) := ⟨⟨by decide +kernel, by decide +kernel⟩, tm_8 26 (by decide +kernel), tm_8 24 (by decide +kernel), tm_8 25 (by decide +kernel)⟩
theorem lw_p81 : lw_okq (⟨"CountyWatchModel", "walkOf", "(II)I"⟩, 131) := ⟨⟨by decide +kernel, by decide +kernel⟩, tm_8 56 (by decide +kernel), tm_9 231 (by decide +kernel), tm_9 232 (by decide +kernel)⟩
theorem lw_p82 : lw_okq (⟨"CountyWatchModel", "isMan", "(I)Z"⟩, 131) := ⟨⟨by decide +kernel, by decide +kernel⟩, tm_8 56 (by decide +kernel), tm_10 4 (by decide +kernel), tm_10 5 (by decide +kernel)⟩
theorem lw_p83 : lw_okq (⟨"CountyWatchModel", "isKnowing", "(I)Z"⟩, 131) := ⟨⟨by decide +kernel, by decide +kernel⟩, tm_8 56 (by decide +kernel), tm_10 12 (by decide +kernel), tm_10 13 (by decide +kernel)⟩
theorem lw_p84 : lw_okq (⟨"CountyWatchModel", "rankOn", "(III)I"⟩, 131) := ⟨⟨by decide +kernel, by decide +kernel⟩, tm_8 56 (by decide +kernel), tm_10 16 (by decide +kernel), tm_10 17 (by decide +kernel)⟩
theorem lw_p85 : lw_okq (⟨"CountyWatchModel", "stepsRead", "()V"⟩, 131) := ⟨⟨by decide +kernel, by decide +kernel⟩, tm_8 56 (by decide +kernel), tm_10 39 (by decide +kernel), tm_10 40 (by decide +kernel)⟩
theorem lw_p86 : lw_okq (⟨"CountyWatchModel", "stepRead", "()V"⟩, 131) := ⟨⟨by decide +kernel, by decide +kernel⟩, tm_8 56 (by decide +kernel), tm_10 43 (by decide +kernel), tm_10 44 (by decide +kernel)⟩
theorem lw_p87 : lw_okq (⟨"CountyWatchModel", "look", "()I"⟩, 131) := ⟨⟨by decide +kernel, by decide +kernel⟩, tm_8 56 (by decide +kernel), tm_10 47 (by decide +kernel), tm_10 48 (by decide +kernel)⟩
theorem lw_p88 : lw_okq (⟨"CountyWatchModel", "say", "(I)V"⟩, 131) := ⟨⟨by decide +kernel, by decide +kernel⟩, tm_8 56 (by decide +kernel), tm_10 51 (by decide +kernel), tm_10 52 (by decide +kernel)⟩
theorem lw_p89 : lw_okq (⟨"CountyWatchModel", "within", "(II)I"⟩, 131) := ⟨⟨by decide +kernel, by decide +kernel⟩, tm_8 56 (by decide +kernel), tm_10 55 (by decide +kernel), tm_10 56 (by decide +kernel)⟩
theorem lw_p90 : lw_okq (⟨"CountyWatchModel", "number", "()I"⟩, 131) := ⟨⟨by decide +kernel, by decide +kernel⟩, tm_8 56 (by decide +kernel), tm_10 59 (by decide +kernel), tm_10 60 (by decide +kernel)⟩
theorem lw_p91 : lw_okq (⟨"CountyWatchModel", "bad", "()V"⟩, 131) := ⟨⟨by decide +kernel, by decide +kernel⟩, tm_8 56 (by decide +kernel), tm_10 66 (by decide +kernel), tm_10 67 (by decide +kernel)⟩
theorem lw_p92 : lw_okq (⟨"CountyWatchModel", "clause", "()V"⟩, 131) := ⟨⟨by decide +kernel, by decide +kernel⟩, tm_8 56 (by decide +kernel), tm_10 70 (by decide +kernel), tm_10 71 (by decide +kernel)⟩
theorem lw_p93 : lw_okq (⟨"CountyWatchModel", "condition", "(Z)V"⟩, 131) := ⟨⟨by decide +kernel, by decide +kernel⟩, tm_8 56 (by decide +kernel), tm_10 74 (by decide +kernel), tm_10 75 (by decide +kernel)⟩
theorem lw_p94 : lw_okq (⟨"CountyWatchModel", "part", "(Z)V"⟩, 131) := ⟨⟨by decide +kernel, by decide +kernel⟩, tm_8 56 (by decide +kernel), tm_10 78 (by decide +kernel), tm_10 79 (by decide +kernel)⟩
theorem lw_p95 : lw_okq (⟨"CountyWatchModel", "compare", "()V"⟩, 131) := ⟨⟨by decide +kernel, by decide +kernel⟩, tm_8 56 (by decide +kernel), tm_10 82 (by decide +kernel), tm_10 83 (by decide +kernel)⟩
noncomputable def lw_privs_6 : List (MethodName × Nat) := [(⟨"java/lang/Throwable", "fillInStackTrace", "(I)Ljava/lang/Throwable;"⟩, 6), (⟨"CountyWatchModel", "walkOf", "(II)I"⟩, 131), (⟨"CountyWatchModel", "isMan", "(I)Z"⟩, 131), (⟨"CountyWatchModel", "isKnowing", "(I)Z"⟩, 131), (⟨"CountyWatchModel", "rankOn", "(III)I"⟩, 131), (⟨"CountyWatchModel", "stepsRead", "()V"⟩, 131), (⟨"CountyWatchModel", "stepRead", "()V"⟩, 131), (⟨"CountyWatchModel", "look", "()I"⟩, 131), (⟨"CountyWatchModel", "say", "(I)V"⟩, 131), (⟨"CountyWatchModel", "within", "(II)I"⟩, 131), (⟨"CountyWatchModel", "number", "()I"⟩, 131), (⟨"CountyWatchModel", "bad", "()V"⟩, 131), (⟨"CountyWatchModel", "clause", "()V"⟩, 131), (⟨"CountyWatchModel", "condition", "(Z)V"⟩, 131), (⟨"CountyWatchModel", "part", "(Z)V"⟩, 131), (⟨"CountyWatchModel", "compare", "()V"⟩, 131)]
theorem lw_r6 : ∀ q ∈ lw_privs_6, lw_okq q := List.forall_mem_cons.mpr ⟨lw_p80, List.forall_mem_cons.mpr ⟨lw_p81, List.forall_mem_cons.mpr ⟨lw_p82, List.forall_mem_cons.mpr ⟨lw_p83, List.forall_mem_cons.mpr ⟨lw_p84, List.forall_mem_cons.mpr ⟨lw_p85, List.forall_mem_cons.mpr ⟨lw_p86, List.forall_mem_cons.mpr ⟨lw_p87, List.forall_mem_cons.mpr ⟨lw_p88, List.forall_mem_cons.mpr ⟨lw_p89, List.forall_mem_cons.mpr ⟨lw_p90, List.forall_mem_cons.mpr ⟨lw_p91, List.forall_mem_cons.mpr ⟨lw_p92, List.forall_mem_cons.mpr ⟨lw_p93, List.forall_mem_cons.mpr ⟨lw_p94, List.forall_mem_cons.mpr ⟨lw_p95, fun _ h => absurd h List.not_mem_nil⟩⟩⟩⟩⟩⟩⟩⟩⟩⟩⟩⟩⟩⟩⟩⟩
theorem lw_p96 : lw_okq (⟨"CountyWatchModel", "sum", "()V"⟩, 131) := ⟨⟨by decide +kernel, by decide +kernel⟩, tm_8 56 (by decide +kernel), tm_10 89 (by decide +kernel), tm_10 90 (by decide +kernel)⟩
theorem lw_p97 : lw_okq (⟨"CountyWatchModel", "term", "()V"⟩, 131) := ⟨⟨by decide +kernel, by decide +kernel⟩, tm_8 56 (by decide +kernel), tm_10 93 (by decide +kernel), tm_10 94 (by decide +kernel)⟩
theorem lw_p98 : lw_okq (⟨"CountyWatchModel", "atom", "()V"⟩, 131) := ⟨⟨by decide +kernel, by decide +kernel⟩, tm_8 56 (by decide +kernel), tm_10 97 (by decide +kernel), tm_10 98 (by decide +kernel)⟩
theorem lw_p99 : lw_okq (⟨"CountyWatchModel", "opens", "()Z"⟩, 131) := ⟨⟨by decide +kernel, by decide +kernel⟩, tm_8 56 (by decide +kernel), tm_10 101 (by decide +kernel), tm_10 102 (by decide +kernel)⟩
theorem lw_p100 : lw_okq (⟨"CountyWatchModel", "closes", "(I)V"⟩, 131) := ⟨⟨by decide +kernel, by decide +kernel⟩, tm_8 56 (by decide +kernel), tm_10 105 (by decide +kernel), tm_10 106 (by decide +kernel)⟩
theorem lw_p101 : lw_okq (⟨"CountyWatchModel", "unit", "()V"⟩, 131) := ⟨⟨by decide +kernel, by decide +kernel⟩, tm_8 56 (by decide +kernel), tm_10 112 (by decide +kernel), tm_10 113 (by decide +kernel)⟩
theorem lw_p102 : lw_okq (⟨"CountyWatchModel", "ask", "()V"⟩, 131) := ⟨⟨by decide +kernel, by decide +kernel⟩, tm_8 56 (by decide +kernel), tm_10 116 (by decide +kernel), tm_10 117 (by decide +kernel)⟩
theorem lw_p103 : lw_okq (⟨"CountyWatchModel", "unfold", "(IZ)Z"⟩, 131) := ⟨⟨by decide +kernel, by decide +kernel⟩, tm_8 56 (by decide +kernel), tm_10 120 (by decide +kernel), tm_10 121 (by decide +kernel)⟩
theorem lw_p104 : lw_okq (⟨"CountyWatchModel", "pointsOf", "(I)I"⟩, 131) := ⟨⟨by decide +kernel, by decide +kernel⟩, tm_8 56 (by decide +kernel), tm_10 128 (by decide +kernel), tm_10 129 (by decide +kernel)⟩
theorem lw_p105 : lw_okq (⟨"CountyWatchModel", "text", "(II)I"⟩, 131) := ⟨⟨by decide +kernel, by decide +kernel⟩, tm_8 56 (by decide +kernel), tm_10 137 (by decide +kernel), tm_10 138 (by decide +kernel)⟩
theorem lw_p106 : lw_okq (⟨"CountyWatchModel", "forceOf", "(III)I"⟩, 131) := ⟨⟨by decide +kernel, by decide +kernel⟩, tm_8 56 (by decide +kernel), tm_10 149 (by decide +kernel), tm_10 150 (by decide +kernel)⟩
theorem lw_p107 : lw_okq (⟨"CountyWatchModel", "stateOf", "(II)I"⟩, 131) := ⟨⟨by decide +kernel, by decide +kernel⟩, tm_8 56 (by decide +kernel), tm_10 157 (by decide +kernel), tm_10 158 (by decide +kernel)⟩
theorem lw_p108 : lw_okq (⟨"CountyWatchModel", "causeOf", "(II)I"⟩, 131) := ⟨⟨by decide +kernel, by decide +kernel⟩, tm_8 56 (by decide +kernel), tm_10 161 (by decide +kernel), tm_10 162 (by decide +kernel)⟩
theorem lw_p109 : lw_okq (⟨"CountyWatchModel", "goOn", "(I)V"⟩, 131) := ⟨⟨by decide +kernel, by decide +kernel⟩, tm_8 56 (by decide +kernel), tm_10 177 (by decide +kernel), tm_10 178 (by decide +kernel)⟩
theorem lw_p110 : lw_okq (⟨"CountyWatchModel", "goHome", "(I)V"⟩, 131) := ⟨⟨by decide +kernel, by decide +kernel⟩, tm_8 56 (by decide +kernel), tm_10 181 (by decide +kernel), tm_10 182 (by decide +kernel)⟩
theorem lw_p111 : lw_okq (⟨"CountyWatchModel", "free", "(I)V"⟩, 131) := ⟨⟨by decide +kernel, by decide +kernel⟩, tm_8 56 (by decide +kernel), tm_10 185 (by decide +kernel), tm_10 186 (by decide +kernel)⟩
noncomputable def lw_privs_7 : List (MethodName × Nat) := [(⟨"CountyWatchModel", "sum", "()V"⟩, 131), (⟨"CountyWatchModel", "term", "()V"⟩, 131), (⟨"CountyWatchModel", "atom", "()V"⟩, 131), (⟨"CountyWatchModel", "opens", "()Z"⟩, 131), (⟨"CountyWatchModel", "closes", "(I)V"⟩, 131), (⟨"CountyWatchModel", "unit", "()V"⟩, 131), (⟨"CountyWatchModel", "ask", "()V"⟩, 131), (⟨"CountyWatchModel", "unfold", "(IZ)Z"⟩, 131), (⟨"CountyWatchModel", "pointsOf", "(I)I"⟩, 131), (⟨"CountyWatchModel", "text", "(II)I"⟩, 131), (⟨"CountyWatchModel", "forceOf", "(III)I"⟩, 131), (⟨"CountyWatchModel", "stateOf", "(II)I"⟩, 131), (⟨"CountyWatchModel", "causeOf", "(II)I"⟩, 131), (⟨"CountyWatchModel", "goOn", "(I)V"⟩, 131), (⟨"CountyWatchModel", "goHome", "(I)V"⟩, 131), (⟨"CountyWatchModel", "free", "(I)V"⟩, 131)]
theorem lw_r7 : ∀ q ∈ lw_privs_7, lw_okq q := List.forall_mem_cons.mpr ⟨lw_p96, List.forall_mem_cons.mpr ⟨lw_p97, List.forall_mem_cons.mpr ⟨lw_p98, List.forall_mem_cons.mpr ⟨lw_p99, List.forall_mem_cons.mpr ⟨lw_p100, List.forall_mem_cons.mpr ⟨lw_p101, List.forall_mem_cons.mpr ⟨lw_p102, List.forall_mem_cons.mpr ⟨lw_p103, List.forall_mem_cons.mpr ⟨lw_p104, List.forall_mem_cons.mpr ⟨lw_p105, List.forall_mem_cons.mpr ⟨lw_p106, List.forall_mem_cons.mpr ⟨lw_p107, List.forall_mem_cons.mpr ⟨lw_p108, List.forall_mem_cons.mpr ⟨lw_p109, List.forall_mem_cons.mpr ⟨lw_p110, List.forall_mem_cons.mpr ⟨lw_p111, fun _ h => absurd h List.not_mem_nil⟩⟩⟩⟩⟩⟩⟩⟩⟩⟩⟩⟩⟩⟩⟩⟩
theorem lw_p112 : lw_okq (⟨"CountyWatchModel", "setOut", "(II)V"⟩, 131) := ⟨⟨by decide +kernel, by decide +kernel⟩, tm_8 56 (by decide +kernel), tm_10 189 (by decide +kernel), tm_10 190 (by decide +kernel)⟩
theorem lw_p113 : lw_okq (⟨"CountyWatchModel", "miss", "(II)V"⟩, 131) := ⟨⟨by decide +kernel, by decide +kernel⟩, tm_8 56 (by decide +kernel), tm_10 193 (by decide +kernel), tm_10 194 (by decide +kernel)⟩
theorem lw_p114 : lw_okq (⟨"CountyWatchModel", "comes", "(II)Z"⟩, 131) := ⟨⟨by decide +kernel, by decide +kernel⟩, tm_8 56 (by decide +kernel), tm_10 197 (by decide +kernel), tm_10 198 (by decide +kernel)⟩
theorem lw_p115 : lw_okq (⟨"CountyWatchModel", "drop", "(II)V"⟩, 131) := ⟨⟨by decide +kernel, by decide +kernel⟩, tm_8 56 (by decide +kernel), tm_10 205 (by decide +kernel), tm_10 206 (by decide +kernel)⟩
theorem lw_p116 : lw_okq (⟨"CountyWatchModel", "goDrawn", "(I)V"⟩, 131) := ⟨⟨by decide +kernel, by decide +kernel⟩, tm_8 56 (by decide +kernel), tm_10 209 (by decide +kernel), tm_10 210 (by decide +kernel)⟩
theorem lw_p117 : lw_okq (⟨"CountyWatchModel", "stay", "(I)V"⟩, 131) := ⟨⟨by decide +kernel, by decide +kernel⟩, tm_8 56 (by decide +kernel), tm_10 213 (by decide +kernel), tm_10 214 (by decide +kernel)⟩
theorem lw_p118 : lw_okq (⟨"CountyWatchModel", "wake", "(I)V"⟩, 131) := ⟨⟨by decide +kernel, by decide +kernel⟩, tm_8 56 (by decide +kernel), tm_10 225 (by decide +kernel), tm_10 226 (by decide +kernel)⟩
theorem lw_p119 : lw_okq (⟨"CountyWatchModel", "wakeBeat", "(IZ)V"⟩, 131) := ⟨⟨by decide +kernel, by decide +kernel⟩, tm_8 56 (by decide +kernel), tm_10 229 (by decide +kernel), tm_10 230 (by decide +kernel)⟩
theorem lw_p120 : lw_okq (⟨"CountyWatchModel", "see", "(I)V"⟩, 131) := ⟨⟨by decide +kernel, by decide +kernel⟩, tm_8 56 (by decide +kernel), tm_10 233 (by decide +kernel), tm_10 234 (by decide +kernel)⟩
theorem lw_p121 : lw_okq (⟨"CountyWatchModel", "lets", "(II)I"⟩, 131) := ⟨⟨by decide +kernel, by decide +kernel⟩, tm_8 56 (by decide +kernel), tm_10 237 (by decide +kernel), tm_10 238 (by decide +kernel)⟩
theorem lw_p122 : lw_okq (⟨"CountyWatchModel", "tell", "(II)I"⟩, 131) := ⟨⟨by decide +kernel, by decide +kernel⟩, tm_8 56 (by decide +kernel), tm_11 25 (by decide +kernel), tm_11 26 (by decide +kernel)⟩
theorem lw_p123 : lw_okq (⟨"CountyWatchModel", "work", "()I"⟩, 131) := ⟨⟨by decide +kernel, by decide +kernel⟩, tm_8 56 (by decide +kernel), tm_11 29 (by decide +kernel), tm_11 30 (by decide +kernel)⟩
theorem lw_p124 : lw_okq (⟨"CountyWatchModel", "opened", "(I)I"⟩, 131) := ⟨⟨by decide +kernel, by decide +kernel⟩, tm_8 56 (by decide +kernel), tm_11 47 (by decide +kernel), tm_11 48 (by decide +kernel)⟩
theorem lw_p125 : lw_okq (⟨"CountyWatchModel", "pointsBy", "(IZ)I"⟩, 131) := ⟨⟨by decide +kernel, by decide +kernel⟩, tm_8 56 (by decide +kernel), tm_11 55 (by decide +kernel), tm_11 56 (by decide +kernel)⟩
theorem lw_p126 : lw_okq (⟨"CountyWatchModel", "wasAt", "(II)I"⟩, 131) := ⟨⟨by decide +kernel, by decide +kernel⟩, tm_8 56 (by decide +kernel), tm_11 63 (by decide +kernel), tm_11 64 (by decide +kernel)⟩
theorem lw_p127 : lw_okq (⟨"CountyWatchModel", "isCase", "(I)Z"⟩, 131) := ⟨⟨by decide +kernel, by decide +kernel⟩, tm_8 56 (by decide +kernel), tm_11 104 (by decide +kernel), tm_11 105 (by decide +kernel)⟩
noncomputable def lw_privs_8 : List (MethodName × Nat) := [(⟨"CountyWatchModel", "setOut", "(II)V"⟩, 131), (⟨"CountyWatchModel", "miss", "(II)V"⟩, 131), (⟨"CountyWatchModel", "comes", "(II)Z"⟩, 131), (⟨"CountyWatchModel", "drop", "(II)V"⟩, 131), (⟨"CountyWatchModel", "goDrawn", "(I)V"⟩, 131), (⟨"CountyWatchModel", "stay", "(I)V"⟩, 131), (⟨"CountyWatchModel", "wake", "(I)V"⟩, 131), (⟨"CountyWatchModel", "wakeBeat", "(IZ)V"⟩, 131), (⟨"CountyWatchModel", "see", "(I)V"⟩, 131), (⟨"CountyWatchModel", "lets", "(II)I"⟩, 131), (⟨"CountyWatchModel", "tell", "(II)I"⟩, 131), (⟨"CountyWatchModel", "work", "()I"⟩, 131), (⟨"CountyWatchModel", "opened", "(I)I"⟩, 131), (⟨"CountyWatchModel", "pointsBy", "(IZ)I"⟩, 131), (⟨"CountyWatchModel", "wasAt", "(II)I"⟩, 131), (⟨"CountyWatchModel", "isCase", "(I)Z"⟩, 131)]
theorem lw_r8 : ∀ q ∈ lw_privs_8, lw_okq q := List.forall_mem_cons.mpr ⟨lw_p112, List.forall_mem_cons.mpr ⟨lw_p113, List.forall_mem_cons.mpr ⟨lw_p114, List.forall_mem_cons.mpr ⟨lw_p115, List.forall_mem_cons.mpr ⟨lw_p116, List.forall_mem_cons.mpr ⟨lw_p117, List.forall_mem_cons.mpr ⟨lw_p118, List.forall_mem_cons.mpr ⟨lw_p119, List.forall_mem_cons.mpr ⟨lw_p120, List.forall_mem_cons.mpr ⟨lw_p121, List.forall_mem_cons.mpr ⟨lw_p122, List.forall_mem_cons.mpr ⟨lw_p123, List.forall_mem_cons.mpr ⟨lw_p124, List.forall_mem_cons.mpr ⟨lw_p125, List.forall_mem_cons.mpr ⟨lw_p126, List.forall_mem_cons.mpr ⟨lw_p127, fun _ h => absurd h List.not_mem_nil⟩⟩⟩⟩⟩⟩⟩⟩⟩⟩⟩⟩⟩⟩⟩⟩
theorem lw_p128 : lw_okq (⟨"CountyWatchModel", "isOpen", "(II)Z"⟩, 131) := ⟨⟨by decide +kernel, by decide +kernel⟩, tm_8 56 (by decide +kernel), tm_11 112 (by decide +kernel), tm_11 113 (by decide +kernel)⟩
theorem lw_p129 : lw_okq (⟨"CountyWatchModel", "factOf", "(III)I"⟩, 131) := ⟨⟨by decide +kernel, by decide +kernel⟩, tm_8 56 (by decide +kernel), tm_11 116 (by decide +kernel), tm_11 117 (by decide +kernel)⟩
theorem lw_p130 : lw_okq (⟨"CountyWatchModel", "whatIs", "(II)I"⟩, 131) := ⟨⟨by decide +kernel, by decide +kernel⟩, tm_8 56 (by decide +kernel), tm_11 124 (by decide +kernel), tm_11 125 (by decide +kernel)⟩
theorem lw_p131 : lw_okq (⟨"CountyWatchModel", "factsThat", "(III)I"⟩, 131) := ⟨⟨by decide +kernel, by decide +kernel⟩, tm_8 56 (by decide +kernel), tm_11 128 (by decide +kernel), tm_11 129 (by decide +kernel)⟩
theorem lw_p132 : lw_okq (⟨"CountyWatchModel", "lacks", "(II)I"⟩, 131) := ⟨⟨by decide +kernel, by decide +kernel⟩, tm_8 56 (by decide +kernel), tm_11 132 (by decide +kernel), tm_11 133 (by decide +kernel)⟩
theorem lw_p133 : lw_okq (⟨"CountyWatchModel", "standing", "(II)I"⟩, 131) := ⟨⟨by decide +kernel, by decide +kernel⟩, tm_8 56 (by decide +kernel), tm_11 136 (by decide +kernel), tm_11 137 (by decide +kernel)⟩
theorem lw_p134 : lw_okq (⟨"CountyWatchModel", "bestFrom", "(II)I"⟩, 131) := ⟨⟨by decide +kernel, by decide +kernel⟩, tm_8 56 (by decide +kernel), tm_11 167 (by decide +kernel), tm_11 168 (by decide +kernel)⟩
theorem lw_p135 : lw_okq (⟨"CountyWatchModel", "like", "(II)I"⟩, 131) := ⟨⟨by decide +kernel, by decide +kernel⟩, tm_8 56 (by decide +kernel), tm_11 171 (by decide +kernel), tm_11 172 (by decide +kernel)⟩
theorem lw_p136 : lw_okq (⟨"CountyWatchModel", "isLost", "(I)Z"⟩, 131) := ⟨⟨by decide +kernel, by decide +kernel⟩, tm_8 56 (by decide +kernel), tm_11 179 (by decide +kernel), tm_11 180 (by decide +kernel)⟩
theorem lw_p137 : lw_okq (⟨"CountyWatchModel", "rivalsOf", "(I)I"⟩, 131) := ⟨⟨by decide +kernel, by decide +kernel⟩, tm_8 56 (by decide +kernel), tm_11 187 (by decide +kernel), tm_11 188 (by decide +kernel)⟩
theorem lw_p138 : lw_okq (⟨"CountyWatchModel", "doesSee", "(II)Z"⟩, 131) := ⟨⟨by decide +kernel, by decide +kernel⟩, tm_8 56 (by decide +kernel), tm_11 204 (by decide +kernel), tm_11 205 (by decide +kernel)⟩
theorem lw_p139 : lw_okq (⟨"CountyWatchModel", "findShares", "(I)Z"⟩, 131) := ⟨⟨by decide +kernel, by decide +kernel⟩, tm_8 56 (by decide +kernel), tm_11 212 (by decide +kernel), tm_11 213 (by decide +kernel)⟩
theorem lw_p140 : lw_okq (⟨"CountyWatchModel", "share1", "(II)V"⟩, 131) := ⟨⟨by decide +kernel, by decide +kernel⟩, tm_8 56 (by decide +kernel), tm_11 216 (by decide +kernel), tm_11 217 (by decide +kernel)⟩
theorem lw_p141 : lw_okq (⟨"CountyWatchModel", "weigh", "()V"⟩, 131) := ⟨⟨by decide +kernel, by decide +kernel⟩, tm_8 56 (by decide +kernel), tm_11 220 (by decide +kernel), tm_11 221 (by decide +kernel)⟩
theorem lw_p142 : lw_okq (⟨"CountyWatchModel", "findLending", "()I"⟩, 131) := ⟨⟨by decide +kernel, by decide +kernel⟩, tm_8 56 (by decide +kernel), tm_12 0 (by decide +kernel), tm_12 1 (by decide +kernel)⟩
theorem lw_p143 : lw_okq (⟨"CountyWatchModel", "costOf", "(II)I"⟩, 131) := ⟨⟨by decide +kernel, by decide +kernel⟩, tm_8 56 (by decide +kernel), tm_12 4 (by decide +kernel), tm_12 5 (by decide +kernel)⟩
noncomputable def lw_privs_9 : List (MethodName × Nat) := [(⟨"CountyWatchModel", "isOpen", "(II)Z"⟩, 131), (⟨"CountyWatchModel", "factOf", "(III)I"⟩, 131), (⟨"CountyWatchModel", "whatIs", "(II)I"⟩, 131), (⟨"CountyWatchModel", "factsThat", "(III)I"⟩, 131), (⟨"CountyWatchModel", "lacks", "(II)I"⟩, 131), (⟨"CountyWatchModel", "standing", "(II)I"⟩, 131), (⟨"CountyWatchModel", "bestFrom", "(II)I"⟩, 131), (⟨"CountyWatchModel", "like", "(II)I"⟩, 131), (⟨"CountyWatchModel", "isLost", "(I)Z"⟩, 131), (⟨"CountyWatchModel", "rivalsOf", "(I)I"⟩, 131), (⟨"CountyWatchModel", "doesSee", "(II)Z"⟩, 131), (⟨"CountyWatchModel", "findShares", "(I)Z"⟩, 131), (⟨"CountyWatchModel", "share1", "(II)V"⟩, 131), (⟨"CountyWatchModel", "weigh", "()V"⟩, 131), (⟨"CountyWatchModel", "findLending", "()I"⟩, 131), (⟨"CountyWatchModel", "costOf", "(II)I"⟩, 131)]
theorem lw_r9 : ∀ q ∈ lw_privs_9, lw_okq q := List.forall_mem_cons.mpr ⟨lw_p128, List.forall_mem_cons.mpr ⟨lw_p129, List.forall_mem_cons.mpr ⟨lw_p130, List.forall_mem_cons.mpr ⟨lw_p131, List.forall_mem_cons.mpr ⟨lw_p132, List.forall_mem_cons.mpr ⟨lw_p133, List.forall_mem_cons.mpr ⟨lw_p134, List.forall_mem_cons.mpr ⟨lw_p135, List.forall_mem_cons.mpr ⟨lw_p136, List.forall_mem_cons.mpr ⟨lw_p137, List.forall_mem_cons.mpr ⟨lw_p138, List.forall_mem_cons.mpr ⟨lw_p139, List.forall_mem_cons.mpr ⟨lw_p140, List.forall_mem_cons.mpr ⟨lw_p141, List.forall_mem_cons.mpr ⟨lw_p142, List.forall_mem_cons.mpr ⟨lw_p143, fun _ h => absurd h List.not_mem_nil⟩⟩⟩⟩⟩⟩⟩⟩⟩⟩⟩⟩⟩⟩⟩⟩
theorem lw_p144 : lw_okq (⟨"CountyWatchModel", "codeAll", "()I"⟩, 131) := ⟨⟨by decide +kernel, by decide +kernel⟩, tm_8 56 (by decide +kernel), tm_12 13 (by decide +kernel), tm_12 14 (by decide +kernel)⟩
theorem lw_p145 : lw_okq (⟨"CountyWatchModel", "payOf", "(III)I"⟩, 131) := ⟨⟨by decide +kernel, by decide +kernel⟩, tm_8 56 (by decide +kernel), tm_12 25 (by decide +kernel), tm_12 26 (by decide +kernel)⟩
noncomputable def lw_privs_10 : List (MethodName × Nat) := [(⟨"CountyWatchModel", "codeAll", "()I"⟩, 131), (⟨"CountyWatchModel", "payOf", "(III)I"⟩, 131)]
theorem lw_r10 : ∀ q ∈ lw_privs_10, lw_okq q := List.forall_mem_cons.mpr ⟨lw_p144, List.forall_mem_cons.mpr ⟨lw_p145, fun _ h => absurd h List.not_mem_nil⟩⟩
noncomputable def lw_privs : List (MethodName × Nat) := lw_privs_1 ++ (lw_privs_2 ++ (lw_privs_3 ++ (lw_privs_4 ++ (lw_privs_5 ++ (lw_privs_6 ++ (lw_privs_7 ++ (lw_privs_8 ++ (lw_privs_9 ++ (lw_privs_10)))))))))
noncomputable def lw_tbl : List Cond := k2_sels lw_privs ++ tables_1
theorem lw_privs_ok : ∀ q ∈ lw_privs, lw_okq q := by
  show ∀ q ∈ lw_privs_1 ++ (lw_privs_2 ++ (lw_privs_3 ++ (lw_privs_4 ++ (lw_privs_5 ++ (lw_privs_6 ++ (lw_privs_7 ++ (lw_privs_8 ++ (lw_privs_9 ++ (lw_privs_10))))))))), lw_okq q
  exact List.forall_mem_append.mpr ⟨lw_r1, List.forall_mem_append.mpr ⟨lw_r2, List.forall_mem_append.mpr ⟨lw_r3, List.forall_mem_append.mpr ⟨lw_r4, List.forall_mem_append.mpr ⟨lw_r5, List.forall_mem_append.mpr ⟨lw_r6, List.forall_mem_append.mpr ⟨lw_r7, List.forall_mem_append.mpr ⟨lw_r8, List.forall_mem_append.mpr ⟨lw_r9, lw_r10⟩⟩⟩⟩⟩⟩⟩⟩⟩
end
