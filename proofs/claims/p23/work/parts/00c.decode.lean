theorem db00c_0 : Ad_ prog_10_method_14_code [(126, .iadd, 1), (127, .putfield 47, 3), (130, .aload_n 0, 1), (131, .iconst 3, 1), (132, .iconst 0, 1), (133, .iconst 0, 1), (134, .invokevirtual 89, 3), (137, .ireturn, 1), (138, .aload_n 0, 1), (139, .iload_n 1, 1), (140, .invokevirtual 95, 3), (143, .ireturn, 1), (144, .aload_n 0, 1), (145, .invokevirtual 67, 3), (148, .ireturn, 1)] := bch_ok prog_10_method_14_code _ 126 (by decide +kernel)
theorem d_X8_readStep_126 : decode prog_10_method_14_code 126 = .ok (.iadd, 1) := gd_0 db00c_0
theorem d_X8_readStep_127 : decode prog_10_method_14_code 127 = .ok (.putfield 47, 3) := gd_1 db00c_0
theorem d_X8_readStep_130 : decode prog_10_method_14_code 130 = .ok (.aload_n 0, 1) := gd_2 db00c_0
theorem d_X8_readStep_131 : decode prog_10_method_14_code 131 = .ok (.iconst 3, 1) := gd_3 db00c_0
theorem d_X8_readStep_132 : decode prog_10_method_14_code 132 = .ok (.iconst 0, 1) := gd_4 db00c_0
theorem d_X8_readStep_133 : decode prog_10_method_14_code 133 = .ok (.iconst 0, 1) := gd_5 db00c_0
theorem d_X8_readStep_134 : decode prog_10_method_14_code 134 = .ok (.invokevirtual 89, 3) := gd_6 db00c_0
theorem d_X8_readStep_137 : decode prog_10_method_14_code 137 = .ok (.ireturn, 1) := gd_7 db00c_0
theorem d_X8_readStep_138 : decode prog_10_method_14_code 138 = .ok (.aload_n 0, 1) := gd_8 db00c_0
theorem d_X8_readStep_139 : decode prog_10_method_14_code 139 = .ok (.iload_n 1, 1) := gd_9 db00c_0
theorem d_X8_readStep_140 : decode prog_10_method_14_code 140 = .ok (.invokevirtual 95, 3) := gd_10 db00c_0
theorem d_X8_readStep_143 : decode prog_10_method_14_code 143 = .ok (.ireturn, 1) := gd_11 db00c_0
theorem d_X8_readStep_144 : decode prog_10_method_14_code 144 = .ok (.aload_n 0, 1) := gd_12 db00c_0
theorem d_X8_readStep_145 : decode prog_10_method_14_code 145 = .ok (.invokevirtual 67, 3) := gd_13 db00c_0
theorem d_X8_readStep_148 : decode prog_10_method_14_code 148 = .ok (.ireturn, 1) := gd_14 db00c_0
theorem db00c_1 : Ad_ prog_10_method_15_code [(0, .aload_n 0, 1), (1, .iconst 0, 1), (2, .bipush 15, 2), (4, .invokevirtual 85, 3), (7, .istore_n 1, 1), (8, .iload_n 1, 1), (9, .iconst (-1), 1), (10, .if_icmp .eq 24, 3), (13, .aload_n 0, 1), (14, .iconst 2, 1), (15, .iload_n 1, 1), (16, .aload_n 0, 1), (17, .iconst 0, 1), (18, .sipush 1440, 3), (21, .invokevirtual 85, 3), (24, .invokevirtual 89, 3), (27, .ifCond .eq 7, 3), (30, .iconst 1, 1), (31, .goto 4, 3), (34, .iconst 0, 1), (35, .ireturn, 1)] := bch_ok prog_10_method_15_code _ 0 (by decide +kernel)
theorem d_X8_readPoint_0 : decode prog_10_method_15_code 0 = .ok (.aload_n 0, 1) := gd_0 db00c_1
theorem d_X8_readPoint_1 : decode prog_10_method_15_code 1 = .ok (.iconst 0, 1) := gd_1 db00c_1
theorem d_X8_readPoint_2 : decode prog_10_method_15_code 2 = .ok (.bipush 15, 2) := gd_2 db00c_1
theorem d_X8_readPoint_4 : decode prog_10_method_15_code 4 = .ok (.invokevirtual 85, 3) := gd_3 db00c_1
theorem d_X8_readPoint_7 : decode prog_10_method_15_code 7 = .ok (.istore_n 1, 1) := gd_4 db00c_1
theorem d_X8_readPoint_8 : decode prog_10_method_15_code 8 = .ok (.iload_n 1, 1) := gd_5 db00c_1
theorem d_X8_readPoint_9 : decode prog_10_method_15_code 9 = .ok (.iconst (-1), 1) := gd_6 db00c_1
theorem d_X8_readPoint_10 : decode prog_10_method_15_code 10 = .ok (.if_icmp .eq 24, 3) := gd_7 db00c_1
theorem d_X8_readPoint_13 : decode prog_10_method_15_code 13 = .ok (.aload_n 0, 1) := gd_8 db00c_1
theorem d_X8_readPoint_14 : decode prog_10_method_15_code 14 = .ok (.iconst 2, 1) := gd_9 db00c_1
theorem d_X8_readPoint_15 : decode prog_10_method_15_code 15 = .ok (.iload_n 1, 1) := gd_10 db00c_1
theorem d_X8_readPoint_16 : decode prog_10_method_15_code 16 = .ok (.aload_n 0, 1) := gd_11 db00c_1
theorem d_X8_readPoint_17 : decode prog_10_method_15_code 17 = .ok (.iconst 0, 1) := gd_12 db00c_1
theorem d_X8_readPoint_18 : decode prog_10_method_15_code 18 = .ok (.sipush 1440, 3) := gd_13 db00c_1
theorem d_X8_readPoint_21 : decode prog_10_method_15_code 21 = .ok (.invokevirtual 85, 3) := gd_14 db00c_1
theorem d_X8_readPoint_24 : decode prog_10_method_15_code 24 = .ok (.invokevirtual 89, 3) := gd_15 db00c_1
theorem d_X8_readPoint_27 : decode prog_10_method_15_code 27 = .ok (.ifCond .eq 7, 3) := gd_16 db00c_1
theorem d_X8_readPoint_30 : decode prog_10_method_15_code 30 = .ok (.iconst 1, 1) := gd_17 db00c_1
theorem d_X8_readPoint_31 : decode prog_10_method_15_code 31 = .ok (.goto 4, 3) := gd_18 db00c_1
theorem d_X8_readPoint_34 : decode prog_10_method_15_code 34 = .ok (.iconst 0, 1) := gd_19 db00c_1
theorem d_X8_readPoint_35 : decode prog_10_method_15_code 35 = .ok (.ireturn, 1) := gd_20 db00c_1
theorem db00c_2 : Ad_ prog_10_method_16_code [(0, .iload_n 1, 1), (1, .iconst 4, 1), (2, .if_icmp .lt 8, 3), (5, .aload_n 0, 1), (6, .invokevirtual 67, 3), (9, .ireturn, 1), (10, .aload_n 0, 1), (11, .dup, 1), (12, .getfield 47, 3), (15, .iconst 1, 1), (16, .iadd, 1), (17, .putfield 47, 3), (20, .aload_n 0, 1), (21, .getfield 53, 3), (24, .istore_n 2, 1), (25, .aload_n 0, 1), (26, .iload_n 1, 1), (27, .iconst 1, 1), (28, .iadd, 1), (29, .invokevirtual 79, 3), (32, .ifCond .eq 12, 3), (35, .aload_n 0, 1), (36, .bipush 41, 2), (38, .invokevirtual 98, 3)] := bch_ok prog_10_method_16_code _ 0 (by decide +kernel)
theorem d_X8_readGroup_0 : decode prog_10_method_16_code 0 = .ok (.iload_n 1, 1) := gd_0 db00c_2
theorem d_X8_readGroup_1 : decode prog_10_method_16_code 1 = .ok (.iconst 4, 1) := gd_1 db00c_2
theorem d_X8_readGroup_2 : decode prog_10_method_16_code 2 = .ok (.if_icmp .lt 8, 3) := gd_2 db00c_2
theorem d_X8_readGroup_5 : decode prog_10_method_16_code 5 = .ok (.aload_n 0, 1) := gd_3 db00c_2
theorem d_X8_readGroup_6 : decode prog_10_method_16_code 6 = .ok (.invokevirtual 67, 3) := gd_4 db00c_2
theorem d_X8_readGroup_9 : decode prog_10_method_16_code 9 = .ok (.ireturn, 1) := gd_5 db00c_2
theorem d_X8_readGroup_10 : decode prog_10_method_16_code 10 = .ok (.aload_n 0, 1) := gd_6 db00c_2
theorem d_X8_readGroup_11 : decode prog_10_method_16_code 11 = .ok (.dup, 1) := gd_7 db00c_2
theorem d_X8_readGroup_12 : decode prog_10_method_16_code 12 = .ok (.getfield 47, 3) := gd_8 db00c_2
theorem d_X8_readGroup_15 : decode prog_10_method_16_code 15 = .ok (.iconst 1, 1) := gd_9 db00c_2
theorem d_X8_readGroup_16 : decode prog_10_method_16_code 16 = .ok (.iadd, 1) := gd_10 db00c_2
theorem d_X8_readGroup_17 : decode prog_10_method_16_code 17 = .ok (.putfield 47, 3) := gd_11 db00c_2
theorem d_X8_readGroup_20 : decode prog_10_method_16_code 20 = .ok (.aload_n 0, 1) := gd_12 db00c_2
theorem d_X8_readGroup_21 : decode prog_10_method_16_code 21 = .ok (.getfield 53, 3) := gd_13 db00c_2
theorem d_X8_readGroup_24 : decode prog_10_method_16_code 24 = .ok (.istore_n 2, 1) := gd_14 db00c_2
theorem d_X8_readGroup_25 : decode prog_10_method_16_code 25 = .ok (.aload_n 0, 1) := gd_15 db00c_2
theorem d_X8_readGroup_26 : decode prog_10_method_16_code 26 = .ok (.iload_n 1, 1) := gd_16 db00c_2
theorem d_X8_readGroup_27 : decode prog_10_method_16_code 27 = .ok (.iconst 1, 1) := gd_17 db00c_2
theorem d_X8_readGroup_28 : decode prog_10_method_16_code 28 = .ok (.iadd, 1) := gd_18 db00c_2
theorem d_X8_readGroup_29 : decode prog_10_method_16_code 29 = .ok (.invokevirtual 79, 3) := gd_19 db00c_2
theorem d_X8_readGroup_32 : decode prog_10_method_16_code 32 = .ok (.ifCond .eq 12, 3) := gd_20 db00c_2
theorem d_X8_readGroup_35 : decode prog_10_method_16_code 35 = .ok (.aload_n 0, 1) := gd_21 db00c_2
theorem d_X8_readGroup_36 : decode prog_10_method_16_code 36 = .ok (.bipush 41, 2) := gd_22 db00c_2
theorem d_X8_readGroup_38 : decode prog_10_method_16_code 38 = .ok (.invokevirtual 98, 3) := gd_23 db00c_2
theorem db00c_3 : Ad_ prog_10_method_16_code [(41, .ifCond .ne 5, 3), (44, .iconst 0, 1), (45, .ireturn, 1), (46, .aload_n 0, 1), (47, .iconst 1, 1), (48, .bipush 20, 2), (50, .invokevirtual 85, 3), (53, .istore_n 3, 1), (54, .iload_n 3, 1), (55, .iconst (-1), 1), (56, .if_icmp .ne 5, 3), (59, .iconst 0, 1), (60, .ireturn, 1), (61, .aload_n 0, 1), (62, .getfield 53, 3), (65, .istore 4, 2), (67, .iconst 1, 1), (68, .istore 5, 2), (70, .iload 5, 2), (72, .iload_n 3, 1), (73, .if_icmp .ge 43, 3), (76, .aload_n 0, 1), (77, .getfield 56, 3), (80, .ifCond .ne 36, 3)] := bch_ok prog_10_method_16_code _ 41 (by decide +kernel)
theorem d_X8_readGroup_41 : decode prog_10_method_16_code 41 = .ok (.ifCond .ne 5, 3) := gd_0 db00c_3
theorem d_X8_readGroup_44 : decode prog_10_method_16_code 44 = .ok (.iconst 0, 1) := gd_1 db00c_3
theorem d_X8_readGroup_45 : decode prog_10_method_16_code 45 = .ok (.ireturn, 1) := gd_2 db00c_3
theorem d_X8_readGroup_46 : decode prog_10_method_16_code 46 = .ok (.aload_n 0, 1) := gd_3 db00c_3
theorem d_X8_readGroup_47 : decode prog_10_method_16_code 47 = .ok (.iconst 1, 1) := gd_4 db00c_3
theorem d_X8_readGroup_48 : decode prog_10_method_16_code 48 = .ok (.bipush 20, 2) := gd_5 db00c_3
theorem d_X8_readGroup_50 : decode prog_10_method_16_code 50 = .ok (.invokevirtual 85, 3) := gd_6 db00c_3
theorem d_X8_readGroup_53 : decode prog_10_method_16_code 53 = .ok (.istore_n 3, 1) := gd_7 db00c_3
theorem d_X8_readGroup_54 : decode prog_10_method_16_code 54 = .ok (.iload_n 3, 1) := gd_8 db00c_3
theorem d_X8_readGroup_55 : decode prog_10_method_16_code 55 = .ok (.iconst (-1), 1) := gd_9 db00c_3
theorem d_X8_readGroup_56 : decode prog_10_method_16_code 56 = .ok (.if_icmp .ne 5, 3) := gd_10 db00c_3
theorem d_X8_readGroup_59 : decode prog_10_method_16_code 59 = .ok (.iconst 0, 1) := gd_11 db00c_3
theorem d_X8_readGroup_60 : decode prog_10_method_16_code 60 = .ok (.ireturn, 1) := gd_12 db00c_3
theorem d_X8_readGroup_61 : decode prog_10_method_16_code 61 = .ok (.aload_n 0, 1) := gd_13 db00c_3
theorem d_X8_readGroup_62 : decode prog_10_method_16_code 62 = .ok (.getfield 53, 3) := gd_14 db00c_3
theorem d_X8_readGroup_65 : decode prog_10_method_16_code 65 = .ok (.istore 4, 2) := gd_15 db00c_3
theorem d_X8_readGroup_67 : decode prog_10_method_16_code 67 = .ok (.iconst 1, 1) := gd_16 db00c_3
theorem d_X8_readGroup_68 : decode prog_10_method_16_code 68 = .ok (.istore 5, 2) := gd_17 db00c_3
theorem d_X8_readGroup_70 : decode prog_10_method_16_code 70 = .ok (.iload 5, 2) := gd_18 db00c_3
theorem d_X8_readGroup_72 : decode prog_10_method_16_code 72 = .ok (.iload_n 3, 1) := gd_19 db00c_3
theorem d_X8_readGroup_73 : decode prog_10_method_16_code 73 = .ok (.if_icmp .ge 43, 3) := gd_20 db00c_3
theorem d_X8_readGroup_76 : decode prog_10_method_16_code 76 = .ok (.aload_n 0, 1) := gd_21 db00c_3
theorem d_X8_readGroup_77 : decode prog_10_method_16_code 77 = .ok (.getfield 56, 3) := gd_22 db00c_3
theorem d_X8_readGroup_80 : decode prog_10_method_16_code 80 = .ok (.ifCond .ne 36, 3) := gd_23 db00c_3
theorem db00c_4 : Ad_ prog_10_method_16_code [(83, .iload_n 2, 1), (84, .istore 6, 2), (86, .iload 6, 2), (88, .iload 4, 2), (90, .if_icmp .ge 20, 3), (93, .aload_n 0, 1), (94, .aload_n 0, 1), (95, .getfield 23, 3), (98, .iload 6, 2), (100, .iaload, 1), (101, .invokevirtual 101, 3), (104, .iinc 6 1, 3), (107, .goto (-21), 3), (110, .iinc 5 1, 3), (113, .goto (-43), 3), (116, .iconst 1, 1), (117, .ireturn, 1)] := bch_ok prog_10_method_16_code _ 83 (by decide +kernel)
theorem d_X8_readGroup_83 : decode prog_10_method_16_code 83 = .ok (.iload_n 2, 1) := gd_0 db00c_4
theorem d_X8_readGroup_84 : decode prog_10_method_16_code 84 = .ok (.istore 6, 2) := gd_1 db00c_4
theorem d_X8_readGroup_86 : decode prog_10_method_16_code 86 = .ok (.iload 6, 2) := gd_2 db00c_4
theorem d_X8_readGroup_88 : decode prog_10_method_16_code 88 = .ok (.iload 4, 2) := gd_3 db00c_4
theorem d_X8_readGroup_90 : decode prog_10_method_16_code 90 = .ok (.if_icmp .ge 20, 3) := gd_4 db00c_4
theorem d_X8_readGroup_93 : decode prog_10_method_16_code 93 = .ok (.aload_n 0, 1) := gd_5 db00c_4
theorem d_X8_readGroup_94 : decode prog_10_method_16_code 94 = .ok (.aload_n 0, 1) := gd_6 db00c_4
theorem d_X8_readGroup_95 : decode prog_10_method_16_code 95 = .ok (.getfield 23, 3) := gd_7 db00c_4
theorem d_X8_readGroup_98 : decode prog_10_method_16_code 98 = .ok (.iload 6, 2) := gd_8 db00c_4
theorem d_X8_readGroup_100 : decode prog_10_method_16_code 100 = .ok (.iaload, 1) := gd_9 db00c_4
theorem d_X8_readGroup_101 : decode prog_10_method_16_code 101 = .ok (.invokevirtual 101, 3) := gd_10 db00c_4
theorem d_X8_readGroup_104 : decode prog_10_method_16_code 104 = .ok (.iinc 6 1, 3) := gd_11 db00c_4
theorem d_X8_readGroup_107 : decode prog_10_method_16_code 107 = .ok (.goto (-21), 3) := gd_12 db00c_4
theorem d_X8_readGroup_110 : decode prog_10_method_16_code 110 = .ok (.iinc 5 1, 3) := gd_13 db00c_4
theorem d_X8_readGroup_113 : decode prog_10_method_16_code 113 = .ok (.goto (-43), 3) := gd_14 db00c_4
theorem d_X8_readGroup_116 : decode prog_10_method_16_code 116 = .ok (.iconst 1, 1) := gd_15 db00c_4
theorem d_X8_readGroup_117 : decode prog_10_method_16_code 117 = .ok (.ireturn, 1) := gd_16 db00c_4
theorem db00c_5 : Ad_ prog_10_method_17_code [(0, .iload_n 2, 1), (1, .iconst (-1), 1), (2, .if_icmp .eq 8, 3), (5, .iload_n 3, 1), (6, .iconst (-1), 1), (7, .if_icmp .ne 5, 3), (10, .iconst 0, 1), (11, .ireturn, 1), (12, .aload_n 0, 1), (13, .iload_n 1, 1), (14, .iload_n 2, 1), (15, .iload_n 3, 1), (16, .invokestatic 104, 3), (19, .invokevirtual 101, 3), (22, .iconst 1, 1), (23, .ireturn, 1)] := bch_ok prog_10_method_17_code _ 0 (by decide +kernel)
theorem d_X8_addStep_0 : decode prog_10_method_17_code 0 = .ok (.iload_n 2, 1) := gd_0 db00c_5
theorem d_X8_addStep_1 : decode prog_10_method_17_code 1 = .ok (.iconst (-1), 1) := gd_1 db00c_5
theorem d_X8_addStep_2 : decode prog_10_method_17_code 2 = .ok (.if_icmp .eq 8, 3) := gd_2 db00c_5
theorem d_X8_addStep_5 : decode prog_10_method_17_code 5 = .ok (.iload_n 3, 1) := gd_3 db00c_5
theorem d_X8_addStep_6 : decode prog_10_method_17_code 6 = .ok (.iconst (-1), 1) := gd_4 db00c_5
theorem d_X8_addStep_7 : decode prog_10_method_17_code 7 = .ok (.if_icmp .ne 5, 3) := gd_5 db00c_5
theorem d_X8_addStep_10 : decode prog_10_method_17_code 10 = .ok (.iconst 0, 1) := gd_6 db00c_5
theorem d_X8_addStep_11 : decode prog_10_method_17_code 11 = .ok (.ireturn, 1) := gd_7 db00c_5
theorem d_X8_addStep_12 : decode prog_10_method_17_code 12 = .ok (.aload_n 0, 1) := gd_8 db00c_5
theorem d_X8_addStep_13 : decode prog_10_method_17_code 13 = .ok (.iload_n 1, 1) := gd_9 db00c_5
theorem d_X8_addStep_14 : decode prog_10_method_17_code 14 = .ok (.iload_n 2, 1) := gd_10 db00c_5
theorem d_X8_addStep_15 : decode prog_10_method_17_code 15 = .ok (.iload_n 3, 1) := gd_11 db00c_5
theorem d_X8_addStep_16 : decode prog_10_method_17_code 16 = .ok (.invokestatic 104, 3) := gd_12 db00c_5
theorem d_X8_addStep_19 : decode prog_10_method_17_code 19 = .ok (.invokevirtual 101, 3) := gd_13 db00c_5
theorem d_X8_addStep_22 : decode prog_10_method_17_code 22 = .ok (.iconst 1, 1) := gd_14 db00c_5
theorem d_X8_addStep_23 : decode prog_10_method_17_code 23 = .ok (.ireturn, 1) := gd_15 db00c_5
theorem db00c_6 : Ad_ prog_10_method_18_code [(0, .aload_n 0, 1), (1, .getfield 53, 3), (4, .aload_n 0, 1), (5, .getfield 23, 3), (8, .arraylength, 1), (9, .if_icmp .ge 26, 3), (12, .aload_n 0, 1), (13, .getfield 23, 3), (16, .aload_n 0, 1), (17, .getfield 53, 3), (20, .iload_n 1, 1), (21, .iastore, 1), (22, .aload_n 0, 1), (23, .dup, 1), (24, .getfield 53, 3), (27, .iconst 1, 1), (28, .iadd, 1), (29, .putfield 53, 3), (32, .goto 8, 3), (35, .aload_n 0, 1), (36, .iconst 1, 1), (37, .putfield 56, 3), (40, .return_, 1)] := bch_ok prog_10_method_18_code _ 0 (by decide +kernel)
theorem d_X8_appendStep_0 : decode prog_10_method_18_code 0 = .ok (.aload_n 0, 1) := gd_0 db00c_6
theorem d_X8_appendStep_1 : decode prog_10_method_18_code 1 = .ok (.getfield 53, 3) := gd_1 db00c_6
theorem d_X8_appendStep_4 : decode prog_10_method_18_code 4 = .ok (.aload_n 0, 1) := gd_2 db00c_6
theorem d_X8_appendStep_5 : decode prog_10_method_18_code 5 = .ok (.getfield 23, 3) := gd_3 db00c_6
theorem d_X8_appendStep_8 : decode prog_10_method_18_code 8 = .ok (.arraylength, 1) := gd_4 db00c_6
theorem d_X8_appendStep_9 : decode prog_10_method_18_code 9 = .ok (.if_icmp .ge 26, 3) := gd_5 db00c_6
theorem d_X8_appendStep_12 : decode prog_10_method_18_code 12 = .ok (.aload_n 0, 1) := gd_6 db00c_6
theorem d_X8_appendStep_13 : decode prog_10_method_18_code 13 = .ok (.getfield 23, 3) := gd_7 db00c_6
theorem d_X8_appendStep_16 : decode prog_10_method_18_code 16 = .ok (.aload_n 0, 1) := gd_8 db00c_6
theorem d_X8_appendStep_17 : decode prog_10_method_18_code 17 = .ok (.getfield 53, 3) := gd_9 db00c_6
theorem d_X8_appendStep_20 : decode prog_10_method_18_code 20 = .ok (.iload_n 1, 1) := gd_10 db00c_6
theorem d_X8_appendStep_21 : decode prog_10_method_18_code 21 = .ok (.iastore, 1) := gd_11 db00c_6
theorem d_X8_appendStep_22 : decode prog_10_method_18_code 22 = .ok (.aload_n 0, 1) := gd_12 db00c_6
theorem d_X8_appendStep_23 : decode prog_10_method_18_code 23 = .ok (.dup, 1) := gd_13 db00c_6
theorem d_X8_appendStep_24 : decode prog_10_method_18_code 24 = .ok (.getfield 53, 3) := gd_14 db00c_6
theorem d_X8_appendStep_27 : decode prog_10_method_18_code 27 = .ok (.iconst 1, 1) := gd_15 db00c_6
theorem d_X8_appendStep_28 : decode prog_10_method_18_code 28 = .ok (.iadd, 1) := gd_16 db00c_6
theorem d_X8_appendStep_29 : decode prog_10_method_18_code 29 = .ok (.putfield 53, 3) := gd_17 db00c_6
theorem d_X8_appendStep_32 : decode prog_10_method_18_code 32 = .ok (.goto 8, 3) := gd_18 db00c_6
theorem d_X8_appendStep_35 : decode prog_10_method_18_code 35 = .ok (.aload_n 0, 1) := gd_19 db00c_6
theorem d_X8_appendStep_36 : decode prog_10_method_18_code 36 = .ok (.iconst 1, 1) := gd_20 db00c_6
theorem d_X8_appendStep_37 : decode prog_10_method_18_code 37 = .ok (.putfield 56, 3) := gd_21 db00c_6
theorem d_X8_appendStep_40 : decode prog_10_method_18_code 40 = .ok (.return_, 1) := gd_22 db00c_6
theorem db00c_7 : Ad_ prog_10_method_19_code [(0, .aload_n 0, 1), (1, .iload_n 1, 1), (2, .ifCond .eq 8, 3), (5, .ldc 108, 2), (7, .goto 5, 3), (10, .ldc 110, 2), (12, .invokevirtual 75, 3), (15, .iload_n 1, 1), (16, .ifCond .eq 10, 3), (19, .aload_n 0, 1), (20, .invokevirtual 112, 3), (23, .goto 7, 3), (26, .aload_n 0, 1), (27, .invokevirtual 115, 3), (30, .istore_n 2, 1), (31, .iconst 0, 1), (32, .istore_n 3, 1), (33, .iload_n 3, 1), (34, .sipush 160, 3), (37, .if_icmp .ge 48, 3), (40, .iload_n 2, 1), (41, .ifCond .eq 44, 3), (44, .aload_n 0, 1), (45, .invokevirtual 63, 3)] := bch_ok prog_10_method_19_code _ 0 (by decide +kernel)
theorem d_X8_readRule_0 : decode prog_10_method_19_code 0 = .ok (.aload_n 0, 1) := gd_0 db00c_7
theorem d_X8_readRule_1 : decode prog_10_method_19_code 1 = .ok (.iload_n 1, 1) := gd_1 db00c_7
theorem d_X8_readRule_2 : decode prog_10_method_19_code 2 = .ok (.ifCond .eq 8, 3) := gd_2 db00c_7
theorem d_X8_readRule_5 : decode prog_10_method_19_code 5 = .ok (.ldc 108, 2) := gd_3 db00c_7
theorem d_X8_readRule_7 : decode prog_10_method_19_code 7 = .ok (.goto 5, 3) := gd_4 db00c_7
theorem d_X8_readRule_10 : decode prog_10_method_19_code 10 = .ok (.ldc 110, 2) := gd_5 db00c_7
theorem d_X8_readRule_12 : decode prog_10_method_19_code 12 = .ok (.invokevirtual 75, 3) := gd_6 db00c_7
theorem d_X8_readRule_15 : decode prog_10_method_19_code 15 = .ok (.iload_n 1, 1) := gd_7 db00c_7
theorem d_X8_readRule_16 : decode prog_10_method_19_code 16 = .ok (.ifCond .eq 10, 3) := gd_8 db00c_7
theorem d_X8_readRule_19 : decode prog_10_method_19_code 19 = .ok (.aload_n 0, 1) := gd_9 db00c_7
theorem d_X8_readRule_20 : decode prog_10_method_19_code 20 = .ok (.invokevirtual 112, 3) := gd_10 db00c_7
theorem d_X8_readRule_23 : decode prog_10_method_19_code 23 = .ok (.goto 7, 3) := gd_11 db00c_7
theorem d_X8_readRule_26 : decode prog_10_method_19_code 26 = .ok (.aload_n 0, 1) := gd_12 db00c_7
theorem d_X8_readRule_27 : decode prog_10_method_19_code 27 = .ok (.invokevirtual 115, 3) := gd_13 db00c_7
theorem d_X8_readRule_30 : decode prog_10_method_19_code 30 = .ok (.istore_n 2, 1) := gd_14 db00c_7
theorem d_X8_readRule_31 : decode prog_10_method_19_code 31 = .ok (.iconst 0, 1) := gd_15 db00c_7
theorem d_X8_readRule_32 : decode prog_10_method_19_code 32 = .ok (.istore_n 3, 1) := gd_16 db00c_7
theorem d_X8_readRule_33 : decode prog_10_method_19_code 33 = .ok (.iload_n 3, 1) := gd_17 db00c_7
theorem d_X8_readRule_34 : decode prog_10_method_19_code 34 = .ok (.sipush 160, 3) := gd_18 db00c_7
theorem d_X8_readRule_37 : decode prog_10_method_19_code 37 = .ok (.if_icmp .ge 48, 3) := gd_19 db00c_7
theorem d_X8_readRule_40 : decode prog_10_method_19_code 40 = .ok (.iload_n 2, 1) := gd_20 db00c_7
theorem d_X8_readRule_41 : decode prog_10_method_19_code 41 = .ok (.ifCond .eq 44, 3) := gd_21 db00c_7
theorem d_X8_readRule_44 : decode prog_10_method_19_code 44 = .ok (.aload_n 0, 1) := gd_22 db00c_7
theorem d_X8_readRule_45 : decode prog_10_method_19_code 45 = .ok (.invokevirtual 63, 3) := gd_23 db00c_7
theorem db00c_8 : Ad_ prog_10_method_19_code [(48, .bipush 59, 2), (50, .if_icmp .ne 35, 3), (53, .aload_n 0, 1), (54, .dup, 1), (55, .getfield 47, 3), (58, .iconst 1, 1), (59, .iadd, 1), (60, .putfield 47, 3), (63, .iload_n 1, 1), (64, .ifCond .eq 10, 3), (67, .aload_n 0, 1), (68, .invokevirtual 112, 3), (71, .goto 7, 3), (74, .aload_n 0, 1), (75, .invokevirtual 115, 3), (78, .istore_n 2, 1), (79, .iinc 3 1, 3), (82, .goto (-49), 3), (85, .iload_n 2, 1), (86, .ifCond .eq 16, 3), (89, .aload_n 0, 1), (90, .invokevirtual 63, 3), (93, .iconst (-1), 1), (94, .if_icmp .eq 8, 3)] := bch_ok prog_10_method_19_code _ 48 (by decide +kernel)
theorem d_X8_readRule_48 : decode prog_10_method_19_code 48 = .ok (.bipush 59, 2) := gd_0 db00c_8
theorem d_X8_readRule_50 : decode prog_10_method_19_code 50 = .ok (.if_icmp .ne 35, 3) := gd_1 db00c_8
theorem d_X8_readRule_53 : decode prog_10_method_19_code 53 = .ok (.aload_n 0, 1) := gd_2 db00c_8
theorem d_X8_readRule_54 : decode prog_10_method_19_code 54 = .ok (.dup, 1) := gd_3 db00c_8
theorem d_X8_readRule_55 : decode prog_10_method_19_code 55 = .ok (.getfield 47, 3) := gd_4 db00c_8
theorem d_X8_readRule_58 : decode prog_10_method_19_code 58 = .ok (.iconst 1, 1) := gd_5 db00c_8
theorem d_X8_readRule_59 : decode prog_10_method_19_code 59 = .ok (.iadd, 1) := gd_6 db00c_8
theorem d_X8_readRule_60 : decode prog_10_method_19_code 60 = .ok (.putfield 47, 3) := gd_7 db00c_8
theorem d_X8_readRule_63 : decode prog_10_method_19_code 63 = .ok (.iload_n 1, 1) := gd_8 db00c_8
theorem d_X8_readRule_64 : decode prog_10_method_19_code 64 = .ok (.ifCond .eq 10, 3) := gd_9 db00c_8
theorem d_X8_readRule_67 : decode prog_10_method_19_code 67 = .ok (.aload_n 0, 1) := gd_10 db00c_8
theorem d_X8_readRule_68 : decode prog_10_method_19_code 68 = .ok (.invokevirtual 112, 3) := gd_11 db00c_8
theorem d_X8_readRule_71 : decode prog_10_method_19_code 71 = .ok (.goto 7, 3) := gd_12 db00c_8
theorem d_X8_readRule_74 : decode prog_10_method_19_code 74 = .ok (.aload_n 0, 1) := gd_13 db00c_8
theorem d_X8_readRule_75 : decode prog_10_method_19_code 75 = .ok (.invokevirtual 115, 3) := gd_14 db00c_8
theorem d_X8_readRule_78 : decode prog_10_method_19_code 78 = .ok (.istore_n 2, 1) := gd_15 db00c_8
theorem d_X8_readRule_79 : decode prog_10_method_19_code 79 = .ok (.iinc 3 1, 3) := gd_16 db00c_8
theorem d_X8_readRule_82 : decode prog_10_method_19_code 82 = .ok (.goto (-49), 3) := gd_17 db00c_8
theorem d_X8_readRule_85 : decode prog_10_method_19_code 85 = .ok (.iload_n 2, 1) := gd_18 db00c_8
theorem d_X8_readRule_86 : decode prog_10_method_19_code 86 = .ok (.ifCond .eq 16, 3) := gd_19 db00c_8
theorem d_X8_readRule_89 : decode prog_10_method_19_code 89 = .ok (.aload_n 0, 1) := gd_20 db00c_8
theorem d_X8_readRule_90 : decode prog_10_method_19_code 90 = .ok (.invokevirtual 63, 3) := gd_21 db00c_8
theorem d_X8_readRule_93 : decode prog_10_method_19_code 93 = .ok (.iconst (-1), 1) := gd_22 db00c_8
theorem d_X8_readRule_94 : decode prog_10_method_19_code 94 = .ok (.if_icmp .eq 8, 3) := gd_23 db00c_8
theorem db00c_9 : Ad_ prog_10_method_19_code [(97, .aload_n 0, 1), (98, .invokevirtual 67, 3), (101, .pop, 1), (102, .aload_n 0, 1), (103, .getfield 50, 3), (106, .ireturn, 1)] := bch_ok prog_10_method_19_code _ 97 (by decide +kernel)
theorem d_X8_readRule_97 : decode prog_10_method_19_code 97 = .ok (.aload_n 0, 1) := gd_0 db00c_9
theorem d_X8_readRule_98 : decode prog_10_method_19_code 98 = .ok (.invokevirtual 67, 3) := gd_1 db00c_9
theorem d_X8_readRule_101 : decode prog_10_method_19_code 101 = .ok (.pop, 1) := gd_2 db00c_9
theorem d_X8_readRule_102 : decode prog_10_method_19_code 102 = .ok (.aload_n 0, 1) := gd_3 db00c_9
theorem d_X8_readRule_103 : decode prog_10_method_19_code 103 = .ok (.getfield 50, 3) := gd_4 db00c_9
theorem d_X8_readRule_106 : decode prog_10_method_19_code 106 = .ok (.ireturn, 1) := gd_5 db00c_9
theorem db00c_10 : Ad_ prog_10_method_20_code [(0, .aload_n 0, 1), (1, .iconst 0, 1), (2, .invokevirtual 118, 3), (5, .ifCond .eq 12, 3), (8, .aload_n 0, 1), (9, .bipush 63, 2), (11, .invokevirtual 98, 3), (14, .ifCond .ne 5, 3), (17, .iconst 0, 1), (18, .ireturn, 1), (19, .aload_n 0, 1), (20, .iconst 3, 1), (21, .iconst 0, 1), (22, .invokevirtual 121, 3), (25, .istore_n 1, 1), (26, .aload_n 0, 1), (27, .invokevirtual 63, 3), (30, .istore_n 2, 1), (31, .iload_n 2, 1), (32, .iconst (-1), 1), (33, .if_icmp .ne 7, 3), (36, .iconst (-1), 1), (37, .goto 10, 3), (40, .ldc 124, 2)] := bch_ok prog_10_method_20_code _ 0 (by decide +kernel)
theorem d_X8_readActClause_0 : decode prog_10_method_20_code 0 = .ok (.aload_n 0, 1) := gd_0 db00c_10
theorem d_X8_readActClause_1 : decode prog_10_method_20_code 1 = .ok (.iconst 0, 1) := gd_1 db00c_10
theorem d_X8_readActClause_2 : decode prog_10_method_20_code 2 = .ok (.invokevirtual 118, 3) := gd_2 db00c_10
theorem d_X8_readActClause_5 : decode prog_10_method_20_code 5 = .ok (.ifCond .eq 12, 3) := gd_3 db00c_10
theorem d_X8_readActClause_8 : decode prog_10_method_20_code 8 = .ok (.aload_n 0, 1) := gd_4 db00c_10
theorem d_X8_readActClause_9 : decode prog_10_method_20_code 9 = .ok (.bipush 63, 2) := gd_5 db00c_10
theorem d_X8_readActClause_11 : decode prog_10_method_20_code 11 = .ok (.invokevirtual 98, 3) := gd_6 db00c_10
theorem d_X8_readActClause_14 : decode prog_10_method_20_code 14 = .ok (.ifCond .ne 5, 3) := gd_7 db00c_10
theorem d_X8_readActClause_17 : decode prog_10_method_20_code 17 = .ok (.iconst 0, 1) := gd_8 db00c_10
theorem d_X8_readActClause_18 : decode prog_10_method_20_code 18 = .ok (.ireturn, 1) := gd_9 db00c_10
theorem d_X8_readActClause_19 : decode prog_10_method_20_code 19 = .ok (.aload_n 0, 1) := gd_10 db00c_10
theorem d_X8_readActClause_20 : decode prog_10_method_20_code 20 = .ok (.iconst 3, 1) := gd_11 db00c_10
theorem d_X8_readActClause_21 : decode prog_10_method_20_code 21 = .ok (.iconst 0, 1) := gd_12 db00c_10
theorem d_X8_readActClause_22 : decode prog_10_method_20_code 22 = .ok (.invokevirtual 121, 3) := gd_13 db00c_10
theorem d_X8_readActClause_25 : decode prog_10_method_20_code 25 = .ok (.istore_n 1, 1) := gd_14 db00c_10
theorem d_X8_readActClause_26 : decode prog_10_method_20_code 26 = .ok (.aload_n 0, 1) := gd_15 db00c_10
theorem d_X8_readActClause_27 : decode prog_10_method_20_code 27 = .ok (.invokevirtual 63, 3) := gd_16 db00c_10
theorem d_X8_readActClause_30 : decode prog_10_method_20_code 30 = .ok (.istore_n 2, 1) := gd_17 db00c_10
theorem d_X8_readActClause_31 : decode prog_10_method_20_code 31 = .ok (.iload_n 2, 1) := gd_18 db00c_10
theorem d_X8_readActClause_32 : decode prog_10_method_20_code 32 = .ok (.iconst (-1), 1) := gd_19 db00c_10
theorem d_X8_readActClause_33 : decode prog_10_method_20_code 33 = .ok (.if_icmp .ne 7, 3) := gd_20 db00c_10
theorem d_X8_readActClause_36 : decode prog_10_method_20_code 36 = .ok (.iconst (-1), 1) := gd_21 db00c_10
theorem d_X8_readActClause_37 : decode prog_10_method_20_code 37 = .ok (.goto 10, 3) := gd_22 db00c_10
theorem d_X8_readActClause_40 : decode prog_10_method_20_code 40 = .ok (.ldc 124, 2) := gd_23 db00c_10
theorem d_X8_readActClause_43 : decode prog_10_method_20_code 43 = .ok (.i2c, 1) := by decide +kernel
theorem db00c_11 : Ad_ prog_10_method_20_code [(42, .iload_n 2, 1), (44, .invokevirtual 126, 3), (47, .istore_n 3, 1), (48, .iload_n 3, 1), (49, .ifCond .ge 8, 3), (52, .aload_n 0, 1), (53, .invokevirtual 67, 3), (56, .ireturn, 1), (57, .aload_n 0, 1), (58, .dup, 1), (59, .getfield 47, 3), (62, .iconst 1, 1), (63, .iadd, 1), (64, .putfield 47, 3), (67, .aload_n 0, 1), (68, .iconst 0, 1), (69, .iload_n 3, 1), (70, .invokevirtual 121, 3), (73, .pop, 1), (74, .aload_n 0, 1), (75, .iload_n 1, 1), (76, .invokevirtual 131, 3), (79, .iconst 1, 1), (80, .ireturn, 1)] := bch_ok prog_10_method_20_code _ 42 (by decide +kernel)
theorem d_X8_readActClause_42 : decode prog_10_method_20_code 42 = .ok (.iload_n 2, 1) := gd_0 db00c_11
theorem d_X8_readActClause_44 : decode prog_10_method_20_code 44 = .ok (.invokevirtual 126, 3) := gd_1 db00c_11
theorem d_X8_readActClause_47 : decode prog_10_method_20_code 47 = .ok (.istore_n 3, 1) := gd_2 db00c_11
theorem d_X8_readActClause_48 : decode prog_10_method_20_code 48 = .ok (.iload_n 3, 1) := gd_3 db00c_11
theorem d_X8_readActClause_49 : decode prog_10_method_20_code 49 = .ok (.ifCond .ge 8, 3) := gd_4 db00c_11
theorem d_X8_readActClause_52 : decode prog_10_method_20_code 52 = .ok (.aload_n 0, 1) := gd_5 db00c_11
theorem d_X8_readActClause_53 : decode prog_10_method_20_code 53 = .ok (.invokevirtual 67, 3) := gd_6 db00c_11
theorem d_X8_readActClause_56 : decode prog_10_method_20_code 56 = .ok (.ireturn, 1) := gd_7 db00c_11
theorem d_X8_readActClause_57 : decode prog_10_method_20_code 57 = .ok (.aload_n 0, 1) := gd_8 db00c_11
theorem d_X8_readActClause_58 : decode prog_10_method_20_code 58 = .ok (.dup, 1) := gd_9 db00c_11
theorem d_X8_readActClause_59 : decode prog_10_method_20_code 59 = .ok (.getfield 47, 3) := gd_10 db00c_11
theorem d_X8_readActClause_62 : decode prog_10_method_20_code 62 = .ok (.iconst 1, 1) := gd_11 db00c_11
theorem d_X8_readActClause_63 : decode prog_10_method_20_code 63 = .ok (.iadd, 1) := gd_12 db00c_11
theorem d_X8_readActClause_64 : decode prog_10_method_20_code 64 = .ok (.putfield 47, 3) := gd_13 db00c_11
theorem d_X8_readActClause_67 : decode prog_10_method_20_code 67 = .ok (.aload_n 0, 1) := gd_14 db00c_11
theorem d_X8_readActClause_68 : decode prog_10_method_20_code 68 = .ok (.iconst 0, 1) := gd_15 db00c_11
theorem d_X8_readActClause_69 : decode prog_10_method_20_code 69 = .ok (.iload_n 3, 1) := gd_16 db00c_11
theorem d_X8_readActClause_70 : decode prog_10_method_20_code 70 = .ok (.invokevirtual 121, 3) := gd_17 db00c_11
theorem d_X8_readActClause_73 : decode prog_10_method_20_code 73 = .ok (.pop, 1) := gd_18 db00c_11
theorem d_X8_readActClause_74 : decode prog_10_method_20_code 74 = .ok (.aload_n 0, 1) := gd_19 db00c_11
theorem d_X8_readActClause_75 : decode prog_10_method_20_code 75 = .ok (.iload_n 1, 1) := gd_20 db00c_11
theorem d_X8_readActClause_76 : decode prog_10_method_20_code 76 = .ok (.invokevirtual 131, 3) := gd_21 db00c_11
theorem d_X8_readActClause_79 : decode prog_10_method_20_code 79 = .ok (.iconst 1, 1) := gd_22 db00c_11
theorem d_X8_readActClause_80 : decode prog_10_method_20_code 80 = .ok (.ireturn, 1) := gd_23 db00c_11
theorem db00c_12 : Ad_ prog_10_method_21_code [(0, .aload_n 0, 1), (1, .invokevirtual 63, 3), (4, .istore_n 1, 1), (5, .iload_n 1, 1), (6, .bipush 33, 2), (8, .if_icmp .eq 9, 3), (11, .iload_n 1, 1), (12, .bipush 40, 2), (14, .if_icmp .ne 24, 3), (17, .aload_n 0, 1), (18, .iconst 0, 1), (19, .invokevirtual 118, 3), (22, .ifCond .eq 14, 3), (25, .aload_n 0, 1), (26, .invokevirtual 134, 3), (29, .ifCond .eq 7, 3), (32, .iconst 1, 1), (33, .goto 4, 3), (36, .iconst 0, 1), (37, .ireturn, 1), (38, .aload_n 0, 1), (39, .iconst 0, 1), (40, .invokevirtual 137, 3), (43, .ifCond .ne 5, 3)] := bch_ok prog_10_method_21_code _ 0 (by decide +kernel)
theorem d_X8_readPayClause_0 : decode prog_10_method_21_code 0 = .ok (.aload_n 0, 1) := gd_0 db00c_12
theorem d_X8_readPayClause_1 : decode prog_10_method_21_code 1 = .ok (.invokevirtual 63, 3) := gd_1 db00c_12
theorem d_X8_readPayClause_4 : decode prog_10_method_21_code 4 = .ok (.istore_n 1, 1) := gd_2 db00c_12
theorem d_X8_readPayClause_5 : decode prog_10_method_21_code 5 = .ok (.iload_n 1, 1) := gd_3 db00c_12
theorem d_X8_readPayClause_6 : decode prog_10_method_21_code 6 = .ok (.bipush 33, 2) := gd_4 db00c_12
theorem d_X8_readPayClause_8 : decode prog_10_method_21_code 8 = .ok (.if_icmp .eq 9, 3) := gd_5 db00c_12
theorem d_X8_readPayClause_11 : decode prog_10_method_21_code 11 = .ok (.iload_n 1, 1) := gd_6 db00c_12
theorem d_X8_readPayClause_12 : decode prog_10_method_21_code 12 = .ok (.bipush 40, 2) := gd_7 db00c_12
theorem d_X8_readPayClause_14 : decode prog_10_method_21_code 14 = .ok (.if_icmp .ne 24, 3) := gd_8 db00c_12
theorem d_X8_readPayClause_17 : decode prog_10_method_21_code 17 = .ok (.aload_n 0, 1) := gd_9 db00c_12
theorem d_X8_readPayClause_18 : decode prog_10_method_21_code 18 = .ok (.iconst 0, 1) := gd_10 db00c_12
theorem d_X8_readPayClause_19 : decode prog_10_method_21_code 19 = .ok (.invokevirtual 118, 3) := gd_11 db00c_12
theorem d_X8_readPayClause_22 : decode prog_10_method_21_code 22 = .ok (.ifCond .eq 14, 3) := gd_12 db00c_12
theorem d_X8_readPayClause_25 : decode prog_10_method_21_code 25 = .ok (.aload_n 0, 1) := gd_13 db00c_12
theorem d_X8_readPayClause_26 : decode prog_10_method_21_code 26 = .ok (.invokevirtual 134, 3) := gd_14 db00c_12
theorem d_X8_readPayClause_29 : decode prog_10_method_21_code 29 = .ok (.ifCond .eq 7, 3) := gd_15 db00c_12
theorem d_X8_readPayClause_32 : decode prog_10_method_21_code 32 = .ok (.iconst 1, 1) := gd_16 db00c_12
theorem d_X8_readPayClause_33 : decode prog_10_method_21_code 33 = .ok (.goto 4, 3) := gd_17 db00c_12
theorem d_X8_readPayClause_36 : decode prog_10_method_21_code 36 = .ok (.iconst 0, 1) := gd_18 db00c_12
theorem d_X8_readPayClause_37 : decode prog_10_method_21_code 37 = .ok (.ireturn, 1) := gd_19 db00c_12
theorem d_X8_readPayClause_38 : decode prog_10_method_21_code 38 = .ok (.aload_n 0, 1) := gd_20 db00c_12
theorem d_X8_readPayClause_39 : decode prog_10_method_21_code 39 = .ok (.iconst 0, 1) := gd_21 db00c_12
theorem d_X8_readPayClause_40 : decode prog_10_method_21_code 40 = .ok (.invokevirtual 137, 3) := gd_22 db00c_12
theorem d_X8_readPayClause_43 : decode prog_10_method_21_code 43 = .ok (.ifCond .ne 5, 3) := gd_23 db00c_12
theorem db00c_13 : Ad_ prog_10_method_21_code [(46, .iconst 0, 1), (47, .ireturn, 1), (48, .aload_n 0, 1), (49, .invokevirtual 63, 3), (52, .invokestatic 140, 3), (55, .ifCond .eq 32, 3), (58, .aload_n 0, 1), (59, .iconst 0, 1), (60, .invokevirtual 143, 3), (63, .ifCond .eq 22, 3), (66, .aload_n 0, 1), (67, .iconst 0, 1), (68, .invokevirtual 146, 3), (71, .ifCond .eq 14, 3), (74, .aload_n 0, 1), (75, .invokevirtual 134, 3), (78, .ifCond .eq 7, 3), (81, .iconst 1, 1), (82, .goto 4, 3), (85, .iconst 0, 1), (86, .ireturn, 1), (87, .aload_n 0, 1), (88, .iconst (-1), 1), (89, .invokevirtual 131, 3)] := bch_ok prog_10_method_21_code _ 46 (by decide +kernel)
theorem d_X8_readPayClause_46 : decode prog_10_method_21_code 46 = .ok (.iconst 0, 1) := gd_0 db00c_13
theorem d_X8_readPayClause_47 : decode prog_10_method_21_code 47 = .ok (.ireturn, 1) := gd_1 db00c_13
theorem d_X8_readPayClause_48 : decode prog_10_method_21_code 48 = .ok (.aload_n 0, 1) := gd_2 db00c_13
theorem d_X8_readPayClause_49 : decode prog_10_method_21_code 49 = .ok (.invokevirtual 63, 3) := gd_3 db00c_13
theorem d_X8_readPayClause_52 : decode prog_10_method_21_code 52 = .ok (.invokestatic 140, 3) := gd_4 db00c_13
theorem d_X8_readPayClause_55 : decode prog_10_method_21_code 55 = .ok (.ifCond .eq 32, 3) := gd_5 db00c_13
theorem d_X8_readPayClause_58 : decode prog_10_method_21_code 58 = .ok (.aload_n 0, 1) := gd_6 db00c_13
theorem d_X8_readPayClause_59 : decode prog_10_method_21_code 59 = .ok (.iconst 0, 1) := gd_7 db00c_13
theorem d_X8_readPayClause_60 : decode prog_10_method_21_code 60 = .ok (.invokevirtual 143, 3) := gd_8 db00c_13
theorem d_X8_readPayClause_63 : decode prog_10_method_21_code 63 = .ok (.ifCond .eq 22, 3) := gd_9 db00c_13
theorem d_X8_readPayClause_66 : decode prog_10_method_21_code 66 = .ok (.aload_n 0, 1) := gd_10 db00c_13
theorem d_X8_readPayClause_67 : decode prog_10_method_21_code 67 = .ok (.iconst 0, 1) := gd_11 db00c_13
theorem d_X8_readPayClause_68 : decode prog_10_method_21_code 68 = .ok (.invokevirtual 146, 3) := gd_12 db00c_13
theorem d_X8_readPayClause_71 : decode prog_10_method_21_code 71 = .ok (.ifCond .eq 14, 3) := gd_13 db00c_13
theorem d_X8_readPayClause_74 : decode prog_10_method_21_code 74 = .ok (.aload_n 0, 1) := gd_14 db00c_13
theorem d_X8_readPayClause_75 : decode prog_10_method_21_code 75 = .ok (.invokevirtual 134, 3) := gd_15 db00c_13
theorem d_X8_readPayClause_78 : decode prog_10_method_21_code 78 = .ok (.ifCond .eq 7, 3) := gd_16 db00c_13
theorem d_X8_readPayClause_81 : decode prog_10_method_21_code 81 = .ok (.iconst 1, 1) := gd_17 db00c_13
theorem d_X8_readPayClause_82 : decode prog_10_method_21_code 82 = .ok (.goto 4, 3) := gd_18 db00c_13
theorem d_X8_readPayClause_85 : decode prog_10_method_21_code 85 = .ok (.iconst 0, 1) := gd_19 db00c_13
theorem d_X8_readPayClause_86 : decode prog_10_method_21_code 86 = .ok (.ireturn, 1) := gd_20 db00c_13
theorem d_X8_readPayClause_87 : decode prog_10_method_21_code 87 = .ok (.aload_n 0, 1) := gd_21 db00c_13
theorem d_X8_readPayClause_88 : decode prog_10_method_21_code 88 = .ok (.iconst (-1), 1) := gd_22 db00c_13
theorem d_X8_readPayClause_89 : decode prog_10_method_21_code 89 = .ok (.invokevirtual 131, 3) := gd_23 db00c_13
theorem d_X8_readPayClause_92 : decode prog_10_method_21_code 92 = .ok (.iconst 1, 1) := by decide +kernel
theorem d_X8_readPayClause_93 : decode prog_10_method_21_code 93 = .ok (.ireturn, 1) := by decide +kernel
theorem db00c_14 : Ad_ prog_10_method_22_code [(0, .aload_n 0, 1), (1, .bipush 63, 2), (3, .invokevirtual 98, 3), (6, .ifCond .ne 5, 3), (9, .iconst 0, 1), (10, .ireturn, 1), (11, .aload_n 0, 1), (12, .iconst 3, 1), (13, .iconst 0, 1), (14, .invokevirtual 121, 3), (17, .istore_n 1, 1), (18, .aload_n 0, 1), (19, .iconst 0, 1), (20, .invokevirtual 137, 3), (23, .ifCond .ne 5, 3), (26, .iconst 0, 1), (27, .ireturn, 1), (28, .aload_n 0, 1), (29, .iload_n 1, 1), (30, .invokevirtual 131, 3), (33, .iconst 1, 1), (34, .ireturn, 1)] := bch_ok prog_10_method_22_code _ 0 (by decide +kernel)
theorem d_X8_readPayAnswer_0 : decode prog_10_method_22_code 0 = .ok (.aload_n 0, 1) := gd_0 db00c_14
theorem d_X8_readPayAnswer_1 : decode prog_10_method_22_code 1 = .ok (.bipush 63, 2) := gd_1 db00c_14
theorem d_X8_readPayAnswer_3 : decode prog_10_method_22_code 3 = .ok (.invokevirtual 98, 3) := gd_2 db00c_14
theorem d_X8_readPayAnswer_6 : decode prog_10_method_22_code 6 = .ok (.ifCond .ne 5, 3) := gd_3 db00c_14
theorem d_X8_readPayAnswer_9 : decode prog_10_method_22_code 9 = .ok (.iconst 0, 1) := gd_4 db00c_14
theorem d_X8_readPayAnswer_10 : decode prog_10_method_22_code 10 = .ok (.ireturn, 1) := gd_5 db00c_14
theorem d_X8_readPayAnswer_11 : decode prog_10_method_22_code 11 = .ok (.aload_n 0, 1) := gd_6 db00c_14
theorem d_X8_readPayAnswer_12 : decode prog_10_method_22_code 12 = .ok (.iconst 3, 1) := gd_7 db00c_14
theorem d_X8_readPayAnswer_13 : decode prog_10_method_22_code 13 = .ok (.iconst 0, 1) := gd_8 db00c_14
theorem d_X8_readPayAnswer_14 : decode prog_10_method_22_code 14 = .ok (.invokevirtual 121, 3) := gd_9 db00c_14
theorem d_X8_readPayAnswer_17 : decode prog_10_method_22_code 17 = .ok (.istore_n 1, 1) := gd_10 db00c_14
theorem d_X8_readPayAnswer_18 : decode prog_10_method_22_code 18 = .ok (.aload_n 0, 1) := gd_11 db00c_14
theorem d_X8_readPayAnswer_19 : decode prog_10_method_22_code 19 = .ok (.iconst 0, 1) := gd_12 db00c_14
theorem d_X8_readPayAnswer_20 : decode prog_10_method_22_code 20 = .ok (.invokevirtual 137, 3) := gd_13 db00c_14
theorem d_X8_readPayAnswer_23 : decode prog_10_method_22_code 23 = .ok (.ifCond .ne 5, 3) := gd_14 db00c_14
theorem d_X8_readPayAnswer_26 : decode prog_10_method_22_code 26 = .ok (.iconst 0, 1) := gd_15 db00c_14
theorem d_X8_readPayAnswer_27 : decode prog_10_method_22_code 27 = .ok (.ireturn, 1) := gd_16 db00c_14
theorem d_X8_readPayAnswer_28 : decode prog_10_method_22_code 28 = .ok (.aload_n 0, 1) := gd_17 db00c_14
theorem d_X8_readPayAnswer_29 : decode prog_10_method_22_code 29 = .ok (.iload_n 1, 1) := gd_18 db00c_14
theorem d_X8_readPayAnswer_30 : decode prog_10_method_22_code 30 = .ok (.invokevirtual 131, 3) := gd_19 db00c_14
theorem d_X8_readPayAnswer_33 : decode prog_10_method_22_code 33 = .ok (.iconst 1, 1) := gd_20 db00c_14
theorem d_X8_readPayAnswer_34 : decode prog_10_method_22_code 34 = .ok (.ireturn, 1) := gd_21 db00c_14
theorem db00c_15 : Ad_ prog_10_method_23_code [(0, .aload_n 0, 1), (1, .iconst 4, 1), (2, .iconst 0, 1), (3, .invokevirtual 121, 3), (6, .pop, 1), (7, .iload_n 1, 1), (8, .iconst 0, 1), (9, .aload_n 0, 1), (10, .getfield 60, 3), (13, .iconst 1, 1), (14, .isub, 1), (15, .invokestatic 43, 3), (18, .ifCond .eq 17, 3), (21, .aload_n 0, 1), (22, .getfield 28, 3), (25, .iload_n 1, 1), (26, .iconst 3, 1), (27, .aload_n 0, 1), (28, .getfield 60, 3), (31, .invokestatic 149, 3), (34, .iastore, 1), (35, .return_, 1)] := bch_ok prog_10_method_23_code _ 0 (by decide +kernel)
theorem d_X8_endClause_0 : decode prog_10_method_23_code 0 = .ok (.aload_n 0, 1) := gd_0 db00c_15
theorem d_X8_endClause_1 : decode prog_10_method_23_code 1 = .ok (.iconst 4, 1) := gd_1 db00c_15
theorem d_X8_endClause_2 : decode prog_10_method_23_code 2 = .ok (.iconst 0, 1) := gd_2 db00c_15
theorem d_X8_endClause_3 : decode prog_10_method_23_code 3 = .ok (.invokevirtual 121, 3) := gd_3 db00c_15
theorem d_X8_endClause_6 : decode prog_10_method_23_code 6 = .ok (.pop, 1) := gd_4 db00c_15
theorem d_X8_endClause_7 : decode prog_10_method_23_code 7 = .ok (.iload_n 1, 1) := gd_5 db00c_15
theorem d_X8_endClause_8 : decode prog_10_method_23_code 8 = .ok (.iconst 0, 1) := gd_6 db00c_15
theorem d_X8_endClause_9 : decode prog_10_method_23_code 9 = .ok (.aload_n 0, 1) := gd_7 db00c_15
theorem d_X8_endClause_10 : decode prog_10_method_23_code 10 = .ok (.getfield 60, 3) := gd_8 db00c_15
theorem d_X8_endClause_13 : decode prog_10_method_23_code 13 = .ok (.iconst 1, 1) := gd_9 db00c_15
theorem d_X8_endClause_14 : decode prog_10_method_23_code 14 = .ok (.isub, 1) := gd_10 db00c_15
theorem d_X8_endClause_15 : decode prog_10_method_23_code 15 = .ok (.invokestatic 43, 3) := gd_11 db00c_15
theorem d_X8_endClause_18 : decode prog_10_method_23_code 18 = .ok (.ifCond .eq 17, 3) := gd_12 db00c_15
theorem d_X8_endClause_21 : decode prog_10_method_23_code 21 = .ok (.aload_n 0, 1) := gd_13 db00c_15
theorem d_X8_endClause_22 : decode prog_10_method_23_code 22 = .ok (.getfield 28, 3) := gd_14 db00c_15
theorem d_X8_endClause_25 : decode prog_10_method_23_code 25 = .ok (.iload_n 1, 1) := gd_15 db00c_15
theorem d_X8_endClause_26 : decode prog_10_method_23_code 26 = .ok (.iconst 3, 1) := gd_16 db00c_15
theorem d_X8_endClause_27 : decode prog_10_method_23_code 27 = .ok (.aload_n 0, 1) := gd_17 db00c_15
theorem d_X8_endClause_28 : decode prog_10_method_23_code 28 = .ok (.getfield 60, 3) := gd_18 db00c_15
theorem d_X8_endClause_31 : decode prog_10_method_23_code 31 = .ok (.invokestatic 149, 3) := gd_19 db00c_15
theorem d_X8_endClause_34 : decode prog_10_method_23_code 34 = .ok (.iastore, 1) := gd_20 db00c_15
theorem d_X8_endClause_35 : decode prog_10_method_23_code 35 = .ok (.return_, 1) := gd_21 db00c_15
theorem db00c_16 : Ad_ prog_10_method_24_code [(0, .aload_n 0, 1), (1, .getfield 60, 3), (4, .aload_n 0, 1), (5, .getfield 28, 3), (8, .arraylength, 1), (9, .if_icmp .lt 5, 3), (12, .iconst (-1), 1), (13, .ireturn, 1), (14, .aload_n 0, 1), (15, .getfield 28, 3), (18, .aload_n 0, 1), (19, .getfield 60, 3), (22, .iload_n 1, 1), (23, .iload_n 2, 1), (24, .invokestatic 149, 3), (27, .iastore, 1), (28, .aload_n 0, 1), (29, .dup, 1), (30, .getfield 60, 3), (33, .iconst 1, 1), (34, .iadd, 1), (35, .putfield 60, 3), (38, .aload_n 0, 1), (39, .getfield 60, 3)] := bch_ok prog_10_method_24_code _ 0 (by decide +kernel)
theorem d_X8_emit_0 : decode prog_10_method_24_code 0 = .ok (.aload_n 0, 1) := gd_0 db00c_16
theorem d_X8_emit_1 : decode prog_10_method_24_code 1 = .ok (.getfield 60, 3) := gd_1 db00c_16
theorem d_X8_emit_4 : decode prog_10_method_24_code 4 = .ok (.aload_n 0, 1) := gd_2 db00c_16
theorem d_X8_emit_5 : decode prog_10_method_24_code 5 = .ok (.getfield 28, 3) := gd_3 db00c_16
theorem d_X8_emit_8 : decode prog_10_method_24_code 8 = .ok (.arraylength, 1) := gd_4 db00c_16
theorem d_X8_emit_9 : decode prog_10_method_24_code 9 = .ok (.if_icmp .lt 5, 3) := gd_5 db00c_16
theorem d_X8_emit_12 : decode prog_10_method_24_code 12 = .ok (.iconst (-1), 1) := gd_6 db00c_16
theorem d_X8_emit_13 : decode prog_10_method_24_code 13 = .ok (.ireturn, 1) := gd_7 db00c_16
theorem d_X8_emit_14 : decode prog_10_method_24_code 14 = .ok (.aload_n 0, 1) := gd_8 db00c_16
theorem d_X8_emit_15 : decode prog_10_method_24_code 15 = .ok (.getfield 28, 3) := gd_9 db00c_16
theorem d_X8_emit_18 : decode prog_10_method_24_code 18 = .ok (.aload_n 0, 1) := gd_10 db00c_16
theorem d_X8_emit_19 : decode prog_10_method_24_code 19 = .ok (.getfield 60, 3) := gd_11 db00c_16
theorem d_X8_emit_22 : decode prog_10_method_24_code 22 = .ok (.iload_n 1, 1) := gd_12 db00c_16
theorem d_X8_emit_23 : decode prog_10_method_24_code 23 = .ok (.iload_n 2, 1) := gd_13 db00c_16
theorem d_X8_emit_24 : decode prog_10_method_24_code 24 = .ok (.invokestatic 149, 3) := gd_14 db00c_16
theorem d_X8_emit_27 : decode prog_10_method_24_code 27 = .ok (.iastore, 1) := gd_15 db00c_16
theorem d_X8_emit_28 : decode prog_10_method_24_code 28 = .ok (.aload_n 0, 1) := gd_16 db00c_16
theorem d_X8_emit_29 : decode prog_10_method_24_code 29 = .ok (.dup, 1) := gd_17 db00c_16
theorem d_X8_emit_30 : decode prog_10_method_24_code 30 = .ok (.getfield 60, 3) := gd_18 db00c_16
theorem d_X8_emit_33 : decode prog_10_method_24_code 33 = .ok (.iconst 1, 1) := gd_19 db00c_16
theorem d_X8_emit_34 : decode prog_10_method_24_code 34 = .ok (.iadd, 1) := gd_20 db00c_16
theorem d_X8_emit_35 : decode prog_10_method_24_code 35 = .ok (.putfield 60, 3) := gd_21 db00c_16
theorem d_X8_emit_38 : decode prog_10_method_24_code 38 = .ok (.aload_n 0, 1) := gd_22 db00c_16
theorem d_X8_emit_39 : decode prog_10_method_24_code 39 = .ok (.getfield 60, 3) := gd_23 db00c_16
theorem db00c_17 : Ad_ prog_10_method_24_code [(42, .iconst 1, 1), (43, .isub, 1), (44, .ireturn, 1)] := bch_ok prog_10_method_24_code _ 42 (by decide +kernel)
theorem d_X8_emit_42 : decode prog_10_method_24_code 42 = .ok (.iconst 1, 1) := gd_0 db00c_17
theorem d_X8_emit_43 : decode prog_10_method_24_code 43 = .ok (.isub, 1) := gd_1 db00c_17
theorem d_X8_emit_44 : decode prog_10_method_24_code 44 = .ok (.ireturn, 1) := gd_2 db00c_17
theorem db00c_18 : Ad_ prog_10_method_25_code [(0, .aload_n 0, 1), (1, .iload_n 1, 1), (2, .invokevirtual 151, 3), (5, .ifCond .eq 15, 3), (8, .aload_n 0, 1), (9, .iload_n 1, 1), (10, .invokevirtual 146, 3), (13, .ifCond .eq 7, 3), (16, .iconst 1, 1), (17, .goto 4, 3), (20, .iconst 0, 1), (21, .ireturn, 1)] := bch_ok prog_10_method_25_code _ 0 (by decide +kernel)
theorem d_X8_readCondition_0 : decode prog_10_method_25_code 0 = .ok (.aload_n 0, 1) := gd_0 db00c_18
theorem d_X8_readCondition_1 : decode prog_10_method_25_code 1 = .ok (.iload_n 1, 1) := gd_1 db00c_18
theorem d_X8_readCondition_2 : decode prog_10_method_25_code 2 = .ok (.invokevirtual 151, 3) := gd_2 db00c_18
theorem d_X8_readCondition_5 : decode prog_10_method_25_code 5 = .ok (.ifCond .eq 15, 3) := gd_3 db00c_18
theorem d_X8_readCondition_8 : decode prog_10_method_25_code 8 = .ok (.aload_n 0, 1) := gd_4 db00c_18
theorem d_X8_readCondition_9 : decode prog_10_method_25_code 9 = .ok (.iload_n 1, 1) := gd_5 db00c_18
theorem d_X8_readCondition_10 : decode prog_10_method_25_code 10 = .ok (.invokevirtual 146, 3) := gd_6 db00c_18
theorem d_X8_readCondition_13 : decode prog_10_method_25_code 13 = .ok (.ifCond .eq 7, 3) := gd_7 db00c_18
theorem d_X8_readCondition_16 : decode prog_10_method_25_code 16 = .ok (.iconst 1, 1) := gd_8 db00c_18
theorem d_X8_readCondition_17 : decode prog_10_method_25_code 17 = .ok (.goto 4, 3) := gd_9 db00c_18
theorem d_X8_readCondition_20 : decode prog_10_method_25_code 20 = .ok (.iconst 0, 1) := gd_10 db00c_18
theorem d_X8_readCondition_21 : decode prog_10_method_25_code 21 = .ok (.ireturn, 1) := gd_11 db00c_18
theorem db00c_19 : Ad_ prog_10_method_26_code [(0, .aload_n 0, 1), (1, .iload_n 1, 1), (2, .invokevirtual 154, 3), (5, .istore_n 2, 1), (6, .iconst 0, 1), (7, .istore_n 3, 1), (8, .iload_n 3, 1), (9, .sipush 160, 3), (12, .if_icmp .ge 62, 3), (15, .iload_n 2, 1), (16, .ifCond .eq 58, 3), (19, .aload_n 0, 1), (20, .invokevirtual 63, 3), (23, .bipush 124, 2), (25, .if_icmp .ne 49, 3), (28, .aload_n 0, 1), (29, .dup, 1), (30, .getfield 47, 3), (33, .iconst 1, 1), (34, .iadd, 1), (35, .putfield 47, 3), (38, .aload_n 0, 1), (39, .iload_n 1, 1), (40, .invokevirtual 151, 3)] := bch_ok prog_10_method_26_code _ 0 (by decide +kernel)
theorem d_X8_readMoreParts_0 : decode prog_10_method_26_code 0 = .ok (.aload_n 0, 1) := gd_0 db00c_19
theorem d_X8_readMoreParts_1 : decode prog_10_method_26_code 1 = .ok (.iload_n 1, 1) := gd_1 db00c_19
theorem d_X8_readMoreParts_2 : decode prog_10_method_26_code 2 = .ok (.invokevirtual 154, 3) := gd_2 db00c_19
theorem d_X8_readMoreParts_5 : decode prog_10_method_26_code 5 = .ok (.istore_n 2, 1) := gd_3 db00c_19
theorem d_X8_readMoreParts_6 : decode prog_10_method_26_code 6 = .ok (.iconst 0, 1) := gd_4 db00c_19
theorem d_X8_readMoreParts_7 : decode prog_10_method_26_code 7 = .ok (.istore_n 3, 1) := gd_5 db00c_19
theorem d_X8_readMoreParts_8 : decode prog_10_method_26_code 8 = .ok (.iload_n 3, 1) := gd_6 db00c_19
theorem d_X8_readMoreParts_9 : decode prog_10_method_26_code 9 = .ok (.sipush 160, 3) := gd_7 db00c_19
theorem d_X8_readMoreParts_12 : decode prog_10_method_26_code 12 = .ok (.if_icmp .ge 62, 3) := gd_8 db00c_19
theorem d_X8_readMoreParts_15 : decode prog_10_method_26_code 15 = .ok (.iload_n 2, 1) := gd_9 db00c_19
theorem d_X8_readMoreParts_16 : decode prog_10_method_26_code 16 = .ok (.ifCond .eq 58, 3) := gd_10 db00c_19
theorem d_X8_readMoreParts_19 : decode prog_10_method_26_code 19 = .ok (.aload_n 0, 1) := gd_11 db00c_19
theorem d_X8_readMoreParts_20 : decode prog_10_method_26_code 20 = .ok (.invokevirtual 63, 3) := gd_12 db00c_19
theorem d_X8_readMoreParts_23 : decode prog_10_method_26_code 23 = .ok (.bipush 124, 2) := gd_13 db00c_19
theorem d_X8_readMoreParts_25 : decode prog_10_method_26_code 25 = .ok (.if_icmp .ne 49, 3) := gd_14 db00c_19
theorem d_X8_readMoreParts_28 : decode prog_10_method_26_code 28 = .ok (.aload_n 0, 1) := gd_15 db00c_19
theorem d_X8_readMoreParts_29 : decode prog_10_method_26_code 29 = .ok (.dup, 1) := gd_16 db00c_19
theorem d_X8_readMoreParts_30 : decode prog_10_method_26_code 30 = .ok (.getfield 47, 3) := gd_17 db00c_19
theorem d_X8_readMoreParts_33 : decode prog_10_method_26_code 33 = .ok (.iconst 1, 1) := gd_18 db00c_19
theorem d_X8_readMoreParts_34 : decode prog_10_method_26_code 34 = .ok (.iadd, 1) := gd_19 db00c_19
theorem d_X8_readMoreParts_35 : decode prog_10_method_26_code 35 = .ok (.putfield 47, 3) := gd_20 db00c_19
theorem d_X8_readMoreParts_38 : decode prog_10_method_26_code 38 = .ok (.aload_n 0, 1) := gd_21 db00c_19
theorem d_X8_readMoreParts_39 : decode prog_10_method_26_code 39 = .ok (.iload_n 1, 1) := gd_22 db00c_19
theorem d_X8_readMoreParts_40 : decode prog_10_method_26_code 40 = .ok (.invokevirtual 151, 3) := gd_23 db00c_19
theorem db00c_20 : Ad_ prog_10_method_26_code [(43, .ifCond .eq 15, 3), (46, .aload_n 0, 1), (47, .iload_n 1, 1), (48, .invokevirtual 154, 3), (51, .ifCond .eq 7, 3), (54, .iconst 1, 1), (55, .goto 4, 3), (58, .iconst 0, 1), (59, .istore_n 2, 1), (60, .aload_n 0, 1), (61, .bipush 12, 2), (63, .iconst 0, 1), (64, .invokevirtual 121, 3), (67, .pop, 1), (68, .iinc 3 1, 3), (71, .goto (-63), 3), (74, .iload_n 2, 1), (75, .ireturn, 1)] := bch_ok prog_10_method_26_code _ 43 (by decide +kernel)
theorem d_X8_readMoreParts_43 : decode prog_10_method_26_code 43 = .ok (.ifCond .eq 15, 3) := gd_0 db00c_20
theorem d_X8_readMoreParts_46 : decode prog_10_method_26_code 46 = .ok (.aload_n 0, 1) := gd_1 db00c_20
theorem d_X8_readMoreParts_47 : decode prog_10_method_26_code 47 = .ok (.iload_n 1, 1) := gd_2 db00c_20
theorem d_X8_readMoreParts_48 : decode prog_10_method_26_code 48 = .ok (.invokevirtual 154, 3) := gd_3 db00c_20
theorem d_X8_readMoreParts_51 : decode prog_10_method_26_code 51 = .ok (.ifCond .eq 7, 3) := gd_4 db00c_20
theorem d_X8_readMoreParts_54 : decode prog_10_method_26_code 54 = .ok (.iconst 1, 1) := gd_5 db00c_20
theorem d_X8_readMoreParts_55 : decode prog_10_method_26_code 55 = .ok (.goto 4, 3) := gd_6 db00c_20
theorem d_X8_readMoreParts_58 : decode prog_10_method_26_code 58 = .ok (.iconst 0, 1) := gd_7 db00c_20
theorem d_X8_readMoreParts_59 : decode prog_10_method_26_code 59 = .ok (.istore_n 2, 1) := gd_8 db00c_20
theorem d_X8_readMoreParts_60 : decode prog_10_method_26_code 60 = .ok (.aload_n 0, 1) := gd_9 db00c_20
theorem d_X8_readMoreParts_61 : decode prog_10_method_26_code 61 = .ok (.bipush 12, 2) := gd_10 db00c_20
theorem d_X8_readMoreParts_63 : decode prog_10_method_26_code 63 = .ok (.iconst 0, 1) := gd_11 db00c_20
theorem d_X8_readMoreParts_64 : decode prog_10_method_26_code 64 = .ok (.invokevirtual 121, 3) := gd_12 db00c_20
theorem d_X8_readMoreParts_67 : decode prog_10_method_26_code 67 = .ok (.pop, 1) := gd_13 db00c_20
theorem d_X8_readMoreParts_68 : decode prog_10_method_26_code 68 = .ok (.iinc 3 1, 3) := gd_14 db00c_20
theorem d_X8_readMoreParts_71 : decode prog_10_method_26_code 71 = .ok (.goto (-63), 3) := gd_15 db00c_20
theorem d_X8_readMoreParts_74 : decode prog_10_method_26_code 74 = .ok (.iload_n 2, 1) := gd_16 db00c_20
theorem d_X8_readMoreParts_75 : decode prog_10_method_26_code 75 = .ok (.ireturn, 1) := gd_17 db00c_20
theorem db00c_21 : Ad_ prog_10_method_27_code [(0, .iconst 1, 1), (1, .istore_n 2, 1), (2, .iconst 0, 1), (3, .istore_n 3, 1), (4, .iload_n 3, 1), (5, .sipush 160, 3), (8, .if_icmp .ge 46, 3), (11, .iload_n 2, 1), (12, .ifCond .eq 42, 3), (15, .aload_n 0, 1), (16, .invokevirtual 63, 3), (19, .bipush 38, 2), (21, .if_icmp .ne 33, 3), (24, .aload_n 0, 1), (25, .dup, 1), (26, .getfield 47, 3), (29, .iconst 1, 1), (30, .iadd, 1), (31, .putfield 47, 3), (34, .aload_n 0, 1), (35, .iload_n 1, 1), (36, .invokevirtual 151, 3), (39, .istore_n 2, 1), (40, .aload_n 0, 1)] := bch_ok prog_10_method_27_code _ 0 (by decide +kernel)
theorem d_X8_readMoreUnits_0 : decode prog_10_method_27_code 0 = .ok (.iconst 1, 1) := gd_0 db00c_21
theorem d_X8_readMoreUnits_1 : decode prog_10_method_27_code 1 = .ok (.istore_n 2, 1) := gd_1 db00c_21
theorem d_X8_readMoreUnits_2 : decode prog_10_method_27_code 2 = .ok (.iconst 0, 1) := gd_2 db00c_21
theorem d_X8_readMoreUnits_3 : decode prog_10_method_27_code 3 = .ok (.istore_n 3, 1) := gd_3 db00c_21
theorem d_X8_readMoreUnits_4 : decode prog_10_method_27_code 4 = .ok (.iload_n 3, 1) := gd_4 db00c_21
theorem d_X8_readMoreUnits_5 : decode prog_10_method_27_code 5 = .ok (.sipush 160, 3) := gd_5 db00c_21
theorem d_X8_readMoreUnits_8 : decode prog_10_method_27_code 8 = .ok (.if_icmp .ge 46, 3) := gd_6 db00c_21
theorem d_X8_readMoreUnits_11 : decode prog_10_method_27_code 11 = .ok (.iload_n 2, 1) := gd_7 db00c_21
theorem d_X8_readMoreUnits_12 : decode prog_10_method_27_code 12 = .ok (.ifCond .eq 42, 3) := gd_8 db00c_21
theorem d_X8_readMoreUnits_15 : decode prog_10_method_27_code 15 = .ok (.aload_n 0, 1) := gd_9 db00c_21
theorem d_X8_readMoreUnits_16 : decode prog_10_method_27_code 16 = .ok (.invokevirtual 63, 3) := gd_10 db00c_21
theorem d_X8_readMoreUnits_19 : decode prog_10_method_27_code 19 = .ok (.bipush 38, 2) := gd_11 db00c_21
theorem d_X8_readMoreUnits_21 : decode prog_10_method_27_code 21 = .ok (.if_icmp .ne 33, 3) := gd_12 db00c_21
theorem d_X8_readMoreUnits_24 : decode prog_10_method_27_code 24 = .ok (.aload_n 0, 1) := gd_13 db00c_21
theorem d_X8_readMoreUnits_25 : decode prog_10_method_27_code 25 = .ok (.dup, 1) := gd_14 db00c_21
theorem d_X8_readMoreUnits_26 : decode prog_10_method_27_code 26 = .ok (.getfield 47, 3) := gd_15 db00c_21
theorem d_X8_readMoreUnits_29 : decode prog_10_method_27_code 29 = .ok (.iconst 1, 1) := gd_16 db00c_21
theorem d_X8_readMoreUnits_30 : decode prog_10_method_27_code 30 = .ok (.iadd, 1) := gd_17 db00c_21
theorem d_X8_readMoreUnits_31 : decode prog_10_method_27_code 31 = .ok (.putfield 47, 3) := gd_18 db00c_21
theorem d_X8_readMoreUnits_34 : decode prog_10_method_27_code 34 = .ok (.aload_n 0, 1) := gd_19 db00c_21
theorem d_X8_readMoreUnits_35 : decode prog_10_method_27_code 35 = .ok (.iload_n 1, 1) := gd_20 db00c_21
theorem d_X8_readMoreUnits_36 : decode prog_10_method_27_code 36 = .ok (.invokevirtual 151, 3) := gd_21 db00c_21
theorem d_X8_readMoreUnits_39 : decode prog_10_method_27_code 39 = .ok (.istore_n 2, 1) := gd_22 db00c_21
theorem d_X8_readMoreUnits_40 : decode prog_10_method_27_code 40 = .ok (.aload_n 0, 1) := gd_23 db00c_21
theorem db00c_22 : Ad_ prog_10_method_27_code [(41, .bipush 11, 2), (43, .iconst 0, 1), (44, .invokevirtual 121, 3), (47, .pop, 1), (48, .iinc 3 1, 3), (51, .goto (-47), 3), (54, .iload_n 2, 1), (55, .ireturn, 1)] := bch_ok prog_10_method_27_code _ 41 (by decide +kernel)
theorem d_X8_readMoreUnits_41 : decode prog_10_method_27_code 41 = .ok (.bipush 11, 2) := gd_0 db00c_22
theorem d_X8_readMoreUnits_43 : decode prog_10_method_27_code 43 = .ok (.iconst 0, 1) := gd_1 db00c_22
theorem d_X8_readMoreUnits_44 : decode prog_10_method_27_code 44 = .ok (.invokevirtual 121, 3) := gd_2 db00c_22
theorem d_X8_readMoreUnits_47 : decode prog_10_method_27_code 47 = .ok (.pop, 1) := gd_3 db00c_22
theorem d_X8_readMoreUnits_48 : decode prog_10_method_27_code 48 = .ok (.iinc 3 1, 3) := gd_4 db00c_22
theorem d_X8_readMoreUnits_51 : decode prog_10_method_27_code 51 = .ok (.goto (-47), 3) := gd_5 db00c_22
theorem d_X8_readMoreUnits_54 : decode prog_10_method_27_code 54 = .ok (.iload_n 2, 1) := gd_6 db00c_22
theorem d_X8_readMoreUnits_55 : decode prog_10_method_27_code 55 = .ok (.ireturn, 1) := gd_7 db00c_22
theorem db00c_23 : Ad_ prog_10_method_28_code [(0, .aload_n 0, 1), (1, .invokevirtual 63, 3), (4, .istore_n 2, 1), (5, .iload_n 2, 1), (6, .bipush 33, 2), (8, .if_icmp .eq 31, 3), (11, .iload_n 2, 1), (12, .bipush 40, 2), (14, .if_icmp .eq 25, 3), (17, .aload_n 0, 1), (18, .iload_n 1, 1), (19, .invokevirtual 137, 3), (22, .ifCond .eq 15, 3), (25, .aload_n 0, 1), (26, .iload_n 1, 1), (27, .invokevirtual 143, 3), (30, .ifCond .eq 7, 3), (33, .iconst 1, 1), (34, .goto 4, 3), (37, .iconst 0, 1), (38, .ireturn, 1), (39, .iload_n 1, 1), (40, .bipush 6, 2), (42, .if_icmp .lt 8, 3)] := bch_ok prog_10_method_28_code _ 0 (by decide +kernel)
theorem d_X8_readUnit_0 : decode prog_10_method_28_code 0 = .ok (.aload_n 0, 1) := gd_0 db00c_23
theorem d_X8_readUnit_1 : decode prog_10_method_28_code 1 = .ok (.invokevirtual 63, 3) := gd_1 db00c_23
theorem d_X8_readUnit_4 : decode prog_10_method_28_code 4 = .ok (.istore_n 2, 1) := gd_2 db00c_23
theorem d_X8_readUnit_5 : decode prog_10_method_28_code 5 = .ok (.iload_n 2, 1) := gd_3 db00c_23
theorem d_X8_readUnit_6 : decode prog_10_method_28_code 6 = .ok (.bipush 33, 2) := gd_4 db00c_23
theorem d_X8_readUnit_8 : decode prog_10_method_28_code 8 = .ok (.if_icmp .eq 31, 3) := gd_5 db00c_23
theorem d_X8_readUnit_11 : decode prog_10_method_28_code 11 = .ok (.iload_n 2, 1) := gd_6 db00c_23
theorem d_X8_readUnit_12 : decode prog_10_method_28_code 12 = .ok (.bipush 40, 2) := gd_7 db00c_23
theorem d_X8_readUnit_14 : decode prog_10_method_28_code 14 = .ok (.if_icmp .eq 25, 3) := gd_8 db00c_23
theorem d_X8_readUnit_17 : decode prog_10_method_28_code 17 = .ok (.aload_n 0, 1) := gd_9 db00c_23
theorem d_X8_readUnit_18 : decode prog_10_method_28_code 18 = .ok (.iload_n 1, 1) := gd_10 db00c_23
theorem d_X8_readUnit_19 : decode prog_10_method_28_code 19 = .ok (.invokevirtual 137, 3) := gd_11 db00c_23
theorem d_X8_readUnit_22 : decode prog_10_method_28_code 22 = .ok (.ifCond .eq 15, 3) := gd_12 db00c_23
theorem d_X8_readUnit_25 : decode prog_10_method_28_code 25 = .ok (.aload_n 0, 1) := gd_13 db00c_23
theorem d_X8_readUnit_26 : decode prog_10_method_28_code 26 = .ok (.iload_n 1, 1) := gd_14 db00c_23
theorem d_X8_readUnit_27 : decode prog_10_method_28_code 27 = .ok (.invokevirtual 143, 3) := gd_15 db00c_23
theorem d_X8_readUnit_30 : decode prog_10_method_28_code 30 = .ok (.ifCond .eq 7, 3) := gd_16 db00c_23
theorem d_X8_readUnit_33 : decode prog_10_method_28_code 33 = .ok (.iconst 1, 1) := gd_17 db00c_23
theorem d_X8_readUnit_34 : decode prog_10_method_28_code 34 = .ok (.goto 4, 3) := gd_18 db00c_23
theorem d_X8_readUnit_37 : decode prog_10_method_28_code 37 = .ok (.iconst 0, 1) := gd_19 db00c_23
theorem d_X8_readUnit_38 : decode prog_10_method_28_code 38 = .ok (.ireturn, 1) := gd_20 db00c_23
theorem d_X8_readUnit_39 : decode prog_10_method_28_code 39 = .ok (.iload_n 1, 1) := gd_21 db00c_23
theorem d_X8_readUnit_40 : decode prog_10_method_28_code 40 = .ok (.bipush 6, 2) := gd_22 db00c_23
theorem d_X8_readUnit_42 : decode prog_10_method_28_code 42 = .ok (.if_icmp .lt 8, 3) := gd_23 db00c_23
theorem db00c_24 : Ad_ prog_10_method_28_code [(45, .aload_n 0, 1), (46, .invokevirtual 67, 3), (49, .ireturn, 1), (50, .aload_n 0, 1), (51, .dup, 1), (52, .getfield 47, 3), (55, .iconst 1, 1), (56, .iadd, 1), (57, .putfield 47, 3), (60, .iload_n 2, 1), (61, .bipush 40, 2), (63, .if_icmp .ne 28, 3), (66, .aload_n 0, 1), (67, .iload_n 1, 1), (68, .iconst 1, 1), (69, .iadd, 1), (70, .invokevirtual 118, 3), (73, .ifCond .eq 16, 3), (76, .aload_n 0, 1), (77, .bipush 41, 2), (79, .invokevirtual 98, 3), (82, .ifCond .eq 7, 3), (85, .iconst 1, 1), (86, .goto 4, 3)] := bch_ok prog_10_method_28_code _ 45 (by decide +kernel)
theorem d_X8_readUnit_45 : decode prog_10_method_28_code 45 = .ok (.aload_n 0, 1) := gd_0 db00c_24
theorem d_X8_readUnit_46 : decode prog_10_method_28_code 46 = .ok (.invokevirtual 67, 3) := gd_1 db00c_24
theorem d_X8_readUnit_49 : decode prog_10_method_28_code 49 = .ok (.ireturn, 1) := gd_2 db00c_24
theorem d_X8_readUnit_50 : decode prog_10_method_28_code 50 = .ok (.aload_n 0, 1) := gd_3 db00c_24
theorem d_X8_readUnit_51 : decode prog_10_method_28_code 51 = .ok (.dup, 1) := gd_4 db00c_24
theorem d_X8_readUnit_52 : decode prog_10_method_28_code 52 = .ok (.getfield 47, 3) := gd_5 db00c_24
theorem d_X8_readUnit_55 : decode prog_10_method_28_code 55 = .ok (.iconst 1, 1) := gd_6 db00c_24
theorem d_X8_readUnit_56 : decode prog_10_method_28_code 56 = .ok (.iadd, 1) := gd_7 db00c_24
theorem d_X8_readUnit_57 : decode prog_10_method_28_code 57 = .ok (.putfield 47, 3) := gd_8 db00c_24
theorem d_X8_readUnit_60 : decode prog_10_method_28_code 60 = .ok (.iload_n 2, 1) := gd_9 db00c_24
theorem d_X8_readUnit_61 : decode prog_10_method_28_code 61 = .ok (.bipush 40, 2) := gd_10 db00c_24
theorem d_X8_readUnit_63 : decode prog_10_method_28_code 63 = .ok (.if_icmp .ne 28, 3) := gd_11 db00c_24
theorem d_X8_readUnit_66 : decode prog_10_method_28_code 66 = .ok (.aload_n 0, 1) := gd_12 db00c_24
theorem d_X8_readUnit_67 : decode prog_10_method_28_code 67 = .ok (.iload_n 1, 1) := gd_13 db00c_24
theorem d_X8_readUnit_68 : decode prog_10_method_28_code 68 = .ok (.iconst 1, 1) := gd_14 db00c_24
theorem d_X8_readUnit_69 : decode prog_10_method_28_code 69 = .ok (.iadd, 1) := gd_15 db00c_24
theorem d_X8_readUnit_70 : decode prog_10_method_28_code 70 = .ok (.invokevirtual 118, 3) := gd_16 db00c_24
theorem d_X8_readUnit_73 : decode prog_10_method_28_code 73 = .ok (.ifCond .eq 16, 3) := gd_17 db00c_24
theorem d_X8_readUnit_76 : decode prog_10_method_28_code 76 = .ok (.aload_n 0, 1) := gd_18 db00c_24
theorem d_X8_readUnit_77 : decode prog_10_method_28_code 77 = .ok (.bipush 41, 2) := gd_19 db00c_24
theorem d_X8_readUnit_79 : decode prog_10_method_28_code 79 = .ok (.invokevirtual 98, 3) := gd_20 db00c_24
theorem d_X8_readUnit_82 : decode prog_10_method_28_code 82 = .ok (.ifCond .eq 7, 3) := gd_21 db00c_24
theorem d_X8_readUnit_85 : decode prog_10_method_28_code 85 = .ok (.iconst 1, 1) := gd_22 db00c_24
theorem d_X8_readUnit_86 : decode prog_10_method_28_code 86 = .ok (.goto 4, 3) := gd_23 db00c_24
theorem db00c_25 : Ad_ prog_10_method_28_code [(89, .iconst 0, 1), (90, .ireturn, 1), (91, .aload_n 0, 1), (92, .iload_n 1, 1), (93, .iconst 1, 1), (94, .iadd, 1), (95, .invokevirtual 151, 3), (98, .istore_n 3, 1), (99, .aload_n 0, 1), (100, .iconst 2, 1), (101, .iconst 0, 1), (102, .invokevirtual 121, 3), (105, .pop, 1), (106, .iload_n 3, 1), (107, .ireturn, 1)] := bch_ok prog_10_method_28_code _ 89 (by decide +kernel)
theorem d_X8_readUnit_89 : decode prog_10_method_28_code 89 = .ok (.iconst 0, 1) := gd_0 db00c_25
theorem d_X8_readUnit_90 : decode prog_10_method_28_code 90 = .ok (.ireturn, 1) := gd_1 db00c_25
theorem d_X8_readUnit_91 : decode prog_10_method_28_code 91 = .ok (.aload_n 0, 1) := gd_2 db00c_25
theorem d_X8_readUnit_92 : decode prog_10_method_28_code 92 = .ok (.iload_n 1, 1) := gd_3 db00c_25
theorem d_X8_readUnit_93 : decode prog_10_method_28_code 93 = .ok (.iconst 1, 1) := gd_4 db00c_25
theorem d_X8_readUnit_94 : decode prog_10_method_28_code 94 = .ok (.iadd, 1) := gd_5 db00c_25
theorem d_X8_readUnit_95 : decode prog_10_method_28_code 95 = .ok (.invokevirtual 151, 3) := gd_6 db00c_25
theorem d_X8_readUnit_98 : decode prog_10_method_28_code 98 = .ok (.istore_n 3, 1) := gd_7 db00c_25
theorem d_X8_readUnit_99 : decode prog_10_method_28_code 99 = .ok (.aload_n 0, 1) := gd_8 db00c_25
theorem d_X8_readUnit_100 : decode prog_10_method_28_code 100 = .ok (.iconst 2, 1) := gd_9 db00c_25
theorem d_X8_readUnit_101 : decode prog_10_method_28_code 101 = .ok (.iconst 0, 1) := gd_10 db00c_25
theorem d_X8_readUnit_102 : decode prog_10_method_28_code 102 = .ok (.invokevirtual 121, 3) := gd_11 db00c_25
theorem d_X8_readUnit_105 : decode prog_10_method_28_code 105 = .ok (.pop, 1) := gd_12 db00c_25
theorem d_X8_readUnit_106 : decode prog_10_method_28_code 106 = .ok (.iload_n 3, 1) := gd_13 db00c_25
theorem d_X8_readUnit_107 : decode prog_10_method_28_code 107 = .ok (.ireturn, 1) := gd_14 db00c_25
theorem db00c_26 : Ad_ prog_10_method_29_code [(0, .iload_n 0, 1), (1, .bipush 61, 2), (3, .if_icmp .eq 15, 3), (6, .iload_n 0, 1), (7, .bipush 60, 2), (9, .if_icmp .eq 9, 3), (12, .iload_n 0, 1), (13, .bipush 62, 2), (15, .if_icmp .ne 7, 3), (18, .iconst 1, 1), (19, .goto 4, 3), (22, .iconst 0, 1), (23, .ireturn, 1)] := bch_ok prog_10_method_29_code _ 0 (by decide +kernel)
theorem d_X8_isComparison_0 : decode prog_10_method_29_code 0 = .ok (.iload_n 0, 1) := gd_0 db00c_26
theorem d_X8_isComparison_1 : decode prog_10_method_29_code 1 = .ok (.bipush 61, 2) := gd_1 db00c_26
theorem d_X8_isComparison_3 : decode prog_10_method_29_code 3 = .ok (.if_icmp .eq 15, 3) := gd_2 db00c_26
theorem d_X8_isComparison_6 : decode prog_10_method_29_code 6 = .ok (.iload_n 0, 1) := gd_3 db00c_26
theorem d_X8_isComparison_7 : decode prog_10_method_29_code 7 = .ok (.bipush 60, 2) := gd_4 db00c_26
theorem d_X8_isComparison_9 : decode prog_10_method_29_code 9 = .ok (.if_icmp .eq 9, 3) := gd_5 db00c_26
theorem d_X8_isComparison_12 : decode prog_10_method_29_code 12 = .ok (.iload_n 0, 1) := gd_6 db00c_26
theorem d_X8_isComparison_13 : decode prog_10_method_29_code 13 = .ok (.bipush 62, 2) := gd_7 db00c_26
theorem d_X8_isComparison_15 : decode prog_10_method_29_code 15 = .ok (.if_icmp .ne 7, 3) := gd_8 db00c_26
theorem d_X8_isComparison_18 : decode prog_10_method_29_code 18 = .ok (.iconst 1, 1) := gd_9 db00c_26
theorem d_X8_isComparison_19 : decode prog_10_method_29_code 19 = .ok (.goto 4, 3) := gd_10 db00c_26
theorem d_X8_isComparison_22 : decode prog_10_method_29_code 22 = .ok (.iconst 0, 1) := gd_11 db00c_26
theorem d_X8_isComparison_23 : decode prog_10_method_29_code 23 = .ok (.ireturn, 1) := gd_12 db00c_26
theorem db00c_27 : Ad_ prog_10_method_30_code [(0, .aload_n 0, 1), (1, .invokevirtual 63, 3), (4, .istore_n 2, 1), (5, .iload_n 2, 1), (6, .invokestatic 140, 3), (9, .ifCond .ne 8, 3), (12, .aload_n 0, 1), (13, .invokevirtual 67, 3), (16, .ireturn, 1), (17, .aload_n 0, 1), (18, .dup, 1), (19, .getfield 47, 3), (22, .iconst 1, 1), (23, .iadd, 1), (24, .putfield 47, 3), (27, .aload_n 0, 1), (28, .iload_n 1, 1), (29, .invokevirtual 137, 3), (32, .istore_n 3, 1), (33, .aload_n 0, 1), (34, .iload_n 2, 1), (35, .bipush 61, 2), (37, .if_icmp .ne 8, 3), (40, .bipush 8, 2)] := bch_ok prog_10_method_30_code _ 0 (by decide +kernel)
theorem d_X8_readComparison_0 : decode prog_10_method_30_code 0 = .ok (.aload_n 0, 1) := gd_0 db00c_27
theorem d_X8_readComparison_1 : decode prog_10_method_30_code 1 = .ok (.invokevirtual 63, 3) := gd_1 db00c_27
theorem d_X8_readComparison_4 : decode prog_10_method_30_code 4 = .ok (.istore_n 2, 1) := gd_2 db00c_27
theorem d_X8_readComparison_5 : decode prog_10_method_30_code 5 = .ok (.iload_n 2, 1) := gd_3 db00c_27
theorem d_X8_readComparison_6 : decode prog_10_method_30_code 6 = .ok (.invokestatic 140, 3) := gd_4 db00c_27
theorem d_X8_readComparison_9 : decode prog_10_method_30_code 9 = .ok (.ifCond .ne 8, 3) := gd_5 db00c_27
theorem d_X8_readComparison_12 : decode prog_10_method_30_code 12 = .ok (.aload_n 0, 1) := gd_6 db00c_27
theorem d_X8_readComparison_13 : decode prog_10_method_30_code 13 = .ok (.invokevirtual 67, 3) := gd_7 db00c_27
theorem d_X8_readComparison_16 : decode prog_10_method_30_code 16 = .ok (.ireturn, 1) := gd_8 db00c_27
theorem d_X8_readComparison_17 : decode prog_10_method_30_code 17 = .ok (.aload_n 0, 1) := gd_9 db00c_27
theorem d_X8_readComparison_18 : decode prog_10_method_30_code 18 = .ok (.dup, 1) := gd_10 db00c_27
theorem d_X8_readComparison_19 : decode prog_10_method_30_code 19 = .ok (.getfield 47, 3) := gd_11 db00c_27
theorem d_X8_readComparison_22 : decode prog_10_method_30_code 22 = .ok (.iconst 1, 1) := gd_12 db00c_27
theorem d_X8_readComparison_23 : decode prog_10_method_30_code 23 = .ok (.iadd, 1) := gd_13 db00c_27
theorem d_X8_readComparison_24 : decode prog_10_method_30_code 24 = .ok (.putfield 47, 3) := gd_14 db00c_27
theorem d_X8_readComparison_27 : decode prog_10_method_30_code 27 = .ok (.aload_n 0, 1) := gd_15 db00c_27
theorem d_X8_readComparison_28 : decode prog_10_method_30_code 28 = .ok (.iload_n 1, 1) := gd_16 db00c_27
theorem d_X8_readComparison_29 : decode prog_10_method_30_code 29 = .ok (.invokevirtual 137, 3) := gd_17 db00c_27
theorem d_X8_readComparison_32 : decode prog_10_method_30_code 32 = .ok (.istore_n 3, 1) := gd_18 db00c_27
theorem d_X8_readComparison_33 : decode prog_10_method_30_code 33 = .ok (.aload_n 0, 1) := gd_19 db00c_27
theorem d_X8_readComparison_34 : decode prog_10_method_30_code 34 = .ok (.iload_n 2, 1) := gd_20 db00c_27
theorem d_X8_readComparison_35 : decode prog_10_method_30_code 35 = .ok (.bipush 61, 2) := gd_21 db00c_27
theorem d_X8_readComparison_37 : decode prog_10_method_30_code 37 = .ok (.if_icmp .ne 8, 3) := gd_22 db00c_27
theorem d_X8_readComparison_40 : decode prog_10_method_30_code 40 = .ok (.bipush 8, 2) := gd_23 db00c_27
theorem db00c_28 : Ad_ prog_10_method_30_code [(42, .goto 16, 3), (45, .iload_n 2, 1), (46, .bipush 60, 2), (48, .if_icmp .ne 8, 3), (51, .bipush 9, 2), (53, .goto 5, 3), (56, .bipush 10, 2), (58, .iconst 0, 1), (59, .invokevirtual 121, 3), (62, .pop, 1), (63, .iload_n 3, 1), (64, .ireturn, 1)] := bch_ok prog_10_method_30_code _ 42 (by decide +kernel)
theorem d_X8_readComparison_42 : decode prog_10_method_30_code 42 = .ok (.goto 16, 3) := gd_0 db00c_28
theorem d_X8_readComparison_45 : decode prog_10_method_30_code 45 = .ok (.iload_n 2, 1) := gd_1 db00c_28
theorem d_X8_readComparison_46 : decode prog_10_method_30_code 46 = .ok (.bipush 60, 2) := gd_2 db00c_28
theorem d_X8_readComparison_48 : decode prog_10_method_30_code 48 = .ok (.if_icmp .ne 8, 3) := gd_3 db00c_28
theorem d_X8_readComparison_51 : decode prog_10_method_30_code 51 = .ok (.bipush 9, 2) := gd_4 db00c_28
theorem d_X8_readComparison_53 : decode prog_10_method_30_code 53 = .ok (.goto 5, 3) := gd_5 db00c_28
theorem d_X8_readComparison_56 : decode prog_10_method_30_code 56 = .ok (.bipush 10, 2) := gd_6 db00c_28
theorem d_X8_readComparison_58 : decode prog_10_method_30_code 58 = .ok (.iconst 0, 1) := gd_7 db00c_28
theorem d_X8_readComparison_59 : decode prog_10_method_30_code 59 = .ok (.invokevirtual 121, 3) := gd_8 db00c_28
theorem d_X8_readComparison_62 : decode prog_10_method_30_code 62 = .ok (.pop, 1) := gd_9 db00c_28
theorem d_X8_readComparison_63 : decode prog_10_method_30_code 63 = .ok (.iload_n 3, 1) := gd_10 db00c_28
theorem d_X8_readComparison_64 : decode prog_10_method_30_code 64 = .ok (.ireturn, 1) := gd_11 db00c_28
theorem db00c_29 : Ad_ prog_10_method_31_code [(0, .aload_n 0, 1), (1, .iload_n 1, 1), (2, .invokevirtual 157, 3), (5, .istore_n 2, 1), (6, .iconst 0, 1), (7, .istore_n 3, 1), (8, .iload_n 3, 1), (9, .sipush 160, 3), (12, .if_icmp .ge 72, 3), (15, .iload_n 2, 1), (16, .ifCond .eq 68, 3), (19, .aload_n 0, 1), (20, .invokevirtual 63, 3), (23, .bipush 43, 2), (25, .if_icmp .eq 12, 3), (28, .aload_n 0, 1), (29, .invokevirtual 63, 3), (32, .bipush 45, 2), (34, .if_icmp .ne 50, 3), (37, .aload_n 0, 1), (38, .invokevirtual 63, 3), (41, .bipush 43, 2), (43, .if_icmp .ne 7, 3), (46, .iconst 5, 1)] := bch_ok prog_10_method_31_code _ 0 (by decide +kernel)
theorem d_X8_readSum_0 : decode prog_10_method_31_code 0 = .ok (.aload_n 0, 1) := gd_0 db00c_29
theorem d_X8_readSum_1 : decode prog_10_method_31_code 1 = .ok (.iload_n 1, 1) := gd_1 db00c_29
theorem d_X8_readSum_2 : decode prog_10_method_31_code 2 = .ok (.invokevirtual 157, 3) := gd_2 db00c_29
theorem d_X8_readSum_5 : decode prog_10_method_31_code 5 = .ok (.istore_n 2, 1) := gd_3 db00c_29
theorem d_X8_readSum_6 : decode prog_10_method_31_code 6 = .ok (.iconst 0, 1) := gd_4 db00c_29
theorem d_X8_readSum_7 : decode prog_10_method_31_code 7 = .ok (.istore_n 3, 1) := gd_5 db00c_29
theorem d_X8_readSum_8 : decode prog_10_method_31_code 8 = .ok (.iload_n 3, 1) := gd_6 db00c_29
theorem d_X8_readSum_9 : decode prog_10_method_31_code 9 = .ok (.sipush 160, 3) := gd_7 db00c_29
theorem d_X8_readSum_12 : decode prog_10_method_31_code 12 = .ok (.if_icmp .ge 72, 3) := gd_8 db00c_29
theorem d_X8_readSum_15 : decode prog_10_method_31_code 15 = .ok (.iload_n 2, 1) := gd_9 db00c_29
theorem d_X8_readSum_16 : decode prog_10_method_31_code 16 = .ok (.ifCond .eq 68, 3) := gd_10 db00c_29
theorem d_X8_readSum_19 : decode prog_10_method_31_code 19 = .ok (.aload_n 0, 1) := gd_11 db00c_29
theorem d_X8_readSum_20 : decode prog_10_method_31_code 20 = .ok (.invokevirtual 63, 3) := gd_12 db00c_29
theorem d_X8_readSum_23 : decode prog_10_method_31_code 23 = .ok (.bipush 43, 2) := gd_13 db00c_29
theorem d_X8_readSum_25 : decode prog_10_method_31_code 25 = .ok (.if_icmp .eq 12, 3) := gd_14 db00c_29
theorem d_X8_readSum_28 : decode prog_10_method_31_code 28 = .ok (.aload_n 0, 1) := gd_15 db00c_29
theorem d_X8_readSum_29 : decode prog_10_method_31_code 29 = .ok (.invokevirtual 63, 3) := gd_16 db00c_29
theorem d_X8_readSum_32 : decode prog_10_method_31_code 32 = .ok (.bipush 45, 2) := gd_17 db00c_29
theorem d_X8_readSum_34 : decode prog_10_method_31_code 34 = .ok (.if_icmp .ne 50, 3) := gd_18 db00c_29
theorem d_X8_readSum_37 : decode prog_10_method_31_code 37 = .ok (.aload_n 0, 1) := gd_19 db00c_29
theorem d_X8_readSum_38 : decode prog_10_method_31_code 38 = .ok (.invokevirtual 63, 3) := gd_20 db00c_29
theorem d_X8_readSum_41 : decode prog_10_method_31_code 41 = .ok (.bipush 43, 2) := gd_21 db00c_29
theorem d_X8_readSum_43 : decode prog_10_method_31_code 43 = .ok (.if_icmp .ne 7, 3) := gd_22 db00c_29
theorem d_X8_readSum_46 : decode prog_10_method_31_code 46 = .ok (.iconst 5, 1) := gd_23 db00c_29
theorem db00c_30 : Ad_ prog_10_method_31_code [(47, .goto 5, 3), (50, .bipush 6, 2), (52, .istore 4, 2), (54, .aload_n 0, 1), (55, .dup, 1), (56, .getfield 47, 3), (59, .iconst 1, 1), (60, .iadd, 1), (61, .putfield 47, 3), (64, .aload_n 0, 1), (65, .iload_n 1, 1), (66, .invokevirtual 157, 3), (69, .istore_n 2, 1), (70, .aload_n 0, 1), (71, .iload 4, 2), (73, .iconst 0, 1), (74, .invokevirtual 121, 3), (77, .pop, 1), (78, .iinc 3 1, 3), (81, .goto (-73), 3), (84, .iload_n 2, 1), (85, .ireturn, 1)] := bch_ok prog_10_method_31_code _ 47 (by decide +kernel)
theorem d_X8_readSum_47 : decode prog_10_method_31_code 47 = .ok (.goto 5, 3) := gd_0 db00c_30
theorem d_X8_readSum_50 : decode prog_10_method_31_code 50 = .ok (.bipush 6, 2) := gd_1 db00c_30
theorem d_X8_readSum_52 : decode prog_10_method_31_code 52 = .ok (.istore 4, 2) := gd_2 db00c_30
theorem d_X8_readSum_54 : decode prog_10_method_31_code 54 = .ok (.aload_n 0, 1) := gd_3 db00c_30
theorem d_X8_readSum_55 : decode prog_10_method_31_code 55 = .ok (.dup, 1) := gd_4 db00c_30
theorem d_X8_readSum_56 : decode prog_10_method_31_code 56 = .ok (.getfield 47, 3) := gd_5 db00c_30
theorem d_X8_readSum_59 : decode prog_10_method_31_code 59 = .ok (.iconst 1, 1) := gd_6 db00c_30
theorem d_X8_readSum_60 : decode prog_10_method_31_code 60 = .ok (.iadd, 1) := gd_7 db00c_30
theorem d_X8_readSum_61 : decode prog_10_method_31_code 61 = .ok (.putfield 47, 3) := gd_8 db00c_30
theorem d_X8_readSum_64 : decode prog_10_method_31_code 64 = .ok (.aload_n 0, 1) := gd_9 db00c_30
theorem d_X8_readSum_65 : decode prog_10_method_31_code 65 = .ok (.iload_n 1, 1) := gd_10 db00c_30
theorem d_X8_readSum_66 : decode prog_10_method_31_code 66 = .ok (.invokevirtual 157, 3) := gd_11 db00c_30
theorem d_X8_readSum_69 : decode prog_10_method_31_code 69 = .ok (.istore_n 2, 1) := gd_12 db00c_30
theorem d_X8_readSum_70 : decode prog_10_method_31_code 70 = .ok (.aload_n 0, 1) := gd_13 db00c_30
theorem d_X8_readSum_71 : decode prog_10_method_31_code 71 = .ok (.iload 4, 2) := gd_14 db00c_30
theorem d_X8_readSum_73 : decode prog_10_method_31_code 73 = .ok (.iconst 0, 1) := gd_15 db00c_30
theorem d_X8_readSum_74 : decode prog_10_method_31_code 74 = .ok (.invokevirtual 121, 3) := gd_16 db00c_30
theorem d_X8_readSum_77 : decode prog_10_method_31_code 77 = .ok (.pop, 1) := gd_17 db00c_30
theorem d_X8_readSum_78 : decode prog_10_method_31_code 78 = .ok (.iinc 3 1, 3) := gd_18 db00c_30
theorem d_X8_readSum_81 : decode prog_10_method_31_code 81 = .ok (.goto (-73), 3) := gd_19 db00c_30
theorem d_X8_readSum_84 : decode prog_10_method_31_code 84 = .ok (.iload_n 2, 1) := gd_20 db00c_30
theorem d_X8_readSum_85 : decode prog_10_method_31_code 85 = .ok (.ireturn, 1) := gd_21 db00c_30
theorem db00c_31 : Ad_ prog_10_method_32_code [(0, .aload_n 0, 1), (1, .iload_n 1, 1), (2, .invokevirtual 160, 3), (5, .istore_n 2, 1), (6, .iconst 0, 1), (7, .istore_n 3, 1), (8, .iload_n 3, 1), (9, .sipush 160, 3), (12, .if_icmp .ge 46, 3), (15, .iload_n 2, 1), (16, .ifCond .eq 42, 3), (19, .aload_n 0, 1), (20, .invokevirtual 63, 3), (23, .bipush 42, 2), (25, .if_icmp .ne 33, 3), (28, .aload_n 0, 1), (29, .dup, 1), (30, .getfield 47, 3), (33, .iconst 1, 1), (34, .iadd, 1), (35, .putfield 47, 3), (38, .aload_n 0, 1), (39, .iload_n 1, 1), (40, .invokevirtual 160, 3)] := bch_ok prog_10_method_32_code _ 0 (by decide +kernel)
theorem d_X8_readTerm_0 : decode prog_10_method_32_code 0 = .ok (.aload_n 0, 1) := gd_0 db00c_31
theorem d_X8_readTerm_1 : decode prog_10_method_32_code 1 = .ok (.iload_n 1, 1) := gd_1 db00c_31
theorem d_X8_readTerm_2 : decode prog_10_method_32_code 2 = .ok (.invokevirtual 160, 3) := gd_2 db00c_31
theorem d_X8_readTerm_5 : decode prog_10_method_32_code 5 = .ok (.istore_n 2, 1) := gd_3 db00c_31
theorem d_X8_readTerm_6 : decode prog_10_method_32_code 6 = .ok (.iconst 0, 1) := gd_4 db00c_31
theorem d_X8_readTerm_7 : decode prog_10_method_32_code 7 = .ok (.istore_n 3, 1) := gd_5 db00c_31
theorem d_X8_readTerm_8 : decode prog_10_method_32_code 8 = .ok (.iload_n 3, 1) := gd_6 db00c_31
theorem d_X8_readTerm_9 : decode prog_10_method_32_code 9 = .ok (.sipush 160, 3) := gd_7 db00c_31
theorem d_X8_readTerm_12 : decode prog_10_method_32_code 12 = .ok (.if_icmp .ge 46, 3) := gd_8 db00c_31
theorem d_X8_readTerm_15 : decode prog_10_method_32_code 15 = .ok (.iload_n 2, 1) := gd_9 db00c_31
theorem d_X8_readTerm_16 : decode prog_10_method_32_code 16 = .ok (.ifCond .eq 42, 3) := gd_10 db00c_31
theorem d_X8_readTerm_19 : decode prog_10_method_32_code 19 = .ok (.aload_n 0, 1) := gd_11 db00c_31
theorem d_X8_readTerm_20 : decode prog_10_method_32_code 20 = .ok (.invokevirtual 63, 3) := gd_12 db00c_31
theorem d_X8_readTerm_23 : decode prog_10_method_32_code 23 = .ok (.bipush 42, 2) := gd_13 db00c_31
theorem d_X8_readTerm_25 : decode prog_10_method_32_code 25 = .ok (.if_icmp .ne 33, 3) := gd_14 db00c_31
theorem d_X8_readTerm_28 : decode prog_10_method_32_code 28 = .ok (.aload_n 0, 1) := gd_15 db00c_31
theorem d_X8_readTerm_29 : decode prog_10_method_32_code 29 = .ok (.dup, 1) := gd_16 db00c_31
theorem d_X8_readTerm_30 : decode prog_10_method_32_code 30 = .ok (.getfield 47, 3) := gd_17 db00c_31
theorem d_X8_readTerm_33 : decode prog_10_method_32_code 33 = .ok (.iconst 1, 1) := gd_18 db00c_31
theorem d_X8_readTerm_34 : decode prog_10_method_32_code 34 = .ok (.iadd, 1) := gd_19 db00c_31
theorem d_X8_readTerm_35 : decode prog_10_method_32_code 35 = .ok (.putfield 47, 3) := gd_20 db00c_31
theorem d_X8_readTerm_38 : decode prog_10_method_32_code 38 = .ok (.aload_n 0, 1) := gd_21 db00c_31
theorem d_X8_readTerm_39 : decode prog_10_method_32_code 39 = .ok (.iload_n 1, 1) := gd_22 db00c_31
theorem d_X8_readTerm_40 : decode prog_10_method_32_code 40 = .ok (.invokevirtual 160, 3) := gd_23 db00c_31
theorem db00c_32 : Ad_ prog_10_method_32_code [(43, .istore_n 2, 1), (44, .aload_n 0, 1), (45, .bipush 7, 2), (47, .iconst 0, 1), (48, .invokevirtual 121, 3), (51, .pop, 1), (52, .iinc 3 1, 3), (55, .goto (-47), 3), (58, .iload_n 2, 1), (59, .ireturn, 1)] := bch_ok prog_10_method_32_code _ 43 (by decide +kernel)
theorem d_X8_readTerm_43 : decode prog_10_method_32_code 43 = .ok (.istore_n 2, 1) := gd_0 db00c_32
theorem d_X8_readTerm_44 : decode prog_10_method_32_code 44 = .ok (.aload_n 0, 1) := gd_1 db00c_32
theorem d_X8_readTerm_45 : decode prog_10_method_32_code 45 = .ok (.bipush 7, 2) := gd_2 db00c_32
theorem d_X8_readTerm_47 : decode prog_10_method_32_code 47 = .ok (.iconst 0, 1) := gd_3 db00c_32
theorem d_X8_readTerm_48 : decode prog_10_method_32_code 48 = .ok (.invokevirtual 121, 3) := gd_4 db00c_32
theorem d_X8_readTerm_51 : decode prog_10_method_32_code 51 = .ok (.pop, 1) := gd_5 db00c_32
theorem d_X8_readTerm_52 : decode prog_10_method_32_code 52 = .ok (.iinc 3 1, 3) := gd_6 db00c_32
theorem d_X8_readTerm_55 : decode prog_10_method_32_code 55 = .ok (.goto (-47), 3) := gd_7 db00c_32
theorem d_X8_readTerm_58 : decode prog_10_method_32_code 58 = .ok (.iload_n 2, 1) := gd_8 db00c_32
theorem d_X8_readTerm_59 : decode prog_10_method_32_code 59 = .ok (.ireturn, 1) := gd_9 db00c_32
theorem db00c_33 : Ad_ prog_10_method_33_code [(0, .aload_n 0, 1), (1, .invokevirtual 63, 3), (4, .istore_n 2, 1), (5, .iload_n 2, 1), (6, .invokestatic 71, 3), (9, .ifCond .eq 30, 3), (12, .aload_n 0, 1), (13, .iconst 0, 1), (14, .sipush 9999, 3), (17, .invokevirtual 85, 3), (20, .istore_n 3, 1), (21, .aload_n 0, 1), (22, .iconst 0, 1), (23, .iload_n 3, 1), (24, .invokevirtual 121, 3), (27, .pop, 1), (28, .iload_n 3, 1), (29, .iconst (-1), 1), (30, .if_icmp .eq 7, 3), (33, .iconst 1, 1), (34, .goto 4, 3), (37, .iconst 0, 1), (38, .ireturn, 1), (39, .iload_n 2, 1)] := bch_ok prog_10_method_33_code _ 0 (by decide +kernel)
theorem d_X8_readAtom_0 : decode prog_10_method_33_code 0 = .ok (.aload_n 0, 1) := gd_0 db00c_33
theorem d_X8_readAtom_1 : decode prog_10_method_33_code 1 = .ok (.invokevirtual 63, 3) := gd_1 db00c_33
theorem d_X8_readAtom_4 : decode prog_10_method_33_code 4 = .ok (.istore_n 2, 1) := gd_2 db00c_33
theorem d_X8_readAtom_5 : decode prog_10_method_33_code 5 = .ok (.iload_n 2, 1) := gd_3 db00c_33
theorem d_X8_readAtom_6 : decode prog_10_method_33_code 6 = .ok (.invokestatic 71, 3) := gd_4 db00c_33
theorem d_X8_readAtom_9 : decode prog_10_method_33_code 9 = .ok (.ifCond .eq 30, 3) := gd_5 db00c_33
theorem d_X8_readAtom_12 : decode prog_10_method_33_code 12 = .ok (.aload_n 0, 1) := gd_6 db00c_33
theorem d_X8_readAtom_13 : decode prog_10_method_33_code 13 = .ok (.iconst 0, 1) := gd_7 db00c_33
theorem d_X8_readAtom_14 : decode prog_10_method_33_code 14 = .ok (.sipush 9999, 3) := gd_8 db00c_33
theorem d_X8_readAtom_17 : decode prog_10_method_33_code 17 = .ok (.invokevirtual 85, 3) := gd_9 db00c_33
theorem d_X8_readAtom_20 : decode prog_10_method_33_code 20 = .ok (.istore_n 3, 1) := gd_10 db00c_33
theorem d_X8_readAtom_21 : decode prog_10_method_33_code 21 = .ok (.aload_n 0, 1) := gd_11 db00c_33
theorem d_X8_readAtom_22 : decode prog_10_method_33_code 22 = .ok (.iconst 0, 1) := gd_12 db00c_33
theorem d_X8_readAtom_23 : decode prog_10_method_33_code 23 = .ok (.iload_n 3, 1) := gd_13 db00c_33
theorem d_X8_readAtom_24 : decode prog_10_method_33_code 24 = .ok (.invokevirtual 121, 3) := gd_14 db00c_33
theorem d_X8_readAtom_27 : decode prog_10_method_33_code 27 = .ok (.pop, 1) := gd_15 db00c_33
theorem d_X8_readAtom_28 : decode prog_10_method_33_code 28 = .ok (.iload_n 3, 1) := gd_16 db00c_33
theorem d_X8_readAtom_29 : decode prog_10_method_33_code 29 = .ok (.iconst (-1), 1) := gd_17 db00c_33
theorem d_X8_readAtom_30 : decode prog_10_method_33_code 30 = .ok (.if_icmp .eq 7, 3) := gd_18 db00c_33
theorem d_X8_readAtom_33 : decode prog_10_method_33_code 33 = .ok (.iconst 1, 1) := gd_19 db00c_33
theorem d_X8_readAtom_34 : decode prog_10_method_33_code 34 = .ok (.goto 4, 3) := gd_20 db00c_33
theorem d_X8_readAtom_37 : decode prog_10_method_33_code 37 = .ok (.iconst 0, 1) := gd_21 db00c_33
theorem d_X8_readAtom_38 : decode prog_10_method_33_code 38 = .ok (.ireturn, 1) := gd_22 db00c_33
theorem d_X8_readAtom_39 : decode prog_10_method_33_code 39 = .ok (.iload_n 2, 1) := gd_23 db00c_33
theorem db00c_34 : Ad_ prog_10_method_33_code [(40, .bipush 91, 2), (42, .if_icmp .ne 49, 3), (45, .iload_n 1, 1), (46, .bipush 6, 2), (48, .if_icmp .lt 8, 3), (51, .aload_n 0, 1), (52, .invokevirtual 67, 3), (55, .ireturn, 1), (56, .aload_n 0, 1), (57, .dup, 1), (58, .getfield 47, 3), (61, .iconst 1, 1), (62, .iadd, 1), (63, .putfield 47, 3), (66, .aload_n 0, 1), (67, .iload_n 1, 1), (68, .iconst 1, 1), (69, .iadd, 1), (70, .invokevirtual 137, 3), (73, .ifCond .eq 16, 3), (76, .aload_n 0, 1), (77, .bipush 93, 2), (79, .invokevirtual 98, 3), (82, .ifCond .eq 7, 3)] := bch_ok prog_10_method_33_code _ 40 (by decide +kernel)
theorem d_X8_readAtom_40 : decode prog_10_method_33_code 40 = .ok (.bipush 91, 2) := gd_0 db00c_34
theorem d_X8_readAtom_42 : decode prog_10_method_33_code 42 = .ok (.if_icmp .ne 49, 3) := gd_1 db00c_34
theorem d_X8_readAtom_45 : decode prog_10_method_33_code 45 = .ok (.iload_n 1, 1) := gd_2 db00c_34
theorem d_X8_readAtom_46 : decode prog_10_method_33_code 46 = .ok (.bipush 6, 2) := gd_3 db00c_34
theorem d_X8_readAtom_48 : decode prog_10_method_33_code 48 = .ok (.if_icmp .lt 8, 3) := gd_4 db00c_34
theorem d_X8_readAtom_51 : decode prog_10_method_33_code 51 = .ok (.aload_n 0, 1) := gd_5 db00c_34
theorem d_X8_readAtom_52 : decode prog_10_method_33_code 52 = .ok (.invokevirtual 67, 3) := gd_6 db00c_34
theorem d_X8_readAtom_55 : decode prog_10_method_33_code 55 = .ok (.ireturn, 1) := gd_7 db00c_34
theorem d_X8_readAtom_56 : decode prog_10_method_33_code 56 = .ok (.aload_n 0, 1) := gd_8 db00c_34
theorem d_X8_readAtom_57 : decode prog_10_method_33_code 57 = .ok (.dup, 1) := gd_9 db00c_34
theorem d_X8_readAtom_58 : decode prog_10_method_33_code 58 = .ok (.getfield 47, 3) := gd_10 db00c_34
theorem d_X8_readAtom_61 : decode prog_10_method_33_code 61 = .ok (.iconst 1, 1) := gd_11 db00c_34
theorem d_X8_readAtom_62 : decode prog_10_method_33_code 62 = .ok (.iadd, 1) := gd_12 db00c_34
theorem d_X8_readAtom_63 : decode prog_10_method_33_code 63 = .ok (.putfield 47, 3) := gd_13 db00c_34
theorem d_X8_readAtom_66 : decode prog_10_method_33_code 66 = .ok (.aload_n 0, 1) := gd_14 db00c_34
theorem d_X8_readAtom_67 : decode prog_10_method_33_code 67 = .ok (.iload_n 1, 1) := gd_15 db00c_34
theorem d_X8_readAtom_68 : decode prog_10_method_33_code 68 = .ok (.iconst 1, 1) := gd_16 db00c_34
theorem d_X8_readAtom_69 : decode prog_10_method_33_code 69 = .ok (.iadd, 1) := gd_17 db00c_34
theorem d_X8_readAtom_70 : decode prog_10_method_33_code 70 = .ok (.invokevirtual 137, 3) := gd_18 db00c_34
theorem d_X8_readAtom_73 : decode prog_10_method_33_code 73 = .ok (.ifCond .eq 16, 3) := gd_19 db00c_34
theorem d_X8_readAtom_76 : decode prog_10_method_33_code 76 = .ok (.aload_n 0, 1) := gd_20 db00c_34
theorem d_X8_readAtom_77 : decode prog_10_method_33_code 77 = .ok (.bipush 93, 2) := gd_21 db00c_34
theorem d_X8_readAtom_79 : decode prog_10_method_33_code 79 = .ok (.invokevirtual 98, 3) := gd_22 db00c_34
theorem d_X8_readAtom_82 : decode prog_10_method_33_code 82 = .ok (.ifCond .eq 7, 3) := gd_23 db00c_34
theorem d_X8_readAtom_105 : decode prog_10_method_33_code 105 = .ok (.i2c, 1) := by decide +kernel
theorem db00c_35 : Ad_ prog_10_method_33_code [(85, .iconst 1, 1), (86, .goto 4, 3), (89, .iconst 0, 1), (90, .ireturn, 1), (91, .iload_n 2, 1), (92, .iconst (-1), 1), (93, .if_icmp .ne 7, 3), (96, .iconst (-1), 1), (97, .goto 12, 3), (100, .aload_n 0, 1), (101, .getfield 17, 3), (104, .iload_n 2, 1), (106, .invokevirtual 126, 3), (109, .istore_n 3, 1), (110, .iload_n 3, 1), (111, .ifCond .ge 8, 3), (114, .aload_n 0, 1), (115, .invokevirtual 67, 3), (118, .ireturn, 1), (119, .aload_n 0, 1), (120, .dup, 1), (121, .getfield 47, 3), (124, .iconst 1, 1), (125, .iadd, 1)] := bch_ok prog_10_method_33_code _ 85 (by decide +kernel)
theorem d_X8_readAtom_85 : decode prog_10_method_33_code 85 = .ok (.iconst 1, 1) := gd_0 db00c_35
theorem d_X8_readAtom_86 : decode prog_10_method_33_code 86 = .ok (.goto 4, 3) := gd_1 db00c_35
theorem d_X8_readAtom_89 : decode prog_10_method_33_code 89 = .ok (.iconst 0, 1) := gd_2 db00c_35
theorem d_X8_readAtom_90 : decode prog_10_method_33_code 90 = .ok (.ireturn, 1) := gd_3 db00c_35
theorem d_X8_readAtom_91 : decode prog_10_method_33_code 91 = .ok (.iload_n 2, 1) := gd_4 db00c_35
theorem d_X8_readAtom_92 : decode prog_10_method_33_code 92 = .ok (.iconst (-1), 1) := gd_5 db00c_35
theorem d_X8_readAtom_93 : decode prog_10_method_33_code 93 = .ok (.if_icmp .ne 7, 3) := gd_6 db00c_35
theorem d_X8_readAtom_96 : decode prog_10_method_33_code 96 = .ok (.iconst (-1), 1) := gd_7 db00c_35
theorem d_X8_readAtom_97 : decode prog_10_method_33_code 97 = .ok (.goto 12, 3) := gd_8 db00c_35
theorem d_X8_readAtom_100 : decode prog_10_method_33_code 100 = .ok (.aload_n 0, 1) := gd_9 db00c_35
theorem d_X8_readAtom_101 : decode prog_10_method_33_code 101 = .ok (.getfield 17, 3) := gd_10 db00c_35
theorem d_X8_readAtom_104 : decode prog_10_method_33_code 104 = .ok (.iload_n 2, 1) := gd_11 db00c_35
theorem d_X8_readAtom_106 : decode prog_10_method_33_code 106 = .ok (.invokevirtual 126, 3) := gd_12 db00c_35
theorem d_X8_readAtom_109 : decode prog_10_method_33_code 109 = .ok (.istore_n 3, 1) := gd_13 db00c_35
theorem d_X8_readAtom_110 : decode prog_10_method_33_code 110 = .ok (.iload_n 3, 1) := gd_14 db00c_35
theorem d_X8_readAtom_111 : decode prog_10_method_33_code 111 = .ok (.ifCond .ge 8, 3) := gd_15 db00c_35
theorem d_X8_readAtom_114 : decode prog_10_method_33_code 114 = .ok (.aload_n 0, 1) := gd_16 db00c_35
theorem d_X8_readAtom_115 : decode prog_10_method_33_code 115 = .ok (.invokevirtual 67, 3) := gd_17 db00c_35
theorem d_X8_readAtom_118 : decode prog_10_method_33_code 118 = .ok (.ireturn, 1) := gd_18 db00c_35
theorem d_X8_readAtom_119 : decode prog_10_method_33_code 119 = .ok (.aload_n 0, 1) := gd_19 db00c_35
theorem d_X8_readAtom_120 : decode prog_10_method_33_code 120 = .ok (.dup, 1) := gd_20 db00c_35
theorem d_X8_readAtom_121 : decode prog_10_method_33_code 121 = .ok (.getfield 47, 3) := gd_21 db00c_35
theorem d_X8_readAtom_124 : decode prog_10_method_33_code 124 = .ok (.iconst 1, 1) := gd_22 db00c_35
theorem d_X8_readAtom_125 : decode prog_10_method_33_code 125 = .ok (.iadd, 1) := gd_23 db00c_35
theorem db00c_36 : Ad_ prog_10_method_33_code [(126, .putfield 47, 3), (129, .aload_n 0, 1), (130, .iconst 1, 1), (131, .iload_n 3, 1), (132, .invokevirtual 121, 3), (135, .pop, 1), (136, .iconst 1, 1), (137, .ireturn, 1)] := bch_ok prog_10_method_33_code _ 126 (by decide +kernel)
theorem d_X8_readAtom_126 : decode prog_10_method_33_code 126 = .ok (.putfield 47, 3) := gd_0 db00c_36
theorem d_X8_readAtom_129 : decode prog_10_method_33_code 129 = .ok (.aload_n 0, 1) := gd_1 db00c_36
theorem d_X8_readAtom_130 : decode prog_10_method_33_code 130 = .ok (.iconst 1, 1) := gd_2 db00c_36
theorem d_X8_readAtom_131 : decode prog_10_method_33_code 131 = .ok (.iload_n 3, 1) := gd_3 db00c_36
theorem d_X8_readAtom_132 : decode prog_10_method_33_code 132 = .ok (.invokevirtual 121, 3) := gd_4 db00c_36
theorem d_X8_readAtom_135 : decode prog_10_method_33_code 135 = .ok (.pop, 1) := gd_5 db00c_36
theorem d_X8_readAtom_136 : decode prog_10_method_33_code 136 = .ok (.iconst 1, 1) := gd_6 db00c_36
theorem d_X8_readAtom_137 : decode prog_10_method_33_code 137 = .ok (.ireturn, 1) := gd_7 db00c_36
theorem d_X9_init_8 : decode prog_11_method_1_code 8 = .ok (.newarray .int, 2) := by decide +kernel
theorem db00c_37 : Ad_ prog_11_method_1_code [(0, .aload_n 0, 1), (1, .invokespecial 3, 3), (4, .aload_n 0, 1), (5, .sipush 256, 3), (10, .putfield 9, 3), (13, .iconst 0, 1), (14, .istore_n 1, 1), (15, .iload_n 1, 1), (16, .aload_n 0, 1), (17, .getfield 9, 3), (20, .arraylength, 1), (21, .if_icmp .ge 32, 3), (24, .aload_n 0, 1), (25, .getfield 9, 3), (28, .iload_n 1, 1), (29, .iload_n 1, 1), (30, .bipush 16, 2), (32, .idiv, 1), (33, .iload_n 1, 1), (34, .bipush 16, 2), (36, .irem, 1), (37, .if_icmp .ne 7, 3), (40, .iconst 0, 1), (41, .goto 5, 3)] := bch_ok prog_11_method_1_code _ 0 (by decide +kernel)
theorem d_X9_init_0 : decode prog_11_method_1_code 0 = .ok (.aload_n 0, 1) := gd_0 db00c_37
theorem d_X9_init_1 : decode prog_11_method_1_code 1 = .ok (.invokespecial 3, 3) := gd_1 db00c_37
theorem d_X9_init_4 : decode prog_11_method_1_code 4 = .ok (.aload_n 0, 1) := gd_2 db00c_37
theorem d_X9_init_5 : decode prog_11_method_1_code 5 = .ok (.sipush 256, 3) := gd_3 db00c_37
theorem d_X9_init_10 : decode prog_11_method_1_code 10 = .ok (.putfield 9, 3) := gd_4 db00c_37
theorem d_X9_init_13 : decode prog_11_method_1_code 13 = .ok (.iconst 0, 1) := gd_5 db00c_37
theorem d_X9_init_14 : decode prog_11_method_1_code 14 = .ok (.istore_n 1, 1) := gd_6 db00c_37
theorem d_X9_init_15 : decode prog_11_method_1_code 15 = .ok (.iload_n 1, 1) := gd_7 db00c_37
theorem d_X9_init_16 : decode prog_11_method_1_code 16 = .ok (.aload_n 0, 1) := gd_8 db00c_37
theorem d_X9_init_17 : decode prog_11_method_1_code 17 = .ok (.getfield 9, 3) := gd_9 db00c_37
theorem d_X9_init_20 : decode prog_11_method_1_code 20 = .ok (.arraylength, 1) := gd_10 db00c_37
theorem d_X9_init_21 : decode prog_11_method_1_code 21 = .ok (.if_icmp .ge 32, 3) := gd_11 db00c_37
theorem d_X9_init_24 : decode prog_11_method_1_code 24 = .ok (.aload_n 0, 1) := gd_12 db00c_37
theorem d_X9_init_25 : decode prog_11_method_1_code 25 = .ok (.getfield 9, 3) := gd_13 db00c_37
theorem d_X9_init_28 : decode prog_11_method_1_code 28 = .ok (.iload_n 1, 1) := gd_14 db00c_37
theorem d_X9_init_29 : decode prog_11_method_1_code 29 = .ok (.iload_n 1, 1) := gd_15 db00c_37
theorem d_X9_init_30 : decode prog_11_method_1_code 30 = .ok (.bipush 16, 2) := gd_16 db00c_37
theorem d_X9_init_32 : decode prog_11_method_1_code 32 = .ok (.idiv, 1) := gd_17 db00c_37
theorem d_X9_init_33 : decode prog_11_method_1_code 33 = .ok (.iload_n 1, 1) := gd_18 db00c_37
theorem d_X9_init_34 : decode prog_11_method_1_code 34 = .ok (.bipush 16, 2) := gd_19 db00c_37
theorem d_X9_init_36 : decode prog_11_method_1_code 36 = .ok (.irem, 1) := gd_20 db00c_37
theorem d_X9_init_37 : decode prog_11_method_1_code 37 = .ok (.if_icmp .ne 7, 3) := gd_21 db00c_37
theorem d_X9_init_40 : decode prog_11_method_1_code 40 = .ok (.iconst 0, 1) := gd_22 db00c_37
theorem d_X9_init_41 : decode prog_11_method_1_code 41 = .ok (.goto 5, 3) := gd_23 db00c_37
theorem db00c_38 : Ad_ prog_11_method_1_code [(44, .ldc 15, 2), (46, .iastore, 1), (47, .iinc 1 1, 3), (50, .goto (-35), 3), (53, .return_, 1)] := bch_ok prog_11_method_1_code _ 44 (by decide +kernel)
theorem d_X9_init_44 : decode prog_11_method_1_code 44 = .ok (.ldc 15, 2) := gd_0 db00c_38
theorem d_X9_init_46 : decode prog_11_method_1_code 46 = .ok (.iastore, 1) := gd_1 db00c_38
theorem d_X9_init_47 : decode prog_11_method_1_code 47 = .ok (.iinc 1 1, 3) := gd_2 db00c_38
theorem d_X9_init_50 : decode prog_11_method_1_code 50 = .ok (.goto (-35), 3) := gd_3 db00c_38
theorem d_X9_init_53 : decode prog_11_method_1_code 53 = .ok (.return_, 1) := gd_4 db00c_38
theorem db00c_39 : Ad_ prog_11_method_2_code [(0, .iload_n 1, 1), (1, .invokestatic 16, 3), (4, .ifCond .eq 10, 3), (7, .iload_n 2, 1), (8, .invokestatic 16, 3), (11, .ifCond .ne 5, 3), (14, .iconst (-1), 1), (15, .ireturn, 1), (16, .aload_n 0, 1), (17, .getfield 9, 3), (20, .iload_n 1, 1), (21, .bipush 16, 2), (23, .imul, 1), (24, .iload_n 2, 1), (25, .iadd, 1), (26, .iaload, 1), (27, .istore_n 3, 1), (28, .iload_n 3, 1), (29, .ldc 15, 2), (31, .if_icmp .lt 7, 3), (34, .iconst (-1), 1), (35, .goto 4, 3), (38, .iload_n 3, 1), (39, .ireturn, 1)] := bch_ok prog_11_method_2_code _ 0 (by decide +kernel)
theorem d_X9_minutes_0 : decode prog_11_method_2_code 0 = .ok (.iload_n 1, 1) := gd_0 db00c_39
theorem d_X9_minutes_1 : decode prog_11_method_2_code 1 = .ok (.invokestatic 16, 3) := gd_1 db00c_39
theorem d_X9_minutes_4 : decode prog_11_method_2_code 4 = .ok (.ifCond .eq 10, 3) := gd_2 db00c_39
theorem d_X9_minutes_7 : decode prog_11_method_2_code 7 = .ok (.iload_n 2, 1) := gd_3 db00c_39
theorem d_X9_minutes_8 : decode prog_11_method_2_code 8 = .ok (.invokestatic 16, 3) := gd_4 db00c_39
theorem d_X9_minutes_11 : decode prog_11_method_2_code 11 = .ok (.ifCond .ne 5, 3) := gd_5 db00c_39
theorem d_X9_minutes_14 : decode prog_11_method_2_code 14 = .ok (.iconst (-1), 1) := gd_6 db00c_39
theorem d_X9_minutes_15 : decode prog_11_method_2_code 15 = .ok (.ireturn, 1) := gd_7 db00c_39
theorem d_X9_minutes_16 : decode prog_11_method_2_code 16 = .ok (.aload_n 0, 1) := gd_8 db00c_39
theorem d_X9_minutes_17 : decode prog_11_method_2_code 17 = .ok (.getfield 9, 3) := gd_9 db00c_39
theorem d_X9_minutes_20 : decode prog_11_method_2_code 20 = .ok (.iload_n 1, 1) := gd_10 db00c_39
theorem d_X9_minutes_21 : decode prog_11_method_2_code 21 = .ok (.bipush 16, 2) := gd_11 db00c_39
theorem d_X9_minutes_23 : decode prog_11_method_2_code 23 = .ok (.imul, 1) := gd_12 db00c_39
theorem d_X9_minutes_24 : decode prog_11_method_2_code 24 = .ok (.iload_n 2, 1) := gd_13 db00c_39
theorem d_X9_minutes_25 : decode prog_11_method_2_code 25 = .ok (.iadd, 1) := gd_14 db00c_39
theorem d_X9_minutes_26 : decode prog_11_method_2_code 26 = .ok (.iaload, 1) := gd_15 db00c_39
theorem d_X9_minutes_27 : decode prog_11_method_2_code 27 = .ok (.istore_n 3, 1) := gd_16 db00c_39
theorem d_X9_minutes_28 : decode prog_11_method_2_code 28 = .ok (.iload_n 3, 1) := gd_17 db00c_39
theorem d_X9_minutes_29 : decode prog_11_method_2_code 29 = .ok (.ldc 15, 2) := gd_18 db00c_39
theorem d_X9_minutes_31 : decode prog_11_method_2_code 31 = .ok (.if_icmp .lt 7, 3) := gd_19 db00c_39
theorem d_X9_minutes_34 : decode prog_11_method_2_code 34 = .ok (.iconst (-1), 1) := gd_20 db00c_39
theorem d_X9_minutes_35 : decode prog_11_method_2_code 35 = .ok (.goto 4, 3) := gd_21 db00c_39
theorem d_X9_minutes_38 : decode prog_11_method_2_code 38 = .ok (.iload_n 3, 1) := gd_22 db00c_39
theorem d_X9_minutes_39 : decode prog_11_method_2_code 39 = .ok (.ireturn, 1) := gd_23 db00c_39
theorem db00c_40 : Ad_ prog_11_method_3_code [(0, .aload_n 0, 1), (1, .getfield 20, 3), (4, .bipush 40, 2), (6, .if_icmp .lt 5, 3), (9, .iconst (-1), 1), (10, .ireturn, 1), (11, .iconst 0, 1), (12, .istore 4, 2), (14, .iload 4, 2), (16, .bipush 16, 2), (18, .if_icmp .ge 117, 3), (21, .iconst 0, 1), (22, .istore 5, 2), (24, .iload 5, 2), (26, .bipush 16, 2), (28, .if_icmp .ge 101, 3), (31, .aload_n 0, 1), (32, .getfield 9, 3), (35, .iload 4, 2), (37, .bipush 16, 2), (39, .imul, 1), (40, .iload_n 1, 1), (41, .iadd, 1), (42, .iaload, 1)] := bch_ok prog_11_method_3_code _ 0 (by decide +kernel)
theorem d_X9_lay_0 : decode prog_11_method_3_code 0 = .ok (.aload_n 0, 1) := gd_0 db00c_40
theorem d_X9_lay_1 : decode prog_11_method_3_code 1 = .ok (.getfield 20, 3) := gd_1 db00c_40
theorem d_X9_lay_4 : decode prog_11_method_3_code 4 = .ok (.bipush 40, 2) := gd_2 db00c_40
theorem d_X9_lay_6 : decode prog_11_method_3_code 6 = .ok (.if_icmp .lt 5, 3) := gd_3 db00c_40
theorem d_X9_lay_9 : decode prog_11_method_3_code 9 = .ok (.iconst (-1), 1) := gd_4 db00c_40
theorem d_X9_lay_10 : decode prog_11_method_3_code 10 = .ok (.ireturn, 1) := gd_5 db00c_40
theorem d_X9_lay_11 : decode prog_11_method_3_code 11 = .ok (.iconst 0, 1) := gd_6 db00c_40
theorem d_X9_lay_12 : decode prog_11_method_3_code 12 = .ok (.istore 4, 2) := gd_7 db00c_40
theorem d_X9_lay_14 : decode prog_11_method_3_code 14 = .ok (.iload 4, 2) := gd_8 db00c_40
theorem d_X9_lay_16 : decode prog_11_method_3_code 16 = .ok (.bipush 16, 2) := gd_9 db00c_40
theorem d_X9_lay_18 : decode prog_11_method_3_code 18 = .ok (.if_icmp .ge 117, 3) := gd_10 db00c_40
theorem d_X9_lay_21 : decode prog_11_method_3_code 21 = .ok (.iconst 0, 1) := gd_11 db00c_40
theorem d_X9_lay_22 : decode prog_11_method_3_code 22 = .ok (.istore 5, 2) := gd_12 db00c_40
theorem d_X9_lay_24 : decode prog_11_method_3_code 24 = .ok (.iload 5, 2) := gd_13 db00c_40
theorem d_X9_lay_26 : decode prog_11_method_3_code 26 = .ok (.bipush 16, 2) := gd_14 db00c_40
theorem d_X9_lay_28 : decode prog_11_method_3_code 28 = .ok (.if_icmp .ge 101, 3) := gd_15 db00c_40
theorem d_X9_lay_31 : decode prog_11_method_3_code 31 = .ok (.aload_n 0, 1) := gd_16 db00c_40
theorem d_X9_lay_32 : decode prog_11_method_3_code 32 = .ok (.getfield 9, 3) := gd_17 db00c_40
theorem d_X9_lay_35 : decode prog_11_method_3_code 35 = .ok (.iload 4, 2) := gd_18 db00c_40
theorem d_X9_lay_37 : decode prog_11_method_3_code 37 = .ok (.bipush 16, 2) := gd_19 db00c_40
theorem d_X9_lay_39 : decode prog_11_method_3_code 39 = .ok (.imul, 1) := gd_20 db00c_40
theorem d_X9_lay_40 : decode prog_11_method_3_code 40 = .ok (.iload_n 1, 1) := gd_21 db00c_40
theorem d_X9_lay_41 : decode prog_11_method_3_code 41 = .ok (.iadd, 1) := gd_22 db00c_40
theorem d_X9_lay_42 : decode prog_11_method_3_code 42 = .ok (.iaload, 1) := gd_23 db00c_40
theorem db00c_41 : Ad_ prog_11_method_3_code [(43, .iload_n 3, 1), (44, .iadd, 1), (45, .aload_n 0, 1), (46, .getfield 9, 3), (49, .iload_n 2, 1), (50, .bipush 16, 2), (52, .imul, 1), (53, .iload 5, 2), (55, .iadd, 1), (56, .iaload, 1), (57, .iadd, 1), (58, .istore 6, 2), (60, .aload_n 0, 1), (61, .getfield 9, 3), (64, .iload 4, 2), (66, .bipush 16, 2), (68, .imul, 1), (69, .iload_n 2, 1), (70, .iadd, 1), (71, .iaload, 1), (72, .iload_n 3, 1), (73, .iadd, 1), (74, .aload_n 0, 1), (75, .getfield 9, 3)] := bch_ok prog_11_method_3_code _ 43 (by decide +kernel)
theorem d_X9_lay_43 : decode prog_11_method_3_code 43 = .ok (.iload_n 3, 1) := gd_0 db00c_41
theorem d_X9_lay_44 : decode prog_11_method_3_code 44 = .ok (.iadd, 1) := gd_1 db00c_41
theorem d_X9_lay_45 : decode prog_11_method_3_code 45 = .ok (.aload_n 0, 1) := gd_2 db00c_41
theorem d_X9_lay_46 : decode prog_11_method_3_code 46 = .ok (.getfield 9, 3) := gd_3 db00c_41
theorem d_X9_lay_49 : decode prog_11_method_3_code 49 = .ok (.iload_n 2, 1) := gd_4 db00c_41
theorem d_X9_lay_50 : decode prog_11_method_3_code 50 = .ok (.bipush 16, 2) := gd_5 db00c_41
theorem d_X9_lay_52 : decode prog_11_method_3_code 52 = .ok (.imul, 1) := gd_6 db00c_41
theorem d_X9_lay_53 : decode prog_11_method_3_code 53 = .ok (.iload 5, 2) := gd_7 db00c_41
theorem d_X9_lay_55 : decode prog_11_method_3_code 55 = .ok (.iadd, 1) := gd_8 db00c_41
theorem d_X9_lay_56 : decode prog_11_method_3_code 56 = .ok (.iaload, 1) := gd_9 db00c_41
theorem d_X9_lay_57 : decode prog_11_method_3_code 57 = .ok (.iadd, 1) := gd_10 db00c_41
theorem d_X9_lay_58 : decode prog_11_method_3_code 58 = .ok (.istore 6, 2) := gd_11 db00c_41
theorem d_X9_lay_60 : decode prog_11_method_3_code 60 = .ok (.aload_n 0, 1) := gd_12 db00c_41
theorem d_X9_lay_61 : decode prog_11_method_3_code 61 = .ok (.getfield 9, 3) := gd_13 db00c_41
theorem d_X9_lay_64 : decode prog_11_method_3_code 64 = .ok (.iload 4, 2) := gd_14 db00c_41
theorem d_X9_lay_66 : decode prog_11_method_3_code 66 = .ok (.bipush 16, 2) := gd_15 db00c_41
theorem d_X9_lay_68 : decode prog_11_method_3_code 68 = .ok (.imul, 1) := gd_16 db00c_41
theorem d_X9_lay_69 : decode prog_11_method_3_code 69 = .ok (.iload_n 2, 1) := gd_17 db00c_41
theorem d_X9_lay_70 : decode prog_11_method_3_code 70 = .ok (.iadd, 1) := gd_18 db00c_41
theorem d_X9_lay_71 : decode prog_11_method_3_code 71 = .ok (.iaload, 1) := gd_19 db00c_41
theorem d_X9_lay_72 : decode prog_11_method_3_code 72 = .ok (.iload_n 3, 1) := gd_20 db00c_41
theorem d_X9_lay_73 : decode prog_11_method_3_code 73 = .ok (.iadd, 1) := gd_21 db00c_41
theorem d_X9_lay_74 : decode prog_11_method_3_code 74 = .ok (.aload_n 0, 1) := gd_22 db00c_41
theorem d_X9_lay_75 : decode prog_11_method_3_code 75 = .ok (.getfield 9, 3) := gd_23 db00c_41
theorem db00c_42 : Ad_ prog_11_method_3_code [(78, .iload_n 1, 1), (79, .bipush 16, 2), (81, .imul, 1), (82, .iload 5, 2), (84, .iadd, 1), (85, .iaload, 1), (86, .iadd, 1), (87, .istore 7, 2), (89, .iload 4, 2), (91, .bipush 16, 2), (93, .imul, 1), (94, .iload 5, 2), (96, .iadd, 1), (97, .istore 8, 2), (99, .aload_n 0, 1), (100, .getfield 9, 3), (103, .iload 8, 2), (105, .aload_n 0, 1), (106, .getfield 9, 3), (109, .iload 8, 2), (111, .iaload, 1), (112, .iload 6, 2), (114, .iload 7, 2), (116, .invokestatic 24, 3)] := bch_ok prog_11_method_3_code _ 78 (by decide +kernel)
theorem d_X9_lay_78 : decode prog_11_method_3_code 78 = .ok (.iload_n 1, 1) := gd_0 db00c_42
theorem d_X9_lay_79 : decode prog_11_method_3_code 79 = .ok (.bipush 16, 2) := gd_1 db00c_42
theorem d_X9_lay_81 : decode prog_11_method_3_code 81 = .ok (.imul, 1) := gd_2 db00c_42
theorem d_X9_lay_82 : decode prog_11_method_3_code 82 = .ok (.iload 5, 2) := gd_3 db00c_42
theorem d_X9_lay_84 : decode prog_11_method_3_code 84 = .ok (.iadd, 1) := gd_4 db00c_42
theorem d_X9_lay_85 : decode prog_11_method_3_code 85 = .ok (.iaload, 1) := gd_5 db00c_42
theorem d_X9_lay_86 : decode prog_11_method_3_code 86 = .ok (.iadd, 1) := gd_6 db00c_42
theorem d_X9_lay_87 : decode prog_11_method_3_code 87 = .ok (.istore 7, 2) := gd_7 db00c_42
theorem d_X9_lay_89 : decode prog_11_method_3_code 89 = .ok (.iload 4, 2) := gd_8 db00c_42
theorem d_X9_lay_91 : decode prog_11_method_3_code 91 = .ok (.bipush 16, 2) := gd_9 db00c_42
theorem d_X9_lay_93 : decode prog_11_method_3_code 93 = .ok (.imul, 1) := gd_10 db00c_42
theorem d_X9_lay_94 : decode prog_11_method_3_code 94 = .ok (.iload 5, 2) := gd_11 db00c_42
theorem d_X9_lay_96 : decode prog_11_method_3_code 96 = .ok (.iadd, 1) := gd_12 db00c_42
theorem d_X9_lay_97 : decode prog_11_method_3_code 97 = .ok (.istore 8, 2) := gd_13 db00c_42
theorem d_X9_lay_99 : decode prog_11_method_3_code 99 = .ok (.aload_n 0, 1) := gd_14 db00c_42
theorem d_X9_lay_100 : decode prog_11_method_3_code 100 = .ok (.getfield 9, 3) := gd_15 db00c_42
theorem d_X9_lay_103 : decode prog_11_method_3_code 103 = .ok (.iload 8, 2) := gd_16 db00c_42
theorem d_X9_lay_105 : decode prog_11_method_3_code 105 = .ok (.aload_n 0, 1) := gd_17 db00c_42
theorem d_X9_lay_106 : decode prog_11_method_3_code 106 = .ok (.getfield 9, 3) := gd_18 db00c_42
theorem d_X9_lay_109 : decode prog_11_method_3_code 109 = .ok (.iload 8, 2) := gd_19 db00c_42
theorem d_X9_lay_111 : decode prog_11_method_3_code 111 = .ok (.iaload, 1) := gd_20 db00c_42
theorem d_X9_lay_112 : decode prog_11_method_3_code 112 = .ok (.iload 6, 2) := gd_21 db00c_42
theorem d_X9_lay_114 : decode prog_11_method_3_code 114 = .ok (.iload 7, 2) := gd_22 db00c_42
theorem d_X9_lay_116 : decode prog_11_method_3_code 116 = .ok (.invokestatic 24, 3) := gd_23 db00c_42
theorem db00c_43 : Ad_ prog_11_method_3_code [(119, .invokestatic 24, 3), (122, .iastore, 1), (123, .iinc 5 1, 3), (126, .goto (-102), 3), (129, .iinc 4 1, 3), (132, .goto (-118), 3), (135, .aload_n 0, 1), (136, .dup, 1), (137, .getfield 20, 3), (140, .iconst 1, 1), (141, .iadd, 1), (142, .putfield 20, 3), (145, .aload_n 0, 1), (146, .getfield 20, 3), (149, .iconst 1, 1), (150, .isub, 1), (151, .ireturn, 1)] := bch_ok prog_11_method_3_code _ 119 (by decide +kernel)
theorem d_X9_lay_119 : decode prog_11_method_3_code 119 = .ok (.invokestatic 24, 3) := gd_0 db00c_43
theorem d_X9_lay_122 : decode prog_11_method_3_code 122 = .ok (.iastore, 1) := gd_1 db00c_43
theorem d_X9_lay_123 : decode prog_11_method_3_code 123 = .ok (.iinc 5 1, 3) := gd_2 db00c_43
theorem d_X9_lay_126 : decode prog_11_method_3_code 126 = .ok (.goto (-102), 3) := gd_3 db00c_43
theorem d_X9_lay_129 : decode prog_11_method_3_code 129 = .ok (.iinc 4 1, 3) := gd_4 db00c_43
theorem d_X9_lay_132 : decode prog_11_method_3_code 132 = .ok (.goto (-118), 3) := gd_5 db00c_43
theorem d_X9_lay_135 : decode prog_11_method_3_code 135 = .ok (.aload_n 0, 1) := gd_6 db00c_43
theorem d_X9_lay_136 : decode prog_11_method_3_code 136 = .ok (.dup, 1) := gd_7 db00c_43
theorem d_X9_lay_137 : decode prog_11_method_3_code 137 = .ok (.getfield 20, 3) := gd_8 db00c_43
theorem d_X9_lay_140 : decode prog_11_method_3_code 140 = .ok (.iconst 1, 1) := gd_9 db00c_43
theorem d_X9_lay_141 : decode prog_11_method_3_code 141 = .ok (.iadd, 1) := gd_10 db00c_43
theorem d_X9_lay_142 : decode prog_11_method_3_code 142 = .ok (.putfield 20, 3) := gd_11 db00c_43
theorem d_X9_lay_145 : decode prog_11_method_3_code 145 = .ok (.aload_n 0, 1) := gd_12 db00c_43
theorem d_X9_lay_146 : decode prog_11_method_3_code 146 = .ok (.getfield 20, 3) := gd_13 db00c_43
theorem d_X9_lay_149 : decode prog_11_method_3_code 149 = .ok (.iconst 1, 1) := gd_14 db00c_43
theorem d_X9_lay_150 : decode prog_11_method_3_code 150 = .ok (.isub, 1) := gd_15 db00c_43
theorem d_X9_lay_151 : decode prog_11_method_3_code 151 = .ok (.ireturn, 1) := gd_16 db00c_43
theorem d_X10_init_7 : decode prog_12_method_1_code 7 = .ok (.newarray .int, 2) := by decide +kernel
theorem d_X10_init_15 : decode prog_12_method_1_code 15 = .ok (.newarray .int, 2) := by decide +kernel
theorem d_X10_init_23 : decode prog_12_method_1_code 23 = .ok (.newarray .int, 2) := by decide +kernel
theorem d_X10_init_32 : decode prog_12_method_1_code 32 = .ok (.newarray .int, 2) := by decide +kernel
theorem d_X10_init_41 : decode prog_12_method_1_code 41 = .ok (.newarray .int, 2) := by decide +kernel
theorem db00c_44 : Ad_ prog_12_method_1_code [(0, .aload_n 0, 1), (1, .invokespecial 3, 3), (4, .aload_n 0, 1), (5, .bipush 20, 2), (9, .putfield 11, 3), (12, .aload_n 0, 1), (13, .bipush 20, 2), (17, .putfield 15, 3), (20, .aload_n 0, 1), (21, .bipush 20, 2), (25, .putfield 18, 3), (28, .aload_n 0, 1), (29, .sipush 3280, 3), (34, .putfield 21, 3), (37, .aload_n 0, 1), (38, .sipush 164, 3), (43, .putfield 24, 3), (46, .return_, 1)] := bch_ok prog_12_method_1_code _ 0 (by decide +kernel)
theorem d_X10_init_0 : decode prog_12_method_1_code 0 = .ok (.aload_n 0, 1) := gd_0 db00c_44
theorem d_X10_init_1 : decode prog_12_method_1_code 1 = .ok (.invokespecial 3, 3) := gd_1 db00c_44
theorem d_X10_init_4 : decode prog_12_method_1_code 4 = .ok (.aload_n 0, 1) := gd_2 db00c_44
theorem d_X10_init_5 : decode prog_12_method_1_code 5 = .ok (.bipush 20, 2) := gd_3 db00c_44
theorem d_X10_init_9 : decode prog_12_method_1_code 9 = .ok (.putfield 11, 3) := gd_4 db00c_44
theorem d_X10_init_12 : decode prog_12_method_1_code 12 = .ok (.aload_n 0, 1) := gd_5 db00c_44
theorem d_X10_init_13 : decode prog_12_method_1_code 13 = .ok (.bipush 20, 2) := gd_6 db00c_44
theorem d_X10_init_17 : decode prog_12_method_1_code 17 = .ok (.putfield 15, 3) := gd_7 db00c_44
theorem d_X10_init_20 : decode prog_12_method_1_code 20 = .ok (.aload_n 0, 1) := gd_8 db00c_44
theorem d_X10_init_21 : decode prog_12_method_1_code 21 = .ok (.bipush 20, 2) := gd_9 db00c_44
theorem d_X10_init_25 : decode prog_12_method_1_code 25 = .ok (.putfield 18, 3) := gd_10 db00c_44
theorem d_X10_init_28 : decode prog_12_method_1_code 28 = .ok (.aload_n 0, 1) := gd_11 db00c_44
theorem d_X10_init_29 : decode prog_12_method_1_code 29 = .ok (.sipush 3280, 3) := gd_12 db00c_44
theorem d_X10_init_34 : decode prog_12_method_1_code 34 = .ok (.putfield 21, 3) := gd_13 db00c_44
theorem d_X10_init_37 : decode prog_12_method_1_code 37 = .ok (.aload_n 0, 1) := gd_14 db00c_44
theorem d_X10_init_38 : decode prog_12_method_1_code 38 = .ok (.sipush 164, 3) := gd_15 db00c_44
theorem d_X10_init_43 : decode prog_12_method_1_code 43 = .ok (.putfield 24, 3) := gd_16 db00c_44
theorem d_X10_init_46 : decode prog_12_method_1_code 46 = .ok (.return_, 1) := gd_17 db00c_44
theorem db00c_45 : Ad_ prog_12_method_2_code [(0, .iload_n 0, 1), (1, .iload_n 1, 1), (2, .iconst 4, 1), (3, .ishl, 1), (4, .ior, 1), (5, .ireturn, 1)] := bch_ok prog_12_method_2_code _ 0 (by decide +kernel)
theorem d_X10_pack_0 : decode prog_12_method_2_code 0 = .ok (.iload_n 0, 1) := gd_0 db00c_45
theorem d_X10_pack_1 : decode prog_12_method_2_code 1 = .ok (.iload_n 1, 1) := gd_1 db00c_45
theorem d_X10_pack_2 : decode prog_12_method_2_code 2 = .ok (.iconst 4, 1) := gd_2 db00c_45
theorem d_X10_pack_3 : decode prog_12_method_2_code 3 = .ok (.ishl, 1) := gd_3 db00c_45
theorem d_X10_pack_4 : decode prog_12_method_2_code 4 = .ok (.ior, 1) := gd_4 db00c_45
theorem d_X10_pack_5 : decode prog_12_method_2_code 5 = .ok (.ireturn, 1) := gd_5 db00c_45
theorem db00c_46 : Ad_ prog_12_method_3_code [(0, .aload_n 0, 1), (1, .getfield 27, 3), (4, .bipush 20, 2), (6, .if_icmp .lt 5, 3), (9, .iconst (-1), 1), (10, .ireturn, 1), (11, .aload_n 0, 1), (12, .getfield 11, 3), (15, .aload_n 0, 1), (16, .getfield 27, 3), (19, .iload_n 1, 1), (20, .iastore, 1), (21, .aload_n 0, 1), (22, .getfield 15, 3), (25, .aload_n 0, 1), (26, .getfield 27, 3), (29, .iload_n 2, 1), (30, .iastore, 1), (31, .aload_n 0, 1), (32, .getfield 18, 3), (35, .aload_n 0, 1), (36, .getfield 27, 3), (39, .aload_n 3, 1), (40, .getfield 31, 3)] := bch_ok prog_12_method_3_code _ 0 (by decide +kernel)
theorem d_X10_keep_0 : decode prog_12_method_3_code 0 = .ok (.aload_n 0, 1) := gd_0 db00c_46
theorem d_X10_keep_1 : decode prog_12_method_3_code 1 = .ok (.getfield 27, 3) := gd_1 db00c_46
theorem d_X10_keep_4 : decode prog_12_method_3_code 4 = .ok (.bipush 20, 2) := gd_2 db00c_46
theorem d_X10_keep_6 : decode prog_12_method_3_code 6 = .ok (.if_icmp .lt 5, 3) := gd_3 db00c_46
theorem d_X10_keep_9 : decode prog_12_method_3_code 9 = .ok (.iconst (-1), 1) := gd_4 db00c_46
theorem d_X10_keep_10 : decode prog_12_method_3_code 10 = .ok (.ireturn, 1) := gd_5 db00c_46
theorem d_X10_keep_11 : decode prog_12_method_3_code 11 = .ok (.aload_n 0, 1) := gd_6 db00c_46
theorem d_X10_keep_12 : decode prog_12_method_3_code 12 = .ok (.getfield 11, 3) := gd_7 db00c_46
theorem d_X10_keep_15 : decode prog_12_method_3_code 15 = .ok (.aload_n 0, 1) := gd_8 db00c_46
theorem d_X10_keep_16 : decode prog_12_method_3_code 16 = .ok (.getfield 27, 3) := gd_9 db00c_46
theorem d_X10_keep_19 : decode prog_12_method_3_code 19 = .ok (.iload_n 1, 1) := gd_10 db00c_46
theorem d_X10_keep_20 : decode prog_12_method_3_code 20 = .ok (.iastore, 1) := gd_11 db00c_46
theorem d_X10_keep_21 : decode prog_12_method_3_code 21 = .ok (.aload_n 0, 1) := gd_12 db00c_46
theorem d_X10_keep_22 : decode prog_12_method_3_code 22 = .ok (.getfield 15, 3) := gd_13 db00c_46
theorem d_X10_keep_25 : decode prog_12_method_3_code 25 = .ok (.aload_n 0, 1) := gd_14 db00c_46
theorem d_X10_keep_26 : decode prog_12_method_3_code 26 = .ok (.getfield 27, 3) := gd_15 db00c_46
theorem d_X10_keep_29 : decode prog_12_method_3_code 29 = .ok (.iload_n 2, 1) := gd_16 db00c_46
theorem d_X10_keep_30 : decode prog_12_method_3_code 30 = .ok (.iastore, 1) := gd_17 db00c_46
theorem d_X10_keep_31 : decode prog_12_method_3_code 31 = .ok (.aload_n 0, 1) := gd_18 db00c_46
theorem d_X10_keep_32 : decode prog_12_method_3_code 32 = .ok (.getfield 18, 3) := gd_19 db00c_46
theorem d_X10_keep_35 : decode prog_12_method_3_code 35 = .ok (.aload_n 0, 1) := gd_20 db00c_46
theorem d_X10_keep_36 : decode prog_12_method_3_code 36 = .ok (.getfield 27, 3) := gd_21 db00c_46
theorem d_X10_keep_39 : decode prog_12_method_3_code 39 = .ok (.aload_n 3, 1) := gd_22 db00c_46
theorem d_X10_keep_40 : decode prog_12_method_3_code 40 = .ok (.getfield 31, 3) := gd_23 db00c_46
theorem db00c_47 : Ad_ prog_12_method_3_code [(43, .iastore, 1), (44, .aload_n 3, 1), (45, .getfield 36, 3), (48, .iconst 0, 1), (49, .aload_n 0, 1), (50, .getfield 21, 3), (53, .aload_n 0, 1), (54, .getfield 27, 3), (57, .sipush 164, 3), (60, .imul, 1), (61, .aload_n 3, 1), (62, .getfield 31, 3), (65, .invokestatic 39, 3), (68, .aload_n 0, 1), (69, .dup, 1), (70, .getfield 27, 3), (73, .iconst 1, 1), (74, .iadd, 1), (75, .putfield 27, 3), (78, .aload_n 0, 1), (79, .getfield 27, 3), (82, .iconst 1, 1), (83, .isub, 1), (84, .ireturn, 1)] := bch_ok prog_12_method_3_code _ 43 (by decide +kernel)
theorem d_X10_keep_43 : decode prog_12_method_3_code 43 = .ok (.iastore, 1) := gd_0 db00c_47
theorem d_X10_keep_44 : decode prog_12_method_3_code 44 = .ok (.aload_n 3, 1) := gd_1 db00c_47
theorem d_X10_keep_45 : decode prog_12_method_3_code 45 = .ok (.getfield 36, 3) := gd_2 db00c_47
theorem d_X10_keep_48 : decode prog_12_method_3_code 48 = .ok (.iconst 0, 1) := gd_3 db00c_47
theorem d_X10_keep_49 : decode prog_12_method_3_code 49 = .ok (.aload_n 0, 1) := gd_4 db00c_47
theorem d_X10_keep_50 : decode prog_12_method_3_code 50 = .ok (.getfield 21, 3) := gd_5 db00c_47
theorem d_X10_keep_53 : decode prog_12_method_3_code 53 = .ok (.aload_n 0, 1) := gd_6 db00c_47
theorem d_X10_keep_54 : decode prog_12_method_3_code 54 = .ok (.getfield 27, 3) := gd_7 db00c_47
theorem d_X10_keep_57 : decode prog_12_method_3_code 57 = .ok (.sipush 164, 3) := gd_8 db00c_47
theorem d_X10_keep_60 : decode prog_12_method_3_code 60 = .ok (.imul, 1) := gd_9 db00c_47
theorem d_X10_keep_61 : decode prog_12_method_3_code 61 = .ok (.aload_n 3, 1) := gd_10 db00c_47
theorem d_X10_keep_62 : decode prog_12_method_3_code 62 = .ok (.getfield 31, 3) := gd_11 db00c_47
theorem d_X10_keep_65 : decode prog_12_method_3_code 65 = .ok (.invokestatic 39, 3) := gd_12 db00c_47
theorem d_X10_keep_68 : decode prog_12_method_3_code 68 = .ok (.aload_n 0, 1) := gd_13 db00c_47
theorem d_X10_keep_69 : decode prog_12_method_3_code 69 = .ok (.dup, 1) := gd_14 db00c_47
theorem d_X10_keep_70 : decode prog_12_method_3_code 70 = .ok (.getfield 27, 3) := gd_15 db00c_47
theorem d_X10_keep_73 : decode prog_12_method_3_code 73 = .ok (.iconst 1, 1) := gd_16 db00c_47
theorem d_X10_keep_74 : decode prog_12_method_3_code 74 = .ok (.iadd, 1) := gd_17 db00c_47
theorem d_X10_keep_75 : decode prog_12_method_3_code 75 = .ok (.putfield 27, 3) := gd_18 db00c_47
theorem d_X10_keep_78 : decode prog_12_method_3_code 78 = .ok (.aload_n 0, 1) := gd_19 db00c_47
theorem d_X10_keep_79 : decode prog_12_method_3_code 79 = .ok (.getfield 27, 3) := gd_20 db00c_47
theorem d_X10_keep_82 : decode prog_12_method_3_code 82 = .ok (.iconst 1, 1) := gd_21 db00c_47
theorem d_X10_keep_83 : decode prog_12_method_3_code 83 = .ok (.isub, 1) := gd_22 db00c_47
theorem d_X10_keep_84 : decode prog_12_method_3_code 84 = .ok (.ireturn, 1) := gd_23 db00c_47
theorem db00c_48 : Ad_ prog_12_method_4_code [(0, .iconst (-1), 1), (1, .istore_n 3, 1), (2, .iconst 0, 1), (3, .istore 4, 2), (5, .iload 4, 2), (7, .aload_n 0, 1), (8, .getfield 27, 3), (11, .if_icmp .ge 55, 3), (14, .aload_n 0, 1), (15, .getfield 15, 3), (18, .iload 4, 2), (20, .iaload, 1), (21, .iload_n 2, 1), (22, .if_icmp .gt 38, 3), (25, .aload_n 0, 1), (26, .getfield 11, 3), (29, .iload 4, 2), (31, .iaload, 1), (32, .iload_n 1, 1), (33, .if_icmp .gt 27, 3), (36, .iload_n 3, 1), (37, .iconst (-1), 1), (38, .if_icmp .eq 19, 3), (41, .aload_n 0, 1)] := bch_ok prog_12_method_4_code _ 0 (by decide +kernel)
theorem d_X10_inForce_0 : decode prog_12_method_4_code 0 = .ok (.iconst (-1), 1) := gd_0 db00c_48
theorem d_X10_inForce_1 : decode prog_12_method_4_code 1 = .ok (.istore_n 3, 1) := gd_1 db00c_48
theorem d_X10_inForce_2 : decode prog_12_method_4_code 2 = .ok (.iconst 0, 1) := gd_2 db00c_48
theorem d_X10_inForce_3 : decode prog_12_method_4_code 3 = .ok (.istore 4, 2) := gd_3 db00c_48
theorem d_X10_inForce_5 : decode prog_12_method_4_code 5 = .ok (.iload 4, 2) := gd_4 db00c_48
theorem d_X10_inForce_7 : decode prog_12_method_4_code 7 = .ok (.aload_n 0, 1) := gd_5 db00c_48
theorem d_X10_inForce_8 : decode prog_12_method_4_code 8 = .ok (.getfield 27, 3) := gd_6 db00c_48
theorem d_X10_inForce_11 : decode prog_12_method_4_code 11 = .ok (.if_icmp .ge 55, 3) := gd_7 db00c_48
theorem d_X10_inForce_14 : decode prog_12_method_4_code 14 = .ok (.aload_n 0, 1) := gd_8 db00c_48
theorem d_X10_inForce_15 : decode prog_12_method_4_code 15 = .ok (.getfield 15, 3) := gd_9 db00c_48
theorem d_X10_inForce_18 : decode prog_12_method_4_code 18 = .ok (.iload 4, 2) := gd_10 db00c_48
theorem d_X10_inForce_20 : decode prog_12_method_4_code 20 = .ok (.iaload, 1) := gd_11 db00c_48
theorem d_X10_inForce_21 : decode prog_12_method_4_code 21 = .ok (.iload_n 2, 1) := gd_12 db00c_48
theorem d_X10_inForce_22 : decode prog_12_method_4_code 22 = .ok (.if_icmp .gt 38, 3) := gd_13 db00c_48
theorem d_X10_inForce_25 : decode prog_12_method_4_code 25 = .ok (.aload_n 0, 1) := gd_14 db00c_48
theorem d_X10_inForce_26 : decode prog_12_method_4_code 26 = .ok (.getfield 11, 3) := gd_15 db00c_48
theorem d_X10_inForce_29 : decode prog_12_method_4_code 29 = .ok (.iload 4, 2) := gd_16 db00c_48
theorem d_X10_inForce_31 : decode prog_12_method_4_code 31 = .ok (.iaload, 1) := gd_17 db00c_48
theorem d_X10_inForce_32 : decode prog_12_method_4_code 32 = .ok (.iload_n 1, 1) := gd_18 db00c_48
theorem d_X10_inForce_33 : decode prog_12_method_4_code 33 = .ok (.if_icmp .gt 27, 3) := gd_19 db00c_48
theorem d_X10_inForce_36 : decode prog_12_method_4_code 36 = .ok (.iload_n 3, 1) := gd_20 db00c_48
theorem d_X10_inForce_37 : decode prog_12_method_4_code 37 = .ok (.iconst (-1), 1) := gd_21 db00c_48
theorem d_X10_inForce_38 : decode prog_12_method_4_code 38 = .ok (.if_icmp .eq 19, 3) := gd_22 db00c_48
theorem d_X10_inForce_41 : decode prog_12_method_4_code 41 = .ok (.aload_n 0, 1) := gd_23 db00c_48
theorem db00c_49 : Ad_ prog_12_method_4_code [(42, .getfield 11, 3), (45, .iload 4, 2), (47, .iaload, 1), (48, .aload_n 0, 1), (49, .getfield 11, 3), (52, .iload_n 3, 1), (53, .iaload, 1), (54, .if_icmp .lt 6, 3), (57, .iload 4, 2), (59, .istore_n 3, 1), (60, .iinc 4 1, 3), (63, .goto (-58), 3), (66, .iload_n 3, 1), (67, .ireturn, 1)] := bch_ok prog_12_method_4_code _ 42 (by decide +kernel)
theorem d_X10_inForce_42 : decode prog_12_method_4_code 42 = .ok (.getfield 11, 3) := gd_0 db00c_49
theorem d_X10_inForce_45 : decode prog_12_method_4_code 45 = .ok (.iload 4, 2) := gd_1 db00c_49
theorem d_X10_inForce_47 : decode prog_12_method_4_code 47 = .ok (.iaload, 1) := gd_2 db00c_49
theorem d_X10_inForce_48 : decode prog_12_method_4_code 48 = .ok (.aload_n 0, 1) := gd_3 db00c_49
theorem d_X10_inForce_49 : decode prog_12_method_4_code 49 = .ok (.getfield 11, 3) := gd_4 db00c_49
theorem d_X10_inForce_52 : decode prog_12_method_4_code 52 = .ok (.iload_n 3, 1) := gd_5 db00c_49
theorem d_X10_inForce_53 : decode prog_12_method_4_code 53 = .ok (.iaload, 1) := gd_6 db00c_49
theorem d_X10_inForce_54 : decode prog_12_method_4_code 54 = .ok (.if_icmp .lt 6, 3) := gd_7 db00c_49
theorem d_X10_inForce_57 : decode prog_12_method_4_code 57 = .ok (.iload 4, 2) := gd_8 db00c_49
theorem d_X10_inForce_59 : decode prog_12_method_4_code 59 = .ok (.istore_n 3, 1) := gd_9 db00c_49
theorem d_X10_inForce_60 : decode prog_12_method_4_code 60 = .ok (.iinc 4 1, 3) := gd_10 db00c_49
theorem d_X10_inForce_63 : decode prog_12_method_4_code 63 = .ok (.goto (-58), 3) := gd_11 db00c_49
theorem d_X10_inForce_66 : decode prog_12_method_4_code 66 = .ok (.iload_n 3, 1) := gd_12 db00c_49
theorem d_X10_inForce_67 : decode prog_12_method_4_code 67 = .ok (.ireturn, 1) := gd_13 db00c_49
theorem db00c_50 : Ad_ prog_12_method_5_code [(0, .iload_n 1, 1), (1, .iconst 0, 1), (2, .aload_n 0, 1), (3, .getfield 27, 3), (6, .iconst 1, 1), (7, .isub, 1), (8, .invokestatic 45, 3), (11, .ifCond .ne 5, 3), (14, .iconst 0, 1), (15, .ireturn, 1), (16, .iconst 0, 1), (17, .istore 4, 2), (19, .iconst 0, 1), (20, .istore 5, 2), (22, .iload 5, 2), (24, .aload_n 0, 1), (25, .getfield 18, 3), (28, .iload_n 1, 1), (29, .iaload, 1), (30, .if_icmp .ge 230, 3), (33, .aload_n 0, 1), (34, .getfield 21, 3), (37, .iload_n 1, 1), (38, .sipush 164, 3)] := bch_ok prog_12_method_5_code _ 0 (by decide +kernel)
theorem d_X10_answer_0 : decode prog_12_method_5_code 0 = .ok (.iload_n 1, 1) := gd_0 db00c_50
theorem d_X10_answer_1 : decode prog_12_method_5_code 1 = .ok (.iconst 0, 1) := gd_1 db00c_50
theorem d_X10_answer_2 : decode prog_12_method_5_code 2 = .ok (.aload_n 0, 1) := gd_2 db00c_50
theorem d_X10_answer_3 : decode prog_12_method_5_code 3 = .ok (.getfield 27, 3) := gd_3 db00c_50
theorem d_X10_answer_6 : decode prog_12_method_5_code 6 = .ok (.iconst 1, 1) := gd_4 db00c_50
theorem d_X10_answer_7 : decode prog_12_method_5_code 7 = .ok (.isub, 1) := gd_5 db00c_50
theorem d_X10_answer_8 : decode prog_12_method_5_code 8 = .ok (.invokestatic 45, 3) := gd_6 db00c_50
theorem d_X10_answer_11 : decode prog_12_method_5_code 11 = .ok (.ifCond .ne 5, 3) := gd_7 db00c_50
theorem d_X10_answer_14 : decode prog_12_method_5_code 14 = .ok (.iconst 0, 1) := gd_8 db00c_50
theorem d_X10_answer_15 : decode prog_12_method_5_code 15 = .ok (.ireturn, 1) := gd_9 db00c_50
theorem d_X10_answer_16 : decode prog_12_method_5_code 16 = .ok (.iconst 0, 1) := gd_10 db00c_50
theorem d_X10_answer_17 : decode prog_12_method_5_code 17 = .ok (.istore 4, 2) := gd_11 db00c_50
theorem d_X10_answer_19 : decode prog_12_method_5_code 19 = .ok (.iconst 0, 1) := gd_12 db00c_50
theorem d_X10_answer_20 : decode prog_12_method_5_code 20 = .ok (.istore 5, 2) := gd_13 db00c_50
theorem d_X10_answer_22 : decode prog_12_method_5_code 22 = .ok (.iload 5, 2) := gd_14 db00c_50
theorem d_X10_answer_24 : decode prog_12_method_5_code 24 = .ok (.aload_n 0, 1) := gd_15 db00c_50
theorem d_X10_answer_25 : decode prog_12_method_5_code 25 = .ok (.getfield 18, 3) := gd_16 db00c_50
theorem d_X10_answer_28 : decode prog_12_method_5_code 28 = .ok (.iload_n 1, 1) := gd_17 db00c_50
theorem d_X10_answer_29 : decode prog_12_method_5_code 29 = .ok (.iaload, 1) := gd_18 db00c_50
theorem d_X10_answer_30 : decode prog_12_method_5_code 30 = .ok (.if_icmp .ge 230, 3) := gd_19 db00c_50
theorem d_X10_answer_33 : decode prog_12_method_5_code 33 = .ok (.aload_n 0, 1) := gd_20 db00c_50
theorem d_X10_answer_34 : decode prog_12_method_5_code 34 = .ok (.getfield 21, 3) := gd_21 db00c_50
theorem d_X10_answer_37 : decode prog_12_method_5_code 37 = .ok (.iload_n 1, 1) := gd_22 db00c_50
theorem d_X10_answer_38 : decode prog_12_method_5_code 38 = .ok (.sipush 164, 3) := gd_23 db00c_50
theorem db00c_51 : Ad_ prog_12_method_5_code [(41, .imul, 1), (42, .iload 5, 2), (44, .iadd, 1), (45, .iaload, 1), (46, .bipush 15, 2), (48, .iand, 1), (49, .istore 6, 2), (51, .aload_n 0, 1), (52, .getfield 21, 3), (55, .iload_n 1, 1), (56, .sipush 164, 3), (59, .imul, 1), (60, .iload 5, 2), (62, .iadd, 1), (63, .iaload, 1), (64, .iconst 4, 1), (65, .ishr, 1), (66, .istore 7, 2), (68, .iload 6, 2), (70, .ifCond .eq 9, 3), (73, .iload 6, 2), (75, .iconst 1, 1), (76, .if_icmp .ne 46, 3), (79, .iload 4, 2)] := bch_ok prog_12_method_5_code _ 41 (by decide +kernel)
theorem d_X10_answer_41 : decode prog_12_method_5_code 41 = .ok (.imul, 1) := gd_0 db00c_51
theorem d_X10_answer_42 : decode prog_12_method_5_code 42 = .ok (.iload 5, 2) := gd_1 db00c_51
theorem d_X10_answer_44 : decode prog_12_method_5_code 44 = .ok (.iadd, 1) := gd_2 db00c_51
theorem d_X10_answer_45 : decode prog_12_method_5_code 45 = .ok (.iaload, 1) := gd_3 db00c_51
theorem d_X10_answer_46 : decode prog_12_method_5_code 46 = .ok (.bipush 15, 2) := gd_4 db00c_51
theorem d_X10_answer_48 : decode prog_12_method_5_code 48 = .ok (.iand, 1) := gd_5 db00c_51
theorem d_X10_answer_49 : decode prog_12_method_5_code 49 = .ok (.istore 6, 2) := gd_6 db00c_51
theorem d_X10_answer_51 : decode prog_12_method_5_code 51 = .ok (.aload_n 0, 1) := gd_7 db00c_51
theorem d_X10_answer_52 : decode prog_12_method_5_code 52 = .ok (.getfield 21, 3) := gd_8 db00c_51
theorem d_X10_answer_55 : decode prog_12_method_5_code 55 = .ok (.iload_n 1, 1) := gd_9 db00c_51
theorem d_X10_answer_56 : decode prog_12_method_5_code 56 = .ok (.sipush 164, 3) := gd_10 db00c_51
theorem d_X10_answer_59 : decode prog_12_method_5_code 59 = .ok (.imul, 1) := gd_11 db00c_51
theorem d_X10_answer_60 : decode prog_12_method_5_code 60 = .ok (.iload 5, 2) := gd_12 db00c_51
theorem d_X10_answer_62 : decode prog_12_method_5_code 62 = .ok (.iadd, 1) := gd_13 db00c_51
theorem d_X10_answer_63 : decode prog_12_method_5_code 63 = .ok (.iaload, 1) := gd_14 db00c_51
theorem d_X10_answer_64 : decode prog_12_method_5_code 64 = .ok (.iconst 4, 1) := gd_15 db00c_51
theorem d_X10_answer_65 : decode prog_12_method_5_code 65 = .ok (.ishr, 1) := gd_16 db00c_51
theorem d_X10_answer_66 : decode prog_12_method_5_code 66 = .ok (.istore 7, 2) := gd_17 db00c_51
theorem d_X10_answer_68 : decode prog_12_method_5_code 68 = .ok (.iload 6, 2) := gd_18 db00c_51
theorem d_X10_answer_70 : decode prog_12_method_5_code 70 = .ok (.ifCond .eq 9, 3) := gd_19 db00c_51
theorem d_X10_answer_73 : decode prog_12_method_5_code 73 = .ok (.iload 6, 2) := gd_20 db00c_51
theorem d_X10_answer_75 : decode prog_12_method_5_code 75 = .ok (.iconst 1, 1) := gd_21 db00c_51
theorem d_X10_answer_76 : decode prog_12_method_5_code 76 = .ok (.if_icmp .ne 46, 3) := gd_22 db00c_51
theorem d_X10_answer_79 : decode prog_12_method_5_code 79 = .ok (.iload 4, 2) := gd_23 db00c_51
theorem db00c_52 : Ad_ prog_12_method_5_code [(81, .aload_n 0, 1), (82, .getfield 24, 3), (85, .arraylength, 1), (86, .if_icmp .lt 5, 3), (89, .iconst 0, 1), (90, .ireturn, 1), (91, .aload_n 0, 1), (92, .getfield 24, 3), (95, .iload 4, 2), (97, .iload 6, 2), (99, .ifCond .ne 8, 3), (102, .iload 7, 2), (104, .goto 11, 3), (107, .aload_n 2, 1), (108, .iload_n 3, 1), (109, .iload 7, 2), (111, .iadd, 1), (112, .invokestatic 49, 3), (115, .iastore, 1), (116, .iinc 4 1, 3), (119, .goto 135, 3), (122, .iload 6, 2), (124, .iconst 5, 1), (125, .if_icmp .lt 47, 3)] := bch_ok prog_12_method_5_code _ 81 (by decide +kernel)
theorem d_X10_answer_81 : decode prog_12_method_5_code 81 = .ok (.aload_n 0, 1) := gd_0 db00c_52
theorem d_X10_answer_82 : decode prog_12_method_5_code 82 = .ok (.getfield 24, 3) := gd_1 db00c_52
theorem d_X10_answer_85 : decode prog_12_method_5_code 85 = .ok (.arraylength, 1) := gd_2 db00c_52
theorem d_X10_answer_86 : decode prog_12_method_5_code 86 = .ok (.if_icmp .lt 5, 3) := gd_3 db00c_52
theorem d_X10_answer_89 : decode prog_12_method_5_code 89 = .ok (.iconst 0, 1) := gd_4 db00c_52
theorem d_X10_answer_90 : decode prog_12_method_5_code 90 = .ok (.ireturn, 1) := gd_5 db00c_52
theorem d_X10_answer_91 : decode prog_12_method_5_code 91 = .ok (.aload_n 0, 1) := gd_6 db00c_52
theorem d_X10_answer_92 : decode prog_12_method_5_code 92 = .ok (.getfield 24, 3) := gd_7 db00c_52
theorem d_X10_answer_95 : decode prog_12_method_5_code 95 = .ok (.iload 4, 2) := gd_8 db00c_52
theorem d_X10_answer_97 : decode prog_12_method_5_code 97 = .ok (.iload 6, 2) := gd_9 db00c_52
theorem d_X10_answer_99 : decode prog_12_method_5_code 99 = .ok (.ifCond .ne 8, 3) := gd_10 db00c_52
theorem d_X10_answer_102 : decode prog_12_method_5_code 102 = .ok (.iload 7, 2) := gd_11 db00c_52
theorem d_X10_answer_104 : decode prog_12_method_5_code 104 = .ok (.goto 11, 3) := gd_12 db00c_52
theorem d_X10_answer_107 : decode prog_12_method_5_code 107 = .ok (.aload_n 2, 1) := gd_13 db00c_52
theorem d_X10_answer_108 : decode prog_12_method_5_code 108 = .ok (.iload_n 3, 1) := gd_14 db00c_52
theorem d_X10_answer_109 : decode prog_12_method_5_code 109 = .ok (.iload 7, 2) := gd_15 db00c_52
theorem d_X10_answer_111 : decode prog_12_method_5_code 111 = .ok (.iadd, 1) := gd_16 db00c_52
theorem d_X10_answer_112 : decode prog_12_method_5_code 112 = .ok (.invokestatic 49, 3) := gd_17 db00c_52
theorem d_X10_answer_115 : decode prog_12_method_5_code 115 = .ok (.iastore, 1) := gd_18 db00c_52
theorem d_X10_answer_116 : decode prog_12_method_5_code 116 = .ok (.iinc 4 1, 3) := gd_19 db00c_52
theorem d_X10_answer_119 : decode prog_12_method_5_code 119 = .ok (.goto 135, 3) := gd_20 db00c_52
theorem d_X10_answer_122 : decode prog_12_method_5_code 122 = .ok (.iload 6, 2) := gd_21 db00c_52
theorem d_X10_answer_124 : decode prog_12_method_5_code 124 = .ok (.iconst 5, 1) := gd_22 db00c_52
theorem d_X10_answer_125 : decode prog_12_method_5_code 125 = .ok (.if_icmp .lt 47, 3) := gd_23 db00c_52
theorem db00c_53 : Ad_ prog_12_method_5_code [(128, .iload 4, 2), (130, .iconst 2, 1), (131, .if_icmp .ge 5, 3), (134, .iconst 0, 1), (135, .ireturn, 1), (136, .iinc 4 (-1), 3), (139, .aload_n 0, 1), (140, .getfield 24, 3), (143, .iload 4, 2), (145, .iconst 1, 1), (146, .isub, 1), (147, .iload 6, 2), (149, .aload_n 0, 1), (150, .getfield 24, 3), (153, .iload 4, 2), (155, .iconst 1, 1), (156, .isub, 1), (157, .iaload, 1), (158, .aload_n 0, 1), (159, .getfield 24, 3), (162, .iload 4, 2), (164, .iaload, 1), (165, .invokestatic 53, 3), (168, .iastore, 1)] := bch_ok prog_12_method_5_code _ 128 (by decide +kernel)
theorem d_X10_answer_128 : decode prog_12_method_5_code 128 = .ok (.iload 4, 2) := gd_0 db00c_53
theorem d_X10_answer_130 : decode prog_12_method_5_code 130 = .ok (.iconst 2, 1) := gd_1 db00c_53
theorem d_X10_answer_131 : decode prog_12_method_5_code 131 = .ok (.if_icmp .ge 5, 3) := gd_2 db00c_53
theorem d_X10_answer_134 : decode prog_12_method_5_code 134 = .ok (.iconst 0, 1) := gd_3 db00c_53
theorem d_X10_answer_135 : decode prog_12_method_5_code 135 = .ok (.ireturn, 1) := gd_4 db00c_53
theorem d_X10_answer_136 : decode prog_12_method_5_code 136 = .ok (.iinc 4 (-1), 3) := gd_5 db00c_53
theorem d_X10_answer_139 : decode prog_12_method_5_code 139 = .ok (.aload_n 0, 1) := gd_6 db00c_53
theorem d_X10_answer_140 : decode prog_12_method_5_code 140 = .ok (.getfield 24, 3) := gd_7 db00c_53
theorem d_X10_answer_143 : decode prog_12_method_5_code 143 = .ok (.iload 4, 2) := gd_8 db00c_53
theorem d_X10_answer_145 : decode prog_12_method_5_code 145 = .ok (.iconst 1, 1) := gd_9 db00c_53
theorem d_X10_answer_146 : decode prog_12_method_5_code 146 = .ok (.isub, 1) := gd_10 db00c_53
theorem d_X10_answer_147 : decode prog_12_method_5_code 147 = .ok (.iload 6, 2) := gd_11 db00c_53
theorem d_X10_answer_149 : decode prog_12_method_5_code 149 = .ok (.aload_n 0, 1) := gd_12 db00c_53
theorem d_X10_answer_150 : decode prog_12_method_5_code 150 = .ok (.getfield 24, 3) := gd_13 db00c_53
theorem d_X10_answer_153 : decode prog_12_method_5_code 153 = .ok (.iload 4, 2) := gd_14 db00c_53
theorem d_X10_answer_155 : decode prog_12_method_5_code 155 = .ok (.iconst 1, 1) := gd_15 db00c_53
theorem d_X10_answer_156 : decode prog_12_method_5_code 156 = .ok (.isub, 1) := gd_16 db00c_53
theorem d_X10_answer_157 : decode prog_12_method_5_code 157 = .ok (.iaload, 1) := gd_17 db00c_53
theorem d_X10_answer_158 : decode prog_12_method_5_code 158 = .ok (.aload_n 0, 1) := gd_18 db00c_53
theorem d_X10_answer_159 : decode prog_12_method_5_code 159 = .ok (.getfield 24, 3) := gd_19 db00c_53
theorem d_X10_answer_162 : decode prog_12_method_5_code 162 = .ok (.iload 4, 2) := gd_20 db00c_53
theorem d_X10_answer_164 : decode prog_12_method_5_code 164 = .ok (.iaload, 1) := gd_21 db00c_53
theorem d_X10_answer_165 : decode prog_12_method_5_code 165 = .ok (.invokestatic 53, 3) := gd_22 db00c_53
theorem d_X10_answer_168 : decode prog_12_method_5_code 168 = .ok (.iastore, 1) := gd_23 db00c_53
theorem db00c_54 : Ad_ prog_12_method_5_code [(169, .goto 85, 3), (172, .iload 4, 2), (174, .iconst 1, 1), (175, .if_icmp .ge 5, 3), (178, .iconst 0, 1), (179, .ireturn, 1), (180, .iload 6, 2), (182, .iconst 2, 1), (183, .if_icmp .ne 26, 3), (186, .aload_n 0, 1), (187, .getfield 24, 3), (190, .iload 4, 2), (192, .iconst 1, 1), (193, .isub, 1), (194, .iconst 1, 1), (195, .aload_n 0, 1), (196, .getfield 24, 3), (199, .iload 4, 2), (201, .iconst 1, 1), (202, .isub, 1), (203, .iaload, 1), (204, .isub, 1), (205, .iastore, 1), (206, .goto 48, 3)] := bch_ok prog_12_method_5_code _ 169 (by decide +kernel)
theorem d_X10_answer_169 : decode prog_12_method_5_code 169 = .ok (.goto 85, 3) := gd_0 db00c_54
theorem d_X10_answer_172 : decode prog_12_method_5_code 172 = .ok (.iload 4, 2) := gd_1 db00c_54
theorem d_X10_answer_174 : decode prog_12_method_5_code 174 = .ok (.iconst 1, 1) := gd_2 db00c_54
theorem d_X10_answer_175 : decode prog_12_method_5_code 175 = .ok (.if_icmp .ge 5, 3) := gd_3 db00c_54
theorem d_X10_answer_178 : decode prog_12_method_5_code 178 = .ok (.iconst 0, 1) := gd_4 db00c_54
theorem d_X10_answer_179 : decode prog_12_method_5_code 179 = .ok (.ireturn, 1) := gd_5 db00c_54
theorem d_X10_answer_180 : decode prog_12_method_5_code 180 = .ok (.iload 6, 2) := gd_6 db00c_54
theorem d_X10_answer_182 : decode prog_12_method_5_code 182 = .ok (.iconst 2, 1) := gd_7 db00c_54
theorem d_X10_answer_183 : decode prog_12_method_5_code 183 = .ok (.if_icmp .ne 26, 3) := gd_8 db00c_54
theorem d_X10_answer_186 : decode prog_12_method_5_code 186 = .ok (.aload_n 0, 1) := gd_9 db00c_54
theorem d_X10_answer_187 : decode prog_12_method_5_code 187 = .ok (.getfield 24, 3) := gd_10 db00c_54
theorem d_X10_answer_190 : decode prog_12_method_5_code 190 = .ok (.iload 4, 2) := gd_11 db00c_54
theorem d_X10_answer_192 : decode prog_12_method_5_code 192 = .ok (.iconst 1, 1) := gd_12 db00c_54
theorem d_X10_answer_193 : decode prog_12_method_5_code 193 = .ok (.isub, 1) := gd_13 db00c_54
theorem d_X10_answer_194 : decode prog_12_method_5_code 194 = .ok (.iconst 1, 1) := gd_14 db00c_54
theorem d_X10_answer_195 : decode prog_12_method_5_code 195 = .ok (.aload_n 0, 1) := gd_15 db00c_54
theorem d_X10_answer_196 : decode prog_12_method_5_code 196 = .ok (.getfield 24, 3) := gd_16 db00c_54
theorem d_X10_answer_199 : decode prog_12_method_5_code 199 = .ok (.iload 4, 2) := gd_17 db00c_54
theorem d_X10_answer_201 : decode prog_12_method_5_code 201 = .ok (.iconst 1, 1) := gd_18 db00c_54
theorem d_X10_answer_202 : decode prog_12_method_5_code 202 = .ok (.isub, 1) := gd_19 db00c_54
theorem d_X10_answer_203 : decode prog_12_method_5_code 203 = .ok (.iaload, 1) := gd_20 db00c_54
theorem d_X10_answer_204 : decode prog_12_method_5_code 204 = .ok (.isub, 1) := gd_21 db00c_54
theorem d_X10_answer_205 : decode prog_12_method_5_code 205 = .ok (.iastore, 1) := gd_22 db00c_54
theorem d_X10_answer_206 : decode prog_12_method_5_code 206 = .ok (.goto 48, 3) := gd_23 db00c_54
theorem db00c_55 : Ad_ prog_12_method_5_code [(209, .iload 6, 2), (211, .iconst 4, 1), (212, .if_icmp .ne 13, 3), (215, .aload_n 0, 1), (216, .getfield 24, 3), (219, .iload 4, 2), (221, .iconst 1, 1), (222, .isub, 1), (223, .iaload, 1), (224, .ireturn, 1), (225, .iinc 4 (-1), 3), (228, .aload_n 0, 1), (229, .getfield 24, 3), (232, .iload 4, 2), (234, .iaload, 1), (235, .ifCond .ne 15, 3), (238, .iload 5, 2), (240, .iload 7, 2), (242, .iconst 1, 1), (243, .isub, 1), (244, .invokestatic 57, 3), (247, .goto 5, 3), (250, .iload 5, 2), (252, .istore 5, 2)] := bch_ok prog_12_method_5_code _ 209 (by decide +kernel)
theorem d_X10_answer_209 : decode prog_12_method_5_code 209 = .ok (.iload 6, 2) := gd_0 db00c_55
theorem d_X10_answer_211 : decode prog_12_method_5_code 211 = .ok (.iconst 4, 1) := gd_1 db00c_55
theorem d_X10_answer_212 : decode prog_12_method_5_code 212 = .ok (.if_icmp .ne 13, 3) := gd_2 db00c_55
theorem d_X10_answer_215 : decode prog_12_method_5_code 215 = .ok (.aload_n 0, 1) := gd_3 db00c_55
theorem d_X10_answer_216 : decode prog_12_method_5_code 216 = .ok (.getfield 24, 3) := gd_4 db00c_55
theorem d_X10_answer_219 : decode prog_12_method_5_code 219 = .ok (.iload 4, 2) := gd_5 db00c_55
theorem d_X10_answer_221 : decode prog_12_method_5_code 221 = .ok (.iconst 1, 1) := gd_6 db00c_55
theorem d_X10_answer_222 : decode prog_12_method_5_code 222 = .ok (.isub, 1) := gd_7 db00c_55
theorem d_X10_answer_223 : decode prog_12_method_5_code 223 = .ok (.iaload, 1) := gd_8 db00c_55
theorem d_X10_answer_224 : decode prog_12_method_5_code 224 = .ok (.ireturn, 1) := gd_9 db00c_55
theorem d_X10_answer_225 : decode prog_12_method_5_code 225 = .ok (.iinc 4 (-1), 3) := gd_10 db00c_55
theorem d_X10_answer_228 : decode prog_12_method_5_code 228 = .ok (.aload_n 0, 1) := gd_11 db00c_55
theorem d_X10_answer_229 : decode prog_12_method_5_code 229 = .ok (.getfield 24, 3) := gd_12 db00c_55
theorem d_X10_answer_232 : decode prog_12_method_5_code 232 = .ok (.iload 4, 2) := gd_13 db00c_55
theorem d_X10_answer_234 : decode prog_12_method_5_code 234 = .ok (.iaload, 1) := gd_14 db00c_55
theorem d_X10_answer_235 : decode prog_12_method_5_code 235 = .ok (.ifCond .ne 15, 3) := gd_15 db00c_55
theorem d_X10_answer_238 : decode prog_12_method_5_code 238 = .ok (.iload 5, 2) := gd_16 db00c_55
theorem d_X10_answer_240 : decode prog_12_method_5_code 240 = .ok (.iload 7, 2) := gd_17 db00c_55
theorem d_X10_answer_242 : decode prog_12_method_5_code 242 = .ok (.iconst 1, 1) := gd_18 db00c_55
theorem d_X10_answer_243 : decode prog_12_method_5_code 243 = .ok (.isub, 1) := gd_19 db00c_55
theorem d_X10_answer_244 : decode prog_12_method_5_code 244 = .ok (.invokestatic 57, 3) := gd_20 db00c_55
theorem d_X10_answer_247 : decode prog_12_method_5_code 247 = .ok (.goto 5, 3) := gd_21 db00c_55
theorem d_X10_answer_250 : decode prog_12_method_5_code 250 = .ok (.iload 5, 2) := gd_22 db00c_55
theorem d_X10_answer_252 : decode prog_12_method_5_code 252 = .ok (.istore 5, 2) := gd_23 db00c_55
theorem db00c_56 : Ad_ prog_12_method_5_code [(254, .iinc 5 1, 3), (257, .goto (-235), 3), (260, .iconst 0, 1), (261, .ireturn, 1)] := bch_ok prog_12_method_5_code _ 254 (by decide +kernel)
theorem d_X10_answer_254 : decode prog_12_method_5_code 254 = .ok (.iinc 5 1, 3) := gd_0 db00c_56
theorem d_X10_answer_257 : decode prog_12_method_5_code 257 = .ok (.goto (-235), 3) := gd_1 db00c_56
theorem d_X10_answer_260 : decode prog_12_method_5_code 260 = .ok (.iconst 0, 1) := gd_2 db00c_56
theorem d_X10_answer_261 : decode prog_12_method_5_code 261 = .ok (.ireturn, 1) := gd_3 db00c_56
theorem db00c_57 : Ad_ prog_12_method_6_code [(0, .iload_n 1, 1), (1, .iconst 0, 1), (2, .aload_n 0, 1), (3, .arraylength, 1), (4, .iconst 1, 1), (5, .isub, 1), (6, .invokestatic 45, 3), (9, .ifCond .eq 9, 3), (12, .aload_n 0, 1), (13, .iload_n 1, 1), (14, .iaload, 1), (15, .goto 4, 3), (18, .iconst 0, 1), (19, .ireturn, 1)] := bch_ok prog_12_method_6_code _ 0 (by decide +kernel)
theorem d_X10_valueOf_0 : decode prog_12_method_6_code 0 = .ok (.iload_n 1, 1) := gd_0 db00c_57
theorem d_X10_valueOf_1 : decode prog_12_method_6_code 1 = .ok (.iconst 0, 1) := gd_1 db00c_57
theorem d_X10_valueOf_2 : decode prog_12_method_6_code 2 = .ok (.aload_n 0, 1) := gd_2 db00c_57
theorem d_X10_valueOf_3 : decode prog_12_method_6_code 3 = .ok (.arraylength, 1) := gd_3 db00c_57
theorem d_X10_valueOf_4 : decode prog_12_method_6_code 4 = .ok (.iconst 1, 1) := gd_4 db00c_57
theorem d_X10_valueOf_5 : decode prog_12_method_6_code 5 = .ok (.isub, 1) := gd_5 db00c_57
theorem d_X10_valueOf_6 : decode prog_12_method_6_code 6 = .ok (.invokestatic 45, 3) := gd_6 db00c_57
theorem d_X10_valueOf_9 : decode prog_12_method_6_code 9 = .ok (.ifCond .eq 9, 3) := gd_7 db00c_57
theorem d_X10_valueOf_12 : decode prog_12_method_6_code 12 = .ok (.aload_n 0, 1) := gd_8 db00c_57
theorem d_X10_valueOf_13 : decode prog_12_method_6_code 13 = .ok (.iload_n 1, 1) := gd_9 db00c_57
theorem d_X10_valueOf_14 : decode prog_12_method_6_code 14 = .ok (.iaload, 1) := gd_10 db00c_57
theorem d_X10_valueOf_15 : decode prog_12_method_6_code 15 = .ok (.goto 4, 3) := gd_11 db00c_57
theorem d_X10_valueOf_18 : decode prog_12_method_6_code 18 = .ok (.iconst 0, 1) := gd_12 db00c_57
theorem d_X10_valueOf_19 : decode prog_12_method_6_code 19 = .ok (.ireturn, 1) := gd_13 db00c_57
theorem d_X10_combine_1 : decode prog_12_method_7_code 1 = .ok (.tableswitch 107 5 11 #[43, 52, 61, 70, 81, 92, 103], 43) := by decide +kernel
theorem d_X10_combine_48 : decode prog_12_method_7_code 48 = .ok (.ladd, 1) := by decide +kernel
theorem d_X10_combine_57 : decode prog_12_method_7_code 57 = .ok (.lsub, 1) := by decide +kernel
theorem d_X10_combine_66 : decode prog_12_method_7_code 66 = .ok (.lmul, 1) := by decide +kernel
theorem db00c_58 : Ad_ prog_12_method_7_code [(0, .iload_n 0, 1), (44, .iload_n 1, 1), (45, .i2l, 1), (46, .iload_n 2, 1), (47, .i2l, 1), (49, .invokestatic 63, 3), (52, .ireturn, 1), (53, .iload_n 1, 1), (54, .i2l, 1), (55, .iload_n 2, 1), (56, .i2l, 1), (58, .invokestatic 63, 3), (61, .ireturn, 1), (62, .iload_n 1, 1), (63, .i2l, 1), (64, .iload_n 2, 1), (65, .i2l, 1), (67, .invokestatic 63, 3), (70, .ireturn, 1), (71, .iload_n 1, 1), (72, .iload_n 2, 1), (73, .if_icmp .ne 7, 3), (76, .iconst 1, 1), (77, .goto 4, 3)] := bch_ok prog_12_method_7_code _ 0 (by decide +kernel)
theorem d_X10_combine_0 : decode prog_12_method_7_code 0 = .ok (.iload_n 0, 1) := gd_0 db00c_58
theorem d_X10_combine_44 : decode prog_12_method_7_code 44 = .ok (.iload_n 1, 1) := gd_1 db00c_58
theorem d_X10_combine_45 : decode prog_12_method_7_code 45 = .ok (.i2l, 1) := gd_2 db00c_58
theorem d_X10_combine_46 : decode prog_12_method_7_code 46 = .ok (.iload_n 2, 1) := gd_3 db00c_58
theorem d_X10_combine_47 : decode prog_12_method_7_code 47 = .ok (.i2l, 1) := gd_4 db00c_58
theorem d_X10_combine_49 : decode prog_12_method_7_code 49 = .ok (.invokestatic 63, 3) := gd_5 db00c_58
theorem d_X10_combine_52 : decode prog_12_method_7_code 52 = .ok (.ireturn, 1) := gd_6 db00c_58
theorem d_X10_combine_53 : decode prog_12_method_7_code 53 = .ok (.iload_n 1, 1) := gd_7 db00c_58
theorem d_X10_combine_54 : decode prog_12_method_7_code 54 = .ok (.i2l, 1) := gd_8 db00c_58
theorem d_X10_combine_55 : decode prog_12_method_7_code 55 = .ok (.iload_n 2, 1) := gd_9 db00c_58
theorem d_X10_combine_56 : decode prog_12_method_7_code 56 = .ok (.i2l, 1) := gd_10 db00c_58
theorem d_X10_combine_58 : decode prog_12_method_7_code 58 = .ok (.invokestatic 63, 3) := gd_11 db00c_58
theorem d_X10_combine_61 : decode prog_12_method_7_code 61 = .ok (.ireturn, 1) := gd_12 db00c_58
theorem d_X10_combine_62 : decode prog_12_method_7_code 62 = .ok (.iload_n 1, 1) := gd_13 db00c_58
theorem d_X10_combine_63 : decode prog_12_method_7_code 63 = .ok (.i2l, 1) := gd_14 db00c_58
theorem d_X10_combine_64 : decode prog_12_method_7_code 64 = .ok (.iload_n 2, 1) := gd_15 db00c_58
theorem d_X10_combine_65 : decode prog_12_method_7_code 65 = .ok (.i2l, 1) := gd_16 db00c_58
theorem d_X10_combine_67 : decode prog_12_method_7_code 67 = .ok (.invokestatic 63, 3) := gd_17 db00c_58
theorem d_X10_combine_70 : decode prog_12_method_7_code 70 = .ok (.ireturn, 1) := gd_18 db00c_58
theorem d_X10_combine_71 : decode prog_12_method_7_code 71 = .ok (.iload_n 1, 1) := gd_19 db00c_58
theorem d_X10_combine_72 : decode prog_12_method_7_code 72 = .ok (.iload_n 2, 1) := gd_20 db00c_58
theorem d_X10_combine_73 : decode prog_12_method_7_code 73 = .ok (.if_icmp .ne 7, 3) := gd_21 db00c_58
theorem d_X10_combine_76 : decode prog_12_method_7_code 76 = .ok (.iconst 1, 1) := gd_22 db00c_58
theorem d_X10_combine_77 : decode prog_12_method_7_code 77 = .ok (.goto 4, 3) := gd_23 db00c_58
theorem db00c_59 : Ad_ prog_12_method_7_code [(80, .iconst 0, 1), (81, .ireturn, 1), (82, .iload_n 1, 1), (83, .iload_n 2, 1), (84, .if_icmp .ge 7, 3), (87, .iconst 1, 1), (88, .goto 4, 3), (91, .iconst 0, 1), (92, .ireturn, 1), (93, .iload_n 1, 1), (94, .iload_n 2, 1), (95, .if_icmp .le 7, 3), (98, .iconst 1, 1), (99, .goto 4, 3), (102, .iconst 0, 1), (103, .ireturn, 1), (104, .iload_n 1, 1), (105, .iload_n 2, 1), (106, .iand, 1), (107, .ireturn, 1), (108, .iload_n 1, 1), (109, .iload_n 2, 1), (110, .ior, 1), (111, .ireturn, 1)] := bch_ok prog_12_method_7_code _ 80 (by decide +kernel)
theorem d_X10_combine_80 : decode prog_12_method_7_code 80 = .ok (.iconst 0, 1) := gd_0 db00c_59
theorem d_X10_combine_81 : decode prog_12_method_7_code 81 = .ok (.ireturn, 1) := gd_1 db00c_59
theorem d_X10_combine_82 : decode prog_12_method_7_code 82 = .ok (.iload_n 1, 1) := gd_2 db00c_59
theorem d_X10_combine_83 : decode prog_12_method_7_code 83 = .ok (.iload_n 2, 1) := gd_3 db00c_59
theorem d_X10_combine_84 : decode prog_12_method_7_code 84 = .ok (.if_icmp .ge 7, 3) := gd_4 db00c_59
theorem d_X10_combine_87 : decode prog_12_method_7_code 87 = .ok (.iconst 1, 1) := gd_5 db00c_59
theorem d_X10_combine_88 : decode prog_12_method_7_code 88 = .ok (.goto 4, 3) := gd_6 db00c_59
theorem d_X10_combine_91 : decode prog_12_method_7_code 91 = .ok (.iconst 0, 1) := gd_7 db00c_59
theorem d_X10_combine_92 : decode prog_12_method_7_code 92 = .ok (.ireturn, 1) := gd_8 db00c_59
theorem d_X10_combine_93 : decode prog_12_method_7_code 93 = .ok (.iload_n 1, 1) := gd_9 db00c_59
theorem d_X10_combine_94 : decode prog_12_method_7_code 94 = .ok (.iload_n 2, 1) := gd_10 db00c_59
theorem d_X10_combine_95 : decode prog_12_method_7_code 95 = .ok (.if_icmp .le 7, 3) := gd_11 db00c_59
theorem d_X10_combine_98 : decode prog_12_method_7_code 98 = .ok (.iconst 1, 1) := gd_12 db00c_59
theorem d_X10_combine_99 : decode prog_12_method_7_code 99 = .ok (.goto 4, 3) := gd_13 db00c_59
theorem d_X10_combine_102 : decode prog_12_method_7_code 102 = .ok (.iconst 0, 1) := gd_14 db00c_59
theorem d_X10_combine_103 : decode prog_12_method_7_code 103 = .ok (.ireturn, 1) := gd_15 db00c_59
theorem d_X10_combine_104 : decode prog_12_method_7_code 104 = .ok (.iload_n 1, 1) := gd_16 db00c_59
theorem d_X10_combine_105 : decode prog_12_method_7_code 105 = .ok (.iload_n 2, 1) := gd_17 db00c_59
theorem d_X10_combine_106 : decode prog_12_method_7_code 106 = .ok (.iand, 1) := gd_18 db00c_59
theorem d_X10_combine_107 : decode prog_12_method_7_code 107 = .ok (.ireturn, 1) := gd_19 db00c_59
theorem d_X10_combine_108 : decode prog_12_method_7_code 108 = .ok (.iload_n 1, 1) := gd_20 db00c_59
theorem d_X10_combine_109 : decode prog_12_method_7_code 109 = .ok (.iload_n 2, 1) := gd_21 db00c_59
theorem d_X10_combine_110 : decode prog_12_method_7_code 110 = .ok (.ior, 1) := gd_22 db00c_59
theorem d_X10_combine_111 : decode prog_12_method_7_code 111 = .ok (.ireturn, 1) := gd_23 db00c_59
theorem d_X10_bounded_1 : decode prog_12_method_8_code 1 = .ok (.ldc2_w 67, 3) := by decide +kernel
theorem d_X10_bounded_4 : decode prog_12_method_8_code 4 = .ok (.lcmp, 1) := by decide +kernel
theorem d_X10_bounded_14 : decode prog_12_method_8_code 14 = .ok (.ldc2_w 70, 3) := by decide +kernel
theorem d_X10_bounded_17 : decode prog_12_method_8_code 17 = .ok (.lcmp, 1) := by decide +kernel
theorem d_X10_bounded_27 : decode prog_12_method_8_code 27 = .ok (.l2i, 1) := by decide +kernel
theorem db00c_60 : Ad_ prog_12_method_8_code [(0, .lload_n 0, 1), (5, .ifCond .le 8, 3), (8, .ldc 69, 2), (10, .goto 18, 3), (13, .lload_n 0, 1), (18, .ifCond .ge 8, 3), (21, .ldc 72, 2), (23, .goto 5, 3), (26, .lload_n 0, 1), (28, .ireturn, 1)] := bch_ok prog_12_method_8_code _ 0 (by decide +kernel)
theorem d_X10_bounded_0 : decode prog_12_method_8_code 0 = .ok (.lload_n 0, 1) := gd_0 db00c_60
theorem d_X10_bounded_5 : decode prog_12_method_8_code 5 = .ok (.ifCond .le 8, 3) := gd_1 db00c_60
theorem d_X10_bounded_8 : decode prog_12_method_8_code 8 = .ok (.ldc 69, 2) := gd_2 db00c_60
theorem d_X10_bounded_10 : decode prog_12_method_8_code 10 = .ok (.goto 18, 3) := gd_3 db00c_60
theorem d_X10_bounded_13 : decode prog_12_method_8_code 13 = .ok (.lload_n 0, 1) := gd_4 db00c_60
theorem d_X10_bounded_18 : decode prog_12_method_8_code 18 = .ok (.ifCond .ge 8, 3) := gd_5 db00c_60
theorem d_X10_bounded_21 : decode prog_12_method_8_code 21 = .ok (.ldc 72, 2) := gd_6 db00c_60
theorem d_X10_bounded_23 : decode prog_12_method_8_code 23 = .ok (.goto 5, 3) := gd_7 db00c_60
theorem d_X10_bounded_26 : decode prog_12_method_8_code 26 = .ok (.lload_n 0, 1) := gd_8 db00c_60
theorem d_X10_bounded_28 : decode prog_12_method_8_code 28 = .ok (.ireturn, 1) := gd_9 db00c_60
theorem db00c_61 : Ad_ prog_1_method_1_code [(0, .aload_n 0, 1), (1, .invokespecial 1, 3), (4, .aload_n 0, 1), (5, .new 7, 3), (8, .dup, 1), (9, .invokespecial 9, 3), (12, .putfield 10, 3), (15, .aload_n 0, 1), (16, .new 16, 3), (19, .dup, 1), (20, .invokespecial 18, 3), (23, .putfield 19, 3), (26, .aload_n 0, 1), (27, .new 23, 3), (30, .dup, 1), (31, .invokespecial 25, 3), (34, .putfield 26, 3), (37, .aload_n 0, 1), (38, .new 30, 3), (41, .dup, 1), (42, .invokespecial 32, 3), (45, .putfield 33, 3), (48, .aload_n 0, 1), (49, .new 30, 3)] := bch_ok prog_1_method_1_code _ 0 (by decide +kernel)
theorem d_X11_init_0 : decode prog_1_method_1_code 0 = .ok (.aload_n 0, 1) := gd_0 db00c_61
theorem d_X11_init_1 : decode prog_1_method_1_code 1 = .ok (.invokespecial 1, 3) := gd_1 db00c_61
theorem d_X11_init_4 : decode prog_1_method_1_code 4 = .ok (.aload_n 0, 1) := gd_2 db00c_61
theorem d_X11_init_5 : decode prog_1_method_1_code 5 = .ok (.new 7, 3) := gd_3 db00c_61
theorem d_X11_init_8 : decode prog_1_method_1_code 8 = .ok (.dup, 1) := gd_4 db00c_61
theorem d_X11_init_9 : decode prog_1_method_1_code 9 = .ok (.invokespecial 9, 3) := gd_5 db00c_61
theorem d_X11_init_12 : decode prog_1_method_1_code 12 = .ok (.putfield 10, 3) := gd_6 db00c_61
theorem d_X11_init_15 : decode prog_1_method_1_code 15 = .ok (.aload_n 0, 1) := gd_7 db00c_61
theorem d_X11_init_16 : decode prog_1_method_1_code 16 = .ok (.new 16, 3) := gd_8 db00c_61
theorem d_X11_init_19 : decode prog_1_method_1_code 19 = .ok (.dup, 1) := gd_9 db00c_61
theorem d_X11_init_20 : decode prog_1_method_1_code 20 = .ok (.invokespecial 18, 3) := gd_10 db00c_61
theorem d_X11_init_23 : decode prog_1_method_1_code 23 = .ok (.putfield 19, 3) := gd_11 db00c_61
theorem d_X11_init_26 : decode prog_1_method_1_code 26 = .ok (.aload_n 0, 1) := gd_12 db00c_61
theorem d_X11_init_27 : decode prog_1_method_1_code 27 = .ok (.new 23, 3) := gd_13 db00c_61
theorem d_X11_init_30 : decode prog_1_method_1_code 30 = .ok (.dup, 1) := gd_14 db00c_61
theorem d_X11_init_31 : decode prog_1_method_1_code 31 = .ok (.invokespecial 25, 3) := gd_15 db00c_61
theorem d_X11_init_34 : decode prog_1_method_1_code 34 = .ok (.putfield 26, 3) := gd_16 db00c_61
theorem d_X11_init_37 : decode prog_1_method_1_code 37 = .ok (.aload_n 0, 1) := gd_17 db00c_61
theorem d_X11_init_38 : decode prog_1_method_1_code 38 = .ok (.new 30, 3) := gd_18 db00c_61
theorem d_X11_init_41 : decode prog_1_method_1_code 41 = .ok (.dup, 1) := gd_19 db00c_61
theorem d_X11_init_42 : decode prog_1_method_1_code 42 = .ok (.invokespecial 32, 3) := gd_20 db00c_61
theorem d_X11_init_45 : decode prog_1_method_1_code 45 = .ok (.putfield 33, 3) := gd_21 db00c_61
theorem d_X11_init_48 : decode prog_1_method_1_code 48 = .ok (.aload_n 0, 1) := gd_22 db00c_61
theorem d_X11_init_49 : decode prog_1_method_1_code 49 = .ok (.new 30, 3) := gd_23 db00c_61
theorem d_X11_init_62 : decode prog_1_method_1_code 62 = .ok (.anewarray 40, 3) := by decide +kernel
theorem db00c_62 : Ad_ prog_1_method_1_code [(52, .dup, 1), (53, .invokespecial 32, 3), (56, .putfield 37, 3), (59, .aload_n 0, 1), (60, .bipush 12, 2), (65, .putfield 42, 3), (68, .aload_n 0, 1), (69, .new 46, 3), (72, .dup, 1), (73, .invokespecial 48, 3), (76, .putfield 49, 3), (79, .aload_n 0, 1), (80, .new 53, 3), (83, .dup, 1), (84, .invokespecial 55, 3), (87, .putfield 56, 3), (90, .aload_n 0, 1), (91, .new 60, 3), (94, .dup, 1), (95, .invokespecial 62, 3), (98, .putfield 63, 3), (101, .aload_n 0, 1), (102, .new 67, 3), (105, .dup, 1)] := bch_ok prog_1_method_1_code _ 52 (by decide +kernel)
theorem d_X11_init_52 : decode prog_1_method_1_code 52 = .ok (.dup, 1) := gd_0 db00c_62
theorem d_X11_init_53 : decode prog_1_method_1_code 53 = .ok (.invokespecial 32, 3) := gd_1 db00c_62
theorem d_X11_init_56 : decode prog_1_method_1_code 56 = .ok (.putfield 37, 3) := gd_2 db00c_62
theorem d_X11_init_59 : decode prog_1_method_1_code 59 = .ok (.aload_n 0, 1) := gd_3 db00c_62
theorem d_X11_init_60 : decode prog_1_method_1_code 60 = .ok (.bipush 12, 2) := gd_4 db00c_62
theorem d_X11_init_65 : decode prog_1_method_1_code 65 = .ok (.putfield 42, 3) := gd_5 db00c_62
theorem d_X11_init_68 : decode prog_1_method_1_code 68 = .ok (.aload_n 0, 1) := gd_6 db00c_62
theorem d_X11_init_69 : decode prog_1_method_1_code 69 = .ok (.new 46, 3) := gd_7 db00c_62
theorem d_X11_init_72 : decode prog_1_method_1_code 72 = .ok (.dup, 1) := gd_8 db00c_62
theorem d_X11_init_73 : decode prog_1_method_1_code 73 = .ok (.invokespecial 48, 3) := gd_9 db00c_62
theorem d_X11_init_76 : decode prog_1_method_1_code 76 = .ok (.putfield 49, 3) := gd_10 db00c_62
theorem d_X11_init_79 : decode prog_1_method_1_code 79 = .ok (.aload_n 0, 1) := gd_11 db00c_62
theorem d_X11_init_80 : decode prog_1_method_1_code 80 = .ok (.new 53, 3) := gd_12 db00c_62
theorem d_X11_init_83 : decode prog_1_method_1_code 83 = .ok (.dup, 1) := gd_13 db00c_62
theorem d_X11_init_84 : decode prog_1_method_1_code 84 = .ok (.invokespecial 55, 3) := gd_14 db00c_62
theorem d_X11_init_87 : decode prog_1_method_1_code 87 = .ok (.putfield 56, 3) := gd_15 db00c_62
theorem d_X11_init_90 : decode prog_1_method_1_code 90 = .ok (.aload_n 0, 1) := gd_16 db00c_62
theorem d_X11_init_91 : decode prog_1_method_1_code 91 = .ok (.new 60, 3) := gd_17 db00c_62
theorem d_X11_init_94 : decode prog_1_method_1_code 94 = .ok (.dup, 1) := gd_18 db00c_62
theorem d_X11_init_95 : decode prog_1_method_1_code 95 = .ok (.invokespecial 62, 3) := gd_19 db00c_62
theorem d_X11_init_98 : decode prog_1_method_1_code 98 = .ok (.putfield 63, 3) := gd_20 db00c_62
theorem d_X11_init_101 : decode prog_1_method_1_code 101 = .ok (.aload_n 0, 1) := gd_21 db00c_62
theorem d_X11_init_102 : decode prog_1_method_1_code 102 = .ok (.new 67, 3) := gd_22 db00c_62
theorem d_X11_init_105 : decode prog_1_method_1_code 105 = .ok (.dup, 1) := gd_23 db00c_62
theorem d_X11_init_136 : decode prog_1_method_1_code 136 = .ok (.newarray .long, 2) := by decide +kernel
theorem db00c_63 : Ad_ prog_1_method_1_code [(106, .invokespecial 69, 3), (109, .putfield 70, 3), (112, .aload_n 0, 1), (113, .new 74, 3), (116, .dup, 1), (117, .invokespecial 76, 3), (120, .putfield 77, 3), (123, .aload_n 0, 1), (124, .new 81, 3), (127, .dup, 1), (128, .invokespecial 83, 3), (131, .putfield 84, 3), (134, .aload_n 0, 1), (135, .iconst 0, 1), (138, .putfield 88, 3), (141, .return_, 1)] := bch_ok prog_1_method_1_code _ 106 (by decide +kernel)
theorem d_X11_init_106 : decode prog_1_method_1_code 106 = .ok (.invokespecial 69, 3) := gd_0 db00c_63
theorem d_X11_init_109 : decode prog_1_method_1_code 109 = .ok (.putfield 70, 3) := gd_1 db00c_63
theorem d_X11_init_112 : decode prog_1_method_1_code 112 = .ok (.aload_n 0, 1) := gd_2 db00c_63
theorem d_X11_init_113 : decode prog_1_method_1_code 113 = .ok (.new 74, 3) := gd_3 db00c_63
theorem d_X11_init_116 : decode prog_1_method_1_code 116 = .ok (.dup, 1) := gd_4 db00c_63
theorem d_X11_init_117 : decode prog_1_method_1_code 117 = .ok (.invokespecial 76, 3) := gd_5 db00c_63
theorem d_X11_init_120 : decode prog_1_method_1_code 120 = .ok (.putfield 77, 3) := gd_6 db00c_63
theorem d_X11_init_123 : decode prog_1_method_1_code 123 = .ok (.aload_n 0, 1) := gd_7 db00c_63
theorem d_X11_init_124 : decode prog_1_method_1_code 124 = .ok (.new 81, 3) := gd_8 db00c_63
theorem d_X11_init_127 : decode prog_1_method_1_code 127 = .ok (.dup, 1) := gd_9 db00c_63
theorem d_X11_init_128 : decode prog_1_method_1_code 128 = .ok (.invokespecial 83, 3) := gd_10 db00c_63
theorem d_X11_init_131 : decode prog_1_method_1_code 131 = .ok (.putfield 84, 3) := gd_11 db00c_63
theorem d_X11_init_134 : decode prog_1_method_1_code 134 = .ok (.aload_n 0, 1) := gd_12 db00c_63
theorem d_X11_init_135 : decode prog_1_method_1_code 135 = .ok (.iconst 0, 1) := gd_13 db00c_63
theorem d_X11_init_138 : decode prog_1_method_1_code 138 = .ok (.putfield 88, 3) := gd_14 db00c_63
theorem d_X11_init_141 : decode prog_1_method_1_code 141 = .ok (.return_, 1) := gd_15 db00c_63
theorem db00c_64 : Ad_ prog_1_method_2_code [(0, .iload_n 0, 1), (1, .iload_n 1, 1), (2, .if_icmp .lt 12, 3), (5, .iload_n 0, 1), (6, .iload_n 2, 1), (7, .if_icmp .gt 7, 3), (10, .iconst 1, 1), (11, .goto 4, 3), (14, .iconst 0, 1), (15, .ireturn, 1)] := bch_ok prog_1_method_2_code _ 0 (by decide +kernel)
theorem d_X11_within_0 : decode prog_1_method_2_code 0 = .ok (.iload_n 0, 1) := gd_0 db00c_64
theorem d_X11_within_1 : decode prog_1_method_2_code 1 = .ok (.iload_n 1, 1) := gd_1 db00c_64
theorem d_X11_within_2 : decode prog_1_method_2_code 2 = .ok (.if_icmp .lt 12, 3) := gd_2 db00c_64
theorem d_X11_within_5 : decode prog_1_method_2_code 5 = .ok (.iload_n 0, 1) := gd_3 db00c_64
theorem d_X11_within_6 : decode prog_1_method_2_code 6 = .ok (.iload_n 2, 1) := gd_4 db00c_64
theorem d_X11_within_7 : decode prog_1_method_2_code 7 = .ok (.if_icmp .gt 7, 3) := gd_5 db00c_64
theorem d_X11_within_10 : decode prog_1_method_2_code 10 = .ok (.iconst 1, 1) := gd_6 db00c_64
theorem d_X11_within_11 : decode prog_1_method_2_code 11 = .ok (.goto 4, 3) := gd_7 db00c_64
theorem d_X11_within_14 : decode prog_1_method_2_code 14 = .ok (.iconst 0, 1) := gd_8 db00c_64
theorem d_X11_within_15 : decode prog_1_method_2_code 15 = .ok (.ireturn, 1) := gd_9 db00c_64
theorem db00c_65 : Ad_ prog_1_method_3_code [(0, .iload_n 0, 1), (1, .ifCond .lt 13, 3), (4, .iload_n 0, 1), (5, .bipush 16, 2), (7, .if_icmp .ge 7, 3), (10, .iconst 1, 1), (11, .goto 4, 3), (14, .iconst 0, 1), (15, .ireturn, 1)] := bch_ok prog_1_method_3_code _ 0 (by decide +kernel)
theorem d_X11_isPlace_0 : decode prog_1_method_3_code 0 = .ok (.iload_n 0, 1) := gd_0 db00c_65
theorem d_X11_isPlace_1 : decode prog_1_method_3_code 1 = .ok (.ifCond .lt 13, 3) := gd_1 db00c_65
theorem d_X11_isPlace_4 : decode prog_1_method_3_code 4 = .ok (.iload_n 0, 1) := gd_2 db00c_65
theorem d_X11_isPlace_5 : decode prog_1_method_3_code 5 = .ok (.bipush 16, 2) := gd_3 db00c_65
theorem d_X11_isPlace_7 : decode prog_1_method_3_code 7 = .ok (.if_icmp .ge 7, 3) := gd_4 db00c_65
theorem d_X11_isPlace_10 : decode prog_1_method_3_code 10 = .ok (.iconst 1, 1) := gd_5 db00c_65
theorem d_X11_isPlace_11 : decode prog_1_method_3_code 11 = .ok (.goto 4, 3) := gd_6 db00c_65
theorem d_X11_isPlace_14 : decode prog_1_method_3_code 14 = .ok (.iconst 0, 1) := gd_7 db00c_65
theorem d_X11_isPlace_15 : decode prog_1_method_3_code 15 = .ok (.ireturn, 1) := gd_8 db00c_65
theorem db00c_66 : Ad_ prog_1_method_4_code [(0, .iload_n 1, 1), (1, .iconst 0, 1), (2, .aload_n 0, 1), (3, .getfield 92, 3), (6, .invokestatic 96, 3), (9, .ireturn, 1)] := bch_ok prog_1_method_4_code _ 0 (by decide +kernel)
theorem d_X11_isKnown_0 : decode prog_1_method_4_code 0 = .ok (.iload_n 1, 1) := gd_0 db00c_66
theorem d_X11_isKnown_1 : decode prog_1_method_4_code 1 = .ok (.iconst 0, 1) := gd_1 db00c_66
theorem d_X11_isKnown_2 : decode prog_1_method_4_code 2 = .ok (.aload_n 0, 1) := gd_2 db00c_66
theorem d_X11_isKnown_3 : decode prog_1_method_4_code 3 = .ok (.getfield 92, 3) := gd_3 db00c_66
theorem d_X11_isKnown_6 : decode prog_1_method_4_code 6 = .ok (.invokestatic 96, 3) := gd_4 db00c_66
theorem d_X11_isKnown_9 : decode prog_1_method_4_code 9 = .ok (.ireturn, 1) := gd_5 db00c_66
theorem db00c_67 : Ad_ prog_1_method_5_code [(0, .aload_n 0, 1), (1, .iload_n 1, 1), (2, .invokevirtual 100, 3), (5, .ifnull 7, 3), (8, .iconst 1, 1), (9, .goto 4, 3), (12, .iconst 0, 1), (13, .ireturn, 1)] := bch_ok prog_1_method_5_code _ 0 (by decide +kernel)
theorem d_X11_isMan_0 : decode prog_1_method_5_code 0 = .ok (.aload_n 0, 1) := gd_0 db00c_67
theorem d_X11_isMan_1 : decode prog_1_method_5_code 1 = .ok (.iload_n 1, 1) := gd_1 db00c_67
theorem d_X11_isMan_2 : decode prog_1_method_5_code 2 = .ok (.invokevirtual 100, 3) := gd_2 db00c_67
theorem d_X11_isMan_5 : decode prog_1_method_5_code 5 = .ok (.ifnull 7, 3) := gd_3 db00c_67
theorem d_X11_isMan_8 : decode prog_1_method_5_code 8 = .ok (.iconst 1, 1) := gd_4 db00c_67
theorem d_X11_isMan_9 : decode prog_1_method_5_code 9 = .ok (.goto 4, 3) := gd_5 db00c_67
theorem d_X11_isMan_12 : decode prog_1_method_5_code 12 = .ok (.iconst 0, 1) := gd_6 db00c_67
theorem d_X11_isMan_13 : decode prog_1_method_5_code 13 = .ok (.ireturn, 1) := gd_7 db00c_67
theorem d_X11_manOf_19 : decode prog_1_method_6_code 19 = .ok (.aaload, 1) := by decide +kernel
theorem d_X11_manOf_23 : decode prog_1_method_6_code 23 = .ok (.aconst_null, 1) := by decide +kernel
theorem d_X11_manOf_24 : decode prog_1_method_6_code 24 = .ok (.areturn, 1) := by decide +kernel
theorem db00c_68 : Ad_ prog_1_method_6_code [(0, .iload_n 1, 1), (1, .iconst 0, 1), (2, .aload_n 0, 1), (3, .getfield 104, 3), (6, .iconst 1, 1), (7, .isub, 1), (8, .invokestatic 96, 3), (11, .ifCond .eq 12, 3), (14, .aload_n 0, 1), (15, .getfield 42, 3), (18, .iload_n 1, 1), (20, .goto 4, 3)] := bch_ok prog_1_method_6_code _ 0 (by decide +kernel)
theorem d_X11_manOf_0 : decode prog_1_method_6_code 0 = .ok (.iload_n 1, 1) := gd_0 db00c_68
theorem d_X11_manOf_1 : decode prog_1_method_6_code 1 = .ok (.iconst 0, 1) := gd_1 db00c_68
theorem d_X11_manOf_2 : decode prog_1_method_6_code 2 = .ok (.aload_n 0, 1) := gd_2 db00c_68
theorem d_X11_manOf_3 : decode prog_1_method_6_code 3 = .ok (.getfield 104, 3) := gd_3 db00c_68
theorem d_X11_manOf_6 : decode prog_1_method_6_code 6 = .ok (.iconst 1, 1) := gd_4 db00c_68
theorem d_X11_manOf_7 : decode prog_1_method_6_code 7 = .ok (.isub, 1) := gd_5 db00c_68
theorem d_X11_manOf_8 : decode prog_1_method_6_code 8 = .ok (.invokestatic 96, 3) := gd_6 db00c_68
theorem d_X11_manOf_11 : decode prog_1_method_6_code 11 = .ok (.ifCond .eq 12, 3) := gd_7 db00c_68
theorem d_X11_manOf_14 : decode prog_1_method_6_code 14 = .ok (.aload_n 0, 1) := gd_8 db00c_68
theorem d_X11_manOf_15 : decode prog_1_method_6_code 15 = .ok (.getfield 42, 3) := gd_9 db00c_68
theorem d_X11_manOf_18 : decode prog_1_method_6_code 18 = .ok (.iload_n 1, 1) := gd_10 db00c_68
theorem d_X11_manOf_20 : decode prog_1_method_6_code 20 = .ok (.goto 4, 3) := gd_11 db00c_68
theorem db00c_69 : Ad_ prog_1_method_7_code [(0, .iload_n 1, 1), (1, .invokestatic 107, 3), (4, .ifCond .eq 25, 3), (7, .iload_n 2, 1), (8, .invokestatic 107, 3), (11, .ifCond .eq 18, 3), (14, .iload_n 1, 1), (15, .iload_n 2, 1), (16, .if_icmp .eq 13, 3), (19, .iload_n 3, 1), (20, .iconst 1, 1), (21, .bipush 60, 2), (23, .invokestatic 96, 3), (26, .ifCond .ne 5, 3), (29, .iconst (-1), 1), (30, .ireturn, 1), (31, .aload_n 0, 1), (32, .getfield 10, 3), (35, .iload_n 1, 1), (36, .iload_n 2, 1), (37, .iload_n 3, 1), (38, .invokevirtual 111, 3), (41, .ireturn, 1)] := bch_ok prog_1_method_7_code _ 0 (by decide +kernel)
theorem d_X11_path_0 : decode prog_1_method_7_code 0 = .ok (.iload_n 1, 1) := gd_0 db00c_69
theorem d_X11_path_1 : decode prog_1_method_7_code 1 = .ok (.invokestatic 107, 3) := gd_1 db00c_69
theorem d_X11_path_4 : decode prog_1_method_7_code 4 = .ok (.ifCond .eq 25, 3) := gd_2 db00c_69
theorem d_X11_path_7 : decode prog_1_method_7_code 7 = .ok (.iload_n 2, 1) := gd_3 db00c_69
theorem d_X11_path_8 : decode prog_1_method_7_code 8 = .ok (.invokestatic 107, 3) := gd_4 db00c_69
theorem d_X11_path_11 : decode prog_1_method_7_code 11 = .ok (.ifCond .eq 18, 3) := gd_5 db00c_69
theorem d_X11_path_14 : decode prog_1_method_7_code 14 = .ok (.iload_n 1, 1) := gd_6 db00c_69
theorem d_X11_path_15 : decode prog_1_method_7_code 15 = .ok (.iload_n 2, 1) := gd_7 db00c_69
theorem d_X11_path_16 : decode prog_1_method_7_code 16 = .ok (.if_icmp .eq 13, 3) := gd_8 db00c_69
theorem d_X11_path_19 : decode prog_1_method_7_code 19 = .ok (.iload_n 3, 1) := gd_9 db00c_69
theorem d_X11_path_20 : decode prog_1_method_7_code 20 = .ok (.iconst 1, 1) := gd_10 db00c_69
theorem d_X11_path_21 : decode prog_1_method_7_code 21 = .ok (.bipush 60, 2) := gd_11 db00c_69
theorem d_X11_path_23 : decode prog_1_method_7_code 23 = .ok (.invokestatic 96, 3) := gd_12 db00c_69
theorem d_X11_path_26 : decode prog_1_method_7_code 26 = .ok (.ifCond .ne 5, 3) := gd_13 db00c_69
theorem d_X11_path_29 : decode prog_1_method_7_code 29 = .ok (.iconst (-1), 1) := gd_14 db00c_69
theorem d_X11_path_30 : decode prog_1_method_7_code 30 = .ok (.ireturn, 1) := gd_15 db00c_69
theorem d_X11_path_31 : decode prog_1_method_7_code 31 = .ok (.aload_n 0, 1) := gd_16 db00c_69
theorem d_X11_path_32 : decode prog_1_method_7_code 32 = .ok (.getfield 10, 3) := gd_17 db00c_69
theorem d_X11_path_35 : decode prog_1_method_7_code 35 = .ok (.iload_n 1, 1) := gd_18 db00c_69
theorem d_X11_path_36 : decode prog_1_method_7_code 36 = .ok (.iload_n 2, 1) := gd_19 db00c_69
theorem d_X11_path_37 : decode prog_1_method_7_code 37 = .ok (.iload_n 3, 1) := gd_20 db00c_69
theorem d_X11_path_38 : decode prog_1_method_7_code 38 = .ok (.invokevirtual 111, 3) := gd_21 db00c_69
theorem d_X11_path_41 : decode prog_1_method_7_code 41 = .ok (.ireturn, 1) := gd_22 db00c_69
theorem db00c_70 : Ad_ prog_1_method_8_code [(0, .iload_n 1, 1), (1, .invokestatic 107, 3), (4, .ifCond .eq 22, 3), (7, .iload_n 2, 1), (8, .invokestatic 107, 3), (11, .ifCond .eq 15, 3), (14, .aload_n 0, 1), (15, .getfield 10, 3), (18, .iload_n 1, 1), (19, .iload_n 2, 1), (20, .invokevirtual 115, 3), (23, .goto 4, 3), (26, .iconst (-1), 1), (27, .ireturn, 1)] := bch_ok prog_1_method_8_code _ 0 (by decide +kernel)
theorem d_X11_walk_0 : decode prog_1_method_8_code 0 = .ok (.iload_n 1, 1) := gd_0 db00c_70
theorem d_X11_walk_1 : decode prog_1_method_8_code 1 = .ok (.invokestatic 107, 3) := gd_1 db00c_70
theorem d_X11_walk_4 : decode prog_1_method_8_code 4 = .ok (.ifCond .eq 22, 3) := gd_2 db00c_70
theorem d_X11_walk_7 : decode prog_1_method_8_code 7 = .ok (.iload_n 2, 1) := gd_3 db00c_70
theorem d_X11_walk_8 : decode prog_1_method_8_code 8 = .ok (.invokestatic 107, 3) := gd_4 db00c_70
theorem d_X11_walk_11 : decode prog_1_method_8_code 11 = .ok (.ifCond .eq 15, 3) := gd_5 db00c_70
theorem d_X11_walk_14 : decode prog_1_method_8_code 14 = .ok (.aload_n 0, 1) := gd_6 db00c_70
theorem d_X11_walk_15 : decode prog_1_method_8_code 15 = .ok (.getfield 10, 3) := gd_7 db00c_70
theorem d_X11_walk_18 : decode prog_1_method_8_code 18 = .ok (.iload_n 1, 1) := gd_8 db00c_70
theorem d_X11_walk_19 : decode prog_1_method_8_code 19 = .ok (.iload_n 2, 1) := gd_9 db00c_70
theorem d_X11_walk_20 : decode prog_1_method_8_code 20 = .ok (.invokevirtual 115, 3) := gd_10 db00c_70
theorem d_X11_walk_23 : decode prog_1_method_8_code 23 = .ok (.goto 4, 3) := gd_11 db00c_70
theorem d_X11_walk_26 : decode prog_1_method_8_code 26 = .ok (.iconst (-1), 1) := gd_12 db00c_70
theorem d_X11_walk_27 : decode prog_1_method_8_code 27 = .ok (.ireturn, 1) := gd_13 db00c_70
theorem db00c_71 : Ad_ prog_1_method_9_code [(0, .iload_n 1, 1), (1, .iconst 1, 1), (2, .iconst 4, 1), (3, .invokestatic 96, 3), (6, .ifCond .eq 24, 3), (9, .iload_n 2, 1), (10, .iconst 0, 1), (11, .bipush 40, 2), (13, .invokestatic 96, 3), (16, .ifCond .eq 14, 3), (19, .iload_n 3, 1), (20, .invokestatic 107, 3), (23, .ifCond .eq 7, 3), (26, .iconst 1, 1), (27, .goto 4, 3), (30, .iconst 0, 1), (31, .istore 4, 2), (33, .iload 4, 2), (35, .ifCond .eq 12, 3), (38, .aload_n 0, 1), (39, .getfield 104, 3), (42, .bipush 12, 2), (44, .if_icmp .lt 5, 3), (47, .iconst (-1), 1)] := bch_ok prog_1_method_9_code _ 0 (by decide +kernel)
theorem d_X11_constable_0 : decode prog_1_method_9_code 0 = .ok (.iload_n 1, 1) := gd_0 db00c_71
theorem d_X11_constable_1 : decode prog_1_method_9_code 1 = .ok (.iconst 1, 1) := gd_1 db00c_71
theorem d_X11_constable_2 : decode prog_1_method_9_code 2 = .ok (.iconst 4, 1) := gd_2 db00c_71
theorem d_X11_constable_3 : decode prog_1_method_9_code 3 = .ok (.invokestatic 96, 3) := gd_3 db00c_71
theorem d_X11_constable_6 : decode prog_1_method_9_code 6 = .ok (.ifCond .eq 24, 3) := gd_4 db00c_71
theorem d_X11_constable_9 : decode prog_1_method_9_code 9 = .ok (.iload_n 2, 1) := gd_5 db00c_71
theorem d_X11_constable_10 : decode prog_1_method_9_code 10 = .ok (.iconst 0, 1) := gd_6 db00c_71
theorem d_X11_constable_11 : decode prog_1_method_9_code 11 = .ok (.bipush 40, 2) := gd_7 db00c_71
theorem d_X11_constable_13 : decode prog_1_method_9_code 13 = .ok (.invokestatic 96, 3) := gd_8 db00c_71
theorem d_X11_constable_16 : decode prog_1_method_9_code 16 = .ok (.ifCond .eq 14, 3) := gd_9 db00c_71
theorem d_X11_constable_19 : decode prog_1_method_9_code 19 = .ok (.iload_n 3, 1) := gd_10 db00c_71
theorem d_X11_constable_20 : decode prog_1_method_9_code 20 = .ok (.invokestatic 107, 3) := gd_11 db00c_71
theorem d_X11_constable_23 : decode prog_1_method_9_code 23 = .ok (.ifCond .eq 7, 3) := gd_12 db00c_71
theorem d_X11_constable_26 : decode prog_1_method_9_code 26 = .ok (.iconst 1, 1) := gd_13 db00c_71
theorem d_X11_constable_27 : decode prog_1_method_9_code 27 = .ok (.goto 4, 3) := gd_14 db00c_71
theorem d_X11_constable_30 : decode prog_1_method_9_code 30 = .ok (.iconst 0, 1) := gd_15 db00c_71
theorem d_X11_constable_31 : decode prog_1_method_9_code 31 = .ok (.istore 4, 2) := gd_16 db00c_71
theorem d_X11_constable_33 : decode prog_1_method_9_code 33 = .ok (.iload 4, 2) := gd_17 db00c_71
theorem d_X11_constable_35 : decode prog_1_method_9_code 35 = .ok (.ifCond .eq 12, 3) := gd_18 db00c_71
theorem d_X11_constable_38 : decode prog_1_method_9_code 38 = .ok (.aload_n 0, 1) := gd_19 db00c_71
theorem d_X11_constable_39 : decode prog_1_method_9_code 39 = .ok (.getfield 104, 3) := gd_20 db00c_71
theorem d_X11_constable_42 : decode prog_1_method_9_code 42 = .ok (.bipush 12, 2) := gd_21 db00c_71
theorem d_X11_constable_44 : decode prog_1_method_9_code 44 = .ok (.if_icmp .lt 5, 3) := gd_22 db00c_71
theorem d_X11_constable_47 : decode prog_1_method_9_code 47 = .ok (.iconst (-1), 1) := gd_23 db00c_71
theorem d_X11_constable_63 : decode prog_1_method_9_code 63 = .ok (.astore 5, 2) := by decide +kernel
theorem d_X11_constable_75 : decode prog_1_method_9_code 75 = .ok (.aastore, 1) := by decide +kernel
theorem db00c_72 : Ad_ prog_1_method_9_code [(48, .ireturn, 1), (49, .new 40, 3), (52, .dup, 1), (53, .aload_n 0, 1), (54, .getfield 104, 3), (57, .iload_n 1, 1), (58, .iload_n 2, 1), (59, .iload_n 3, 1), (60, .invokespecial 119, 3), (65, .aload_n 0, 1), (66, .getfield 42, 3), (69, .aload_n 0, 1), (70, .getfield 104, 3), (73, .aload 5, 2), (76, .aload_n 0, 1), (77, .dup, 1), (78, .getfield 104, 3), (81, .iconst 1, 1), (82, .iadd, 1), (83, .putfield 104, 3), (86, .aload_n 0, 1), (87, .aload 5, 2), (89, .iload_n 3, 1), (90, .invokevirtual 122, 3)] := bch_ok prog_1_method_9_code _ 48 (by decide +kernel)
theorem d_X11_constable_48 : decode prog_1_method_9_code 48 = .ok (.ireturn, 1) := gd_0 db00c_72
theorem d_X11_constable_49 : decode prog_1_method_9_code 49 = .ok (.new 40, 3) := gd_1 db00c_72
theorem d_X11_constable_52 : decode prog_1_method_9_code 52 = .ok (.dup, 1) := gd_2 db00c_72
theorem d_X11_constable_53 : decode prog_1_method_9_code 53 = .ok (.aload_n 0, 1) := gd_3 db00c_72
theorem d_X11_constable_54 : decode prog_1_method_9_code 54 = .ok (.getfield 104, 3) := gd_4 db00c_72
theorem d_X11_constable_57 : decode prog_1_method_9_code 57 = .ok (.iload_n 1, 1) := gd_5 db00c_72
theorem d_X11_constable_58 : decode prog_1_method_9_code 58 = .ok (.iload_n 2, 1) := gd_6 db00c_72
theorem d_X11_constable_59 : decode prog_1_method_9_code 59 = .ok (.iload_n 3, 1) := gd_7 db00c_72
theorem d_X11_constable_60 : decode prog_1_method_9_code 60 = .ok (.invokespecial 119, 3) := gd_8 db00c_72
theorem d_X11_constable_65 : decode prog_1_method_9_code 65 = .ok (.aload_n 0, 1) := gd_9 db00c_72
theorem d_X11_constable_66 : decode prog_1_method_9_code 66 = .ok (.getfield 42, 3) := gd_10 db00c_72
theorem d_X11_constable_69 : decode prog_1_method_9_code 69 = .ok (.aload_n 0, 1) := gd_11 db00c_72
theorem d_X11_constable_70 : decode prog_1_method_9_code 70 = .ok (.getfield 104, 3) := gd_12 db00c_72
theorem d_X11_constable_73 : decode prog_1_method_9_code 73 = .ok (.aload 5, 2) := gd_13 db00c_72
theorem d_X11_constable_76 : decode prog_1_method_9_code 76 = .ok (.aload_n 0, 1) := gd_14 db00c_72
theorem d_X11_constable_77 : decode prog_1_method_9_code 77 = .ok (.dup, 1) := gd_15 db00c_72
theorem d_X11_constable_78 : decode prog_1_method_9_code 78 = .ok (.getfield 104, 3) := gd_16 db00c_72
theorem d_X11_constable_81 : decode prog_1_method_9_code 81 = .ok (.iconst 1, 1) := gd_17 db00c_72
theorem d_X11_constable_82 : decode prog_1_method_9_code 82 = .ok (.iadd, 1) := gd_18 db00c_72
theorem d_X11_constable_83 : decode prog_1_method_9_code 83 = .ok (.putfield 104, 3) := gd_19 db00c_72
theorem d_X11_constable_86 : decode prog_1_method_9_code 86 = .ok (.aload_n 0, 1) := gd_20 db00c_72
theorem d_X11_constable_87 : decode prog_1_method_9_code 87 = .ok (.aload 5, 2) := gd_21 db00c_72
theorem d_X11_constable_89 : decode prog_1_method_9_code 89 = .ok (.iload_n 3, 1) := gd_22 db00c_72
theorem d_X11_constable_90 : decode prog_1_method_9_code 90 = .ok (.invokevirtual 122, 3) := gd_23 db00c_72
theorem db00c_73 : Ad_ prog_1_method_9_code [(93, .aload 5, 2), (95, .getfield 126, 3), (98, .ireturn, 1)] := bch_ok prog_1_method_9_code _ 93 (by decide +kernel)
theorem d_X11_constable_93 : decode prog_1_method_9_code 93 = .ok (.aload 5, 2) := gd_0 db00c_73
theorem d_X11_constable_95 : decode prog_1_method_9_code 95 = .ok (.getfield 126, 3) := gd_1 db00c_73
theorem d_X11_constable_98 : decode prog_1_method_9_code 98 = .ok (.ireturn, 1) := gd_2 db00c_73
theorem db00c_74 : Ad_ prog_1_method_10_code [(0, .aload_n 0, 1), (1, .getfield 19, 3), (4, .iload_n 1, 1), (5, .iload_n 2, 1), (6, .iload_n 3, 1), (7, .iload 4, 2), (9, .iload 5, 2), (11, .invokevirtual 129, 3), (14, .ireturn, 1)] := bch_ok prog_1_method_10_code _ 0 (by decide +kernel)
theorem d_X11_feed_0 : decode prog_1_method_10_code 0 = .ok (.aload_n 0, 1) := gd_0 db00c_74
theorem d_X11_feed_1 : decode prog_1_method_10_code 1 = .ok (.getfield 19, 3) := gd_1 db00c_74
theorem d_X11_feed_4 : decode prog_1_method_10_code 4 = .ok (.iload_n 1, 1) := gd_2 db00c_74
theorem d_X11_feed_5 : decode prog_1_method_10_code 5 = .ok (.iload_n 2, 1) := gd_3 db00c_74
theorem d_X11_feed_6 : decode prog_1_method_10_code 6 = .ok (.iload_n 3, 1) := gd_4 db00c_74
theorem d_X11_feed_7 : decode prog_1_method_10_code 7 = .ok (.iload 4, 2) := gd_5 db00c_74
theorem d_X11_feed_9 : decode prog_1_method_10_code 9 = .ok (.iload 5, 2) := gd_6 db00c_74
theorem d_X11_feed_11 : decode prog_1_method_10_code 11 = .ok (.invokevirtual 129, 3) := gd_7 db00c_74
theorem d_X11_feed_14 : decode prog_1_method_10_code 14 = .ok (.ireturn, 1) := gd_8 db00c_74
theorem db00c_75 : Ad_ prog_1_method_11_code [(0, .aload_n 0, 1), (1, .getfield 19, 3), (4, .iload_n 1, 1), (5, .invokevirtual 133, 3), (8, .ireturn, 1)] := bch_ok prog_1_method_11_code _ 0 (by decide +kernel)
theorem d_X11_end_0 : decode prog_1_method_11_code 0 = .ok (.aload_n 0, 1) := gd_0 db00c_75
theorem d_X11_end_1 : decode prog_1_method_11_code 1 = .ok (.getfield 19, 3) := gd_1 db00c_75
theorem d_X11_end_4 : decode prog_1_method_11_code 4 = .ok (.iload_n 1, 1) := gd_2 db00c_75
theorem d_X11_end_5 : decode prog_1_method_11_code 5 = .ok (.invokevirtual 133, 3) := gd_3 db00c_75
theorem d_X11_end_8 : decode prog_1_method_11_code 8 = .ok (.ireturn, 1) := gd_4 db00c_75
theorem d_X11_fault_1 : decode prog_1_method_12_code 1 = .ok (.tableswitch 53 0 2 #[27, 35, 44], 27) := by decide +kernel
theorem db00c_76 : Ad_ prog_1_method_12_code [(0, .iload_n 1, 1), (28, .aload_n 0, 1), (29, .getfield 19, 3), (32, .invokevirtual 136, 3), (35, .ireturn, 1), (36, .aload_n 0, 1), (37, .getfield 19, 3), (40, .iconst 1, 1), (41, .invokevirtual 140, 3), (44, .ireturn, 1), (45, .aload_n 0, 1), (46, .getfield 19, 3), (49, .iconst 0, 1), (50, .invokevirtual 140, 3), (53, .ireturn, 1), (54, .bipush (-2), 2), (56, .ireturn, 1)] := bch_ok prog_1_method_12_code _ 0 (by decide +kernel)
theorem d_X11_fault_0 : decode prog_1_method_12_code 0 = .ok (.iload_n 1, 1) := gd_0 db00c_76
theorem d_X11_fault_28 : decode prog_1_method_12_code 28 = .ok (.aload_n 0, 1) := gd_1 db00c_76
theorem d_X11_fault_29 : decode prog_1_method_12_code 29 = .ok (.getfield 19, 3) := gd_2 db00c_76
theorem d_X11_fault_32 : decode prog_1_method_12_code 32 = .ok (.invokevirtual 136, 3) := gd_3 db00c_76
theorem d_X11_fault_35 : decode prog_1_method_12_code 35 = .ok (.ireturn, 1) := gd_4 db00c_76
theorem d_X11_fault_36 : decode prog_1_method_12_code 36 = .ok (.aload_n 0, 1) := gd_5 db00c_76
theorem d_X11_fault_37 : decode prog_1_method_12_code 37 = .ok (.getfield 19, 3) := gd_6 db00c_76
theorem d_X11_fault_40 : decode prog_1_method_12_code 40 = .ok (.iconst 1, 1) := gd_7 db00c_76
theorem d_X11_fault_41 : decode prog_1_method_12_code 41 = .ok (.invokevirtual 140, 3) := gd_8 db00c_76
theorem d_X11_fault_44 : decode prog_1_method_12_code 44 = .ok (.ireturn, 1) := gd_9 db00c_76
theorem d_X11_fault_45 : decode prog_1_method_12_code 45 = .ok (.aload_n 0, 1) := gd_10 db00c_76
theorem d_X11_fault_46 : decode prog_1_method_12_code 46 = .ok (.getfield 19, 3) := gd_11 db00c_76
theorem d_X11_fault_49 : decode prog_1_method_12_code 49 = .ok (.iconst 0, 1) := gd_12 db00c_76
theorem d_X11_fault_50 : decode prog_1_method_12_code 50 = .ok (.invokevirtual 140, 3) := gd_13 db00c_76
theorem d_X11_fault_53 : decode prog_1_method_12_code 53 = .ok (.ireturn, 1) := gd_14 db00c_76
theorem d_X11_fault_54 : decode prog_1_method_12_code 54 = .ok (.bipush (-2), 2) := gd_15 db00c_76
theorem d_X11_fault_56 : decode prog_1_method_12_code 56 = .ok (.ireturn, 1) := gd_16 db00c_76
theorem db00c_77 : Ad_ prog_1_method_13_code [(0, .aload_n 0, 1), (1, .getfield 19, 3), (4, .invokevirtual 136, 3), (7, .iconst (-1), 1), (8, .if_icmp .eq 5, 3), (11, .iconst (-1), 1), (12, .ireturn, 1), (13, .aload_n 0, 1), (14, .getfield 26, 3), (17, .aload_n 0, 1), (18, .getfield 19, 3), (21, .invokevirtual 144, 3), (24, .istore_n 1, 1), (25, .iload_n 1, 1), (26, .iconst (-1), 1), (27, .if_icmp .eq 12, 3), (30, .aload_n 0, 1), (31, .getfield 19, 3), (34, .iconst 0, 1), (35, .invokevirtual 133, 3), (38, .pop, 1), (39, .iload_n 1, 1), (40, .ireturn, 1)] := bch_ok prog_1_method_13_code _ 0 (by decide +kernel)
theorem d_X11_beat_0 : decode prog_1_method_13_code 0 = .ok (.aload_n 0, 1) := gd_0 db00c_77
theorem d_X11_beat_1 : decode prog_1_method_13_code 1 = .ok (.getfield 19, 3) := gd_1 db00c_77
theorem d_X11_beat_4 : decode prog_1_method_13_code 4 = .ok (.invokevirtual 136, 3) := gd_2 db00c_77
theorem d_X11_beat_7 : decode prog_1_method_13_code 7 = .ok (.iconst (-1), 1) := gd_3 db00c_77
theorem d_X11_beat_8 : decode prog_1_method_13_code 8 = .ok (.if_icmp .eq 5, 3) := gd_4 db00c_77
theorem d_X11_beat_11 : decode prog_1_method_13_code 11 = .ok (.iconst (-1), 1) := gd_5 db00c_77
theorem d_X11_beat_12 : decode prog_1_method_13_code 12 = .ok (.ireturn, 1) := gd_6 db00c_77
theorem d_X11_beat_13 : decode prog_1_method_13_code 13 = .ok (.aload_n 0, 1) := gd_7 db00c_77
theorem d_X11_beat_14 : decode prog_1_method_13_code 14 = .ok (.getfield 26, 3) := gd_8 db00c_77
theorem d_X11_beat_17 : decode prog_1_method_13_code 17 = .ok (.aload_n 0, 1) := gd_9 db00c_77
theorem d_X11_beat_18 : decode prog_1_method_13_code 18 = .ok (.getfield 19, 3) := gd_10 db00c_77
theorem d_X11_beat_21 : decode prog_1_method_13_code 21 = .ok (.invokevirtual 144, 3) := gd_11 db00c_77
theorem d_X11_beat_24 : decode prog_1_method_13_code 24 = .ok (.istore_n 1, 1) := gd_12 db00c_77
theorem d_X11_beat_25 : decode prog_1_method_13_code 25 = .ok (.iload_n 1, 1) := gd_13 db00c_77
theorem d_X11_beat_26 : decode prog_1_method_13_code 26 = .ok (.iconst (-1), 1) := gd_14 db00c_77
theorem d_X11_beat_27 : decode prog_1_method_13_code 27 = .ok (.if_icmp .eq 12, 3) := gd_15 db00c_77
theorem d_X11_beat_30 : decode prog_1_method_13_code 30 = .ok (.aload_n 0, 1) := gd_16 db00c_77
theorem d_X11_beat_31 : decode prog_1_method_13_code 31 = .ok (.getfield 19, 3) := gd_17 db00c_77
theorem d_X11_beat_34 : decode prog_1_method_13_code 34 = .ok (.iconst 0, 1) := gd_18 db00c_77
theorem d_X11_beat_35 : decode prog_1_method_13_code 35 = .ok (.invokevirtual 133, 3) := gd_19 db00c_77
theorem d_X11_beat_38 : decode prog_1_method_13_code 38 = .ok (.pop, 1) := gd_20 db00c_77
theorem d_X11_beat_39 : decode prog_1_method_13_code 39 = .ok (.iload_n 1, 1) := gd_21 db00c_77
theorem d_X11_beat_40 : decode prog_1_method_13_code 40 = .ok (.ireturn, 1) := gd_22 db00c_77
theorem d_X11_beaten_14 : decode prog_1_method_14_code 14 = .ok (.lookupswitch 44 #[(0, 26), (1, 35)], 26) := by decide +kernel
theorem db00c_78 : Ad_ prog_1_method_14_code [(0, .aload_n 0, 1), (1, .getfield 26, 3), (4, .iload_n 1, 1), (5, .invokevirtual 148, 3), (8, .ifCond .ne 5, 3), (11, .iconst (-1), 1), (12, .ireturn, 1), (13, .iload_n 2, 1), (40, .aload_n 0, 1), (41, .getfield 26, 3), (44, .iload_n 1, 1), (45, .invokevirtual 151, 3), (48, .ireturn, 1), (49, .aload_n 0, 1), (50, .getfield 26, 3), (53, .iload_n 1, 1), (54, .invokevirtual 155, 3), (57, .ireturn, 1), (58, .iconst (-1), 1), (59, .ireturn, 1)] := bch_ok prog_1_method_14_code _ 0 (by decide +kernel)
theorem d_X11_beaten_0 : decode prog_1_method_14_code 0 = .ok (.aload_n 0, 1) := gd_0 db00c_78
theorem d_X11_beaten_1 : decode prog_1_method_14_code 1 = .ok (.getfield 26, 3) := gd_1 db00c_78
theorem d_X11_beaten_4 : decode prog_1_method_14_code 4 = .ok (.iload_n 1, 1) := gd_2 db00c_78
theorem d_X11_beaten_5 : decode prog_1_method_14_code 5 = .ok (.invokevirtual 148, 3) := gd_3 db00c_78
theorem d_X11_beaten_8 : decode prog_1_method_14_code 8 = .ok (.ifCond .ne 5, 3) := gd_4 db00c_78
theorem d_X11_beaten_11 : decode prog_1_method_14_code 11 = .ok (.iconst (-1), 1) := gd_5 db00c_78
theorem d_X11_beaten_12 : decode prog_1_method_14_code 12 = .ok (.ireturn, 1) := gd_6 db00c_78
theorem d_X11_beaten_13 : decode prog_1_method_14_code 13 = .ok (.iload_n 2, 1) := gd_7 db00c_78
theorem d_X11_beaten_40 : decode prog_1_method_14_code 40 = .ok (.aload_n 0, 1) := gd_8 db00c_78
theorem d_X11_beaten_41 : decode prog_1_method_14_code 41 = .ok (.getfield 26, 3) := gd_9 db00c_78
theorem d_X11_beaten_44 : decode prog_1_method_14_code 44 = .ok (.iload_n 1, 1) := gd_10 db00c_78
theorem d_X11_beaten_45 : decode prog_1_method_14_code 45 = .ok (.invokevirtual 151, 3) := gd_11 db00c_78
theorem d_X11_beaten_48 : decode prog_1_method_14_code 48 = .ok (.ireturn, 1) := gd_12 db00c_78
theorem d_X11_beaten_49 : decode prog_1_method_14_code 49 = .ok (.aload_n 0, 1) := gd_13 db00c_78
theorem d_X11_beaten_50 : decode prog_1_method_14_code 50 = .ok (.getfield 26, 3) := gd_14 db00c_78
theorem d_X11_beaten_53 : decode prog_1_method_14_code 53 = .ok (.iload_n 1, 1) := gd_15 db00c_78
theorem d_X11_beaten_54 : decode prog_1_method_14_code 54 = .ok (.invokevirtual 155, 3) := gd_16 db00c_78
theorem d_X11_beaten_57 : decode prog_1_method_14_code 57 = .ok (.ireturn, 1) := gd_17 db00c_78
theorem d_X11_beaten_58 : decode prog_1_method_14_code 58 = .ok (.iconst (-1), 1) := gd_18 db00c_78
theorem d_X11_beaten_59 : decode prog_1_method_14_code 59 = .ok (.ireturn, 1) := gd_19 db00c_78
theorem d_X11_begin_5 : decode prog_1_method_15_code 5 = .ok (.astore_n 3, 1) := by decide +kernel
theorem db00c_79 : Ad_ prog_1_method_15_code [(0, .aload_n 0, 1), (1, .iload_n 1, 1), (2, .invokevirtual 100, 3), (6, .aload_n 3, 1), (7, .ifnull 39, 3), (10, .aload_n 0, 1), (11, .getfield 26, 3), (14, .iload_n 2, 1), (15, .invokevirtual 148, 3), (18, .ifCond .eq 28, 3), (21, .aload_n 3, 1), (22, .getfield 158, 3), (25, .ifCond .ne 21, 3), (28, .aload_n 0, 1), (29, .getfield 49, 3), (32, .aload_n 0, 1), (33, .getfield 26, 3), (36, .iload_n 2, 1), (37, .invokevirtual 155, 3), (40, .invokevirtual 161, 3), (43, .ifCond .ne 5, 3), (46, .iconst 0, 1), (47, .ireturn, 1), (48, .aload_n 3, 1)] := bch_ok prog_1_method_15_code _ 0 (by decide +kernel)
theorem d_X11_begin_0 : decode prog_1_method_15_code 0 = .ok (.aload_n 0, 1) := gd_0 db00c_79
theorem d_X11_begin_1 : decode prog_1_method_15_code 1 = .ok (.iload_n 1, 1) := gd_1 db00c_79
theorem d_X11_begin_2 : decode prog_1_method_15_code 2 = .ok (.invokevirtual 100, 3) := gd_2 db00c_79
theorem d_X11_begin_6 : decode prog_1_method_15_code 6 = .ok (.aload_n 3, 1) := gd_3 db00c_79
theorem d_X11_begin_7 : decode prog_1_method_15_code 7 = .ok (.ifnull 39, 3) := gd_4 db00c_79
theorem d_X11_begin_10 : decode prog_1_method_15_code 10 = .ok (.aload_n 0, 1) := gd_5 db00c_79
theorem d_X11_begin_11 : decode prog_1_method_15_code 11 = .ok (.getfield 26, 3) := gd_6 db00c_79
theorem d_X11_begin_14 : decode prog_1_method_15_code 14 = .ok (.iload_n 2, 1) := gd_7 db00c_79
theorem d_X11_begin_15 : decode prog_1_method_15_code 15 = .ok (.invokevirtual 148, 3) := gd_8 db00c_79
theorem d_X11_begin_18 : decode prog_1_method_15_code 18 = .ok (.ifCond .eq 28, 3) := gd_9 db00c_79
theorem d_X11_begin_21 : decode prog_1_method_15_code 21 = .ok (.aload_n 3, 1) := gd_10 db00c_79
theorem d_X11_begin_22 : decode prog_1_method_15_code 22 = .ok (.getfield 158, 3) := gd_11 db00c_79
theorem d_X11_begin_25 : decode prog_1_method_15_code 25 = .ok (.ifCond .ne 21, 3) := gd_12 db00c_79
theorem d_X11_begin_28 : decode prog_1_method_15_code 28 = .ok (.aload_n 0, 1) := gd_13 db00c_79
theorem d_X11_begin_29 : decode prog_1_method_15_code 29 = .ok (.getfield 49, 3) := gd_14 db00c_79
theorem d_X11_begin_32 : decode prog_1_method_15_code 32 = .ok (.aload_n 0, 1) := gd_15 db00c_79
theorem d_X11_begin_33 : decode prog_1_method_15_code 33 = .ok (.getfield 26, 3) := gd_16 db00c_79
theorem d_X11_begin_36 : decode prog_1_method_15_code 36 = .ok (.iload_n 2, 1) := gd_17 db00c_79
theorem d_X11_begin_37 : decode prog_1_method_15_code 37 = .ok (.invokevirtual 155, 3) := gd_18 db00c_79
theorem d_X11_begin_40 : decode prog_1_method_15_code 40 = .ok (.invokevirtual 161, 3) := gd_19 db00c_79
theorem d_X11_begin_43 : decode prog_1_method_15_code 43 = .ok (.ifCond .ne 5, 3) := gd_20 db00c_79
theorem d_X11_begin_46 : decode prog_1_method_15_code 46 = .ok (.iconst 0, 1) := gd_21 db00c_79
theorem d_X11_begin_47 : decode prog_1_method_15_code 47 = .ok (.ireturn, 1) := gd_22 db00c_79
theorem d_X11_begin_48 : decode prog_1_method_15_code 48 = .ok (.aload_n 3, 1) := gd_23 db00c_79
theorem db00c_80 : Ad_ prog_1_method_15_code [(49, .iconst 1, 1), (50, .putfield 158, 3), (53, .aload_n 3, 1), (54, .iload_n 2, 1), (55, .putfield 164, 3), (58, .aload_n 3, 1), (59, .iconst 0, 1), (60, .putfield 167, 3), (63, .aload_n 3, 1), (64, .aload_n 0, 1), (65, .getfield 92, 3), (68, .putfield 170, 3), (71, .aload_n 3, 1), (72, .aload_n 0, 1), (73, .getfield 49, 3), (76, .getfield 173, 3), (79, .putfield 176, 3), (82, .aload_n 0, 1), (83, .aload_n 3, 1), (84, .invokevirtual 179, 3), (87, .aload_n 3, 1), (88, .aload_n 0, 1), (89, .getfield 49, 3), (92, .getfield 173, 3)] := bch_ok prog_1_method_15_code _ 49 (by decide +kernel)
theorem d_X11_begin_49 : decode prog_1_method_15_code 49 = .ok (.iconst 1, 1) := gd_0 db00c_80
theorem d_X11_begin_50 : decode prog_1_method_15_code 50 = .ok (.putfield 158, 3) := gd_1 db00c_80
theorem d_X11_begin_53 : decode prog_1_method_15_code 53 = .ok (.aload_n 3, 1) := gd_2 db00c_80
theorem d_X11_begin_54 : decode prog_1_method_15_code 54 = .ok (.iload_n 2, 1) := gd_3 db00c_80
theorem d_X11_begin_55 : decode prog_1_method_15_code 55 = .ok (.putfield 164, 3) := gd_4 db00c_80
theorem d_X11_begin_58 : decode prog_1_method_15_code 58 = .ok (.aload_n 3, 1) := gd_5 db00c_80
theorem d_X11_begin_59 : decode prog_1_method_15_code 59 = .ok (.iconst 0, 1) := gd_6 db00c_80
theorem d_X11_begin_60 : decode prog_1_method_15_code 60 = .ok (.putfield 167, 3) := gd_7 db00c_80
theorem d_X11_begin_63 : decode prog_1_method_15_code 63 = .ok (.aload_n 3, 1) := gd_8 db00c_80
theorem d_X11_begin_64 : decode prog_1_method_15_code 64 = .ok (.aload_n 0, 1) := gd_9 db00c_80
theorem d_X11_begin_65 : decode prog_1_method_15_code 65 = .ok (.getfield 92, 3) := gd_10 db00c_80
theorem d_X11_begin_68 : decode prog_1_method_15_code 68 = .ok (.putfield 170, 3) := gd_11 db00c_80
theorem d_X11_begin_71 : decode prog_1_method_15_code 71 = .ok (.aload_n 3, 1) := gd_12 db00c_80
theorem d_X11_begin_72 : decode prog_1_method_15_code 72 = .ok (.aload_n 0, 1) := gd_13 db00c_80
theorem d_X11_begin_73 : decode prog_1_method_15_code 73 = .ok (.getfield 49, 3) := gd_14 db00c_80
theorem d_X11_begin_76 : decode prog_1_method_15_code 76 = .ok (.getfield 173, 3) := gd_15 db00c_80
theorem d_X11_begin_79 : decode prog_1_method_15_code 79 = .ok (.putfield 176, 3) := gd_16 db00c_80
theorem d_X11_begin_82 : decode prog_1_method_15_code 82 = .ok (.aload_n 0, 1) := gd_17 db00c_80
theorem d_X11_begin_83 : decode prog_1_method_15_code 83 = .ok (.aload_n 3, 1) := gd_18 db00c_80
theorem d_X11_begin_84 : decode prog_1_method_15_code 84 = .ok (.invokevirtual 179, 3) := gd_19 db00c_80
theorem d_X11_begin_87 : decode prog_1_method_15_code 87 = .ok (.aload_n 3, 1) := gd_20 db00c_80
theorem d_X11_begin_88 : decode prog_1_method_15_code 88 = .ok (.aload_n 0, 1) := gd_21 db00c_80
theorem d_X11_begin_89 : decode prog_1_method_15_code 89 = .ok (.getfield 49, 3) := gd_22 db00c_80
theorem d_X11_begin_92 : decode prog_1_method_15_code 92 = .ok (.getfield 173, 3) := gd_23 db00c_80
theorem db00c_81 : Ad_ prog_1_method_15_code [(95, .putfield 183, 3), (98, .aload_n 0, 1), (99, .aload_n 3, 1), (100, .invokevirtual 186, 3), (103, .iconst 1, 1), (104, .ireturn, 1)] := bch_ok prog_1_method_15_code _ 95 (by decide +kernel)
theorem d_X11_begin_95 : decode prog_1_method_15_code 95 = .ok (.putfield 183, 3) := gd_0 db00c_81
theorem d_X11_begin_98 : decode prog_1_method_15_code 98 = .ok (.aload_n 0, 1) := gd_1 db00c_81
theorem d_X11_begin_99 : decode prog_1_method_15_code 99 = .ok (.aload_n 3, 1) := gd_2 db00c_81
theorem d_X11_begin_100 : decode prog_1_method_15_code 100 = .ok (.invokevirtual 186, 3) := gd_3 db00c_81
theorem d_X11_begin_103 : decode prog_1_method_15_code 103 = .ok (.iconst 1, 1) := gd_4 db00c_81
theorem d_X11_begin_104 : decode prog_1_method_15_code 104 = .ok (.ireturn, 1) := gd_5 db00c_81
theorem db00c_82 : Ad_ prog_1_method_16_code [(0, .aload_n 0, 1), (1, .getfield 26, 3), (4, .aload_n 1, 1), (5, .getfield 164, 3), (8, .invokevirtual 151, 3), (11, .istore_n 2, 1), (12, .iconst 0, 1), (13, .istore_n 3, 1), (14, .iload_n 3, 1), (15, .iload_n 2, 1), (16, .if_icmp .ge 62, 3), (19, .aload_n 0, 1), (20, .getfield 26, 3), (23, .aload_n 1, 1), (24, .getfield 164, 3), (27, .iload_n 3, 1), (28, .invokevirtual 189, 3), (31, .istore 4, 2), (33, .iload 4, 2), (35, .invokestatic 192, 3), (38, .iconst 2, 1), (39, .if_icmp .ne 33, 3), (42, .aload_n 0, 1), (43, .getfield 49, 3)] := bch_ok prog_1_method_16_code _ 0 (by decide +kernel)
theorem d_X11_writeRows_0 : decode prog_1_method_16_code 0 = .ok (.aload_n 0, 1) := gd_0 db00c_82
theorem d_X11_writeRows_1 : decode prog_1_method_16_code 1 = .ok (.getfield 26, 3) := gd_1 db00c_82
theorem d_X11_writeRows_4 : decode prog_1_method_16_code 4 = .ok (.aload_n 1, 1) := gd_2 db00c_82
theorem d_X11_writeRows_5 : decode prog_1_method_16_code 5 = .ok (.getfield 164, 3) := gd_3 db00c_82
theorem d_X11_writeRows_8 : decode prog_1_method_16_code 8 = .ok (.invokevirtual 151, 3) := gd_4 db00c_82
theorem d_X11_writeRows_11 : decode prog_1_method_16_code 11 = .ok (.istore_n 2, 1) := gd_5 db00c_82
theorem d_X11_writeRows_12 : decode prog_1_method_16_code 12 = .ok (.iconst 0, 1) := gd_6 db00c_82
theorem d_X11_writeRows_13 : decode prog_1_method_16_code 13 = .ok (.istore_n 3, 1) := gd_7 db00c_82
theorem d_X11_writeRows_14 : decode prog_1_method_16_code 14 = .ok (.iload_n 3, 1) := gd_8 db00c_82
theorem d_X11_writeRows_15 : decode prog_1_method_16_code 15 = .ok (.iload_n 2, 1) := gd_9 db00c_82
theorem d_X11_writeRows_16 : decode prog_1_method_16_code 16 = .ok (.if_icmp .ge 62, 3) := gd_10 db00c_82
theorem d_X11_writeRows_19 : decode prog_1_method_16_code 19 = .ok (.aload_n 0, 1) := gd_11 db00c_82
theorem d_X11_writeRows_20 : decode prog_1_method_16_code 20 = .ok (.getfield 26, 3) := gd_12 db00c_82
theorem d_X11_writeRows_23 : decode prog_1_method_16_code 23 = .ok (.aload_n 1, 1) := gd_13 db00c_82
theorem d_X11_writeRows_24 : decode prog_1_method_16_code 24 = .ok (.getfield 164, 3) := gd_14 db00c_82
theorem d_X11_writeRows_27 : decode prog_1_method_16_code 27 = .ok (.iload_n 3, 1) := gd_15 db00c_82
theorem d_X11_writeRows_28 : decode prog_1_method_16_code 28 = .ok (.invokevirtual 189, 3) := gd_16 db00c_82
theorem d_X11_writeRows_31 : decode prog_1_method_16_code 31 = .ok (.istore 4, 2) := gd_17 db00c_82
theorem d_X11_writeRows_33 : decode prog_1_method_16_code 33 = .ok (.iload 4, 2) := gd_18 db00c_82
theorem d_X11_writeRows_35 : decode prog_1_method_16_code 35 = .ok (.invokestatic 192, 3) := gd_19 db00c_82
theorem d_X11_writeRows_38 : decode prog_1_method_16_code 38 = .ok (.iconst 2, 1) := gd_20 db00c_82
theorem d_X11_writeRows_39 : decode prog_1_method_16_code 39 = .ok (.if_icmp .ne 33, 3) := gd_21 db00c_82
theorem d_X11_writeRows_42 : decode prog_1_method_16_code 42 = .ok (.aload_n 0, 1) := gd_22 db00c_82
theorem d_X11_writeRows_43 : decode prog_1_method_16_code 43 = .ok (.getfield 49, 3) := gd_23 db00c_82
theorem db00c_83 : Ad_ prog_1_method_16_code [(46, .aload_n 1, 1), (47, .getfield 126, 3), (50, .iload 4, 2), (52, .invokestatic 195, 3), (55, .aload_n 0, 1), (56, .getfield 92, 3), (59, .iload 4, 2), (61, .invokestatic 198, 3), (64, .iadd, 1), (65, .aload_n 0, 1), (66, .getfield 92, 3), (69, .invokevirtual 201, 3), (72, .iinc 3 1, 3), (75, .goto (-61), 3), (78, .return_, 1)] := bch_ok prog_1_method_16_code _ 46 (by decide +kernel)
theorem d_X11_writeRows_46 : decode prog_1_method_16_code 46 = .ok (.aload_n 1, 1) := gd_0 db00c_83
theorem d_X11_writeRows_47 : decode prog_1_method_16_code 47 = .ok (.getfield 126, 3) := gd_1 db00c_83
theorem d_X11_writeRows_50 : decode prog_1_method_16_code 50 = .ok (.iload 4, 2) := gd_2 db00c_83
theorem d_X11_writeRows_52 : decode prog_1_method_16_code 52 = .ok (.invokestatic 195, 3) := gd_3 db00c_83
theorem d_X11_writeRows_55 : decode prog_1_method_16_code 55 = .ok (.aload_n 0, 1) := gd_4 db00c_83
theorem d_X11_writeRows_56 : decode prog_1_method_16_code 56 = .ok (.getfield 92, 3) := gd_5 db00c_83
theorem d_X11_writeRows_59 : decode prog_1_method_16_code 59 = .ok (.iload 4, 2) := gd_6 db00c_83
theorem d_X11_writeRows_61 : decode prog_1_method_16_code 61 = .ok (.invokestatic 198, 3) := gd_7 db00c_83
theorem d_X11_writeRows_64 : decode prog_1_method_16_code 64 = .ok (.iadd, 1) := gd_8 db00c_83
theorem d_X11_writeRows_65 : decode prog_1_method_16_code 65 = .ok (.aload_n 0, 1) := gd_9 db00c_83
theorem d_X11_writeRows_66 : decode prog_1_method_16_code 66 = .ok (.getfield 92, 3) := gd_10 db00c_83
theorem d_X11_writeRows_69 : decode prog_1_method_16_code 69 = .ok (.invokevirtual 201, 3) := gd_11 db00c_83
theorem d_X11_writeRows_72 : decode prog_1_method_16_code 72 = .ok (.iinc 3 1, 3) := gd_12 db00c_83
theorem d_X11_writeRows_75 : decode prog_1_method_16_code 75 = .ok (.goto (-61), 3) := gd_13 db00c_83
theorem d_X11_writeRows_78 : decode prog_1_method_16_code 78 = .ok (.return_, 1) := gd_14 db00c_83
theorem d_X11_draw_5 : decode prog_1_method_17_code 5 = .ok (.astore 4, 2) := by decide +kernel
theorem db00c_84 : Ad_ prog_1_method_17_code [(0, .aload_n 0, 1), (1, .iload_n 1, 1), (2, .invokevirtual 100, 3), (7, .aload 4, 2), (9, .ifnull 24, 3), (12, .iload_n 2, 1), (13, .invokestatic 107, 3), (16, .ifCond .eq 17, 3), (19, .iload_n 3, 1), (20, .aload_n 0, 1), (21, .getfield 92, 3), (24, .sipush 30000, 3), (27, .invokestatic 96, 3), (30, .ifCond .ne 5, 3), (33, .iconst 0, 1), (34, .ireturn, 1), (35, .aload_n 0, 1), (36, .getfield 10, 3), (39, .aload 4, 2), (41, .getfield 204, 3), (44, .iload_n 2, 1), (45, .invokevirtual 115, 3), (48, .iconst (-1), 1), (49, .if_icmp .eq 21, 3)] := bch_ok prog_1_method_17_code _ 0 (by decide +kernel)
theorem d_X11_draw_0 : decode prog_1_method_17_code 0 = .ok (.aload_n 0, 1) := gd_0 db00c_84
theorem d_X11_draw_1 : decode prog_1_method_17_code 1 = .ok (.iload_n 1, 1) := gd_1 db00c_84
theorem d_X11_draw_2 : decode prog_1_method_17_code 2 = .ok (.invokevirtual 100, 3) := gd_2 db00c_84
theorem d_X11_draw_7 : decode prog_1_method_17_code 7 = .ok (.aload 4, 2) := gd_3 db00c_84
theorem d_X11_draw_9 : decode prog_1_method_17_code 9 = .ok (.ifnull 24, 3) := gd_4 db00c_84
theorem d_X11_draw_12 : decode prog_1_method_17_code 12 = .ok (.iload_n 2, 1) := gd_5 db00c_84
theorem d_X11_draw_13 : decode prog_1_method_17_code 13 = .ok (.invokestatic 107, 3) := gd_6 db00c_84
theorem d_X11_draw_16 : decode prog_1_method_17_code 16 = .ok (.ifCond .eq 17, 3) := gd_7 db00c_84
theorem d_X11_draw_19 : decode prog_1_method_17_code 19 = .ok (.iload_n 3, 1) := gd_8 db00c_84
theorem d_X11_draw_20 : decode prog_1_method_17_code 20 = .ok (.aload_n 0, 1) := gd_9 db00c_84
theorem d_X11_draw_21 : decode prog_1_method_17_code 21 = .ok (.getfield 92, 3) := gd_10 db00c_84
theorem d_X11_draw_24 : decode prog_1_method_17_code 24 = .ok (.sipush 30000, 3) := gd_11 db00c_84
theorem d_X11_draw_27 : decode prog_1_method_17_code 27 = .ok (.invokestatic 96, 3) := gd_12 db00c_84
theorem d_X11_draw_30 : decode prog_1_method_17_code 30 = .ok (.ifCond .ne 5, 3) := gd_13 db00c_84
theorem d_X11_draw_33 : decode prog_1_method_17_code 33 = .ok (.iconst 0, 1) := gd_14 db00c_84
theorem d_X11_draw_34 : decode prog_1_method_17_code 34 = .ok (.ireturn, 1) := gd_15 db00c_84
theorem d_X11_draw_35 : decode prog_1_method_17_code 35 = .ok (.aload_n 0, 1) := gd_16 db00c_84
theorem d_X11_draw_36 : decode prog_1_method_17_code 36 = .ok (.getfield 10, 3) := gd_17 db00c_84
theorem d_X11_draw_39 : decode prog_1_method_17_code 39 = .ok (.aload 4, 2) := gd_18 db00c_84
theorem d_X11_draw_41 : decode prog_1_method_17_code 41 = .ok (.getfield 204, 3) := gd_19 db00c_84
theorem d_X11_draw_44 : decode prog_1_method_17_code 44 = .ok (.iload_n 2, 1) := gd_20 db00c_84
theorem d_X11_draw_45 : decode prog_1_method_17_code 45 = .ok (.invokevirtual 115, 3) := gd_21 db00c_84
theorem d_X11_draw_48 : decode prog_1_method_17_code 48 = .ok (.iconst (-1), 1) := gd_22 db00c_84
theorem d_X11_draw_49 : decode prog_1_method_17_code 49 = .ok (.if_icmp .eq 21, 3) := gd_23 db00c_84
theorem db00c_85 : Ad_ prog_1_method_17_code [(52, .aload 4, 2), (54, .getfield 158, 3), (57, .iconst 3, 1), (58, .if_icmp .eq 12, 3), (61, .aload 4, 2), (63, .getfield 158, 3), (66, .iconst 4, 1), (67, .if_icmp .ne 5, 3), (70, .iconst 0, 1), (71, .ireturn, 1), (72, .aload_n 0, 1), (73, .aload 4, 2), (75, .iconst 3, 1), (76, .invokevirtual 207, 3), (79, .aload 4, 2), (81, .iconst 3, 1), (82, .putfield 158, 3), (85, .aload 4, 2), (87, .iload_n 2, 1), (88, .putfield 210, 3), (91, .aload 4, 2), (93, .iload_n 3, 1), (94, .putfield 213, 3), (97, .aload 4, 2)] := bch_ok prog_1_method_17_code _ 52 (by decide +kernel)
theorem d_X11_draw_52 : decode prog_1_method_17_code 52 = .ok (.aload 4, 2) := gd_0 db00c_85
theorem d_X11_draw_54 : decode prog_1_method_17_code 54 = .ok (.getfield 158, 3) := gd_1 db00c_85
theorem d_X11_draw_57 : decode prog_1_method_17_code 57 = .ok (.iconst 3, 1) := gd_2 db00c_85
theorem d_X11_draw_58 : decode prog_1_method_17_code 58 = .ok (.if_icmp .eq 12, 3) := gd_3 db00c_85
theorem d_X11_draw_61 : decode prog_1_method_17_code 61 = .ok (.aload 4, 2) := gd_4 db00c_85
theorem d_X11_draw_63 : decode prog_1_method_17_code 63 = .ok (.getfield 158, 3) := gd_5 db00c_85
theorem d_X11_draw_66 : decode prog_1_method_17_code 66 = .ok (.iconst 4, 1) := gd_6 db00c_85
theorem d_X11_draw_67 : decode prog_1_method_17_code 67 = .ok (.if_icmp .ne 5, 3) := gd_7 db00c_85
theorem d_X11_draw_70 : decode prog_1_method_17_code 70 = .ok (.iconst 0, 1) := gd_8 db00c_85
theorem d_X11_draw_71 : decode prog_1_method_17_code 71 = .ok (.ireturn, 1) := gd_9 db00c_85
theorem d_X11_draw_72 : decode prog_1_method_17_code 72 = .ok (.aload_n 0, 1) := gd_10 db00c_85
theorem d_X11_draw_73 : decode prog_1_method_17_code 73 = .ok (.aload 4, 2) := gd_11 db00c_85
theorem d_X11_draw_75 : decode prog_1_method_17_code 75 = .ok (.iconst 3, 1) := gd_12 db00c_85
theorem d_X11_draw_76 : decode prog_1_method_17_code 76 = .ok (.invokevirtual 207, 3) := gd_13 db00c_85
theorem d_X11_draw_79 : decode prog_1_method_17_code 79 = .ok (.aload 4, 2) := gd_14 db00c_85
theorem d_X11_draw_81 : decode prog_1_method_17_code 81 = .ok (.iconst 3, 1) := gd_15 db00c_85
theorem d_X11_draw_82 : decode prog_1_method_17_code 82 = .ok (.putfield 158, 3) := gd_16 db00c_85
theorem d_X11_draw_85 : decode prog_1_method_17_code 85 = .ok (.aload 4, 2) := gd_17 db00c_85
theorem d_X11_draw_87 : decode prog_1_method_17_code 87 = .ok (.iload_n 2, 1) := gd_18 db00c_85
theorem d_X11_draw_88 : decode prog_1_method_17_code 88 = .ok (.putfield 210, 3) := gd_19 db00c_85
theorem d_X11_draw_91 : decode prog_1_method_17_code 91 = .ok (.aload 4, 2) := gd_20 db00c_85
theorem d_X11_draw_93 : decode prog_1_method_17_code 93 = .ok (.iload_n 3, 1) := gd_21 db00c_85
theorem d_X11_draw_94 : decode prog_1_method_17_code 94 = .ok (.putfield 213, 3) := gd_22 db00c_85
theorem d_X11_draw_97 : decode prog_1_method_17_code 97 = .ok (.aload 4, 2) := gd_23 db00c_85
theorem db00c_86 : Ad_ prog_1_method_17_code [(99, .getfield 216, 3), (102, .iconst (-1), 1), (103, .if_icmp .ne 15, 3), (106, .aload 4, 2), (108, .iconst (-1), 1), (109, .putfield 219, 3), (112, .aload_n 0, 1), (113, .aload 4, 2), (115, .invokevirtual 222, 3), (118, .iconst 1, 1), (119, .ireturn, 1)] := bch_ok prog_1_method_17_code _ 99 (by decide +kernel)
theorem d_X11_draw_99 : decode prog_1_method_17_code 99 = .ok (.getfield 216, 3) := gd_0 db00c_86
theorem d_X11_draw_102 : decode prog_1_method_17_code 102 = .ok (.iconst (-1), 1) := gd_1 db00c_86
theorem d_X11_draw_103 : decode prog_1_method_17_code 103 = .ok (.if_icmp .ne 15, 3) := gd_2 db00c_86
theorem d_X11_draw_106 : decode prog_1_method_17_code 106 = .ok (.aload 4, 2) := gd_3 db00c_86
theorem d_X11_draw_108 : decode prog_1_method_17_code 108 = .ok (.iconst (-1), 1) := gd_4 db00c_86
theorem d_X11_draw_109 : decode prog_1_method_17_code 109 = .ok (.putfield 219, 3) := gd_5 db00c_86
theorem d_X11_draw_112 : decode prog_1_method_17_code 112 = .ok (.aload_n 0, 1) := gd_6 db00c_86
theorem d_X11_draw_113 : decode prog_1_method_17_code 113 = .ok (.aload 4, 2) := gd_7 db00c_86
theorem d_X11_draw_115 : decode prog_1_method_17_code 115 = .ok (.invokevirtual 222, 3) := gd_8 db00c_86
theorem d_X11_draw_118 : decode prog_1_method_17_code 118 = .ok (.iconst 1, 1) := gd_9 db00c_86
theorem d_X11_draw_119 : decode prog_1_method_17_code 119 = .ok (.ireturn, 1) := gd_10 db00c_86
theorem d_X11_ill_5 : decode prog_1_method_18_code 5 = .ok (.astore_n 3, 1) := by decide +kernel
theorem db00c_87 : Ad_ prog_1_method_18_code [(0, .aload_n 0, 1), (1, .iload_n 1, 1), (2, .invokevirtual 100, 3), (6, .aload_n 3, 1), (7, .ifnull 20, 3), (10, .iload_n 2, 1), (11, .aload_n 3, 1), (12, .getfield 158, 3), (15, .iconst 4, 1), (16, .if_icmp .ne 7, 3), (19, .iconst 1, 1), (20, .goto 4, 3), (23, .iconst 0, 1), (24, .if_icmp .ne 5, 3), (27, .iconst 0, 1), (28, .ireturn, 1), (29, .iload_n 2, 1), (30, .ifCond .eq 36, 3), (33, .aload_n 0, 1), (34, .aload_n 3, 1), (35, .iconst 4, 1), (36, .invokevirtual 207, 3), (39, .aload_n 3, 1), (40, .iconst 4, 1)] := bch_ok prog_1_method_18_code _ 0 (by decide +kernel)
theorem d_X11_ill_0 : decode prog_1_method_18_code 0 = .ok (.aload_n 0, 1) := gd_0 db00c_87
theorem d_X11_ill_1 : decode prog_1_method_18_code 1 = .ok (.iload_n 1, 1) := gd_1 db00c_87
theorem d_X11_ill_2 : decode prog_1_method_18_code 2 = .ok (.invokevirtual 100, 3) := gd_2 db00c_87
theorem d_X11_ill_6 : decode prog_1_method_18_code 6 = .ok (.aload_n 3, 1) := gd_3 db00c_87
theorem d_X11_ill_7 : decode prog_1_method_18_code 7 = .ok (.ifnull 20, 3) := gd_4 db00c_87
theorem d_X11_ill_10 : decode prog_1_method_18_code 10 = .ok (.iload_n 2, 1) := gd_5 db00c_87
theorem d_X11_ill_11 : decode prog_1_method_18_code 11 = .ok (.aload_n 3, 1) := gd_6 db00c_87
theorem d_X11_ill_12 : decode prog_1_method_18_code 12 = .ok (.getfield 158, 3) := gd_7 db00c_87
theorem d_X11_ill_15 : decode prog_1_method_18_code 15 = .ok (.iconst 4, 1) := gd_8 db00c_87
theorem d_X11_ill_16 : decode prog_1_method_18_code 16 = .ok (.if_icmp .ne 7, 3) := gd_9 db00c_87
theorem d_X11_ill_19 : decode prog_1_method_18_code 19 = .ok (.iconst 1, 1) := gd_10 db00c_87
theorem d_X11_ill_20 : decode prog_1_method_18_code 20 = .ok (.goto 4, 3) := gd_11 db00c_87
theorem d_X11_ill_23 : decode prog_1_method_18_code 23 = .ok (.iconst 0, 1) := gd_12 db00c_87
theorem d_X11_ill_24 : decode prog_1_method_18_code 24 = .ok (.if_icmp .ne 5, 3) := gd_13 db00c_87
theorem d_X11_ill_27 : decode prog_1_method_18_code 27 = .ok (.iconst 0, 1) := gd_14 db00c_87
theorem d_X11_ill_28 : decode prog_1_method_18_code 28 = .ok (.ireturn, 1) := gd_15 db00c_87
theorem d_X11_ill_29 : decode prog_1_method_18_code 29 = .ok (.iload_n 2, 1) := gd_16 db00c_87
theorem d_X11_ill_30 : decode prog_1_method_18_code 30 = .ok (.ifCond .eq 36, 3) := gd_17 db00c_87
theorem d_X11_ill_33 : decode prog_1_method_18_code 33 = .ok (.aload_n 0, 1) := gd_18 db00c_87
theorem d_X11_ill_34 : decode prog_1_method_18_code 34 = .ok (.aload_n 3, 1) := gd_19 db00c_87
theorem d_X11_ill_35 : decode prog_1_method_18_code 35 = .ok (.iconst 4, 1) := gd_20 db00c_87
theorem d_X11_ill_36 : decode prog_1_method_18_code 36 = .ok (.invokevirtual 207, 3) := gd_21 db00c_87
theorem d_X11_ill_39 : decode prog_1_method_18_code 39 = .ok (.aload_n 3, 1) := gd_22 db00c_87
theorem d_X11_ill_40 : decode prog_1_method_18_code 40 = .ok (.iconst 4, 1) := gd_23 db00c_87
theorem db00c_88 : Ad_ prog_1_method_18_code [(41, .putfield 158, 3), (44, .aload_n 3, 1), (45, .iconst (-1), 1), (46, .putfield 216, 3), (49, .aload_n 3, 1), (50, .iconst (-1), 1), (51, .putfield 219, 3), (54, .aload_n 0, 1), (55, .aload_n 3, 1), (56, .aload_n 3, 1), (57, .getfield 204, 3), (60, .invokevirtual 122, 3), (63, .goto 8, 3), (66, .aload_n 0, 1), (67, .aload_n 3, 1), (68, .invokevirtual 225, 3), (71, .iconst 1, 1), (72, .ireturn, 1)] := bch_ok prog_1_method_18_code _ 41 (by decide +kernel)
theorem d_X11_ill_41 : decode prog_1_method_18_code 41 = .ok (.putfield 158, 3) := gd_0 db00c_88
theorem d_X11_ill_44 : decode prog_1_method_18_code 44 = .ok (.aload_n 3, 1) := gd_1 db00c_88
theorem d_X11_ill_45 : decode prog_1_method_18_code 45 = .ok (.iconst (-1), 1) := gd_2 db00c_88
theorem d_X11_ill_46 : decode prog_1_method_18_code 46 = .ok (.putfield 216, 3) := gd_3 db00c_88
theorem d_X11_ill_49 : decode prog_1_method_18_code 49 = .ok (.aload_n 3, 1) := gd_4 db00c_88
theorem d_X11_ill_50 : decode prog_1_method_18_code 50 = .ok (.iconst (-1), 1) := gd_5 db00c_88
theorem d_X11_ill_51 : decode prog_1_method_18_code 51 = .ok (.putfield 219, 3) := gd_6 db00c_88
theorem d_X11_ill_54 : decode prog_1_method_18_code 54 = .ok (.aload_n 0, 1) := gd_7 db00c_88
theorem d_X11_ill_55 : decode prog_1_method_18_code 55 = .ok (.aload_n 3, 1) := gd_8 db00c_88
theorem d_X11_ill_56 : decode prog_1_method_18_code 56 = .ok (.aload_n 3, 1) := gd_9 db00c_88
theorem d_X11_ill_57 : decode prog_1_method_18_code 57 = .ok (.getfield 204, 3) := gd_10 db00c_88
theorem d_X11_ill_60 : decode prog_1_method_18_code 60 = .ok (.invokevirtual 122, 3) := gd_11 db00c_88
theorem d_X11_ill_63 : decode prog_1_method_18_code 63 = .ok (.goto 8, 3) := gd_12 db00c_88
theorem d_X11_ill_66 : decode prog_1_method_18_code 66 = .ok (.aload_n 0, 1) := gd_13 db00c_88
theorem d_X11_ill_67 : decode prog_1_method_18_code 67 = .ok (.aload_n 3, 1) := gd_14 db00c_88
theorem d_X11_ill_68 : decode prog_1_method_18_code 68 = .ok (.invokevirtual 225, 3) := gd_15 db00c_88
theorem d_X11_ill_71 : decode prog_1_method_18_code 71 = .ok (.iconst 1, 1) := gd_16 db00c_88
theorem d_X11_ill_72 : decode prog_1_method_18_code 72 = .ok (.ireturn, 1) := gd_17 db00c_88
theorem db00c_89 : Ad_ prog_1_method_19_code [(0, .iload_n 1, 1), (1, .iconst 0, 1), (2, .sipush 1500, 3), (5, .invokestatic 96, 3), (8, .ifCond .eq 15, 3), (11, .aload_n 0, 1), (12, .getfield 92, 3), (15, .iload_n 1, 1), (16, .iadd, 1), (17, .sipush 20000, 3), (20, .if_icmp .le 5, 3), (23, .iconst (-1), 1), (24, .ireturn, 1), (25, .aload_n 0, 1), (26, .aload_n 0, 1), (27, .getfield 92, 3), (30, .iload_n 1, 1), (31, .iadd, 1), (32, .invokevirtual 228, 3), (35, .iconst 0, 1), (36, .istore_n 2, 1), (37, .iload_n 2, 1), (38, .iload_n 1, 1), (39, .if_icmp .ge 79, 3)] := bch_ok prog_1_method_19_code _ 0 (by decide +kernel)
theorem d_X11_tick_0 : decode prog_1_method_19_code 0 = .ok (.iload_n 1, 1) := gd_0 db00c_89
theorem d_X11_tick_1 : decode prog_1_method_19_code 1 = .ok (.iconst 0, 1) := gd_1 db00c_89
theorem d_X11_tick_2 : decode prog_1_method_19_code 2 = .ok (.sipush 1500, 3) := gd_2 db00c_89
theorem d_X11_tick_5 : decode prog_1_method_19_code 5 = .ok (.invokestatic 96, 3) := gd_3 db00c_89
theorem d_X11_tick_8 : decode prog_1_method_19_code 8 = .ok (.ifCond .eq 15, 3) := gd_4 db00c_89
theorem d_X11_tick_11 : decode prog_1_method_19_code 11 = .ok (.aload_n 0, 1) := gd_5 db00c_89
theorem d_X11_tick_12 : decode prog_1_method_19_code 12 = .ok (.getfield 92, 3) := gd_6 db00c_89
theorem d_X11_tick_15 : decode prog_1_method_19_code 15 = .ok (.iload_n 1, 1) := gd_7 db00c_89
theorem d_X11_tick_16 : decode prog_1_method_19_code 16 = .ok (.iadd, 1) := gd_8 db00c_89
theorem d_X11_tick_17 : decode prog_1_method_19_code 17 = .ok (.sipush 20000, 3) := gd_9 db00c_89
theorem d_X11_tick_20 : decode prog_1_method_19_code 20 = .ok (.if_icmp .le 5, 3) := gd_10 db00c_89
theorem d_X11_tick_23 : decode prog_1_method_19_code 23 = .ok (.iconst (-1), 1) := gd_11 db00c_89
theorem d_X11_tick_24 : decode prog_1_method_19_code 24 = .ok (.ireturn, 1) := gd_12 db00c_89
theorem d_X11_tick_25 : decode prog_1_method_19_code 25 = .ok (.aload_n 0, 1) := gd_13 db00c_89
theorem d_X11_tick_26 : decode prog_1_method_19_code 26 = .ok (.aload_n 0, 1) := gd_14 db00c_89
theorem d_X11_tick_27 : decode prog_1_method_19_code 27 = .ok (.getfield 92, 3) := gd_15 db00c_89
theorem d_X11_tick_30 : decode prog_1_method_19_code 30 = .ok (.iload_n 1, 1) := gd_16 db00c_89
theorem d_X11_tick_31 : decode prog_1_method_19_code 31 = .ok (.iadd, 1) := gd_17 db00c_89
theorem d_X11_tick_32 : decode prog_1_method_19_code 32 = .ok (.invokevirtual 228, 3) := gd_18 db00c_89
theorem d_X11_tick_35 : decode prog_1_method_19_code 35 = .ok (.iconst 0, 1) := gd_19 db00c_89
theorem d_X11_tick_36 : decode prog_1_method_19_code 36 = .ok (.istore_n 2, 1) := gd_20 db00c_89
theorem d_X11_tick_37 : decode prog_1_method_19_code 37 = .ok (.iload_n 2, 1) := gd_21 db00c_89
theorem d_X11_tick_38 : decode prog_1_method_19_code 38 = .ok (.iload_n 1, 1) := gd_22 db00c_89
theorem d_X11_tick_39 : decode prog_1_method_19_code 39 = .ok (.if_icmp .ge 79, 3) := gd_23 db00c_89
theorem d_X11_tick_54 : decode prog_1_method_19_code 54 = .ok (.lastore, 1) := by decide +kernel
theorem d_X11_tick_80 : decode prog_1_method_19_code 80 = .ok (.aaload, 1) := by decide +kernel
theorem d_X11_tick_81 : decode prog_1_method_19_code 81 = .ok (.astore 4, 2) := by decide +kernel
theorem db00c_90 : Ad_ prog_1_method_19_code [(42, .aload_n 0, 1), (43, .getfield 88, 3), (46, .aload_n 0, 1), (47, .getfield 92, 3), (50, .aload_n 0, 1), (51, .getfield 232, 3), (55, .aload_n 0, 1), (56, .dup, 1), (57, .getfield 92, 3), (60, .iconst 1, 1), (61, .iadd, 1), (62, .putfield 92, 3), (65, .iconst 0, 1), (66, .istore_n 3, 1), (67, .iload_n 3, 1), (68, .aload_n 0, 1), (69, .getfield 104, 3), (72, .if_icmp .ge 40, 3), (75, .aload_n 0, 1), (76, .getfield 42, 3), (79, .iload_n 3, 1), (83, .aload 4, 2), (85, .ifnull 21, 3), (88, .aload 4, 2)] := bch_ok prog_1_method_19_code _ 42 (by decide +kernel)
theorem d_X11_tick_42 : decode prog_1_method_19_code 42 = .ok (.aload_n 0, 1) := gd_0 db00c_90
theorem d_X11_tick_43 : decode prog_1_method_19_code 43 = .ok (.getfield 88, 3) := gd_1 db00c_90
theorem d_X11_tick_46 : decode prog_1_method_19_code 46 = .ok (.aload_n 0, 1) := gd_2 db00c_90
theorem d_X11_tick_47 : decode prog_1_method_19_code 47 = .ok (.getfield 92, 3) := gd_3 db00c_90
theorem d_X11_tick_50 : decode prog_1_method_19_code 50 = .ok (.aload_n 0, 1) := gd_4 db00c_90
theorem d_X11_tick_51 : decode prog_1_method_19_code 51 = .ok (.getfield 232, 3) := gd_5 db00c_90
theorem d_X11_tick_55 : decode prog_1_method_19_code 55 = .ok (.aload_n 0, 1) := gd_6 db00c_90
theorem d_X11_tick_56 : decode prog_1_method_19_code 56 = .ok (.dup, 1) := gd_7 db00c_90
theorem d_X11_tick_57 : decode prog_1_method_19_code 57 = .ok (.getfield 92, 3) := gd_8 db00c_90
theorem d_X11_tick_60 : decode prog_1_method_19_code 60 = .ok (.iconst 1, 1) := gd_9 db00c_90
theorem d_X11_tick_61 : decode prog_1_method_19_code 61 = .ok (.iadd, 1) := gd_10 db00c_90
theorem d_X11_tick_62 : decode prog_1_method_19_code 62 = .ok (.putfield 92, 3) := gd_11 db00c_90
theorem d_X11_tick_65 : decode prog_1_method_19_code 65 = .ok (.iconst 0, 1) := gd_12 db00c_90
theorem d_X11_tick_66 : decode prog_1_method_19_code 66 = .ok (.istore_n 3, 1) := gd_13 db00c_90
theorem d_X11_tick_67 : decode prog_1_method_19_code 67 = .ok (.iload_n 3, 1) := gd_14 db00c_90
theorem d_X11_tick_68 : decode prog_1_method_19_code 68 = .ok (.aload_n 0, 1) := gd_15 db00c_90
theorem d_X11_tick_69 : decode prog_1_method_19_code 69 = .ok (.getfield 104, 3) := gd_16 db00c_90
theorem d_X11_tick_72 : decode prog_1_method_19_code 72 = .ok (.if_icmp .ge 40, 3) := gd_17 db00c_90
theorem d_X11_tick_75 : decode prog_1_method_19_code 75 = .ok (.aload_n 0, 1) := gd_18 db00c_90
theorem d_X11_tick_76 : decode prog_1_method_19_code 76 = .ok (.getfield 42, 3) := gd_19 db00c_90
theorem d_X11_tick_79 : decode prog_1_method_19_code 79 = .ok (.iload_n 3, 1) := gd_20 db00c_90
theorem d_X11_tick_83 : decode prog_1_method_19_code 83 = .ok (.aload 4, 2) := gd_21 db00c_90
theorem d_X11_tick_85 : decode prog_1_method_19_code 85 = .ok (.ifnull 21, 3) := gd_22 db00c_90
theorem d_X11_tick_88 : decode prog_1_method_19_code 88 = .ok (.aload 4, 2) := gd_23 db00c_90
theorem db00c_91 : Ad_ prog_1_method_19_code [(90, .getfield 219, 3), (93, .aload_n 0, 1), (94, .getfield 92, 3), (97, .if_icmp .ne 9, 3), (100, .aload_n 0, 1), (101, .aload 4, 2), (103, .invokevirtual 236, 3), (106, .iinc 3 1, 3), (109, .goto (-42), 3), (112, .iinc 2 1, 3), (115, .goto (-78), 3), (118, .aload_n 0, 1), (119, .getfield 92, 3), (122, .ireturn, 1)] := bch_ok prog_1_method_19_code _ 90 (by decide +kernel)
theorem d_X11_tick_90 : decode prog_1_method_19_code 90 = .ok (.getfield 219, 3) := gd_0 db00c_91
theorem d_X11_tick_93 : decode prog_1_method_19_code 93 = .ok (.aload_n 0, 1) := gd_1 db00c_91
theorem d_X11_tick_94 : decode prog_1_method_19_code 94 = .ok (.getfield 92, 3) := gd_2 db00c_91
theorem d_X11_tick_97 : decode prog_1_method_19_code 97 = .ok (.if_icmp .ne 9, 3) := gd_3 db00c_91
theorem d_X11_tick_100 : decode prog_1_method_19_code 100 = .ok (.aload_n 0, 1) := gd_4 db00c_91
theorem d_X11_tick_101 : decode prog_1_method_19_code 101 = .ok (.aload 4, 2) := gd_5 db00c_91
theorem d_X11_tick_103 : decode prog_1_method_19_code 103 = .ok (.invokevirtual 236, 3) := gd_6 db00c_91
theorem d_X11_tick_106 : decode prog_1_method_19_code 106 = .ok (.iinc 3 1, 3) := gd_7 db00c_91
theorem d_X11_tick_109 : decode prog_1_method_19_code 109 = .ok (.goto (-42), 3) := gd_8 db00c_91
theorem d_X11_tick_112 : decode prog_1_method_19_code 112 = .ok (.iinc 2 1, 3) := gd_9 db00c_91
theorem d_X11_tick_115 : decode prog_1_method_19_code 115 = .ok (.goto (-78), 3) := gd_10 db00c_91
theorem d_X11_tick_118 : decode prog_1_method_19_code 118 = .ok (.aload_n 0, 1) := gd_11 db00c_91
theorem d_X11_tick_119 : decode prog_1_method_19_code 119 = .ok (.getfield 92, 3) := gd_12 db00c_91
theorem d_X11_tick_122 : decode prog_1_method_19_code 122 = .ok (.ireturn, 1) := gd_13 db00c_91
theorem db00c_92 : Ad_ prog_1_method_20_code [(0, .iload_n 1, 1), (1, .aload_n 0, 1), (2, .getfield 88, 3), (5, .arraylength, 1), (6, .if_icmp .le 33, 3), (9, .iload_n 1, 1), (10, .iconst 2, 1), (11, .aload_n 0, 1), (12, .getfield 88, 3), (15, .arraylength, 1), (16, .imul, 1), (17, .sipush 20000, 3), (20, .invokestatic 239, 3), (23, .invokestatic 244, 3), (26, .istore_n 2, 1), (27, .aload_n 0, 1), (28, .aload_n 0, 1), (29, .getfield 88, 3), (32, .iload_n 2, 1), (33, .invokestatic 247, 3), (36, .putfield 88, 3), (39, .return_, 1)] := bch_ok prog_1_method_20_code _ 0 (by decide +kernel)
theorem d_X11_makeHistory_0 : decode prog_1_method_20_code 0 = .ok (.iload_n 1, 1) := gd_0 db00c_92
theorem d_X11_makeHistory_1 : decode prog_1_method_20_code 1 = .ok (.aload_n 0, 1) := gd_1 db00c_92
theorem d_X11_makeHistory_2 : decode prog_1_method_20_code 2 = .ok (.getfield 88, 3) := gd_2 db00c_92
theorem d_X11_makeHistory_5 : decode prog_1_method_20_code 5 = .ok (.arraylength, 1) := gd_3 db00c_92
theorem d_X11_makeHistory_6 : decode prog_1_method_20_code 6 = .ok (.if_icmp .le 33, 3) := gd_4 db00c_92
theorem d_X11_makeHistory_9 : decode prog_1_method_20_code 9 = .ok (.iload_n 1, 1) := gd_5 db00c_92
theorem d_X11_makeHistory_10 : decode prog_1_method_20_code 10 = .ok (.iconst 2, 1) := gd_6 db00c_92
theorem d_X11_makeHistory_11 : decode prog_1_method_20_code 11 = .ok (.aload_n 0, 1) := gd_7 db00c_92
theorem d_X11_makeHistory_12 : decode prog_1_method_20_code 12 = .ok (.getfield 88, 3) := gd_8 db00c_92
theorem d_X11_makeHistory_15 : decode prog_1_method_20_code 15 = .ok (.arraylength, 1) := gd_9 db00c_92
theorem d_X11_makeHistory_16 : decode prog_1_method_20_code 16 = .ok (.imul, 1) := gd_10 db00c_92
theorem d_X11_makeHistory_17 : decode prog_1_method_20_code 17 = .ok (.sipush 20000, 3) := gd_11 db00c_92
theorem d_X11_makeHistory_20 : decode prog_1_method_20_code 20 = .ok (.invokestatic 239, 3) := gd_12 db00c_92
theorem d_X11_makeHistory_23 : decode prog_1_method_20_code 23 = .ok (.invokestatic 244, 3) := gd_13 db00c_92
theorem d_X11_makeHistory_26 : decode prog_1_method_20_code 26 = .ok (.istore_n 2, 1) := gd_14 db00c_92
theorem d_X11_makeHistory_27 : decode prog_1_method_20_code 27 = .ok (.aload_n 0, 1) := gd_15 db00c_92
theorem d_X11_makeHistory_28 : decode prog_1_method_20_code 28 = .ok (.aload_n 0, 1) := gd_16 db00c_92
theorem d_X11_makeHistory_29 : decode prog_1_method_20_code 29 = .ok (.getfield 88, 3) := gd_17 db00c_92
theorem d_X11_makeHistory_32 : decode prog_1_method_20_code 32 = .ok (.iload_n 2, 1) := gd_18 db00c_92
theorem d_X11_makeHistory_33 : decode prog_1_method_20_code 33 = .ok (.invokestatic 247, 3) := gd_19 db00c_92
theorem d_X11_makeHistory_36 : decode prog_1_method_20_code 36 = .ok (.putfield 88, 3) := gd_20 db00c_92
theorem d_X11_makeHistory_39 : decode prog_1_method_20_code 39 = .ok (.return_, 1) := gd_21 db00c_92
theorem db00c_93 : Ad_ prog_1_method_21_code [(0, .aload_n 1, 1), (1, .getfield 216, 3), (4, .iconst (-1), 1), (5, .if_icmp .eq 7, 3), (8, .iconst 1, 1), (9, .goto 4, 3), (12, .iconst 0, 1), (13, .istore_n 2, 1), (14, .iload_n 2, 1), (15, .ifCond .eq 19, 3), (18, .aload_n 1, 1), (19, .getfield 216, 3), (22, .istore_n 3, 1), (23, .aload_n 1, 1), (24, .iconst (-1), 1), (25, .putfield 216, 3), (28, .aload_n 0, 1), (29, .aload_n 1, 1), (30, .iload_n 3, 1), (31, .invokevirtual 122, 3), (34, .aload_n 1, 1), (35, .iconst (-1), 1), (36, .putfield 219, 3), (39, .aload_n 1, 1)] := bch_ok prog_1_method_21_code _ 0 (by decide +kernel)
theorem d_X11_goOn_0 : decode prog_1_method_21_code 0 = .ok (.aload_n 1, 1) := gd_0 db00c_93
theorem d_X11_goOn_1 : decode prog_1_method_21_code 1 = .ok (.getfield 216, 3) := gd_1 db00c_93
theorem d_X11_goOn_4 : decode prog_1_method_21_code 4 = .ok (.iconst (-1), 1) := gd_2 db00c_93
theorem d_X11_goOn_5 : decode prog_1_method_21_code 5 = .ok (.if_icmp .eq 7, 3) := gd_3 db00c_93
theorem d_X11_goOn_8 : decode prog_1_method_21_code 8 = .ok (.iconst 1, 1) := gd_4 db00c_93
theorem d_X11_goOn_9 : decode prog_1_method_21_code 9 = .ok (.goto 4, 3) := gd_5 db00c_93
theorem d_X11_goOn_12 : decode prog_1_method_21_code 12 = .ok (.iconst 0, 1) := gd_6 db00c_93
theorem d_X11_goOn_13 : decode prog_1_method_21_code 13 = .ok (.istore_n 2, 1) := gd_7 db00c_93
theorem d_X11_goOn_14 : decode prog_1_method_21_code 14 = .ok (.iload_n 2, 1) := gd_8 db00c_93
theorem d_X11_goOn_15 : decode prog_1_method_21_code 15 = .ok (.ifCond .eq 19, 3) := gd_9 db00c_93
theorem d_X11_goOn_18 : decode prog_1_method_21_code 18 = .ok (.aload_n 1, 1) := gd_10 db00c_93
theorem d_X11_goOn_19 : decode prog_1_method_21_code 19 = .ok (.getfield 216, 3) := gd_11 db00c_93
theorem d_X11_goOn_22 : decode prog_1_method_21_code 22 = .ok (.istore_n 3, 1) := gd_12 db00c_93
theorem d_X11_goOn_23 : decode prog_1_method_21_code 23 = .ok (.aload_n 1, 1) := gd_13 db00c_93
theorem d_X11_goOn_24 : decode prog_1_method_21_code 24 = .ok (.iconst (-1), 1) := gd_14 db00c_93
theorem d_X11_goOn_25 : decode prog_1_method_21_code 25 = .ok (.putfield 216, 3) := gd_15 db00c_93
theorem d_X11_goOn_28 : decode prog_1_method_21_code 28 = .ok (.aload_n 0, 1) := gd_16 db00c_93
theorem d_X11_goOn_29 : decode prog_1_method_21_code 29 = .ok (.aload_n 1, 1) := gd_17 db00c_93
theorem d_X11_goOn_30 : decode prog_1_method_21_code 30 = .ok (.iload_n 3, 1) := gd_18 db00c_93
theorem d_X11_goOn_31 : decode prog_1_method_21_code 31 = .ok (.invokevirtual 122, 3) := gd_19 db00c_93
theorem d_X11_goOn_34 : decode prog_1_method_21_code 34 = .ok (.aload_n 1, 1) := gd_20 db00c_93
theorem d_X11_goOn_35 : decode prog_1_method_21_code 35 = .ok (.iconst (-1), 1) := gd_21 db00c_93
theorem d_X11_goOn_36 : decode prog_1_method_21_code 36 = .ok (.putfield 219, 3) := gd_22 db00c_93
theorem d_X11_goOn_39 : decode prog_1_method_21_code 39 = .ok (.aload_n 1, 1) := gd_23 db00c_93
theorem db00c_94 : Ad_ prog_1_method_21_code [(40, .getfield 158, 3), (43, .iconst 1, 1), (44, .if_icmp .ne 30, 3), (47, .aload_n 0, 1), (48, .aload_n 1, 1), (49, .iload_n 2, 1), (50, .invokevirtual 253, 3), (53, .ifCond .eq 50, 3), (56, .aload_n 1, 1), (57, .dup, 1), (58, .getfield 167, 3), (61, .iconst 1, 1), (62, .iadd, 1), (63, .putfield 167, 3), (66, .aload_n 0, 1), (67, .aload_n 1, 1), (68, .invokevirtual 186, 3), (71, .goto 32, 3), (74, .aload_n 1, 1), (75, .getfield 158, 3), (78, .iconst 2, 1), (79, .if_icmp .ne 11, 3), (82, .aload_n 0, 1), (83, .aload_n 1, 1)] := bch_ok prog_1_method_21_code _ 40 (by decide +kernel)
theorem d_X11_goOn_40 : decode prog_1_method_21_code 40 = .ok (.getfield 158, 3) := gd_0 db00c_94
theorem d_X11_goOn_43 : decode prog_1_method_21_code 43 = .ok (.iconst 1, 1) := gd_1 db00c_94
theorem d_X11_goOn_44 : decode prog_1_method_21_code 44 = .ok (.if_icmp .ne 30, 3) := gd_2 db00c_94
theorem d_X11_goOn_47 : decode prog_1_method_21_code 47 = .ok (.aload_n 0, 1) := gd_3 db00c_94
theorem d_X11_goOn_48 : decode prog_1_method_21_code 48 = .ok (.aload_n 1, 1) := gd_4 db00c_94
theorem d_X11_goOn_49 : decode prog_1_method_21_code 49 = .ok (.iload_n 2, 1) := gd_5 db00c_94
theorem d_X11_goOn_50 : decode prog_1_method_21_code 50 = .ok (.invokevirtual 253, 3) := gd_6 db00c_94
theorem d_X11_goOn_53 : decode prog_1_method_21_code 53 = .ok (.ifCond .eq 50, 3) := gd_7 db00c_94
theorem d_X11_goOn_56 : decode prog_1_method_21_code 56 = .ok (.aload_n 1, 1) := gd_8 db00c_94
theorem d_X11_goOn_57 : decode prog_1_method_21_code 57 = .ok (.dup, 1) := gd_9 db00c_94
theorem d_X11_goOn_58 : decode prog_1_method_21_code 58 = .ok (.getfield 167, 3) := gd_10 db00c_94
theorem d_X11_goOn_61 : decode prog_1_method_21_code 61 = .ok (.iconst 1, 1) := gd_11 db00c_94
theorem d_X11_goOn_62 : decode prog_1_method_21_code 62 = .ok (.iadd, 1) := gd_12 db00c_94
theorem d_X11_goOn_63 : decode prog_1_method_21_code 63 = .ok (.putfield 167, 3) := gd_13 db00c_94
theorem d_X11_goOn_66 : decode prog_1_method_21_code 66 = .ok (.aload_n 0, 1) := gd_14 db00c_94
theorem d_X11_goOn_67 : decode prog_1_method_21_code 67 = .ok (.aload_n 1, 1) := gd_15 db00c_94
theorem d_X11_goOn_68 : decode prog_1_method_21_code 68 = .ok (.invokevirtual 186, 3) := gd_16 db00c_94
theorem d_X11_goOn_71 : decode prog_1_method_21_code 71 = .ok (.goto 32, 3) := gd_17 db00c_94
theorem d_X11_goOn_74 : decode prog_1_method_21_code 74 = .ok (.aload_n 1, 1) := gd_18 db00c_94
theorem d_X11_goOn_75 : decode prog_1_method_21_code 75 = .ok (.getfield 158, 3) := gd_19 db00c_94
theorem d_X11_goOn_78 : decode prog_1_method_21_code 78 = .ok (.iconst 2, 1) := gd_20 db00c_94
theorem d_X11_goOn_79 : decode prog_1_method_21_code 79 = .ok (.if_icmp .ne 11, 3) := gd_21 db00c_94
theorem d_X11_goOn_82 : decode prog_1_method_21_code 82 = .ok (.aload_n 0, 1) := gd_22 db00c_94
theorem d_X11_goOn_83 : decode prog_1_method_21_code 83 = .ok (.aload_n 1, 1) := gd_23 db00c_94
theorem db00c_95 : Ad_ prog_1_method_21_code [(84, .invokevirtual 225, 3), (87, .goto 16, 3), (90, .aload_n 1, 1), (91, .getfield 158, 3), (94, .iconst 3, 1), (95, .if_icmp .ne 8, 3), (98, .aload_n 0, 1), (99, .aload_n 1, 1), (100, .invokevirtual 222, 3), (103, .return_, 1)] := bch_ok prog_1_method_21_code _ 84 (by decide +kernel)
theorem d_X11_goOn_84 : decode prog_1_method_21_code 84 = .ok (.invokevirtual 225, 3) := gd_0 db00c_95
theorem d_X11_goOn_87 : decode prog_1_method_21_code 87 = .ok (.goto 16, 3) := gd_1 db00c_95
theorem d_X11_goOn_90 : decode prog_1_method_21_code 90 = .ok (.aload_n 1, 1) := gd_2 db00c_95
theorem d_X11_goOn_91 : decode prog_1_method_21_code 91 = .ok (.getfield 158, 3) := gd_3 db00c_95
theorem d_X11_goOn_94 : decode prog_1_method_21_code 94 = .ok (.iconst 3, 1) := gd_4 db00c_95
theorem d_X11_goOn_95 : decode prog_1_method_21_code 95 = .ok (.if_icmp .ne 8, 3) := gd_5 db00c_95
theorem d_X11_goOn_98 : decode prog_1_method_21_code 98 = .ok (.aload_n 0, 1) := gd_6 db00c_95
theorem d_X11_goOn_99 : decode prog_1_method_21_code 99 = .ok (.aload_n 1, 1) := gd_7 db00c_95
theorem d_X11_goOn_100 : decode prog_1_method_21_code 100 = .ok (.invokevirtual 222, 3) := gd_8 db00c_95
theorem d_X11_goOn_103 : decode prog_1_method_21_code 103 = .ok (.return_, 1) := gd_9 db00c_95
theorem db00c_96 : Ad_ prog_1_method_22_code [(0, .aload_n 0, 1), (1, .getfield 26, 3), (4, .aload_n 1, 1), (5, .getfield 164, 3), (8, .aload_n 1, 1), (9, .getfield 167, 3), (12, .invokevirtual 189, 3), (15, .istore_n 3, 1), (16, .iload_n 3, 1), (17, .invokestatic 192, 3), (20, .istore 4, 2), (22, .iload 4, 2), (24, .iconst 3, 1), (25, .if_icmp .ne 8, 3), (28, .aload_n 0, 1), (29, .aload_n 1, 1), (30, .invokevirtual 257, 3), (33, .iload 4, 2), (35, .iconst 2, 1), (36, .if_icmp .ne 16, 3), (39, .iload_n 2, 1), (40, .ifCond .eq 12, 3), (43, .aload_n 0, 1), (44, .aload_n 1, 1)] := bch_ok prog_1_method_22_code _ 0 (by decide +kernel)
theorem d_X11_endsStep_0 : decode prog_1_method_22_code 0 = .ok (.aload_n 0, 1) := gd_0 db00c_96
theorem d_X11_endsStep_1 : decode prog_1_method_22_code 1 = .ok (.getfield 26, 3) := gd_1 db00c_96
theorem d_X11_endsStep_4 : decode prog_1_method_22_code 4 = .ok (.aload_n 1, 1) := gd_2 db00c_96
theorem d_X11_endsStep_5 : decode prog_1_method_22_code 5 = .ok (.getfield 164, 3) := gd_3 db00c_96
theorem d_X11_endsStep_8 : decode prog_1_method_22_code 8 = .ok (.aload_n 1, 1) := gd_4 db00c_96
theorem d_X11_endsStep_9 : decode prog_1_method_22_code 9 = .ok (.getfield 167, 3) := gd_5 db00c_96
theorem d_X11_endsStep_12 : decode prog_1_method_22_code 12 = .ok (.invokevirtual 189, 3) := gd_6 db00c_96
theorem d_X11_endsStep_15 : decode prog_1_method_22_code 15 = .ok (.istore_n 3, 1) := gd_7 db00c_96
theorem d_X11_endsStep_16 : decode prog_1_method_22_code 16 = .ok (.iload_n 3, 1) := gd_8 db00c_96
theorem d_X11_endsStep_17 : decode prog_1_method_22_code 17 = .ok (.invokestatic 192, 3) := gd_9 db00c_96
theorem d_X11_endsStep_20 : decode prog_1_method_22_code 20 = .ok (.istore 4, 2) := gd_10 db00c_96
theorem d_X11_endsStep_22 : decode prog_1_method_22_code 22 = .ok (.iload 4, 2) := gd_11 db00c_96
theorem d_X11_endsStep_24 : decode prog_1_method_22_code 24 = .ok (.iconst 3, 1) := gd_12 db00c_96
theorem d_X11_endsStep_25 : decode prog_1_method_22_code 25 = .ok (.if_icmp .ne 8, 3) := gd_13 db00c_96
theorem d_X11_endsStep_28 : decode prog_1_method_22_code 28 = .ok (.aload_n 0, 1) := gd_14 db00c_96
theorem d_X11_endsStep_29 : decode prog_1_method_22_code 29 = .ok (.aload_n 1, 1) := gd_15 db00c_96
theorem d_X11_endsStep_30 : decode prog_1_method_22_code 30 = .ok (.invokevirtual 257, 3) := gd_16 db00c_96
theorem d_X11_endsStep_33 : decode prog_1_method_22_code 33 = .ok (.iload 4, 2) := gd_17 db00c_96
theorem d_X11_endsStep_35 : decode prog_1_method_22_code 35 = .ok (.iconst 2, 1) := gd_18 db00c_96
theorem d_X11_endsStep_36 : decode prog_1_method_22_code 36 = .ok (.if_icmp .ne 16, 3) := gd_19 db00c_96
theorem d_X11_endsStep_39 : decode prog_1_method_22_code 39 = .ok (.iload_n 2, 1) := gd_20 db00c_96
theorem d_X11_endsStep_40 : decode prog_1_method_22_code 40 = .ok (.ifCond .eq 12, 3) := gd_21 db00c_96
theorem d_X11_endsStep_43 : decode prog_1_method_22_code 43 = .ok (.aload_n 0, 1) := gd_22 db00c_96
theorem d_X11_endsStep_44 : decode prog_1_method_22_code 44 = .ok (.aload_n 1, 1) := gd_23 db00c_96
theorem db00c_97 : Ad_ prog_1_method_22_code [(45, .iload_n 3, 1), (46, .invokevirtual 260, 3), (49, .ifCond .ne 7, 3), (52, .iconst 1, 1), (53, .goto 4, 3), (56, .iconst 0, 1), (57, .ireturn, 1)] := bch_ok prog_1_method_22_code _ 45 (by decide +kernel)
theorem d_X11_endsStep_45 : decode prog_1_method_22_code 45 = .ok (.iload_n 3, 1) := gd_0 db00c_97
theorem d_X11_endsStep_46 : decode prog_1_method_22_code 46 = .ok (.invokevirtual 260, 3) := gd_1 db00c_97
theorem d_X11_endsStep_49 : decode prog_1_method_22_code 49 = .ok (.ifCond .ne 7, 3) := gd_2 db00c_97
theorem d_X11_endsStep_52 : decode prog_1_method_22_code 52 = .ok (.iconst 1, 1) := gd_3 db00c_97
theorem d_X11_endsStep_53 : decode prog_1_method_22_code 53 = .ok (.goto 4, 3) := gd_4 db00c_97
theorem d_X11_endsStep_56 : decode prog_1_method_22_code 56 = .ok (.iconst 0, 1) := gd_5 db00c_97
theorem d_X11_endsStep_57 : decode prog_1_method_22_code 57 = .ok (.ireturn, 1) := gd_6 db00c_97
theorem db00c_98 : Ad_ prog_1_method_23_code [(0, .aload_n 0, 1), (1, .getfield 26, 3), (4, .aload_n 1, 1), (5, .getfield 164, 3), (8, .invokevirtual 151, 3), (11, .istore_n 2, 1), (12, .aload_n 1, 1), (13, .getfield 167, 3), (16, .iload_n 2, 1), (17, .if_icmp .ge 25, 3), (20, .aload_n 0, 1), (21, .aload_n 1, 1), (22, .invokevirtual 264, 3), (25, .ifCond .eq 4, 3), (28, .return_, 1), (29, .aload_n 1, 1), (30, .dup, 1), (31, .getfield 167, 3), (34, .iconst 1, 1), (35, .iadd, 1), (36, .putfield 167, 3), (39, .goto (-27), 3), (42, .aload_n 0, 1), (43, .aload_n 1, 1)] := bch_ok prog_1_method_23_code _ 0 (by decide +kernel)
theorem d_X11_doSteps_0 : decode prog_1_method_23_code 0 = .ok (.aload_n 0, 1) := gd_0 db00c_98
theorem d_X11_doSteps_1 : decode prog_1_method_23_code 1 = .ok (.getfield 26, 3) := gd_1 db00c_98
theorem d_X11_doSteps_4 : decode prog_1_method_23_code 4 = .ok (.aload_n 1, 1) := gd_2 db00c_98
theorem d_X11_doSteps_5 : decode prog_1_method_23_code 5 = .ok (.getfield 164, 3) := gd_3 db00c_98
theorem d_X11_doSteps_8 : decode prog_1_method_23_code 8 = .ok (.invokevirtual 151, 3) := gd_4 db00c_98
theorem d_X11_doSteps_11 : decode prog_1_method_23_code 11 = .ok (.istore_n 2, 1) := gd_5 db00c_98
theorem d_X11_doSteps_12 : decode prog_1_method_23_code 12 = .ok (.aload_n 1, 1) := gd_6 db00c_98
theorem d_X11_doSteps_13 : decode prog_1_method_23_code 13 = .ok (.getfield 167, 3) := gd_7 db00c_98
theorem d_X11_doSteps_16 : decode prog_1_method_23_code 16 = .ok (.iload_n 2, 1) := gd_8 db00c_98
theorem d_X11_doSteps_17 : decode prog_1_method_23_code 17 = .ok (.if_icmp .ge 25, 3) := gd_9 db00c_98
theorem d_X11_doSteps_20 : decode prog_1_method_23_code 20 = .ok (.aload_n 0, 1) := gd_10 db00c_98
theorem d_X11_doSteps_21 : decode prog_1_method_23_code 21 = .ok (.aload_n 1, 1) := gd_11 db00c_98
theorem d_X11_doSteps_22 : decode prog_1_method_23_code 22 = .ok (.invokevirtual 264, 3) := gd_12 db00c_98
theorem d_X11_doSteps_25 : decode prog_1_method_23_code 25 = .ok (.ifCond .eq 4, 3) := gd_13 db00c_98
theorem d_X11_doSteps_28 : decode prog_1_method_23_code 28 = .ok (.return_, 1) := gd_14 db00c_98
theorem d_X11_doSteps_29 : decode prog_1_method_23_code 29 = .ok (.aload_n 1, 1) := gd_15 db00c_98
theorem d_X11_doSteps_30 : decode prog_1_method_23_code 30 = .ok (.dup, 1) := gd_16 db00c_98
theorem d_X11_doSteps_31 : decode prog_1_method_23_code 31 = .ok (.getfield 167, 3) := gd_17 db00c_98
theorem d_X11_doSteps_34 : decode prog_1_method_23_code 34 = .ok (.iconst 1, 1) := gd_18 db00c_98
theorem d_X11_doSteps_35 : decode prog_1_method_23_code 35 = .ok (.iadd, 1) := gd_19 db00c_98
theorem d_X11_doSteps_36 : decode prog_1_method_23_code 36 = .ok (.putfield 167, 3) := gd_20 db00c_98
theorem d_X11_doSteps_39 : decode prog_1_method_23_code 39 = .ok (.goto (-27), 3) := gd_21 db00c_98
theorem d_X11_doSteps_42 : decode prog_1_method_23_code 42 = .ok (.aload_n 0, 1) := gd_22 db00c_98
theorem d_X11_doSteps_43 : decode prog_1_method_23_code 43 = .ok (.aload_n 1, 1) := gd_23 db00c_98
theorem d_X11_doSteps_44 : decode prog_1_method_23_code 44 = .ok (.invokevirtual 268, 3) := by decide +kernel
theorem d_X11_doSteps_47 : decode prog_1_method_23_code 47 = .ok (.return_, 1) := by decide +kernel
theorem d_X11_takesTime_20 : decode prog_1_method_24_code 20 = .ok (.tableswitch 62 1 3 #[28, 55, 43], 28) := by decide +kernel
theorem db00c_99 : Ad_ prog_1_method_24_code [(0, .aload_n 0, 1), (1, .getfield 26, 3), (4, .aload_n 1, 1), (5, .getfield 164, 3), (8, .aload_n 1, 1), (9, .getfield 167, 3), (12, .invokevirtual 189, 3), (15, .istore_n 2, 1), (16, .iload_n 2, 1), (17, .invokestatic 192, 3), (48, .aload_n 1, 1), (49, .aload_n 0, 1), (50, .getfield 92, 3), (53, .iload_n 2, 1), (54, .invokestatic 198, 3), (57, .iadd, 1), (58, .putfield 219, 3), (61, .iconst 1, 1), (62, .ireturn, 1), (63, .aload_n 1, 1), (64, .aload_n 0, 1), (65, .getfield 92, 3), (68, .iconst 1, 1), (69, .iadd, 1)] := bch_ok prog_1_method_24_code _ 0 (by decide +kernel)
theorem d_X11_takesTime_0 : decode prog_1_method_24_code 0 = .ok (.aload_n 0, 1) := gd_0 db00c_99
theorem d_X11_takesTime_1 : decode prog_1_method_24_code 1 = .ok (.getfield 26, 3) := gd_1 db00c_99
theorem d_X11_takesTime_4 : decode prog_1_method_24_code 4 = .ok (.aload_n 1, 1) := gd_2 db00c_99
theorem d_X11_takesTime_5 : decode prog_1_method_24_code 5 = .ok (.getfield 164, 3) := gd_3 db00c_99
theorem d_X11_takesTime_8 : decode prog_1_method_24_code 8 = .ok (.aload_n 1, 1) := gd_4 db00c_99
theorem d_X11_takesTime_9 : decode prog_1_method_24_code 9 = .ok (.getfield 167, 3) := gd_5 db00c_99
theorem d_X11_takesTime_12 : decode prog_1_method_24_code 12 = .ok (.invokevirtual 189, 3) := gd_6 db00c_99
theorem d_X11_takesTime_15 : decode prog_1_method_24_code 15 = .ok (.istore_n 2, 1) := gd_7 db00c_99
theorem d_X11_takesTime_16 : decode prog_1_method_24_code 16 = .ok (.iload_n 2, 1) := gd_8 db00c_99
theorem d_X11_takesTime_17 : decode prog_1_method_24_code 17 = .ok (.invokestatic 192, 3) := gd_9 db00c_99
theorem d_X11_takesTime_48 : decode prog_1_method_24_code 48 = .ok (.aload_n 1, 1) := gd_10 db00c_99
theorem d_X11_takesTime_49 : decode prog_1_method_24_code 49 = .ok (.aload_n 0, 1) := gd_11 db00c_99
theorem d_X11_takesTime_50 : decode prog_1_method_24_code 50 = .ok (.getfield 92, 3) := gd_12 db00c_99
theorem d_X11_takesTime_53 : decode prog_1_method_24_code 53 = .ok (.iload_n 2, 1) := gd_13 db00c_99
theorem d_X11_takesTime_54 : decode prog_1_method_24_code 54 = .ok (.invokestatic 198, 3) := gd_14 db00c_99
theorem d_X11_takesTime_57 : decode prog_1_method_24_code 57 = .ok (.iadd, 1) := gd_15 db00c_99
theorem d_X11_takesTime_58 : decode prog_1_method_24_code 58 = .ok (.putfield 219, 3) := gd_16 db00c_99
theorem d_X11_takesTime_61 : decode prog_1_method_24_code 61 = .ok (.iconst 1, 1) := gd_17 db00c_99
theorem d_X11_takesTime_62 : decode prog_1_method_24_code 62 = .ok (.ireturn, 1) := gd_18 db00c_99
theorem d_X11_takesTime_63 : decode prog_1_method_24_code 63 = .ok (.aload_n 1, 1) := gd_19 db00c_99
theorem d_X11_takesTime_64 : decode prog_1_method_24_code 64 = .ok (.aload_n 0, 1) := gd_20 db00c_99
theorem d_X11_takesTime_65 : decode prog_1_method_24_code 65 = .ok (.getfield 92, 3) := gd_21 db00c_99
theorem d_X11_takesTime_68 : decode prog_1_method_24_code 68 = .ok (.iconst 1, 1) := gd_22 db00c_99
theorem d_X11_takesTime_69 : decode prog_1_method_24_code 69 = .ok (.iadd, 1) := gd_23 db00c_99
theorem db00c_100 : Ad_ prog_1_method_24_code [(70, .putfield 219, 3), (73, .iconst 1, 1), (74, .ireturn, 1), (75, .aload_n 0, 1), (76, .aload_n 1, 1), (77, .iload_n 2, 1), (78, .invokevirtual 271, 3), (81, .ireturn, 1), (82, .aload_n 0, 1), (83, .aload_n 1, 1), (84, .iload_n 2, 1), (85, .invokestatic 195, 3), (88, .invokevirtual 274, 3), (91, .ireturn, 1)] := bch_ok prog_1_method_24_code _ 70 (by decide +kernel)
theorem d_X11_takesTime_70 : decode prog_1_method_24_code 70 = .ok (.putfield 219, 3) := gd_0 db00c_100
theorem d_X11_takesTime_73 : decode prog_1_method_24_code 73 = .ok (.iconst 1, 1) := gd_1 db00c_100
theorem d_X11_takesTime_74 : decode prog_1_method_24_code 74 = .ok (.ireturn, 1) := gd_2 db00c_100
theorem d_X11_takesTime_75 : decode prog_1_method_24_code 75 = .ok (.aload_n 0, 1) := gd_3 db00c_100
theorem d_X11_takesTime_76 : decode prog_1_method_24_code 76 = .ok (.aload_n 1, 1) := gd_4 db00c_100
theorem d_X11_takesTime_77 : decode prog_1_method_24_code 77 = .ok (.iload_n 2, 1) := gd_5 db00c_100
theorem d_X11_takesTime_78 : decode prog_1_method_24_code 78 = .ok (.invokevirtual 271, 3) := gd_6 db00c_100
theorem d_X11_takesTime_81 : decode prog_1_method_24_code 81 = .ok (.ireturn, 1) := gd_7 db00c_100
theorem d_X11_takesTime_82 : decode prog_1_method_24_code 82 = .ok (.aload_n 0, 1) := gd_8 db00c_100
theorem d_X11_takesTime_83 : decode prog_1_method_24_code 83 = .ok (.aload_n 1, 1) := gd_9 db00c_100
theorem d_X11_takesTime_84 : decode prog_1_method_24_code 84 = .ok (.iload_n 2, 1) := gd_10 db00c_100
theorem d_X11_takesTime_85 : decode prog_1_method_24_code 85 = .ok (.invokestatic 195, 3) := gd_11 db00c_100
theorem d_X11_takesTime_88 : decode prog_1_method_24_code 88 = .ok (.invokevirtual 274, 3) := gd_12 db00c_100
theorem d_X11_takesTime_91 : decode prog_1_method_24_code 91 = .ok (.ireturn, 1) := gd_13 db00c_100
theorem db00c_101 : Ad_ prog_1_method_25_code [(0, .iload_n 2, 1), (1, .invokestatic 195, 3), (4, .istore_n 3, 1), (5, .aload_n 0, 1), (6, .getfield 10, 3), (9, .aload_n 1, 1), (10, .getfield 277, 3), (13, .iload_n 3, 1), (14, .invokevirtual 115, 3), (17, .iconst (-1), 1), (18, .if_icmp .ne 12, 3), (21, .aload_n 0, 1), (22, .aload_n 1, 1), (23, .iconst 2, 1), (24, .iconst 2, 1), (25, .invokevirtual 280, 3), (28, .iconst 0, 1), (29, .ireturn, 1), (30, .aload_n 0, 1), (31, .aload_n 1, 1), (32, .iload_n 3, 1), (33, .invokevirtual 274, 3), (36, .ifCond .ne 12, 3), (39, .aload_n 0, 1)] := bch_ok prog_1_method_25_code _ 0 (by decide +kernel)
theorem d_X11_goesToMeet_0 : decode prog_1_method_25_code 0 = .ok (.iload_n 2, 1) := gd_0 db00c_101
theorem d_X11_goesToMeet_1 : decode prog_1_method_25_code 1 = .ok (.invokestatic 195, 3) := gd_1 db00c_101
theorem d_X11_goesToMeet_4 : decode prog_1_method_25_code 4 = .ok (.istore_n 3, 1) := gd_2 db00c_101
theorem d_X11_goesToMeet_5 : decode prog_1_method_25_code 5 = .ok (.aload_n 0, 1) := gd_3 db00c_101
theorem d_X11_goesToMeet_6 : decode prog_1_method_25_code 6 = .ok (.getfield 10, 3) := gd_4 db00c_101
theorem d_X11_goesToMeet_9 : decode prog_1_method_25_code 9 = .ok (.aload_n 1, 1) := gd_5 db00c_101
theorem d_X11_goesToMeet_10 : decode prog_1_method_25_code 10 = .ok (.getfield 277, 3) := gd_6 db00c_101
theorem d_X11_goesToMeet_13 : decode prog_1_method_25_code 13 = .ok (.iload_n 3, 1) := gd_7 db00c_101
theorem d_X11_goesToMeet_14 : decode prog_1_method_25_code 14 = .ok (.invokevirtual 115, 3) := gd_8 db00c_101
theorem d_X11_goesToMeet_17 : decode prog_1_method_25_code 17 = .ok (.iconst (-1), 1) := gd_9 db00c_101
theorem d_X11_goesToMeet_18 : decode prog_1_method_25_code 18 = .ok (.if_icmp .ne 12, 3) := gd_10 db00c_101
theorem d_X11_goesToMeet_21 : decode prog_1_method_25_code 21 = .ok (.aload_n 0, 1) := gd_11 db00c_101
theorem d_X11_goesToMeet_22 : decode prog_1_method_25_code 22 = .ok (.aload_n 1, 1) := gd_12 db00c_101
theorem d_X11_goesToMeet_23 : decode prog_1_method_25_code 23 = .ok (.iconst 2, 1) := gd_13 db00c_101
theorem d_X11_goesToMeet_24 : decode prog_1_method_25_code 24 = .ok (.iconst 2, 1) := gd_14 db00c_101
theorem d_X11_goesToMeet_25 : decode prog_1_method_25_code 25 = .ok (.invokevirtual 280, 3) := gd_15 db00c_101
theorem d_X11_goesToMeet_28 : decode prog_1_method_25_code 28 = .ok (.iconst 0, 1) := gd_16 db00c_101
theorem d_X11_goesToMeet_29 : decode prog_1_method_25_code 29 = .ok (.ireturn, 1) := gd_17 db00c_101
theorem d_X11_goesToMeet_30 : decode prog_1_method_25_code 30 = .ok (.aload_n 0, 1) := gd_18 db00c_101
theorem d_X11_goesToMeet_31 : decode prog_1_method_25_code 31 = .ok (.aload_n 1, 1) := gd_19 db00c_101
theorem d_X11_goesToMeet_32 : decode prog_1_method_25_code 32 = .ok (.iload_n 3, 1) := gd_20 db00c_101
theorem d_X11_goesToMeet_33 : decode prog_1_method_25_code 33 = .ok (.invokevirtual 274, 3) := gd_21 db00c_101
theorem d_X11_goesToMeet_36 : decode prog_1_method_25_code 36 = .ok (.ifCond .ne 12, 3) := gd_22 db00c_101
theorem d_X11_goesToMeet_39 : decode prog_1_method_25_code 39 = .ok (.aload_n 0, 1) := gd_23 db00c_101
theorem db00c_102 : Ad_ prog_1_method_25_code [(40, .aload_n 1, 1), (41, .iload_n 2, 1), (42, .invokevirtual 260, 3), (45, .ifCond .eq 7, 3), (48, .iconst 1, 1), (49, .goto 4, 3), (52, .iconst 0, 1), (53, .ireturn, 1)] := bch_ok prog_1_method_25_code _ 40 (by decide +kernel)
theorem d_X11_goesToMeet_40 : decode prog_1_method_25_code 40 = .ok (.aload_n 1, 1) := gd_0 db00c_102
theorem d_X11_goesToMeet_41 : decode prog_1_method_25_code 41 = .ok (.iload_n 2, 1) := gd_1 db00c_102
theorem d_X11_goesToMeet_42 : decode prog_1_method_25_code 42 = .ok (.invokevirtual 260, 3) := gd_2 db00c_102
theorem d_X11_goesToMeet_45 : decode prog_1_method_25_code 45 = .ok (.ifCond .eq 7, 3) := gd_3 db00c_102
theorem d_X11_goesToMeet_48 : decode prog_1_method_25_code 48 = .ok (.iconst 1, 1) := gd_4 db00c_102
theorem d_X11_goesToMeet_49 : decode prog_1_method_25_code 49 = .ok (.goto 4, 3) := gd_5 db00c_102
theorem d_X11_goesToMeet_52 : decode prog_1_method_25_code 52 = .ok (.iconst 0, 1) := gd_6 db00c_102
theorem d_X11_goesToMeet_53 : decode prog_1_method_25_code 53 = .ok (.ireturn, 1) := gd_7 db00c_102
theorem db00c_103 : Ad_ prog_1_method_26_code [(0, .aload_n 1, 1), (1, .getfield 170, 3), (4, .iload_n 2, 1), (5, .invokestatic 198, 3), (8, .iadd, 1), (9, .istore_n 3, 1), (10, .aload_n 0, 1), (11, .getfield 92, 3), (14, .iload_n 3, 1), (15, .if_icmp .le 12, 3), (18, .aload_n 0, 1), (19, .aload_n 1, 1), (20, .iconst 2, 1), (21, .iconst 1, 1), (22, .invokevirtual 280, 3), (25, .iconst 0, 1), (26, .ireturn, 1), (27, .aload_n 0, 1), (28, .aload_n 1, 1), (29, .iconst 1, 1), (30, .iconst (-1), 1), (31, .invokevirtual 280, 3), (34, .iload_n 3, 1), (35, .aload_n 0, 1)] := bch_ok prog_1_method_26_code _ 0 (by decide +kernel)
theorem d_X11_waitsAtPoint_0 : decode prog_1_method_26_code 0 = .ok (.aload_n 1, 1) := gd_0 db00c_103
theorem d_X11_waitsAtPoint_1 : decode prog_1_method_26_code 1 = .ok (.getfield 170, 3) := gd_1 db00c_103
theorem d_X11_waitsAtPoint_4 : decode prog_1_method_26_code 4 = .ok (.iload_n 2, 1) := gd_2 db00c_103
theorem d_X11_waitsAtPoint_5 : decode prog_1_method_26_code 5 = .ok (.invokestatic 198, 3) := gd_3 db00c_103
theorem d_X11_waitsAtPoint_8 : decode prog_1_method_26_code 8 = .ok (.iadd, 1) := gd_4 db00c_103
theorem d_X11_waitsAtPoint_9 : decode prog_1_method_26_code 9 = .ok (.istore_n 3, 1) := gd_5 db00c_103
theorem d_X11_waitsAtPoint_10 : decode prog_1_method_26_code 10 = .ok (.aload_n 0, 1) := gd_6 db00c_103
theorem d_X11_waitsAtPoint_11 : decode prog_1_method_26_code 11 = .ok (.getfield 92, 3) := gd_7 db00c_103
theorem d_X11_waitsAtPoint_14 : decode prog_1_method_26_code 14 = .ok (.iload_n 3, 1) := gd_8 db00c_103
theorem d_X11_waitsAtPoint_15 : decode prog_1_method_26_code 15 = .ok (.if_icmp .le 12, 3) := gd_9 db00c_103
theorem d_X11_waitsAtPoint_18 : decode prog_1_method_26_code 18 = .ok (.aload_n 0, 1) := gd_10 db00c_103
theorem d_X11_waitsAtPoint_19 : decode prog_1_method_26_code 19 = .ok (.aload_n 1, 1) := gd_11 db00c_103
theorem d_X11_waitsAtPoint_20 : decode prog_1_method_26_code 20 = .ok (.iconst 2, 1) := gd_12 db00c_103
theorem d_X11_waitsAtPoint_21 : decode prog_1_method_26_code 21 = .ok (.iconst 1, 1) := gd_13 db00c_103
theorem d_X11_waitsAtPoint_22 : decode prog_1_method_26_code 22 = .ok (.invokevirtual 280, 3) := gd_14 db00c_103
theorem d_X11_waitsAtPoint_25 : decode prog_1_method_26_code 25 = .ok (.iconst 0, 1) := gd_15 db00c_103
theorem d_X11_waitsAtPoint_26 : decode prog_1_method_26_code 26 = .ok (.ireturn, 1) := gd_16 db00c_103
theorem d_X11_waitsAtPoint_27 : decode prog_1_method_26_code 27 = .ok (.aload_n 0, 1) := gd_17 db00c_103
theorem d_X11_waitsAtPoint_28 : decode prog_1_method_26_code 28 = .ok (.aload_n 1, 1) := gd_18 db00c_103
theorem d_X11_waitsAtPoint_29 : decode prog_1_method_26_code 29 = .ok (.iconst 1, 1) := gd_19 db00c_103
theorem d_X11_waitsAtPoint_30 : decode prog_1_method_26_code 30 = .ok (.iconst (-1), 1) := gd_20 db00c_103
theorem d_X11_waitsAtPoint_31 : decode prog_1_method_26_code 31 = .ok (.invokevirtual 280, 3) := gd_21 db00c_103
theorem d_X11_waitsAtPoint_34 : decode prog_1_method_26_code 34 = .ok (.iload_n 3, 1) := gd_22 db00c_103
theorem d_X11_waitsAtPoint_35 : decode prog_1_method_26_code 35 = .ok (.aload_n 0, 1) := gd_23 db00c_103
theorem db00c_104 : Ad_ prog_1_method_26_code [(36, .getfield 92, 3), (39, .if_icmp .le 10, 3), (42, .aload_n 1, 1), (43, .iload_n 3, 1), (44, .putfield 219, 3), (47, .iconst 1, 1), (48, .ireturn, 1), (49, .iconst 0, 1), (50, .ireturn, 1)] := bch_ok prog_1_method_26_code _ 36 (by decide +kernel)
theorem d_X11_waitsAtPoint_36 : decode prog_1_method_26_code 36 = .ok (.getfield 92, 3) := gd_0 db00c_104
theorem d_X11_waitsAtPoint_39 : decode prog_1_method_26_code 39 = .ok (.if_icmp .le 10, 3) := gd_1 db00c_104
theorem d_X11_waitsAtPoint_42 : decode prog_1_method_26_code 42 = .ok (.aload_n 1, 1) := gd_2 db00c_104
theorem d_X11_waitsAtPoint_43 : decode prog_1_method_26_code 43 = .ok (.iload_n 3, 1) := gd_3 db00c_104
theorem d_X11_waitsAtPoint_44 : decode prog_1_method_26_code 44 = .ok (.putfield 219, 3) := gd_4 db00c_104
theorem d_X11_waitsAtPoint_47 : decode prog_1_method_26_code 47 = .ok (.iconst 1, 1) := gd_5 db00c_104
theorem d_X11_waitsAtPoint_48 : decode prog_1_method_26_code 48 = .ok (.ireturn, 1) := gd_6 db00c_104
theorem d_X11_waitsAtPoint_49 : decode prog_1_method_26_code 49 = .ok (.iconst 0, 1) := gd_7 db00c_104
theorem d_X11_waitsAtPoint_50 : decode prog_1_method_26_code 50 = .ok (.ireturn, 1) := gd_8 db00c_104
theorem db00c_105 : Ad_ prog_1_method_27_code [(0, .aload_n 0, 1), (1, .getfield 10, 3), (4, .aload_n 1, 1), (5, .getfield 277, 3), (8, .iload_n 2, 1), (9, .invokevirtual 115, 3), (12, .istore_n 3, 1)] := bch_ok prog_1_method_27_code _ 0 (by decide +kernel)
theorem d_X11_setsOut_0 : decode prog_1_method_27_code 0 = .ok (.aload_n 0, 1) := gd_0 db00c_105
theorem d_X11_setsOut_1 : decode prog_1_method_27_code 1 = .ok (.getfield 10, 3) := gd_1 db00c_105
theorem d_X11_setsOut_4 : decode prog_1_method_27_code 4 = .ok (.aload_n 1, 1) := gd_2 db00c_105
theorem d_X11_setsOut_5 : decode prog_1_method_27_code 5 = .ok (.getfield 277, 3) := gd_3 db00c_105
theorem d_X11_setsOut_8 : decode prog_1_method_27_code 8 = .ok (.iload_n 2, 1) := gd_4 db00c_105
theorem d_X11_setsOut_9 : decode prog_1_method_27_code 9 = .ok (.invokevirtual 115, 3) := gd_5 db00c_105
theorem d_X11_setsOut_12 : decode prog_1_method_27_code 12 = .ok (.istore_n 3, 1) := gd_6 db00c_105
