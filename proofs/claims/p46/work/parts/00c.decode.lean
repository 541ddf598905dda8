theorem db00c_0 : Pf_ prog_10_method_14_code [(126, [0x60]), (127, [0xb5, 0x00, 0x2f]), (130, [0x2a]), (131, [0x06]), (132, [0x03]), (133, [0x03]), (134, [0xb6, 0x00, 0x59]), (137, [0xac]), (138, [0x2a]), (139, [0x1b]), (140, [0xb6, 0x00, 0x5f]), (143, [0xac]), (144, [0x2a]), (145, [0xb6, 0x00, 0x43]), (148, [0xac])] := pf_ok prog_10_method_14_code _ 126 (by decide +kernel)
theorem d_X8_readStep_126 : decode prog_10_method_14_code 126 = .ok (.iadd, 1) := gq_0 db00c_0 eb_35
theorem d_X8_readStep_127 : decode prog_10_method_14_code 127 = .ok (.putfield 47, 3) := gq_1 db00c_0 eb_452
theorem d_X8_readStep_130 : decode prog_10_method_14_code 130 = .ok (.aload_n 0, 1) := gq_2 db00c_0 eb_0
theorem d_X8_readStep_131 : decode prog_10_method_14_code 131 = .ok (.iconst 3, 1) := gq_3 db00c_0 eb_54
theorem d_X8_readStep_132 : decode prog_10_method_14_code 132 = .ok (.iconst 0, 1) := gq_4 db00c_0 eb_21
theorem d_X8_readStep_133 : decode prog_10_method_14_code 133 = .ok (.iconst 0, 1) := gq_5 db00c_0 eb_21
theorem d_X8_readStep_134 : decode prog_10_method_14_code 134 = .ok (.invokevirtual 89, 3) := gq_6 db00c_0 eb_470
theorem d_X8_readStep_137 : decode prog_10_method_14_code 137 = .ok (.ireturn, 1) := gq_7 db00c_0 eb_15
theorem d_X8_readStep_138 : decode prog_10_method_14_code 138 = .ok (.aload_n 0, 1) := gq_8 db00c_0 eb_0
theorem d_X8_readStep_139 : decode prog_10_method_14_code 139 = .ok (.iload_n 1, 1) := gq_9 db00c_0 eb_9
theorem d_X8_readStep_140 : decode prog_10_method_14_code 140 = .ok (.invokevirtual 95, 3) := gq_10 db00c_0 eb_473
theorem d_X8_readStep_143 : decode prog_10_method_14_code 143 = .ok (.ireturn, 1) := gq_11 db00c_0 eb_15
theorem d_X8_readStep_144 : decode prog_10_method_14_code 144 = .ok (.aload_n 0, 1) := gq_12 db00c_0 eb_0
theorem d_X8_readStep_145 : decode prog_10_method_14_code 145 = .ok (.invokevirtual 67, 3) := gq_13 db00c_0 eb_215
theorem d_X8_readStep_148 : decode prog_10_method_14_code 148 = .ok (.ireturn, 1) := gq_14 db00c_0 eb_15
theorem db00c_1 : Pf_ prog_10_method_15_code [(0, [0x2a]), (1, [0x03]), (2, [0x10, 0x0f]), (4, [0xb6, 0x00, 0x55]), (7, [0x3c]), (8, [0x1b]), (9, [0x02]), (10, [0x9f, 0x00, 0x18]), (13, [0x2a]), (14, [0x05]), (15, [0x1b]), (16, [0x2a]), (17, [0x03]), (18, [0x11, 0x05, 0xa0]), (21, [0xb6, 0x00, 0x55]), (24, [0xb6, 0x00, 0x59]), (27, [0x99, 0x00, 0x07]), (30, [0x04]), (31, [0xa7, 0x00, 0x04]), (34, [0x03]), (35, [0xac])] := pf_ok prog_10_method_15_code _ 0 (by decide +kernel)
theorem d_X8_readPoint_0 : decode prog_10_method_15_code 0 = .ok (.aload_n 0, 1) := gq_0 db00c_1 eb_0
theorem d_X8_readPoint_1 : decode prog_10_method_15_code 1 = .ok (.iconst 0, 1) := gq_1 db00c_1 eb_21
theorem d_X8_readPoint_2 : decode prog_10_method_15_code 2 = .ok (.bipush 15, 2) := gq_2 db00c_1 eb_57
theorem d_X8_readPoint_4 : decode prog_10_method_15_code 4 = .ok (.invokevirtual 85, 3) := gq_3 db00c_1 eb_469
theorem d_X8_readPoint_7 : decode prog_10_method_15_code 7 = .ok (.istore_n 1, 1) := gq_4 db00c_1 eb_222
theorem d_X8_readPoint_8 : decode prog_10_method_15_code 8 = .ok (.iload_n 1, 1) := gq_5 db00c_1 eb_9
theorem d_X8_readPoint_9 : decode prog_10_method_15_code 9 = .ok (.iconst (-1), 1) := gq_6 db00c_1 eb_26
theorem d_X8_readPoint_10 : decode prog_10_method_15_code 10 = .ok (.if_icmp .eq 24, 3) := gq_7 db00c_1 eb_474
theorem d_X8_readPoint_13 : decode prog_10_method_15_code 13 = .ok (.aload_n 0, 1) := gq_8 db00c_1 eb_0
theorem d_X8_readPoint_14 : decode prog_10_method_15_code 14 = .ok (.iconst 2, 1) := gq_9 db00c_1 eb_10
theorem d_X8_readPoint_15 : decode prog_10_method_15_code 15 = .ok (.iload_n 1, 1) := gq_10 db00c_1 eb_9
theorem d_X8_readPoint_16 : decode prog_10_method_15_code 16 = .ok (.aload_n 0, 1) := gq_11 db00c_1 eb_0
theorem d_X8_readPoint_17 : decode prog_10_method_15_code 17 = .ok (.iconst 0, 1) := gq_12 db00c_1 eb_21
theorem d_X8_readPoint_18 : decode prog_10_method_15_code 18 = .ok (.sipush 1440, 3) := gq_13 db00c_1 eb_289
theorem d_X8_readPoint_21 : decode prog_10_method_15_code 21 = .ok (.invokevirtual 85, 3) := gq_14 db00c_1 eb_469
theorem d_X8_readPoint_24 : decode prog_10_method_15_code 24 = .ok (.invokevirtual 89, 3) := gq_15 db00c_1 eb_470
theorem d_X8_readPoint_27 : decode prog_10_method_15_code 27 = .ok (.ifCond .eq 7, 3) := gq_16 db00c_1 eb_123
theorem d_X8_readPoint_30 : decode prog_10_method_15_code 30 = .ok (.iconst 1, 1) := gq_17 db00c_1 eb_19
theorem d_X8_readPoint_31 : decode prog_10_method_15_code 31 = .ok (.goto 4, 3) := gq_18 db00c_1 eb_20
theorem d_X8_readPoint_34 : decode prog_10_method_15_code 34 = .ok (.iconst 0, 1) := gq_19 db00c_1 eb_21
theorem d_X8_readPoint_35 : decode prog_10_method_15_code 35 = .ok (.ireturn, 1) := gq_20 db00c_1 eb_15
theorem db00c_2 : Pf_ prog_10_method_16_code [(0, [0x1b]), (1, [0x07]), (2, [0xa1, 0x00, 0x08]), (5, [0x2a]), (6, [0xb6, 0x00, 0x43]), (9, [0xac]), (10, [0x2a]), (11, [0x59]), (12, [0xb4, 0x00, 0x2f]), (15, [0x04]), (16, [0x60]), (17, [0xb5, 0x00, 0x2f]), (20, [0x2a]), (21, [0xb4, 0x00, 0x35]), (24, [0x3d]), (25, [0x2a]), (26, [0x1b]), (27, [0x04]), (28, [0x60]), (29, [0xb6, 0x00, 0x4f]), (32, [0x99, 0x00, 0x0c]), (35, [0x2a]), (36, [0x10, 0x29]), (38, [0xb6, 0x00, 0x62])] := pf_ok prog_10_method_16_code _ 0 (by decide +kernel)
theorem d_X8_readGroup_0 : decode prog_10_method_16_code 0 = .ok (.iload_n 1, 1) := gq_0 db00c_2 eb_9
theorem d_X8_readGroup_1 : decode prog_10_method_16_code 1 = .ok (.iconst 4, 1) := gq_1 db00c_2 eb_291
theorem d_X8_readGroup_2 : decode prog_10_method_16_code 2 = .ok (.if_icmp .lt 8, 3) := gq_2 db00c_2 eb_348
theorem d_X8_readGroup_5 : decode prog_10_method_16_code 5 = .ok (.aload_n 0, 1) := gq_3 db00c_2 eb_0
theorem d_X8_readGroup_6 : decode prog_10_method_16_code 6 = .ok (.invokevirtual 67, 3) := gq_4 db00c_2 eb_215
theorem d_X8_readGroup_9 : decode prog_10_method_16_code 9 = .ok (.ireturn, 1) := gq_5 db00c_2 eb_15
theorem d_X8_readGroup_10 : decode prog_10_method_16_code 10 = .ok (.aload_n 0, 1) := gq_6 db00c_2 eb_0
theorem d_X8_readGroup_11 : decode prog_10_method_16_code 11 = .ok (.dup, 1) := gq_7 db00c_2 eb_46
theorem d_X8_readGroup_12 : decode prog_10_method_16_code 12 = .ok (.getfield 47, 3) := gq_8 db00c_2 eb_455
theorem d_X8_readGroup_15 : decode prog_10_method_16_code 15 = .ok (.iconst 1, 1) := gq_9 db00c_2 eb_19
theorem d_X8_readGroup_16 : decode prog_10_method_16_code 16 = .ok (.iadd, 1) := gq_10 db00c_2 eb_35
theorem d_X8_readGroup_17 : decode prog_10_method_16_code 17 = .ok (.putfield 47, 3) := gq_11 db00c_2 eb_452
theorem d_X8_readGroup_20 : decode prog_10_method_16_code 20 = .ok (.aload_n 0, 1) := gq_12 db00c_2 eb_0
theorem d_X8_readGroup_21 : decode prog_10_method_16_code 21 = .ok (.getfield 53, 3) := gq_13 db00c_2 eb_475
theorem d_X8_readGroup_24 : decode prog_10_method_16_code 24 = .ok (.istore_n 2, 1) := gq_14 db00c_2 eb_27
theorem d_X8_readGroup_25 : decode prog_10_method_16_code 25 = .ok (.aload_n 0, 1) := gq_15 db00c_2 eb_0
theorem d_X8_readGroup_26 : decode prog_10_method_16_code 26 = .ok (.iload_n 1, 1) := gq_16 db00c_2 eb_9
theorem d_X8_readGroup_27 : decode prog_10_method_16_code 27 = .ok (.iconst 1, 1) := gq_17 db00c_2 eb_19
theorem d_X8_readGroup_28 : decode prog_10_method_16_code 28 = .ok (.iadd, 1) := gq_18 db00c_2 eb_35
theorem d_X8_readGroup_29 : decode prog_10_method_16_code 29 = .ok (.invokevirtual 79, 3) := gq_19 db00c_2 eb_303
theorem d_X8_readGroup_32 : decode prog_10_method_16_code 32 = .ok (.ifCond .eq 12, 3) := gq_20 db00c_2 eb_50
theorem d_X8_readGroup_35 : decode prog_10_method_16_code 35 = .ok (.aload_n 0, 1) := gq_21 db00c_2 eb_0
theorem d_X8_readGroup_36 : decode prog_10_method_16_code 36 = .ok (.bipush 41, 2) := gq_22 db00c_2 eb_476
theorem d_X8_readGroup_38 : decode prog_10_method_16_code 38 = .ok (.invokevirtual 98, 3) := gq_23 db00c_2 eb_477
theorem db00c_3 : Pf_ prog_10_method_16_code [(41, [0x9a, 0x00, 0x05]), (44, [0x03]), (45, [0xac]), (46, [0x2a]), (47, [0x04]), (48, [0x10, 0x14]), (50, [0xb6, 0x00, 0x55]), (53, [0x3e]), (54, [0x1d]), (55, [0x02]), (56, [0xa0, 0x00, 0x05]), (59, [0x03]), (60, [0xac]), (61, [0x2a]), (62, [0xb4, 0x00, 0x35]), (65, [0x36, 0x04]), (67, [0x04]), (68, [0x36, 0x05]), (70, [0x15, 0x05]), (72, [0x1d]), (73, [0xa2, 0x00, 0x2b]), (76, [0x2a]), (77, [0xb4, 0x00, 0x38]), (80, [0x9a, 0x00, 0x24])] := pf_ok prog_10_method_16_code _ 41 (by decide +kernel)
theorem d_X8_readGroup_41 : decode prog_10_method_16_code 41 = .ok (.ifCond .ne 5, 3) := gq_0 db00c_3 eb_150
theorem d_X8_readGroup_44 : decode prog_10_method_16_code 44 = .ok (.iconst 0, 1) := gq_1 db00c_3 eb_21
theorem d_X8_readGroup_45 : decode prog_10_method_16_code 45 = .ok (.ireturn, 1) := gq_2 db00c_3 eb_15
theorem d_X8_readGroup_46 : decode prog_10_method_16_code 46 = .ok (.aload_n 0, 1) := gq_3 db00c_3 eb_0
theorem d_X8_readGroup_47 : decode prog_10_method_16_code 47 = .ok (.iconst 1, 1) := gq_4 db00c_3 eb_19
theorem d_X8_readGroup_48 : decode prog_10_method_16_code 48 = .ok (.bipush 20, 2) := gq_5 db00c_3 eb_478
theorem d_X8_readGroup_50 : decode prog_10_method_16_code 50 = .ok (.invokevirtual 85, 3) := gq_6 db00c_3 eb_469
theorem d_X8_readGroup_53 : decode prog_10_method_16_code 53 = .ok (.istore_n 3, 1) := gq_7 db00c_3 eb_28
theorem d_X8_readGroup_54 : decode prog_10_method_16_code 54 = .ok (.iload_n 3, 1) := gq_8 db00c_3 eb_29
theorem d_X8_readGroup_55 : decode prog_10_method_16_code 55 = .ok (.iconst (-1), 1) := gq_9 db00c_3 eb_26
theorem d_X8_readGroup_56 : decode prog_10_method_16_code 56 = .ok (.if_icmp .ne 5, 3) := gq_10 db00c_3 eb_479
theorem d_X8_readGroup_59 : decode prog_10_method_16_code 59 = .ok (.iconst 0, 1) := gq_11 db00c_3 eb_21
theorem d_X8_readGroup_60 : decode prog_10_method_16_code 60 = .ok (.ireturn, 1) := gq_12 db00c_3 eb_15
theorem d_X8_readGroup_61 : decode prog_10_method_16_code 61 = .ok (.aload_n 0, 1) := gq_13 db00c_3 eb_0
theorem d_X8_readGroup_62 : decode prog_10_method_16_code 62 = .ok (.getfield 53, 3) := gq_14 db00c_3 eb_475
theorem d_X8_readGroup_65 : decode prog_10_method_16_code 65 = .ok (.istore 4, 2) := gq_15 db00c_3 eb_133
theorem d_X8_readGroup_67 : decode prog_10_method_16_code 67 = .ok (.iconst 1, 1) := gq_16 db00c_3 eb_19
theorem d_X8_readGroup_68 : decode prog_10_method_16_code 68 = .ok (.istore 5, 2) := gq_17 db00c_3 eb_134
theorem d_X8_readGroup_70 : decode prog_10_method_16_code 70 = .ok (.iload 5, 2) := gq_18 db00c_3 eb_125
theorem d_X8_readGroup_72 : decode prog_10_method_16_code 72 = .ok (.iload_n 3, 1) := gq_19 db00c_3 eb_29
theorem d_X8_readGroup_73 : decode prog_10_method_16_code 73 = .ok (.if_icmp .ge 43, 3) := gq_20 db00c_3 eb_246
theorem d_X8_readGroup_76 : decode prog_10_method_16_code 76 = .ok (.aload_n 0, 1) := gq_21 db00c_3 eb_0
theorem d_X8_readGroup_77 : decode prog_10_method_16_code 77 = .ok (.getfield 56, 3) := gq_22 db00c_3 eb_480
theorem d_X8_readGroup_80 : decode prog_10_method_16_code 80 = .ok (.ifCond .ne 36, 3) := gq_23 db00c_3 eb_481
theorem db00c_4 : Pf_ prog_10_method_16_code [(83, [0x1c]), (84, [0x36, 0x06]), (86, [0x15, 0x06]), (88, [0x15, 0x04]), (90, [0xa2, 0x00, 0x14]), (93, [0x2a]), (94, [0x2a]), (95, [0xb4, 0x00, 0x17]), (98, [0x15, 0x06]), (100, [0x2e]), (101, [0xb6, 0x00, 0x65]), (104, [0x84, 0x06, 0x01]), (107, [0xa7, 0xff, 0xeb]), (110, [0x84, 0x05, 0x01]), (113, [0xa7, 0xff, 0xd5]), (116, [0x04]), (117, [0xac])] := pf_ok prog_10_method_16_code _ 83 (by decide +kernel)
theorem d_X8_readGroup_83 : decode prog_10_method_16_code 83 = .ok (.iload_n 2, 1) := gq_0 db00c_4 eb_13
theorem d_X8_readGroup_84 : decode prog_10_method_16_code 84 = .ok (.istore 6, 2) := gq_1 db00c_4 eb_58
theorem d_X8_readGroup_86 : decode prog_10_method_16_code 86 = .ok (.iload 6, 2) := gq_2 db00c_4 eb_75
theorem d_X8_readGroup_88 : decode prog_10_method_16_code 88 = .ok (.iload 4, 2) := gq_3 db00c_4 eb_76
theorem d_X8_readGroup_90 : decode prog_10_method_16_code 90 = .ok (.if_icmp .ge 20, 3) := gq_4 db00c_4 eb_482
theorem d_X8_readGroup_93 : decode prog_10_method_16_code 93 = .ok (.aload_n 0, 1) := gq_5 db00c_4 eb_0
theorem d_X8_readGroup_94 : decode prog_10_method_16_code 94 = .ok (.aload_n 0, 1) := gq_6 db00c_4 eb_0
theorem d_X8_readGroup_95 : decode prog_10_method_16_code 95 = .ok (.getfield 23, 3) := gq_7 db00c_4 eb_483
theorem d_X8_readGroup_98 : decode prog_10_method_16_code 98 = .ok (.iload 6, 2) := gq_8 db00c_4 eb_75
theorem d_X8_readGroup_100 : decode prog_10_method_16_code 100 = .ok (.iaload, 1) := gq_9 db00c_4 eb_37
theorem d_X8_readGroup_101 : decode prog_10_method_16_code 101 = .ok (.invokevirtual 101, 3) := gq_10 db00c_4 eb_484
theorem d_X8_readGroup_104 : decode prog_10_method_16_code 104 = .ok (.iinc 6 1, 3) := gq_11 db00c_4 eb_72
theorem d_X8_readGroup_107 : decode prog_10_method_16_code 107 = .ok (.goto (-21), 3) := gq_12 db00c_4 eb_485
theorem d_X8_readGroup_110 : decode prog_10_method_16_code 110 = .ok (.iinc 5 1, 3) := gq_13 db00c_4 eb_220
theorem d_X8_readGroup_113 : decode prog_10_method_16_code 113 = .ok (.goto (-43), 3) := gq_14 db00c_4 eb_339
theorem d_X8_readGroup_116 : decode prog_10_method_16_code 116 = .ok (.iconst 1, 1) := gq_15 db00c_4 eb_19
theorem d_X8_readGroup_117 : decode prog_10_method_16_code 117 = .ok (.ireturn, 1) := gq_16 db00c_4 eb_15
theorem db00c_5 : Pf_ prog_10_method_17_code [(0, [0x1c]), (1, [0x02]), (2, [0x9f, 0x00, 0x08]), (5, [0x1d]), (6, [0x02]), (7, [0xa0, 0x00, 0x05]), (10, [0x03]), (11, [0xac]), (12, [0x2a]), (13, [0x1b]), (14, [0x1c]), (15, [0x1d]), (16, [0xb8, 0x00, 0x68]), (19, [0xb6, 0x00, 0x65]), (22, [0x04]), (23, [0xac])] := pf_ok prog_10_method_17_code _ 0 (by decide +kernel)
theorem d_X8_addStep_0 : decode prog_10_method_17_code 0 = .ok (.iload_n 2, 1) := gq_0 db00c_5 eb_13
theorem d_X8_addStep_1 : decode prog_10_method_17_code 1 = .ok (.iconst (-1), 1) := gq_1 db00c_5 eb_26
theorem d_X8_addStep_2 : decode prog_10_method_17_code 2 = .ok (.if_icmp .eq 8, 3) := gq_2 db00c_5 eb_458
theorem d_X8_addStep_5 : decode prog_10_method_17_code 5 = .ok (.iload_n 3, 1) := gq_3 db00c_5 eb_29
theorem d_X8_addStep_6 : decode prog_10_method_17_code 6 = .ok (.iconst (-1), 1) := gq_4 db00c_5 eb_26
theorem d_X8_addStep_7 : decode prog_10_method_17_code 7 = .ok (.if_icmp .ne 5, 3) := gq_5 db00c_5 eb_479
theorem d_X8_addStep_10 : decode prog_10_method_17_code 10 = .ok (.iconst 0, 1) := gq_6 db00c_5 eb_21
theorem d_X8_addStep_11 : decode prog_10_method_17_code 11 = .ok (.ireturn, 1) := gq_7 db00c_5 eb_15
theorem d_X8_addStep_12 : decode prog_10_method_17_code 12 = .ok (.aload_n 0, 1) := gq_8 db00c_5 eb_0
theorem d_X8_addStep_13 : decode prog_10_method_17_code 13 = .ok (.iload_n 1, 1) := gq_9 db00c_5 eb_9
theorem d_X8_addStep_14 : decode prog_10_method_17_code 14 = .ok (.iload_n 2, 1) := gq_10 db00c_5 eb_13
theorem d_X8_addStep_15 : decode prog_10_method_17_code 15 = .ok (.iload_n 3, 1) := gq_11 db00c_5 eb_29
theorem d_X8_addStep_16 : decode prog_10_method_17_code 16 = .ok (.invokestatic 104, 3) := gq_12 db00c_5 eb_486
theorem d_X8_addStep_19 : decode prog_10_method_17_code 19 = .ok (.invokevirtual 101, 3) := gq_13 db00c_5 eb_484
theorem d_X8_addStep_22 : decode prog_10_method_17_code 22 = .ok (.iconst 1, 1) := gq_14 db00c_5 eb_19
theorem d_X8_addStep_23 : decode prog_10_method_17_code 23 = .ok (.ireturn, 1) := gq_15 db00c_5 eb_15
theorem db00c_6 : Pf_ prog_10_method_18_code [(0, [0x2a]), (1, [0xb4, 0x00, 0x35]), (4, [0x2a]), (5, [0xb4, 0x00, 0x17]), (8, [0xbe]), (9, [0xa2, 0x00, 0x1a]), (12, [0x2a]), (13, [0xb4, 0x00, 0x17]), (16, [0x2a]), (17, [0xb4, 0x00, 0x35]), (20, [0x1b]), (21, [0x4f]), (22, [0x2a]), (23, [0x59]), (24, [0xb4, 0x00, 0x35]), (27, [0x04]), (28, [0x60]), (29, [0xb5, 0x00, 0x35]), (32, [0xa7, 0x00, 0x08]), (35, [0x2a]), (36, [0x04]), (37, [0xb5, 0x00, 0x38]), (40, [0xb1])] := pf_ok prog_10_method_18_code _ 0 (by decide +kernel)
theorem d_X8_appendStep_0 : decode prog_10_method_18_code 0 = .ok (.aload_n 0, 1) := gq_0 db00c_6 eb_0
theorem d_X8_appendStep_1 : decode prog_10_method_18_code 1 = .ok (.getfield 53, 3) := gq_1 db00c_6 eb_475
theorem d_X8_appendStep_4 : decode prog_10_method_18_code 4 = .ok (.aload_n 0, 1) := gq_2 db00c_6 eb_0
theorem d_X8_appendStep_5 : decode prog_10_method_18_code 5 = .ok (.getfield 23, 3) := gq_3 db00c_6 eb_483
theorem d_X8_appendStep_8 : decode prog_10_method_18_code 8 = .ok (.arraylength, 1) := gq_4 db00c_6 eb_52
theorem d_X8_appendStep_9 : decode prog_10_method_18_code 9 = .ok (.if_icmp .ge 26, 3) := gq_5 db00c_6 eb_487
theorem d_X8_appendStep_12 : decode prog_10_method_18_code 12 = .ok (.aload_n 0, 1) := gq_6 db00c_6 eb_0
theorem d_X8_appendStep_13 : decode prog_10_method_18_code 13 = .ok (.getfield 23, 3) := gq_7 db00c_6 eb_483
theorem d_X8_appendStep_16 : decode prog_10_method_18_code 16 = .ok (.aload_n 0, 1) := gq_8 db00c_6 eb_0
theorem d_X8_appendStep_17 : decode prog_10_method_18_code 17 = .ok (.getfield 53, 3) := gq_9 db00c_6 eb_475
theorem d_X8_appendStep_20 : decode prog_10_method_18_code 20 = .ok (.iload_n 1, 1) := gq_10 db00c_6 eb_9
theorem d_X8_appendStep_21 : decode prog_10_method_18_code 21 = .ok (.iastore, 1) := gq_11 db00c_6 eb_38
theorem d_X8_appendStep_22 : decode prog_10_method_18_code 22 = .ok (.aload_n 0, 1) := gq_12 db00c_6 eb_0
theorem d_X8_appendStep_23 : decode prog_10_method_18_code 23 = .ok (.dup, 1) := gq_13 db00c_6 eb_46
theorem d_X8_appendStep_24 : decode prog_10_method_18_code 24 = .ok (.getfield 53, 3) := gq_14 db00c_6 eb_475
theorem d_X8_appendStep_27 : decode prog_10_method_18_code 27 = .ok (.iconst 1, 1) := gq_15 db00c_6 eb_19
theorem d_X8_appendStep_28 : decode prog_10_method_18_code 28 = .ok (.iadd, 1) := gq_16 db00c_6 eb_35
theorem d_X8_appendStep_29 : decode prog_10_method_18_code 29 = .ok (.putfield 53, 3) := gq_17 db00c_6 eb_453
theorem d_X8_appendStep_32 : decode prog_10_method_18_code 32 = .ok (.goto 8, 3) := gq_18 db00c_6 eb_488
theorem d_X8_appendStep_35 : decode prog_10_method_18_code 35 = .ok (.aload_n 0, 1) := gq_19 db00c_6 eb_0
theorem d_X8_appendStep_36 : decode prog_10_method_18_code 36 = .ok (.iconst 1, 1) := gq_20 db00c_6 eb_19
theorem d_X8_appendStep_37 : decode prog_10_method_18_code 37 = .ok (.putfield 56, 3) := gq_21 db00c_6 eb_454
theorem d_X8_appendStep_40 : decode prog_10_method_18_code 40 = .ok (.return_, 1) := gq_22 db00c_6 eb_7
theorem db00c_7 : Pf_ prog_10_method_19_code [(0, [0x2a]), (1, [0x1b]), (2, [0x99, 0x00, 0x08]), (5, [0x12, 0x6c]), (7, [0xa7, 0x00, 0x05]), (10, [0x12, 0x6e]), (12, [0xb6, 0x00, 0x4b]), (15, [0x1b]), (16, [0x99, 0x00, 0x0a]), (19, [0x2a]), (20, [0xb6, 0x00, 0x70]), (23, [0xa7, 0x00, 0x07]), (26, [0x2a]), (27, [0xb6, 0x00, 0x73]), (30, [0x3d]), (31, [0x03]), (32, [0x3e]), (33, [0x1d]), (34, [0x11, 0x00, 0xa0]), (37, [0xa2, 0x00, 0x30]), (40, [0x1c]), (41, [0x99, 0x00, 0x2c]), (44, [0x2a]), (45, [0xb6, 0x00, 0x3f])] := pf_ok prog_10_method_19_code _ 0 (by decide +kernel)
theorem d_X8_readRule_0 : decode prog_10_method_19_code 0 = .ok (.aload_n 0, 1) := gq_0 db00c_7 eb_0
theorem d_X8_readRule_1 : decode prog_10_method_19_code 1 = .ok (.iload_n 1, 1) := gq_1 db00c_7 eb_9
theorem d_X8_readRule_2 : decode prog_10_method_19_code 2 = .ok (.ifCond .eq 8, 3) := gq_2 db00c_7 eb_489
theorem d_X8_readRule_5 : decode prog_10_method_19_code 5 = .ok (.ldc 108, 2) := gq_3 db00c_7 eb_490
theorem d_X8_readRule_7 : decode prog_10_method_19_code 7 = .ok (.goto 5, 3) := gq_4 db00c_7 eb_89
theorem d_X8_readRule_10 : decode prog_10_method_19_code 10 = .ok (.ldc 110, 2) := gq_5 db00c_7 eb_491
theorem d_X8_readRule_12 : decode prog_10_method_19_code 12 = .ok (.invokevirtual 75, 3) := gq_6 db00c_7 eb_141
theorem d_X8_readRule_15 : decode prog_10_method_19_code 15 = .ok (.iload_n 1, 1) := gq_7 db00c_7 eb_9
theorem d_X8_readRule_16 : decode prog_10_method_19_code 16 = .ok (.ifCond .eq 10, 3) := gq_8 db00c_7 eb_202
theorem d_X8_readRule_19 : decode prog_10_method_19_code 19 = .ok (.aload_n 0, 1) := gq_9 db00c_7 eb_0
theorem d_X8_readRule_20 : decode prog_10_method_19_code 20 = .ok (.invokevirtual 112, 3) := gq_10 db00c_7 eb_492
theorem d_X8_readRule_23 : decode prog_10_method_19_code 23 = .ok (.goto 7, 3) := gq_11 db00c_7 eb_203
theorem d_X8_readRule_26 : decode prog_10_method_19_code 26 = .ok (.aload_n 0, 1) := gq_12 db00c_7 eb_0
theorem d_X8_readRule_27 : decode prog_10_method_19_code 27 = .ok (.invokevirtual 115, 3) := gq_13 db00c_7 eb_382
theorem d_X8_readRule_30 : decode prog_10_method_19_code 30 = .ok (.istore_n 2, 1) := gq_14 db00c_7 eb_27
theorem d_X8_readRule_31 : decode prog_10_method_19_code 31 = .ok (.iconst 0, 1) := gq_15 db00c_7 eb_21
theorem d_X8_readRule_32 : decode prog_10_method_19_code 32 = .ok (.istore_n 3, 1) := gq_16 db00c_7 eb_28
theorem d_X8_readRule_33 : decode prog_10_method_19_code 33 = .ok (.iload_n 3, 1) := gq_17 db00c_7 eb_29
theorem d_X8_readRule_34 : decode prog_10_method_19_code 34 = .ok (.sipush 160, 3) := gq_18 db00c_7 eb_434
theorem d_X8_readRule_37 : decode prog_10_method_19_code 37 = .ok (.if_icmp .ge 48, 3) := gq_19 db00c_7 eb_493
theorem d_X8_readRule_40 : decode prog_10_method_19_code 40 = .ok (.iload_n 2, 1) := gq_20 db00c_7 eb_13
theorem d_X8_readRule_41 : decode prog_10_method_19_code 41 = .ok (.ifCond .eq 44, 3) := gq_21 db00c_7 eb_494
theorem d_X8_readRule_44 : decode prog_10_method_19_code 44 = .ok (.aload_n 0, 1) := gq_22 db00c_7 eb_0
theorem d_X8_readRule_45 : decode prog_10_method_19_code 45 = .ok (.invokevirtual 63, 3) := gq_23 db00c_7 eb_357
theorem db00c_8 : Pf_ prog_10_method_19_code [(48, [0x10, 0x3b]), (50, [0xa0, 0x00, 0x23]), (53, [0x2a]), (54, [0x59]), (55, [0xb4, 0x00, 0x2f]), (58, [0x04]), (59, [0x60]), (60, [0xb5, 0x00, 0x2f]), (63, [0x1b]), (64, [0x99, 0x00, 0x0a]), (67, [0x2a]), (68, [0xb6, 0x00, 0x70]), (71, [0xa7, 0x00, 0x07]), (74, [0x2a]), (75, [0xb6, 0x00, 0x73]), (78, [0x3d]), (79, [0x84, 0x03, 0x01]), (82, [0xa7, 0xff, 0xcf]), (85, [0x1c]), (86, [0x99, 0x00, 0x10]), (89, [0x2a]), (90, [0xb6, 0x00, 0x3f]), (93, [0x02]), (94, [0x9f, 0x00, 0x08])] := pf_ok prog_10_method_19_code _ 48 (by decide +kernel)
theorem d_X8_readRule_48 : decode prog_10_method_19_code 48 = .ok (.bipush 59, 2) := gq_0 db00c_8 eb_468
theorem d_X8_readRule_50 : decode prog_10_method_19_code 50 = .ok (.if_icmp .ne 35, 3) := gq_1 db00c_8 eb_495
theorem d_X8_readRule_53 : decode prog_10_method_19_code 53 = .ok (.aload_n 0, 1) := gq_2 db00c_8 eb_0
theorem d_X8_readRule_54 : decode prog_10_method_19_code 54 = .ok (.dup, 1) := gq_3 db00c_8 eb_46
theorem d_X8_readRule_55 : decode prog_10_method_19_code 55 = .ok (.getfield 47, 3) := gq_4 db00c_8 eb_455
theorem d_X8_readRule_58 : decode prog_10_method_19_code 58 = .ok (.iconst 1, 1) := gq_5 db00c_8 eb_19
theorem d_X8_readRule_59 : decode prog_10_method_19_code 59 = .ok (.iadd, 1) := gq_6 db00c_8 eb_35
theorem d_X8_readRule_60 : decode prog_10_method_19_code 60 = .ok (.putfield 47, 3) := gq_7 db00c_8 eb_452
theorem d_X8_readRule_63 : decode prog_10_method_19_code 63 = .ok (.iload_n 1, 1) := gq_8 db00c_8 eb_9
theorem d_X8_readRule_64 : decode prog_10_method_19_code 64 = .ok (.ifCond .eq 10, 3) := gq_9 db00c_8 eb_202
theorem d_X8_readRule_67 : decode prog_10_method_19_code 67 = .ok (.aload_n 0, 1) := gq_10 db00c_8 eb_0
theorem d_X8_readRule_68 : decode prog_10_method_19_code 68 = .ok (.invokevirtual 112, 3) := gq_11 db00c_8 eb_492
theorem d_X8_readRule_71 : decode prog_10_method_19_code 71 = .ok (.goto 7, 3) := gq_12 db00c_8 eb_203
theorem d_X8_readRule_74 : decode prog_10_method_19_code 74 = .ok (.aload_n 0, 1) := gq_13 db00c_8 eb_0
theorem d_X8_readRule_75 : decode prog_10_method_19_code 75 = .ok (.invokevirtual 115, 3) := gq_14 db00c_8 eb_382
theorem d_X8_readRule_78 : decode prog_10_method_19_code 78 = .ok (.istore_n 2, 1) := gq_15 db00c_8 eb_27
theorem d_X8_readRule_79 : decode prog_10_method_19_code 79 = .ok (.iinc 3 1, 3) := gq_16 db00c_8 eb_42
theorem d_X8_readRule_82 : decode prog_10_method_19_code 82 = .ok (.goto (-49), 3) := gq_17 db00c_8 eb_450
theorem d_X8_readRule_85 : decode prog_10_method_19_code 85 = .ok (.iload_n 2, 1) := gq_18 db00c_8 eb_13
theorem d_X8_readRule_86 : decode prog_10_method_19_code 86 = .ok (.ifCond .eq 16, 3) := gq_19 db00c_8 eb_136
theorem d_X8_readRule_89 : decode prog_10_method_19_code 89 = .ok (.aload_n 0, 1) := gq_20 db00c_8 eb_0
theorem d_X8_readRule_90 : decode prog_10_method_19_code 90 = .ok (.invokevirtual 63, 3) := gq_21 db00c_8 eb_357
theorem d_X8_readRule_93 : decode prog_10_method_19_code 93 = .ok (.iconst (-1), 1) := gq_22 db00c_8 eb_26
theorem d_X8_readRule_94 : decode prog_10_method_19_code 94 = .ok (.if_icmp .eq 8, 3) := gq_23 db00c_8 eb_458
theorem db00c_9 : Pf_ prog_10_method_19_code [(97, [0x2a]), (98, [0xb6, 0x00, 0x43]), (101, [0x57]), (102, [0x2a]), (103, [0xb4, 0x00, 0x32]), (106, [0xac])] := pf_ok prog_10_method_19_code _ 97 (by decide +kernel)
theorem d_X8_readRule_97 : decode prog_10_method_19_code 97 = .ok (.aload_n 0, 1) := gq_0 db00c_9 eb_0
theorem d_X8_readRule_98 : decode prog_10_method_19_code 98 = .ok (.invokevirtual 67, 3) := gq_1 db00c_9 eb_215
theorem d_X8_readRule_101 : decode prog_10_method_19_code 101 = .ok (.pop, 1) := gq_2 db00c_9 eb_466
theorem d_X8_readRule_102 : decode prog_10_method_19_code 102 = .ok (.aload_n 0, 1) := gq_3 db00c_9 eb_0
theorem d_X8_readRule_103 : decode prog_10_method_19_code 103 = .ok (.getfield 50, 3) := gq_4 db00c_9 eb_418
theorem d_X8_readRule_106 : decode prog_10_method_19_code 106 = .ok (.ireturn, 1) := gq_5 db00c_9 eb_15
theorem db00c_10 : Pf_ prog_10_method_20_code [(0, [0x2a]), (1, [0x03]), (2, [0xb6, 0x00, 0x76]), (5, [0x99, 0x00, 0x0c]), (8, [0x2a]), (9, [0x10, 0x3f]), (11, [0xb6, 0x00, 0x62]), (14, [0x9a, 0x00, 0x05]), (17, [0x03]), (18, [0xac]), (19, [0x2a]), (20, [0x06]), (21, [0x03]), (22, [0xb6, 0x00, 0x79]), (25, [0x3c]), (26, [0x2a]), (27, [0xb6, 0x00, 0x3f]), (30, [0x3d]), (31, [0x1c]), (32, [0x02]), (33, [0xa0, 0x00, 0x07]), (36, [0x02]), (37, [0xa7, 0x00, 0x0a]), (40, [0x12, 0x7c])] := pf_ok prog_10_method_20_code _ 0 (by decide +kernel)
theorem d_X8_readActClause_0 : decode prog_10_method_20_code 0 = .ok (.aload_n 0, 1) := gq_0 db00c_10 eb_0
theorem d_X8_readActClause_1 : decode prog_10_method_20_code 1 = .ok (.iconst 0, 1) := gq_1 db00c_10 eb_21
theorem d_X8_readActClause_2 : decode prog_10_method_20_code 2 = .ok (.invokevirtual 118, 3) := gq_2 db00c_10 eb_496
theorem d_X8_readActClause_5 : decode prog_10_method_20_code 5 = .ok (.ifCond .eq 12, 3) := gq_3 db00c_10 eb_50
theorem d_X8_readActClause_8 : decode prog_10_method_20_code 8 = .ok (.aload_n 0, 1) := gq_4 db00c_10 eb_0
theorem d_X8_readActClause_9 : decode prog_10_method_20_code 9 = .ok (.bipush 63, 2) := gq_5 db00c_10 eb_497
theorem d_X8_readActClause_11 : decode prog_10_method_20_code 11 = .ok (.invokevirtual 98, 3) := gq_6 db00c_10 eb_477
theorem d_X8_readActClause_14 : decode prog_10_method_20_code 14 = .ok (.ifCond .ne 5, 3) := gq_7 db00c_10 eb_150
theorem d_X8_readActClause_17 : decode prog_10_method_20_code 17 = .ok (.iconst 0, 1) := gq_8 db00c_10 eb_21
theorem d_X8_readActClause_18 : decode prog_10_method_20_code 18 = .ok (.ireturn, 1) := gq_9 db00c_10 eb_15
theorem d_X8_readActClause_19 : decode prog_10_method_20_code 19 = .ok (.aload_n 0, 1) := gq_10 db00c_10 eb_0
theorem d_X8_readActClause_20 : decode prog_10_method_20_code 20 = .ok (.iconst 3, 1) := gq_11 db00c_10 eb_54
theorem d_X8_readActClause_21 : decode prog_10_method_20_code 21 = .ok (.iconst 0, 1) := gq_12 db00c_10 eb_21
theorem d_X8_readActClause_22 : decode prog_10_method_20_code 22 = .ok (.invokevirtual 121, 3) := gq_13 db00c_10 eb_498
theorem d_X8_readActClause_25 : decode prog_10_method_20_code 25 = .ok (.istore_n 1, 1) := gq_14 db00c_10 eb_222
theorem d_X8_readActClause_26 : decode prog_10_method_20_code 26 = .ok (.aload_n 0, 1) := gq_15 db00c_10 eb_0
theorem d_X8_readActClause_27 : decode prog_10_method_20_code 27 = .ok (.invokevirtual 63, 3) := gq_16 db00c_10 eb_357
theorem d_X8_readActClause_30 : decode prog_10_method_20_code 30 = .ok (.istore_n 2, 1) := gq_17 db00c_10 eb_27
theorem d_X8_readActClause_31 : decode prog_10_method_20_code 31 = .ok (.iload_n 2, 1) := gq_18 db00c_10 eb_13
theorem d_X8_readActClause_32 : decode prog_10_method_20_code 32 = .ok (.iconst (-1), 1) := gq_19 db00c_10 eb_26
theorem d_X8_readActClause_33 : decode prog_10_method_20_code 33 = .ok (.if_icmp .ne 7, 3) := gq_20 db00c_10 eb_135
theorem d_X8_readActClause_36 : decode prog_10_method_20_code 36 = .ok (.iconst (-1), 1) := gq_21 db00c_10 eb_26
theorem d_X8_readActClause_37 : decode prog_10_method_20_code 37 = .ok (.goto 10, 3) := gq_22 db00c_10 eb_180
theorem d_X8_readActClause_40 : decode prog_10_method_20_code 40 = .ok (.ldc 124, 2) := gq_23 db00c_10 eb_499
theorem d_X8_readActClause_43 : decode prog_10_method_20_code 43 = .ok (.i2c, 1) := by decide +kernel
theorem db00c_11 : Pf_ prog_10_method_20_code [(42, [0x1c]), (44, [0xb6, 0x00, 0x7e]), (47, [0x3e]), (48, [0x1d]), (49, [0x9c, 0x00, 0x08]), (52, [0x2a]), (53, [0xb6, 0x00, 0x43]), (56, [0xac]), (57, [0x2a]), (58, [0x59]), (59, [0xb4, 0x00, 0x2f]), (62, [0x04]), (63, [0x60]), (64, [0xb5, 0x00, 0x2f]), (67, [0x2a]), (68, [0x03]), (69, [0x1d]), (70, [0xb6, 0x00, 0x79]), (73, [0x57]), (74, [0x2a]), (75, [0x1b]), (76, [0xb6, 0x00, 0x83]), (79, [0x04]), (80, [0xac])] := pf_ok prog_10_method_20_code _ 42 (by decide +kernel)
theorem d_X8_readActClause_42 : decode prog_10_method_20_code 42 = .ok (.iload_n 2, 1) := gq_0 db00c_11 eb_13
theorem d_X8_readActClause_44 : decode prog_10_method_20_code 44 = .ok (.invokevirtual 126, 3) := gq_1 db00c_11 eb_500
theorem d_X8_readActClause_47 : decode prog_10_method_20_code 47 = .ok (.istore_n 3, 1) := gq_2 db00c_11 eb_28
theorem d_X8_readActClause_48 : decode prog_10_method_20_code 48 = .ok (.iload_n 3, 1) := gq_3 db00c_11 eb_29
theorem d_X8_readActClause_49 : decode prog_10_method_20_code 49 = .ok (.ifCond .ge 8, 3) := gq_4 db00c_11 eb_501
theorem d_X8_readActClause_52 : decode prog_10_method_20_code 52 = .ok (.aload_n 0, 1) := gq_5 db00c_11 eb_0
theorem d_X8_readActClause_53 : decode prog_10_method_20_code 53 = .ok (.invokevirtual 67, 3) := gq_6 db00c_11 eb_215
theorem d_X8_readActClause_56 : decode prog_10_method_20_code 56 = .ok (.ireturn, 1) := gq_7 db00c_11 eb_15
theorem d_X8_readActClause_57 : decode prog_10_method_20_code 57 = .ok (.aload_n 0, 1) := gq_8 db00c_11 eb_0
theorem d_X8_readActClause_58 : decode prog_10_method_20_code 58 = .ok (.dup, 1) := gq_9 db00c_11 eb_46
theorem d_X8_readActClause_59 : decode prog_10_method_20_code 59 = .ok (.getfield 47, 3) := gq_10 db00c_11 eb_455
theorem d_X8_readActClause_62 : decode prog_10_method_20_code 62 = .ok (.iconst 1, 1) := gq_11 db00c_11 eb_19
theorem d_X8_readActClause_63 : decode prog_10_method_20_code 63 = .ok (.iadd, 1) := gq_12 db00c_11 eb_35
theorem d_X8_readActClause_64 : decode prog_10_method_20_code 64 = .ok (.putfield 47, 3) := gq_13 db00c_11 eb_452
theorem d_X8_readActClause_67 : decode prog_10_method_20_code 67 = .ok (.aload_n 0, 1) := gq_14 db00c_11 eb_0
theorem d_X8_readActClause_68 : decode prog_10_method_20_code 68 = .ok (.iconst 0, 1) := gq_15 db00c_11 eb_21
theorem d_X8_readActClause_69 : decode prog_10_method_20_code 69 = .ok (.iload_n 3, 1) := gq_16 db00c_11 eb_29
theorem d_X8_readActClause_70 : decode prog_10_method_20_code 70 = .ok (.invokevirtual 121, 3) := gq_17 db00c_11 eb_498
theorem d_X8_readActClause_73 : decode prog_10_method_20_code 73 = .ok (.pop, 1) := gq_18 db00c_11 eb_466
theorem d_X8_readActClause_74 : decode prog_10_method_20_code 74 = .ok (.aload_n 0, 1) := gq_19 db00c_11 eb_0
theorem d_X8_readActClause_75 : decode prog_10_method_20_code 75 = .ok (.iload_n 1, 1) := gq_20 db00c_11 eb_9
theorem d_X8_readActClause_76 : decode prog_10_method_20_code 76 = .ok (.invokevirtual 131, 3) := gq_21 db00c_11 eb_502
theorem d_X8_readActClause_79 : decode prog_10_method_20_code 79 = .ok (.iconst 1, 1) := gq_22 db00c_11 eb_19
theorem d_X8_readActClause_80 : decode prog_10_method_20_code 80 = .ok (.ireturn, 1) := gq_23 db00c_11 eb_15
theorem db00c_12 : Pf_ prog_10_method_21_code [(0, [0x2a]), (1, [0xb6, 0x00, 0x3f]), (4, [0x3c]), (5, [0x1b]), (6, [0x10, 0x21]), (8, [0x9f, 0x00, 0x09]), (11, [0x1b]), (12, [0x10, 0x28]), (14, [0xa0, 0x00, 0x18]), (17, [0x2a]), (18, [0x03]), (19, [0xb6, 0x00, 0x76]), (22, [0x99, 0x00, 0x0e]), (25, [0x2a]), (26, [0xb6, 0x00, 0x86]), (29, [0x99, 0x00, 0x07]), (32, [0x04]), (33, [0xa7, 0x00, 0x04]), (36, [0x03]), (37, [0xac]), (38, [0x2a]), (39, [0x03]), (40, [0xb6, 0x00, 0x89]), (43, [0x9a, 0x00, 0x05])] := pf_ok prog_10_method_21_code _ 0 (by decide +kernel)
theorem d_X8_readPayClause_0 : decode prog_10_method_21_code 0 = .ok (.aload_n 0, 1) := gq_0 db00c_12 eb_0
theorem d_X8_readPayClause_1 : decode prog_10_method_21_code 1 = .ok (.invokevirtual 63, 3) := gq_1 db00c_12 eb_357
theorem d_X8_readPayClause_4 : decode prog_10_method_21_code 4 = .ok (.istore_n 1, 1) := gq_2 db00c_12 eb_222
theorem d_X8_readPayClause_5 : decode prog_10_method_21_code 5 = .ok (.iload_n 1, 1) := gq_3 db00c_12 eb_9
theorem d_X8_readPayClause_6 : decode prog_10_method_21_code 6 = .ok (.bipush 33, 2) := gq_4 db00c_12 eb_503
theorem d_X8_readPayClause_8 : decode prog_10_method_21_code 8 = .ok (.if_icmp .eq 9, 3) := gq_5 db00c_12 eb_431
theorem d_X8_readPayClause_11 : decode prog_10_method_21_code 11 = .ok (.iload_n 1, 1) := gq_6 db00c_12 eb_9
theorem d_X8_readPayClause_12 : decode prog_10_method_21_code 12 = .ok (.bipush 40, 2) := gq_7 db00c_12 eb_314
theorem d_X8_readPayClause_14 : decode prog_10_method_21_code 14 = .ok (.if_icmp .ne 24, 3) := gq_8 db00c_12 eb_504
theorem d_X8_readPayClause_17 : decode prog_10_method_21_code 17 = .ok (.aload_n 0, 1) := gq_9 db00c_12 eb_0
theorem d_X8_readPayClause_18 : decode prog_10_method_21_code 18 = .ok (.iconst 0, 1) := gq_10 db00c_12 eb_21
theorem d_X8_readPayClause_19 : decode prog_10_method_21_code 19 = .ok (.invokevirtual 118, 3) := gq_11 db00c_12 eb_496
theorem d_X8_readPayClause_22 : decode prog_10_method_21_code 22 = .ok (.ifCond .eq 14, 3) := gq_12 db00c_12 eb_174
theorem d_X8_readPayClause_25 : decode prog_10_method_21_code 25 = .ok (.aload_n 0, 1) := gq_13 db00c_12 eb_0
theorem d_X8_readPayClause_26 : decode prog_10_method_21_code 26 = .ok (.invokevirtual 134, 3) := gq_14 db00c_12 eb_505
theorem d_X8_readPayClause_29 : decode prog_10_method_21_code 29 = .ok (.ifCond .eq 7, 3) := gq_15 db00c_12 eb_123
theorem d_X8_readPayClause_32 : decode prog_10_method_21_code 32 = .ok (.iconst 1, 1) := gq_16 db00c_12 eb_19
theorem d_X8_readPayClause_33 : decode prog_10_method_21_code 33 = .ok (.goto 4, 3) := gq_17 db00c_12 eb_20
theorem d_X8_readPayClause_36 : decode prog_10_method_21_code 36 = .ok (.iconst 0, 1) := gq_18 db00c_12 eb_21
theorem d_X8_readPayClause_37 : decode prog_10_method_21_code 37 = .ok (.ireturn, 1) := gq_19 db00c_12 eb_15
theorem d_X8_readPayClause_38 : decode prog_10_method_21_code 38 = .ok (.aload_n 0, 1) := gq_20 db00c_12 eb_0
theorem d_X8_readPayClause_39 : decode prog_10_method_21_code 39 = .ok (.iconst 0, 1) := gq_21 db00c_12 eb_21
theorem d_X8_readPayClause_40 : decode prog_10_method_21_code 40 = .ok (.invokevirtual 137, 3) := gq_22 db00c_12 eb_506
theorem d_X8_readPayClause_43 : decode prog_10_method_21_code 43 = .ok (.ifCond .ne 5, 3) := gq_23 db00c_12 eb_150
theorem db00c_13 : Pf_ prog_10_method_21_code [(46, [0x03]), (47, [0xac]), (48, [0x2a]), (49, [0xb6, 0x00, 0x3f]), (52, [0xb8, 0x00, 0x8c]), (55, [0x99, 0x00, 0x20]), (58, [0x2a]), (59, [0x03]), (60, [0xb6, 0x00, 0x8f]), (63, [0x99, 0x00, 0x16]), (66, [0x2a]), (67, [0x03]), (68, [0xb6, 0x00, 0x92]), (71, [0x99, 0x00, 0x0e]), (74, [0x2a]), (75, [0xb6, 0x00, 0x86]), (78, [0x99, 0x00, 0x07]), (81, [0x04]), (82, [0xa7, 0x00, 0x04]), (85, [0x03]), (86, [0xac]), (87, [0x2a]), (88, [0x02]), (89, [0xb6, 0x00, 0x83])] := pf_ok prog_10_method_21_code _ 46 (by decide +kernel)
theorem d_X8_readPayClause_46 : decode prog_10_method_21_code 46 = .ok (.iconst 0, 1) := gq_0 db00c_13 eb_21
theorem d_X8_readPayClause_47 : decode prog_10_method_21_code 47 = .ok (.ireturn, 1) := gq_1 db00c_13 eb_15
theorem d_X8_readPayClause_48 : decode prog_10_method_21_code 48 = .ok (.aload_n 0, 1) := gq_2 db00c_13 eb_0
theorem d_X8_readPayClause_49 : decode prog_10_method_21_code 49 = .ok (.invokevirtual 63, 3) := gq_3 db00c_13 eb_357
theorem d_X8_readPayClause_52 : decode prog_10_method_21_code 52 = .ok (.invokestatic 140, 3) := gq_4 db00c_13 eb_507
theorem d_X8_readPayClause_55 : decode prog_10_method_21_code 55 = .ok (.ifCond .eq 32, 3) := gq_5 db00c_13 eb_258
theorem d_X8_readPayClause_58 : decode prog_10_method_21_code 58 = .ok (.aload_n 0, 1) := gq_6 db00c_13 eb_0
theorem d_X8_readPayClause_59 : decode prog_10_method_21_code 59 = .ok (.iconst 0, 1) := gq_7 db00c_13 eb_21
theorem d_X8_readPayClause_60 : decode prog_10_method_21_code 60 = .ok (.invokevirtual 143, 3) := gq_8 db00c_13 eb_405
theorem d_X8_readPayClause_63 : decode prog_10_method_21_code 63 = .ok (.ifCond .eq 22, 3) := gq_9 db00c_13 eb_416
theorem d_X8_readPayClause_66 : decode prog_10_method_21_code 66 = .ok (.aload_n 0, 1) := gq_10 db00c_13 eb_0
theorem d_X8_readPayClause_67 : decode prog_10_method_21_code 67 = .ok (.iconst 0, 1) := gq_11 db00c_13 eb_21
theorem d_X8_readPayClause_68 : decode prog_10_method_21_code 68 = .ok (.invokevirtual 146, 3) := gq_12 db00c_13 eb_508
theorem d_X8_readPayClause_71 : decode prog_10_method_21_code 71 = .ok (.ifCond .eq 14, 3) := gq_13 db00c_13 eb_174
theorem d_X8_readPayClause_74 : decode prog_10_method_21_code 74 = .ok (.aload_n 0, 1) := gq_14 db00c_13 eb_0
theorem d_X8_readPayClause_75 : decode prog_10_method_21_code 75 = .ok (.invokevirtual 134, 3) := gq_15 db00c_13 eb_505
theorem d_X8_readPayClause_78 : decode prog_10_method_21_code 78 = .ok (.ifCond .eq 7, 3) := gq_16 db00c_13 eb_123
theorem d_X8_readPayClause_81 : decode prog_10_method_21_code 81 = .ok (.iconst 1, 1) := gq_17 db00c_13 eb_19
theorem d_X8_readPayClause_82 : decode prog_10_method_21_code 82 = .ok (.goto 4, 3) := gq_18 db00c_13 eb_20
theorem d_X8_readPayClause_85 : decode prog_10_method_21_code 85 = .ok (.iconst 0, 1) := gq_19 db00c_13 eb_21
theorem d_X8_readPayClause_86 : decode prog_10_method_21_code 86 = .ok (.ireturn, 1) := gq_20 db00c_13 eb_15
theorem d_X8_readPayClause_87 : decode prog_10_method_21_code 87 = .ok (.aload_n 0, 1) := gq_21 db00c_13 eb_0
theorem d_X8_readPayClause_88 : decode prog_10_method_21_code 88 = .ok (.iconst (-1), 1) := gq_22 db00c_13 eb_26
theorem d_X8_readPayClause_89 : decode prog_10_method_21_code 89 = .ok (.invokevirtual 131, 3) := gq_23 db00c_13 eb_502
theorem db00c_14 : Pf_ prog_10_method_21_code [(92, [0x04]), (93, [0xac])] := pf_ok prog_10_method_21_code _ 92 (by decide +kernel)
theorem d_X8_readPayClause_92 : decode prog_10_method_21_code 92 = .ok (.iconst 1, 1) := gq_0 db00c_14 eb_19
theorem d_X8_readPayClause_93 : decode prog_10_method_21_code 93 = .ok (.ireturn, 1) := gq_1 db00c_14 eb_15
theorem db00c_15 : Pf_ prog_10_method_22_code [(0, [0x2a]), (1, [0x10, 0x3f]), (3, [0xb6, 0x00, 0x62]), (6, [0x9a, 0x00, 0x05]), (9, [0x03]), (10, [0xac]), (11, [0x2a]), (12, [0x06]), (13, [0x03]), (14, [0xb6, 0x00, 0x79]), (17, [0x3c]), (18, [0x2a]), (19, [0x03]), (20, [0xb6, 0x00, 0x89]), (23, [0x9a, 0x00, 0x05]), (26, [0x03]), (27, [0xac]), (28, [0x2a]), (29, [0x1b]), (30, [0xb6, 0x00, 0x83]), (33, [0x04]), (34, [0xac])] := pf_ok prog_10_method_22_code _ 0 (by decide +kernel)
theorem d_X8_readPayAnswer_0 : decode prog_10_method_22_code 0 = .ok (.aload_n 0, 1) := gq_0 db00c_15 eb_0
theorem d_X8_readPayAnswer_1 : decode prog_10_method_22_code 1 = .ok (.bipush 63, 2) := gq_1 db00c_15 eb_497
theorem d_X8_readPayAnswer_3 : decode prog_10_method_22_code 3 = .ok (.invokevirtual 98, 3) := gq_2 db00c_15 eb_477
theorem d_X8_readPayAnswer_6 : decode prog_10_method_22_code 6 = .ok (.ifCond .ne 5, 3) := gq_3 db00c_15 eb_150
theorem d_X8_readPayAnswer_9 : decode prog_10_method_22_code 9 = .ok (.iconst 0, 1) := gq_4 db00c_15 eb_21
theorem d_X8_readPayAnswer_10 : decode prog_10_method_22_code 10 = .ok (.ireturn, 1) := gq_5 db00c_15 eb_15
theorem d_X8_readPayAnswer_11 : decode prog_10_method_22_code 11 = .ok (.aload_n 0, 1) := gq_6 db00c_15 eb_0
theorem d_X8_readPayAnswer_12 : decode prog_10_method_22_code 12 = .ok (.iconst 3, 1) := gq_7 db00c_15 eb_54
theorem d_X8_readPayAnswer_13 : decode prog_10_method_22_code 13 = .ok (.iconst 0, 1) := gq_8 db00c_15 eb_21
theorem d_X8_readPayAnswer_14 : decode prog_10_method_22_code 14 = .ok (.invokevirtual 121, 3) := gq_9 db00c_15 eb_498
theorem d_X8_readPayAnswer_17 : decode prog_10_method_22_code 17 = .ok (.istore_n 1, 1) := gq_10 db00c_15 eb_222
theorem d_X8_readPayAnswer_18 : decode prog_10_method_22_code 18 = .ok (.aload_n 0, 1) := gq_11 db00c_15 eb_0
theorem d_X8_readPayAnswer_19 : decode prog_10_method_22_code 19 = .ok (.iconst 0, 1) := gq_12 db00c_15 eb_21
theorem d_X8_readPayAnswer_20 : decode prog_10_method_22_code 20 = .ok (.invokevirtual 137, 3) := gq_13 db00c_15 eb_506
theorem d_X8_readPayAnswer_23 : decode prog_10_method_22_code 23 = .ok (.ifCond .ne 5, 3) := gq_14 db00c_15 eb_150
theorem d_X8_readPayAnswer_26 : decode prog_10_method_22_code 26 = .ok (.iconst 0, 1) := gq_15 db00c_15 eb_21
theorem d_X8_readPayAnswer_27 : decode prog_10_method_22_code 27 = .ok (.ireturn, 1) := gq_16 db00c_15 eb_15
theorem d_X8_readPayAnswer_28 : decode prog_10_method_22_code 28 = .ok (.aload_n 0, 1) := gq_17 db00c_15 eb_0
theorem d_X8_readPayAnswer_29 : decode prog_10_method_22_code 29 = .ok (.iload_n 1, 1) := gq_18 db00c_15 eb_9
theorem d_X8_readPayAnswer_30 : decode prog_10_method_22_code 30 = .ok (.invokevirtual 131, 3) := gq_19 db00c_15 eb_502
theorem d_X8_readPayAnswer_33 : decode prog_10_method_22_code 33 = .ok (.iconst 1, 1) := gq_20 db00c_15 eb_19
theorem d_X8_readPayAnswer_34 : decode prog_10_method_22_code 34 = .ok (.ireturn, 1) := gq_21 db00c_15 eb_15
theorem db00c_16 : Pf_ prog_10_method_23_code [(0, [0x2a]), (1, [0x07]), (2, [0x03]), (3, [0xb6, 0x00, 0x79]), (6, [0x57]), (7, [0x1b]), (8, [0x03]), (9, [0x2a]), (10, [0xb4, 0x00, 0x3c]), (13, [0x04]), (14, [0x64]), (15, [0xb8, 0x00, 0x2b]), (18, [0x99, 0x00, 0x11]), (21, [0x2a]), (22, [0xb4, 0x00, 0x1c]), (25, [0x1b]), (26, [0x06]), (27, [0x2a]), (28, [0xb4, 0x00, 0x3c]), (31, [0xb8, 0x00, 0x95]), (34, [0x4f]), (35, [0xb1])] := pf_ok prog_10_method_23_code _ 0 (by decide +kernel)
theorem d_X8_endClause_0 : decode prog_10_method_23_code 0 = .ok (.aload_n 0, 1) := gq_0 db00c_16 eb_0
theorem d_X8_endClause_1 : decode prog_10_method_23_code 1 = .ok (.iconst 4, 1) := gq_1 db00c_16 eb_291
theorem d_X8_endClause_2 : decode prog_10_method_23_code 2 = .ok (.iconst 0, 1) := gq_2 db00c_16 eb_21
theorem d_X8_endClause_3 : decode prog_10_method_23_code 3 = .ok (.invokevirtual 121, 3) := gq_3 db00c_16 eb_498
theorem d_X8_endClause_6 : decode prog_10_method_23_code 6 = .ok (.pop, 1) := gq_4 db00c_16 eb_466
theorem d_X8_endClause_7 : decode prog_10_method_23_code 7 = .ok (.iload_n 1, 1) := gq_5 db00c_16 eb_9
theorem d_X8_endClause_8 : decode prog_10_method_23_code 8 = .ok (.iconst 0, 1) := gq_6 db00c_16 eb_21
theorem d_X8_endClause_9 : decode prog_10_method_23_code 9 = .ok (.aload_n 0, 1) := gq_7 db00c_16 eb_0
theorem d_X8_endClause_10 : decode prog_10_method_23_code 10 = .ok (.getfield 60, 3) := gq_8 db00c_16 eb_110
theorem d_X8_endClause_13 : decode prog_10_method_23_code 13 = .ok (.iconst 1, 1) := gq_9 db00c_16 eb_19
theorem d_X8_endClause_14 : decode prog_10_method_23_code 14 = .ok (.isub, 1) := gq_10 db00c_16 eb_48
theorem d_X8_endClause_15 : decode prog_10_method_23_code 15 = .ok (.invokestatic 43, 3) := gq_11 db00c_16 eb_451
theorem d_X8_endClause_18 : decode prog_10_method_23_code 18 = .ok (.ifCond .eq 17, 3) := gq_12 db00c_16 eb_112
theorem d_X8_endClause_21 : decode prog_10_method_23_code 21 = .ok (.aload_n 0, 1) := gq_13 db00c_16 eb_0
theorem d_X8_endClause_22 : decode prog_10_method_23_code 22 = .ok (.getfield 28, 3) := gq_14 db00c_16 eb_361
theorem d_X8_endClause_25 : decode prog_10_method_23_code 25 = .ok (.iload_n 1, 1) := gq_15 db00c_16 eb_9
theorem d_X8_endClause_26 : decode prog_10_method_23_code 26 = .ok (.iconst 3, 1) := gq_16 db00c_16 eb_54
theorem d_X8_endClause_27 : decode prog_10_method_23_code 27 = .ok (.aload_n 0, 1) := gq_17 db00c_16 eb_0
theorem d_X8_endClause_28 : decode prog_10_method_23_code 28 = .ok (.getfield 60, 3) := gq_18 db00c_16 eb_110
theorem d_X8_endClause_31 : decode prog_10_method_23_code 31 = .ok (.invokestatic 149, 3) := gq_19 db00c_16 eb_509
theorem d_X8_endClause_34 : decode prog_10_method_23_code 34 = .ok (.iastore, 1) := gq_20 db00c_16 eb_38
theorem d_X8_endClause_35 : decode prog_10_method_23_code 35 = .ok (.return_, 1) := gq_21 db00c_16 eb_7
theorem db00c_17 : Pf_ prog_10_method_24_code [(0, [0x2a]), (1, [0xb4, 0x00, 0x3c]), (4, [0x2a]), (5, [0xb4, 0x00, 0x1c]), (8, [0xbe]), (9, [0xa1, 0x00, 0x05]), (12, [0x02]), (13, [0xac]), (14, [0x2a]), (15, [0xb4, 0x00, 0x1c]), (18, [0x2a]), (19, [0xb4, 0x00, 0x3c]), (22, [0x1b]), (23, [0x1c]), (24, [0xb8, 0x00, 0x95]), (27, [0x4f]), (28, [0x2a]), (29, [0x59]), (30, [0xb4, 0x00, 0x3c]), (33, [0x04]), (34, [0x60]), (35, [0xb5, 0x00, 0x3c]), (38, [0x2a]), (39, [0xb4, 0x00, 0x3c])] := pf_ok prog_10_method_24_code _ 0 (by decide +kernel)
theorem d_X8_emit_0 : decode prog_10_method_24_code 0 = .ok (.aload_n 0, 1) := gq_0 db00c_17 eb_0
theorem d_X8_emit_1 : decode prog_10_method_24_code 1 = .ok (.getfield 60, 3) := gq_1 db00c_17 eb_110
theorem d_X8_emit_4 : decode prog_10_method_24_code 4 = .ok (.aload_n 0, 1) := gq_2 db00c_17 eb_0
theorem d_X8_emit_5 : decode prog_10_method_24_code 5 = .ok (.getfield 28, 3) := gq_3 db00c_17 eb_361
theorem d_X8_emit_8 : decode prog_10_method_24_code 8 = .ok (.arraylength, 1) := gq_4 db00c_17 eb_52
theorem d_X8_emit_9 : decode prog_10_method_24_code 9 = .ok (.if_icmp .lt 5, 3) := gq_5 db00c_17 eb_114
theorem d_X8_emit_12 : decode prog_10_method_24_code 12 = .ok (.iconst (-1), 1) := gq_6 db00c_17 eb_26
theorem d_X8_emit_13 : decode prog_10_method_24_code 13 = .ok (.ireturn, 1) := gq_7 db00c_17 eb_15
theorem d_X8_emit_14 : decode prog_10_method_24_code 14 = .ok (.aload_n 0, 1) := gq_8 db00c_17 eb_0
theorem d_X8_emit_15 : decode prog_10_method_24_code 15 = .ok (.getfield 28, 3) := gq_9 db00c_17 eb_361
theorem d_X8_emit_18 : decode prog_10_method_24_code 18 = .ok (.aload_n 0, 1) := gq_10 db00c_17 eb_0
theorem d_X8_emit_19 : decode prog_10_method_24_code 19 = .ok (.getfield 60, 3) := gq_11 db00c_17 eb_110
theorem d_X8_emit_22 : decode prog_10_method_24_code 22 = .ok (.iload_n 1, 1) := gq_12 db00c_17 eb_9
theorem d_X8_emit_23 : decode prog_10_method_24_code 23 = .ok (.iload_n 2, 1) := gq_13 db00c_17 eb_13
theorem d_X8_emit_24 : decode prog_10_method_24_code 24 = .ok (.invokestatic 149, 3) := gq_14 db00c_17 eb_509
theorem d_X8_emit_27 : decode prog_10_method_24_code 27 = .ok (.iastore, 1) := gq_15 db00c_17 eb_38
theorem d_X8_emit_28 : decode prog_10_method_24_code 28 = .ok (.aload_n 0, 1) := gq_16 db00c_17 eb_0
theorem d_X8_emit_29 : decode prog_10_method_24_code 29 = .ok (.dup, 1) := gq_17 db00c_17 eb_46
theorem d_X8_emit_30 : decode prog_10_method_24_code 30 = .ok (.getfield 60, 3) := gq_18 db00c_17 eb_110
theorem d_X8_emit_33 : decode prog_10_method_24_code 33 = .ok (.iconst 1, 1) := gq_19 db00c_17 eb_19
theorem d_X8_emit_34 : decode prog_10_method_24_code 34 = .ok (.iadd, 1) := gq_20 db00c_17 eb_35
theorem d_X8_emit_35 : decode prog_10_method_24_code 35 = .ok (.putfield 60, 3) := gq_21 db00c_17 eb_115
theorem d_X8_emit_38 : decode prog_10_method_24_code 38 = .ok (.aload_n 0, 1) := gq_22 db00c_17 eb_0
theorem d_X8_emit_39 : decode prog_10_method_24_code 39 = .ok (.getfield 60, 3) := gq_23 db00c_17 eb_110
theorem db00c_18 : Pf_ prog_10_method_24_code [(42, [0x04]), (43, [0x64]), (44, [0xac])] := pf_ok prog_10_method_24_code _ 42 (by decide +kernel)
theorem d_X8_emit_42 : decode prog_10_method_24_code 42 = .ok (.iconst 1, 1) := gq_0 db00c_18 eb_19
theorem d_X8_emit_43 : decode prog_10_method_24_code 43 = .ok (.isub, 1) := gq_1 db00c_18 eb_48
theorem d_X8_emit_44 : decode prog_10_method_24_code 44 = .ok (.ireturn, 1) := gq_2 db00c_18 eb_15
theorem db00c_19 : Pf_ prog_10_method_25_code [(0, [0x2a]), (1, [0x1b]), (2, [0xb6, 0x00, 0x97]), (5, [0x99, 0x00, 0x0f]), (8, [0x2a]), (9, [0x1b]), (10, [0xb6, 0x00, 0x92]), (13, [0x99, 0x00, 0x07]), (16, [0x04]), (17, [0xa7, 0x00, 0x04]), (20, [0x03]), (21, [0xac])] := pf_ok prog_10_method_25_code _ 0 (by decide +kernel)
theorem d_X8_readCondition_0 : decode prog_10_method_25_code 0 = .ok (.aload_n 0, 1) := gq_0 db00c_19 eb_0
theorem d_X8_readCondition_1 : decode prog_10_method_25_code 1 = .ok (.iload_n 1, 1) := gq_1 db00c_19 eb_9
theorem d_X8_readCondition_2 : decode prog_10_method_25_code 2 = .ok (.invokevirtual 151, 3) := gq_2 db00c_19 eb_510
theorem d_X8_readCondition_5 : decode prog_10_method_25_code 5 = .ok (.ifCond .eq 15, 3) := gq_3 db00c_19 eb_294
theorem d_X8_readCondition_8 : decode prog_10_method_25_code 8 = .ok (.aload_n 0, 1) := gq_4 db00c_19 eb_0
theorem d_X8_readCondition_9 : decode prog_10_method_25_code 9 = .ok (.iload_n 1, 1) := gq_5 db00c_19 eb_9
theorem d_X8_readCondition_10 : decode prog_10_method_25_code 10 = .ok (.invokevirtual 146, 3) := gq_6 db00c_19 eb_508
theorem d_X8_readCondition_13 : decode prog_10_method_25_code 13 = .ok (.ifCond .eq 7, 3) := gq_7 db00c_19 eb_123
theorem d_X8_readCondition_16 : decode prog_10_method_25_code 16 = .ok (.iconst 1, 1) := gq_8 db00c_19 eb_19
theorem d_X8_readCondition_17 : decode prog_10_method_25_code 17 = .ok (.goto 4, 3) := gq_9 db00c_19 eb_20
theorem d_X8_readCondition_20 : decode prog_10_method_25_code 20 = .ok (.iconst 0, 1) := gq_10 db00c_19 eb_21
theorem d_X8_readCondition_21 : decode prog_10_method_25_code 21 = .ok (.ireturn, 1) := gq_11 db00c_19 eb_15
theorem db00c_20 : Pf_ prog_10_method_26_code [(0, [0x2a]), (1, [0x1b]), (2, [0xb6, 0x00, 0x9a]), (5, [0x3d]), (6, [0x03]), (7, [0x3e]), (8, [0x1d]), (9, [0x11, 0x00, 0xa0]), (12, [0xa2, 0x00, 0x3e]), (15, [0x1c]), (16, [0x99, 0x00, 0x3a]), (19, [0x2a]), (20, [0xb6, 0x00, 0x3f]), (23, [0x10, 0x7c]), (25, [0xa0, 0x00, 0x31]), (28, [0x2a]), (29, [0x59]), (30, [0xb4, 0x00, 0x2f]), (33, [0x04]), (34, [0x60]), (35, [0xb5, 0x00, 0x2f]), (38, [0x2a]), (39, [0x1b]), (40, [0xb6, 0x00, 0x97])] := pf_ok prog_10_method_26_code _ 0 (by decide +kernel)
theorem d_X8_readMoreParts_0 : decode prog_10_method_26_code 0 = .ok (.aload_n 0, 1) := gq_0 db00c_20 eb_0
theorem d_X8_readMoreParts_1 : decode prog_10_method_26_code 1 = .ok (.iload_n 1, 1) := gq_1 db00c_20 eb_9
theorem d_X8_readMoreParts_2 : decode prog_10_method_26_code 2 = .ok (.invokevirtual 154, 3) := gq_2 db00c_20 eb_511
theorem d_X8_readMoreParts_5 : decode prog_10_method_26_code 5 = .ok (.istore_n 2, 1) := gq_3 db00c_20 eb_27
theorem d_X8_readMoreParts_6 : decode prog_10_method_26_code 6 = .ok (.iconst 0, 1) := gq_4 db00c_20 eb_21
theorem d_X8_readMoreParts_7 : decode prog_10_method_26_code 7 = .ok (.istore_n 3, 1) := gq_5 db00c_20 eb_28
theorem d_X8_readMoreParts_8 : decode prog_10_method_26_code 8 = .ok (.iload_n 3, 1) := gq_6 db00c_20 eb_29
theorem d_X8_readMoreParts_9 : decode prog_10_method_26_code 9 = .ok (.sipush 160, 3) := gq_7 db00c_20 eb_434
theorem d_X8_readMoreParts_12 : decode prog_10_method_26_code 12 = .ok (.if_icmp .ge 62, 3) := gq_8 db00c_20 eb_346
theorem d_X8_readMoreParts_15 : decode prog_10_method_26_code 15 = .ok (.iload_n 2, 1) := gq_9 db00c_20 eb_13
theorem d_X8_readMoreParts_16 : decode prog_10_method_26_code 16 = .ok (.ifCond .eq 58, 3) := gq_10 db00c_20 eb_512
theorem d_X8_readMoreParts_19 : decode prog_10_method_26_code 19 = .ok (.aload_n 0, 1) := gq_11 db00c_20 eb_0
theorem d_X8_readMoreParts_20 : decode prog_10_method_26_code 20 = .ok (.invokevirtual 63, 3) := gq_12 db00c_20 eb_357
theorem d_X8_readMoreParts_23 : decode prog_10_method_26_code 23 = .ok (.bipush 124, 2) := gq_13 db00c_20 eb_513
theorem d_X8_readMoreParts_25 : decode prog_10_method_26_code 25 = .ok (.if_icmp .ne 49, 3) := gq_14 db00c_20 eb_514
theorem d_X8_readMoreParts_28 : decode prog_10_method_26_code 28 = .ok (.aload_n 0, 1) := gq_15 db00c_20 eb_0
theorem d_X8_readMoreParts_29 : decode prog_10_method_26_code 29 = .ok (.dup, 1) := gq_16 db00c_20 eb_46
theorem d_X8_readMoreParts_30 : decode prog_10_method_26_code 30 = .ok (.getfield 47, 3) := gq_17 db00c_20 eb_455
theorem d_X8_readMoreParts_33 : decode prog_10_method_26_code 33 = .ok (.iconst 1, 1) := gq_18 db00c_20 eb_19
theorem d_X8_readMoreParts_34 : decode prog_10_method_26_code 34 = .ok (.iadd, 1) := gq_19 db00c_20 eb_35
theorem d_X8_readMoreParts_35 : decode prog_10_method_26_code 35 = .ok (.putfield 47, 3) := gq_20 db00c_20 eb_452
theorem d_X8_readMoreParts_38 : decode prog_10_method_26_code 38 = .ok (.aload_n 0, 1) := gq_21 db00c_20 eb_0
theorem d_X8_readMoreParts_39 : decode prog_10_method_26_code 39 = .ok (.iload_n 1, 1) := gq_22 db00c_20 eb_9
theorem d_X8_readMoreParts_40 : decode prog_10_method_26_code 40 = .ok (.invokevirtual 151, 3) := gq_23 db00c_20 eb_510
theorem db00c_21 : Pf_ prog_10_method_26_code [(43, [0x99, 0x00, 0x0f]), (46, [0x2a]), (47, [0x1b]), (48, [0xb6, 0x00, 0x9a]), (51, [0x99, 0x00, 0x07]), (54, [0x04]), (55, [0xa7, 0x00, 0x04]), (58, [0x03]), (59, [0x3d]), (60, [0x2a]), (61, [0x10, 0x0c]), (63, [0x03]), (64, [0xb6, 0x00, 0x79]), (67, [0x57]), (68, [0x84, 0x03, 0x01]), (71, [0xa7, 0xff, 0xc1]), (74, [0x1c]), (75, [0xac])] := pf_ok prog_10_method_26_code _ 43 (by decide +kernel)
theorem d_X8_readMoreParts_43 : decode prog_10_method_26_code 43 = .ok (.ifCond .eq 15, 3) := gq_0 db00c_21 eb_294
theorem d_X8_readMoreParts_46 : decode prog_10_method_26_code 46 = .ok (.aload_n 0, 1) := gq_1 db00c_21 eb_0
theorem d_X8_readMoreParts_47 : decode prog_10_method_26_code 47 = .ok (.iload_n 1, 1) := gq_2 db00c_21 eb_9
theorem d_X8_readMoreParts_48 : decode prog_10_method_26_code 48 = .ok (.invokevirtual 154, 3) := gq_3 db00c_21 eb_511
theorem d_X8_readMoreParts_51 : decode prog_10_method_26_code 51 = .ok (.ifCond .eq 7, 3) := gq_4 db00c_21 eb_123
theorem d_X8_readMoreParts_54 : decode prog_10_method_26_code 54 = .ok (.iconst 1, 1) := gq_5 db00c_21 eb_19
theorem d_X8_readMoreParts_55 : decode prog_10_method_26_code 55 = .ok (.goto 4, 3) := gq_6 db00c_21 eb_20
theorem d_X8_readMoreParts_58 : decode prog_10_method_26_code 58 = .ok (.iconst 0, 1) := gq_7 db00c_21 eb_21
theorem d_X8_readMoreParts_59 : decode prog_10_method_26_code 59 = .ok (.istore_n 2, 1) := gq_8 db00c_21 eb_27
theorem d_X8_readMoreParts_60 : decode prog_10_method_26_code 60 = .ok (.aload_n 0, 1) := gq_9 db00c_21 eb_0
theorem d_X8_readMoreParts_61 : decode prog_10_method_26_code 61 = .ok (.bipush 12, 2) := gq_10 db00c_21 eb_4
theorem d_X8_readMoreParts_63 : decode prog_10_method_26_code 63 = .ok (.iconst 0, 1) := gq_11 db00c_21 eb_21
theorem d_X8_readMoreParts_64 : decode prog_10_method_26_code 64 = .ok (.invokevirtual 121, 3) := gq_12 db00c_21 eb_498
theorem d_X8_readMoreParts_67 : decode prog_10_method_26_code 67 = .ok (.pop, 1) := gq_13 db00c_21 eb_466
theorem d_X8_readMoreParts_68 : decode prog_10_method_26_code 68 = .ok (.iinc 3 1, 3) := gq_14 db00c_21 eb_42
theorem d_X8_readMoreParts_71 : decode prog_10_method_26_code 71 = .ok (.goto (-63), 3) := gq_15 db00c_21 eb_515
theorem d_X8_readMoreParts_74 : decode prog_10_method_26_code 74 = .ok (.iload_n 2, 1) := gq_16 db00c_21 eb_13
theorem d_X8_readMoreParts_75 : decode prog_10_method_26_code 75 = .ok (.ireturn, 1) := gq_17 db00c_21 eb_15
theorem db00c_22 : Pf_ prog_10_method_27_code [(0, [0x04]), (1, [0x3d]), (2, [0x03]), (3, [0x3e]), (4, [0x1d]), (5, [0x11, 0x00, 0xa0]), (8, [0xa2, 0x00, 0x2e]), (11, [0x1c]), (12, [0x99, 0x00, 0x2a]), (15, [0x2a]), (16, [0xb6, 0x00, 0x3f]), (19, [0x10, 0x26]), (21, [0xa0, 0x00, 0x21]), (24, [0x2a]), (25, [0x59]), (26, [0xb4, 0x00, 0x2f]), (29, [0x04]), (30, [0x60]), (31, [0xb5, 0x00, 0x2f]), (34, [0x2a]), (35, [0x1b]), (36, [0xb6, 0x00, 0x97]), (39, [0x3d]), (40, [0x2a])] := pf_ok prog_10_method_27_code _ 0 (by decide +kernel)
theorem d_X8_readMoreUnits_0 : decode prog_10_method_27_code 0 = .ok (.iconst 1, 1) := gq_0 db00c_22 eb_19
theorem d_X8_readMoreUnits_1 : decode prog_10_method_27_code 1 = .ok (.istore_n 2, 1) := gq_1 db00c_22 eb_27
theorem d_X8_readMoreUnits_2 : decode prog_10_method_27_code 2 = .ok (.iconst 0, 1) := gq_2 db00c_22 eb_21
theorem d_X8_readMoreUnits_3 : decode prog_10_method_27_code 3 = .ok (.istore_n 3, 1) := gq_3 db00c_22 eb_28
theorem d_X8_readMoreUnits_4 : decode prog_10_method_27_code 4 = .ok (.iload_n 3, 1) := gq_4 db00c_22 eb_29
theorem d_X8_readMoreUnits_5 : decode prog_10_method_27_code 5 = .ok (.sipush 160, 3) := gq_5 db00c_22 eb_434
theorem d_X8_readMoreUnits_8 : decode prog_10_method_27_code 8 = .ok (.if_icmp .ge 46, 3) := gq_6 db00c_22 eb_31
theorem d_X8_readMoreUnits_11 : decode prog_10_method_27_code 11 = .ok (.iload_n 2, 1) := gq_7 db00c_22 eb_13
theorem d_X8_readMoreUnits_12 : decode prog_10_method_27_code 12 = .ok (.ifCond .eq 42, 3) := gq_8 db00c_22 eb_516
theorem d_X8_readMoreUnits_15 : decode prog_10_method_27_code 15 = .ok (.aload_n 0, 1) := gq_9 db00c_22 eb_0
theorem d_X8_readMoreUnits_16 : decode prog_10_method_27_code 16 = .ok (.invokevirtual 63, 3) := gq_10 db00c_22 eb_357
theorem d_X8_readMoreUnits_19 : decode prog_10_method_27_code 19 = .ok (.bipush 38, 2) := gq_11 db00c_22 eb_517
theorem d_X8_readMoreUnits_21 : decode prog_10_method_27_code 21 = .ok (.if_icmp .ne 33, 3) := gq_12 db00c_22 eb_518
theorem d_X8_readMoreUnits_24 : decode prog_10_method_27_code 24 = .ok (.aload_n 0, 1) := gq_13 db00c_22 eb_0
theorem d_X8_readMoreUnits_25 : decode prog_10_method_27_code 25 = .ok (.dup, 1) := gq_14 db00c_22 eb_46
theorem d_X8_readMoreUnits_26 : decode prog_10_method_27_code 26 = .ok (.getfield 47, 3) := gq_15 db00c_22 eb_455
theorem d_X8_readMoreUnits_29 : decode prog_10_method_27_code 29 = .ok (.iconst 1, 1) := gq_16 db00c_22 eb_19
theorem d_X8_readMoreUnits_30 : decode prog_10_method_27_code 30 = .ok (.iadd, 1) := gq_17 db00c_22 eb_35
theorem d_X8_readMoreUnits_31 : decode prog_10_method_27_code 31 = .ok (.putfield 47, 3) := gq_18 db00c_22 eb_452
theorem d_X8_readMoreUnits_34 : decode prog_10_method_27_code 34 = .ok (.aload_n 0, 1) := gq_19 db00c_22 eb_0
theorem d_X8_readMoreUnits_35 : decode prog_10_method_27_code 35 = .ok (.iload_n 1, 1) := gq_20 db00c_22 eb_9
theorem d_X8_readMoreUnits_36 : decode prog_10_method_27_code 36 = .ok (.invokevirtual 151, 3) := gq_21 db00c_22 eb_510
theorem d_X8_readMoreUnits_39 : decode prog_10_method_27_code 39 = .ok (.istore_n 2, 1) := gq_22 db00c_22 eb_27
theorem d_X8_readMoreUnits_40 : decode prog_10_method_27_code 40 = .ok (.aload_n 0, 1) := gq_23 db00c_22 eb_0
theorem db00c_23 : Pf_ prog_10_method_27_code [(41, [0x10, 0x0b]), (43, [0x03]), (44, [0xb6, 0x00, 0x79]), (47, [0x57]), (48, [0x84, 0x03, 0x01]), (51, [0xa7, 0xff, 0xd1]), (54, [0x1c]), (55, [0xac])] := pf_ok prog_10_method_27_code _ 41 (by decide +kernel)
theorem d_X8_readMoreUnits_41 : decode prog_10_method_27_code 41 = .ok (.bipush 11, 2) := gq_0 db00c_23 eb_328
theorem d_X8_readMoreUnits_43 : decode prog_10_method_27_code 43 = .ok (.iconst 0, 1) := gq_1 db00c_23 eb_21
theorem d_X8_readMoreUnits_44 : decode prog_10_method_27_code 44 = .ok (.invokevirtual 121, 3) := gq_2 db00c_23 eb_498
theorem d_X8_readMoreUnits_47 : decode prog_10_method_27_code 47 = .ok (.pop, 1) := gq_3 db00c_23 eb_466
theorem d_X8_readMoreUnits_48 : decode prog_10_method_27_code 48 = .ok (.iinc 3 1, 3) := gq_4 db00c_23 eb_42
theorem d_X8_readMoreUnits_51 : decode prog_10_method_27_code 51 = .ok (.goto (-47), 3) := gq_5 db00c_23 eb_433
theorem d_X8_readMoreUnits_54 : decode prog_10_method_27_code 54 = .ok (.iload_n 2, 1) := gq_6 db00c_23 eb_13
theorem d_X8_readMoreUnits_55 : decode prog_10_method_27_code 55 = .ok (.ireturn, 1) := gq_7 db00c_23 eb_15
theorem db00c_24 : Pf_ prog_10_method_28_code [(0, [0x2a]), (1, [0xb6, 0x00, 0x3f]), (4, [0x3d]), (5, [0x1c]), (6, [0x10, 0x21]), (8, [0x9f, 0x00, 0x1f]), (11, [0x1c]), (12, [0x10, 0x28]), (14, [0x9f, 0x00, 0x19]), (17, [0x2a]), (18, [0x1b]), (19, [0xb6, 0x00, 0x89]), (22, [0x99, 0x00, 0x0f]), (25, [0x2a]), (26, [0x1b]), (27, [0xb6, 0x00, 0x8f]), (30, [0x99, 0x00, 0x07]), (33, [0x04]), (34, [0xa7, 0x00, 0x04]), (37, [0x03]), (38, [0xac]), (39, [0x1b]), (40, [0x10, 0x06]), (42, [0xa1, 0x00, 0x08])] := pf_ok prog_10_method_28_code _ 0 (by decide +kernel)
theorem d_X8_readUnit_0 : decode prog_10_method_28_code 0 = .ok (.aload_n 0, 1) := gq_0 db00c_24 eb_0
theorem d_X8_readUnit_1 : decode prog_10_method_28_code 1 = .ok (.invokevirtual 63, 3) := gq_1 db00c_24 eb_357
theorem d_X8_readUnit_4 : decode prog_10_method_28_code 4 = .ok (.istore_n 2, 1) := gq_2 db00c_24 eb_27
theorem d_X8_readUnit_5 : decode prog_10_method_28_code 5 = .ok (.iload_n 2, 1) := gq_3 db00c_24 eb_13
theorem d_X8_readUnit_6 : decode prog_10_method_28_code 6 = .ok (.bipush 33, 2) := gq_4 db00c_24 eb_503
theorem d_X8_readUnit_8 : decode prog_10_method_28_code 8 = .ok (.if_icmp .eq 31, 3) := gq_5 db00c_24 eb_519
theorem d_X8_readUnit_11 : decode prog_10_method_28_code 11 = .ok (.iload_n 2, 1) := gq_6 db00c_24 eb_13
theorem d_X8_readUnit_12 : decode prog_10_method_28_code 12 = .ok (.bipush 40, 2) := gq_7 db00c_24 eb_314
theorem d_X8_readUnit_14 : decode prog_10_method_28_code 14 = .ok (.if_icmp .eq 25, 3) := gq_8 db00c_24 eb_520
theorem d_X8_readUnit_17 : decode prog_10_method_28_code 17 = .ok (.aload_n 0, 1) := gq_9 db00c_24 eb_0
theorem d_X8_readUnit_18 : decode prog_10_method_28_code 18 = .ok (.iload_n 1, 1) := gq_10 db00c_24 eb_9
theorem d_X8_readUnit_19 : decode prog_10_method_28_code 19 = .ok (.invokevirtual 137, 3) := gq_11 db00c_24 eb_506
theorem d_X8_readUnit_22 : decode prog_10_method_28_code 22 = .ok (.ifCond .eq 15, 3) := gq_12 db00c_24 eb_294
theorem d_X8_readUnit_25 : decode prog_10_method_28_code 25 = .ok (.aload_n 0, 1) := gq_13 db00c_24 eb_0
theorem d_X8_readUnit_26 : decode prog_10_method_28_code 26 = .ok (.iload_n 1, 1) := gq_14 db00c_24 eb_9
theorem d_X8_readUnit_27 : decode prog_10_method_28_code 27 = .ok (.invokevirtual 143, 3) := gq_15 db00c_24 eb_405
theorem d_X8_readUnit_30 : decode prog_10_method_28_code 30 = .ok (.ifCond .eq 7, 3) := gq_16 db00c_24 eb_123
theorem d_X8_readUnit_33 : decode prog_10_method_28_code 33 = .ok (.iconst 1, 1) := gq_17 db00c_24 eb_19
theorem d_X8_readUnit_34 : decode prog_10_method_28_code 34 = .ok (.goto 4, 3) := gq_18 db00c_24 eb_20
theorem d_X8_readUnit_37 : decode prog_10_method_28_code 37 = .ok (.iconst 0, 1) := gq_19 db00c_24 eb_21
theorem d_X8_readUnit_38 : decode prog_10_method_28_code 38 = .ok (.ireturn, 1) := gq_20 db00c_24 eb_15
theorem d_X8_readUnit_39 : decode prog_10_method_28_code 39 = .ok (.iload_n 1, 1) := gq_21 db00c_24 eb_9
theorem d_X8_readUnit_40 : decode prog_10_method_28_code 40 = .ok (.bipush 6, 2) := gq_22 db00c_24 eb_14
theorem d_X8_readUnit_42 : decode prog_10_method_28_code 42 = .ok (.if_icmp .lt 8, 3) := gq_23 db00c_24 eb_348
theorem db00c_25 : Pf_ prog_10_method_28_code [(45, [0x2a]), (46, [0xb6, 0x00, 0x43]), (49, [0xac]), (50, [0x2a]), (51, [0x59]), (52, [0xb4, 0x00, 0x2f]), (55, [0x04]), (56, [0x60]), (57, [0xb5, 0x00, 0x2f]), (60, [0x1c]), (61, [0x10, 0x28]), (63, [0xa0, 0x00, 0x1c]), (66, [0x2a]), (67, [0x1b]), (68, [0x04]), (69, [0x60]), (70, [0xb6, 0x00, 0x76]), (73, [0x99, 0x00, 0x10]), (76, [0x2a]), (77, [0x10, 0x29]), (79, [0xb6, 0x00, 0x62]), (82, [0x99, 0x00, 0x07]), (85, [0x04]), (86, [0xa7, 0x00, 0x04])] := pf_ok prog_10_method_28_code _ 45 (by decide +kernel)
theorem d_X8_readUnit_45 : decode prog_10_method_28_code 45 = .ok (.aload_n 0, 1) := gq_0 db00c_25 eb_0
theorem d_X8_readUnit_46 : decode prog_10_method_28_code 46 = .ok (.invokevirtual 67, 3) := gq_1 db00c_25 eb_215
theorem d_X8_readUnit_49 : decode prog_10_method_28_code 49 = .ok (.ireturn, 1) := gq_2 db00c_25 eb_15
theorem d_X8_readUnit_50 : decode prog_10_method_28_code 50 = .ok (.aload_n 0, 1) := gq_3 db00c_25 eb_0
theorem d_X8_readUnit_51 : decode prog_10_method_28_code 51 = .ok (.dup, 1) := gq_4 db00c_25 eb_46
theorem d_X8_readUnit_52 : decode prog_10_method_28_code 52 = .ok (.getfield 47, 3) := gq_5 db00c_25 eb_455
theorem d_X8_readUnit_55 : decode prog_10_method_28_code 55 = .ok (.iconst 1, 1) := gq_6 db00c_25 eb_19
theorem d_X8_readUnit_56 : decode prog_10_method_28_code 56 = .ok (.iadd, 1) := gq_7 db00c_25 eb_35
theorem d_X8_readUnit_57 : decode prog_10_method_28_code 57 = .ok (.putfield 47, 3) := gq_8 db00c_25 eb_452
theorem d_X8_readUnit_60 : decode prog_10_method_28_code 60 = .ok (.iload_n 2, 1) := gq_9 db00c_25 eb_13
theorem d_X8_readUnit_61 : decode prog_10_method_28_code 61 = .ok (.bipush 40, 2) := gq_10 db00c_25 eb_314
theorem d_X8_readUnit_63 : decode prog_10_method_28_code 63 = .ok (.if_icmp .ne 28, 3) := gq_11 db00c_25 eb_521
theorem d_X8_readUnit_66 : decode prog_10_method_28_code 66 = .ok (.aload_n 0, 1) := gq_12 db00c_25 eb_0
theorem d_X8_readUnit_67 : decode prog_10_method_28_code 67 = .ok (.iload_n 1, 1) := gq_13 db00c_25 eb_9
theorem d_X8_readUnit_68 : decode prog_10_method_28_code 68 = .ok (.iconst 1, 1) := gq_14 db00c_25 eb_19
theorem d_X8_readUnit_69 : decode prog_10_method_28_code 69 = .ok (.iadd, 1) := gq_15 db00c_25 eb_35
theorem d_X8_readUnit_70 : decode prog_10_method_28_code 70 = .ok (.invokevirtual 118, 3) := gq_16 db00c_25 eb_496
theorem d_X8_readUnit_73 : decode prog_10_method_28_code 73 = .ok (.ifCond .eq 16, 3) := gq_17 db00c_25 eb_136
theorem d_X8_readUnit_76 : decode prog_10_method_28_code 76 = .ok (.aload_n 0, 1) := gq_18 db00c_25 eb_0
theorem d_X8_readUnit_77 : decode prog_10_method_28_code 77 = .ok (.bipush 41, 2) := gq_19 db00c_25 eb_476
theorem d_X8_readUnit_79 : decode prog_10_method_28_code 79 = .ok (.invokevirtual 98, 3) := gq_20 db00c_25 eb_477
theorem d_X8_readUnit_82 : decode prog_10_method_28_code 82 = .ok (.ifCond .eq 7, 3) := gq_21 db00c_25 eb_123
theorem d_X8_readUnit_85 : decode prog_10_method_28_code 85 = .ok (.iconst 1, 1) := gq_22 db00c_25 eb_19
theorem d_X8_readUnit_86 : decode prog_10_method_28_code 86 = .ok (.goto 4, 3) := gq_23 db00c_25 eb_20
theorem db00c_26 : Pf_ prog_10_method_28_code [(89, [0x03]), (90, [0xac]), (91, [0x2a]), (92, [0x1b]), (93, [0x04]), (94, [0x60]), (95, [0xb6, 0x00, 0x97]), (98, [0x3e]), (99, [0x2a]), (100, [0x05]), (101, [0x03]), (102, [0xb6, 0x00, 0x79]), (105, [0x57]), (106, [0x1d]), (107, [0xac])] := pf_ok prog_10_method_28_code _ 89 (by decide +kernel)
theorem d_X8_readUnit_89 : decode prog_10_method_28_code 89 = .ok (.iconst 0, 1) := gq_0 db00c_26 eb_21
theorem d_X8_readUnit_90 : decode prog_10_method_28_code 90 = .ok (.ireturn, 1) := gq_1 db00c_26 eb_15
theorem d_X8_readUnit_91 : decode prog_10_method_28_code 91 = .ok (.aload_n 0, 1) := gq_2 db00c_26 eb_0
theorem d_X8_readUnit_92 : decode prog_10_method_28_code 92 = .ok (.iload_n 1, 1) := gq_3 db00c_26 eb_9
theorem d_X8_readUnit_93 : decode prog_10_method_28_code 93 = .ok (.iconst 1, 1) := gq_4 db00c_26 eb_19
theorem d_X8_readUnit_94 : decode prog_10_method_28_code 94 = .ok (.iadd, 1) := gq_5 db00c_26 eb_35
theorem d_X8_readUnit_95 : decode prog_10_method_28_code 95 = .ok (.invokevirtual 151, 3) := gq_6 db00c_26 eb_510
theorem d_X8_readUnit_98 : decode prog_10_method_28_code 98 = .ok (.istore_n 3, 1) := gq_7 db00c_26 eb_28
theorem d_X8_readUnit_99 : decode prog_10_method_28_code 99 = .ok (.aload_n 0, 1) := gq_8 db00c_26 eb_0
theorem d_X8_readUnit_100 : decode prog_10_method_28_code 100 = .ok (.iconst 2, 1) := gq_9 db00c_26 eb_10
theorem d_X8_readUnit_101 : decode prog_10_method_28_code 101 = .ok (.iconst 0, 1) := gq_10 db00c_26 eb_21
theorem d_X8_readUnit_102 : decode prog_10_method_28_code 102 = .ok (.invokevirtual 121, 3) := gq_11 db00c_26 eb_498
theorem d_X8_readUnit_105 : decode prog_10_method_28_code 105 = .ok (.pop, 1) := gq_12 db00c_26 eb_466
theorem d_X8_readUnit_106 : decode prog_10_method_28_code 106 = .ok (.iload_n 3, 1) := gq_13 db00c_26 eb_29
theorem d_X8_readUnit_107 : decode prog_10_method_28_code 107 = .ok (.ireturn, 1) := gq_14 db00c_26 eb_15
theorem db00c_27 : Pf_ prog_10_method_29_code [(0, [0x1a]), (1, [0x10, 0x3d]), (3, [0x9f, 0x00, 0x0f]), (6, [0x1a]), (7, [0x10, 0x3c]), (9, [0x9f, 0x00, 0x09]), (12, [0x1a]), (13, [0x10, 0x3e]), (15, [0xa0, 0x00, 0x07]), (18, [0x04]), (19, [0xa7, 0x00, 0x04]), (22, [0x03]), (23, [0xac])] := pf_ok prog_10_method_29_code _ 0 (by decide +kernel)
theorem d_X8_isComparison_0 : decode prog_10_method_29_code 0 = .ok (.iload_n 0, 1) := gq_0 db00c_27 eb_8
theorem d_X8_isComparison_1 : decode prog_10_method_29_code 1 = .ok (.bipush 61, 2) := gq_1 db00c_27 eb_522
theorem d_X8_isComparison_3 : decode prog_10_method_29_code 3 = .ok (.if_icmp .eq 15, 3) := gq_2 db00c_27 eb_523
theorem d_X8_isComparison_6 : decode prog_10_method_29_code 6 = .ok (.iload_n 0, 1) := gq_3 db00c_27 eb_8
theorem d_X8_isComparison_7 : decode prog_10_method_29_code 7 = .ok (.bipush 60, 2) := gq_4 db00c_27 eb_290
theorem d_X8_isComparison_9 : decode prog_10_method_29_code 9 = .ok (.if_icmp .eq 9, 3) := gq_5 db00c_27 eb_431
theorem d_X8_isComparison_12 : decode prog_10_method_29_code 12 = .ok (.iload_n 0, 1) := gq_6 db00c_27 eb_8
theorem d_X8_isComparison_13 : decode prog_10_method_29_code 13 = .ok (.bipush 62, 2) := gq_7 db00c_27 eb_524
theorem d_X8_isComparison_15 : decode prog_10_method_29_code 15 = .ok (.if_icmp .ne 7, 3) := gq_8 db00c_27 eb_135
theorem d_X8_isComparison_18 : decode prog_10_method_29_code 18 = .ok (.iconst 1, 1) := gq_9 db00c_27 eb_19
theorem d_X8_isComparison_19 : decode prog_10_method_29_code 19 = .ok (.goto 4, 3) := gq_10 db00c_27 eb_20
theorem d_X8_isComparison_22 : decode prog_10_method_29_code 22 = .ok (.iconst 0, 1) := gq_11 db00c_27 eb_21
theorem d_X8_isComparison_23 : decode prog_10_method_29_code 23 = .ok (.ireturn, 1) := gq_12 db00c_27 eb_15
theorem db00c_28 : Pf_ prog_10_method_30_code [(0, [0x2a]), (1, [0xb6, 0x00, 0x3f]), (4, [0x3d]), (5, [0x1c]), (6, [0xb8, 0x00, 0x8c]), (9, [0x9a, 0x00, 0x08]), (12, [0x2a]), (13, [0xb6, 0x00, 0x43]), (16, [0xac]), (17, [0x2a]), (18, [0x59]), (19, [0xb4, 0x00, 0x2f]), (22, [0x04]), (23, [0x60]), (24, [0xb5, 0x00, 0x2f]), (27, [0x2a]), (28, [0x1b]), (29, [0xb6, 0x00, 0x89]), (32, [0x3e]), (33, [0x2a]), (34, [0x1c]), (35, [0x10, 0x3d]), (37, [0xa0, 0x00, 0x08]), (40, [0x10, 0x08])] := pf_ok prog_10_method_30_code _ 0 (by decide +kernel)
theorem d_X8_readComparison_0 : decode prog_10_method_30_code 0 = .ok (.aload_n 0, 1) := gq_0 db00c_28 eb_0
theorem d_X8_readComparison_1 : decode prog_10_method_30_code 1 = .ok (.invokevirtual 63, 3) := gq_1 db00c_28 eb_357
theorem d_X8_readComparison_4 : decode prog_10_method_30_code 4 = .ok (.istore_n 2, 1) := gq_2 db00c_28 eb_27
theorem d_X8_readComparison_5 : decode prog_10_method_30_code 5 = .ok (.iload_n 2, 1) := gq_3 db00c_28 eb_13
theorem d_X8_readComparison_6 : decode prog_10_method_30_code 6 = .ok (.invokestatic 140, 3) := gq_4 db00c_28 eb_507
theorem d_X8_readComparison_9 : decode prog_10_method_30_code 9 = .ok (.ifCond .ne 8, 3) := gq_5 db00c_28 eb_525
theorem d_X8_readComparison_12 : decode prog_10_method_30_code 12 = .ok (.aload_n 0, 1) := gq_6 db00c_28 eb_0
theorem d_X8_readComparison_13 : decode prog_10_method_30_code 13 = .ok (.invokevirtual 67, 3) := gq_7 db00c_28 eb_215
theorem d_X8_readComparison_16 : decode prog_10_method_30_code 16 = .ok (.ireturn, 1) := gq_8 db00c_28 eb_15
theorem d_X8_readComparison_17 : decode prog_10_method_30_code 17 = .ok (.aload_n 0, 1) := gq_9 db00c_28 eb_0
theorem d_X8_readComparison_18 : decode prog_10_method_30_code 18 = .ok (.dup, 1) := gq_10 db00c_28 eb_46
theorem d_X8_readComparison_19 : decode prog_10_method_30_code 19 = .ok (.getfield 47, 3) := gq_11 db00c_28 eb_455
theorem d_X8_readComparison_22 : decode prog_10_method_30_code 22 = .ok (.iconst 1, 1) := gq_12 db00c_28 eb_19
theorem d_X8_readComparison_23 : decode prog_10_method_30_code 23 = .ok (.iadd, 1) := gq_13 db00c_28 eb_35
theorem d_X8_readComparison_24 : decode prog_10_method_30_code 24 = .ok (.putfield 47, 3) := gq_14 db00c_28 eb_452
theorem d_X8_readComparison_27 : decode prog_10_method_30_code 27 = .ok (.aload_n 0, 1) := gq_15 db00c_28 eb_0
theorem d_X8_readComparison_28 : decode prog_10_method_30_code 28 = .ok (.iload_n 1, 1) := gq_16 db00c_28 eb_9
theorem d_X8_readComparison_29 : decode prog_10_method_30_code 29 = .ok (.invokevirtual 137, 3) := gq_17 db00c_28 eb_506
theorem d_X8_readComparison_32 : decode prog_10_method_30_code 32 = .ok (.istore_n 3, 1) := gq_18 db00c_28 eb_28
theorem d_X8_readComparison_33 : decode prog_10_method_30_code 33 = .ok (.aload_n 0, 1) := gq_19 db00c_28 eb_0
theorem d_X8_readComparison_34 : decode prog_10_method_30_code 34 = .ok (.iload_n 2, 1) := gq_20 db00c_28 eb_13
theorem d_X8_readComparison_35 : decode prog_10_method_30_code 35 = .ok (.bipush 61, 2) := gq_21 db00c_28 eb_522
theorem d_X8_readComparison_37 : decode prog_10_method_30_code 37 = .ok (.if_icmp .ne 8, 3) := gq_22 db00c_28 eb_526
theorem d_X8_readComparison_40 : decode prog_10_method_30_code 40 = .ok (.bipush 8, 2) := gq_23 db00c_28 eb_94
theorem db00c_29 : Pf_ prog_10_method_30_code [(42, [0xa7, 0x00, 0x10]), (45, [0x1c]), (46, [0x10, 0x3c]), (48, [0xa0, 0x00, 0x08]), (51, [0x10, 0x09]), (53, [0xa7, 0x00, 0x05]), (56, [0x10, 0x0a]), (58, [0x03]), (59, [0xb6, 0x00, 0x79]), (62, [0x57]), (63, [0x1d]), (64, [0xac])] := pf_ok prog_10_method_30_code _ 42 (by decide +kernel)
theorem d_X8_readComparison_42 : decode prog_10_method_30_code 42 = .ok (.goto 16, 3) := gq_0 db00c_29 eb_527
theorem d_X8_readComparison_45 : decode prog_10_method_30_code 45 = .ok (.iload_n 2, 1) := gq_1 db00c_29 eb_13
theorem d_X8_readComparison_46 : decode prog_10_method_30_code 46 = .ok (.bipush 60, 2) := gq_2 db00c_29 eb_290
theorem d_X8_readComparison_48 : decode prog_10_method_30_code 48 = .ok (.if_icmp .ne 8, 3) := gq_3 db00c_29 eb_526
theorem d_X8_readComparison_51 : decode prog_10_method_30_code 51 = .ok (.bipush 9, 2) := gq_4 db00c_29 eb_287
theorem d_X8_readComparison_53 : decode prog_10_method_30_code 53 = .ok (.goto 5, 3) := gq_5 db00c_29 eb_89
theorem d_X8_readComparison_56 : decode prog_10_method_30_code 56 = .ok (.bipush 10, 2) := gq_6 db00c_29 eb_93
theorem d_X8_readComparison_58 : decode prog_10_method_30_code 58 = .ok (.iconst 0, 1) := gq_7 db00c_29 eb_21
theorem d_X8_readComparison_59 : decode prog_10_method_30_code 59 = .ok (.invokevirtual 121, 3) := gq_8 db00c_29 eb_498
theorem d_X8_readComparison_62 : decode prog_10_method_30_code 62 = .ok (.pop, 1) := gq_9 db00c_29 eb_466
theorem d_X8_readComparison_63 : decode prog_10_method_30_code 63 = .ok (.iload_n 3, 1) := gq_10 db00c_29 eb_29
theorem d_X8_readComparison_64 : decode prog_10_method_30_code 64 = .ok (.ireturn, 1) := gq_11 db00c_29 eb_15
theorem db00c_30 : Pf_ prog_10_method_31_code [(0, [0x2a]), (1, [0x1b]), (2, [0xb6, 0x00, 0x9d]), (5, [0x3d]), (6, [0x03]), (7, [0x3e]), (8, [0x1d]), (9, [0x11, 0x00, 0xa0]), (12, [0xa2, 0x00, 0x48]), (15, [0x1c]), (16, [0x99, 0x00, 0x44]), (19, [0x2a]), (20, [0xb6, 0x00, 0x3f]), (23, [0x10, 0x2b]), (25, [0x9f, 0x00, 0x0c]), (28, [0x2a]), (29, [0xb6, 0x00, 0x3f]), (32, [0x10, 0x2d]), (34, [0xa0, 0x00, 0x32]), (37, [0x2a]), (38, [0xb6, 0x00, 0x3f]), (41, [0x10, 0x2b]), (43, [0xa0, 0x00, 0x07]), (46, [0x08])] := pf_ok prog_10_method_31_code _ 0 (by decide +kernel)
theorem d_X8_readSum_0 : decode prog_10_method_31_code 0 = .ok (.aload_n 0, 1) := gq_0 db00c_30 eb_0
theorem d_X8_readSum_1 : decode prog_10_method_31_code 1 = .ok (.iload_n 1, 1) := gq_1 db00c_30 eb_9
theorem d_X8_readSum_2 : decode prog_10_method_31_code 2 = .ok (.invokevirtual 157, 3) := gq_2 db00c_30 eb_528
theorem d_X8_readSum_5 : decode prog_10_method_31_code 5 = .ok (.istore_n 2, 1) := gq_3 db00c_30 eb_27
theorem d_X8_readSum_6 : decode prog_10_method_31_code 6 = .ok (.iconst 0, 1) := gq_4 db00c_30 eb_21
theorem d_X8_readSum_7 : decode prog_10_method_31_code 7 = .ok (.istore_n 3, 1) := gq_5 db00c_30 eb_28
theorem d_X8_readSum_8 : decode prog_10_method_31_code 8 = .ok (.iload_n 3, 1) := gq_6 db00c_30 eb_29
theorem d_X8_readSum_9 : decode prog_10_method_31_code 9 = .ok (.sipush 160, 3) := gq_7 db00c_30 eb_434
theorem d_X8_readSum_12 : decode prog_10_method_31_code 12 = .ok (.if_icmp .ge 72, 3) := gq_8 db00c_30 eb_308
theorem d_X8_readSum_15 : decode prog_10_method_31_code 15 = .ok (.iload_n 2, 1) := gq_9 db00c_30 eb_13
theorem d_X8_readSum_16 : decode prog_10_method_31_code 16 = .ok (.ifCond .eq 68, 3) := gq_10 db00c_30 eb_529
theorem d_X8_readSum_19 : decode prog_10_method_31_code 19 = .ok (.aload_n 0, 1) := gq_11 db00c_30 eb_0
theorem d_X8_readSum_20 : decode prog_10_method_31_code 20 = .ok (.invokevirtual 63, 3) := gq_12 db00c_30 eb_357
theorem d_X8_readSum_23 : decode prog_10_method_31_code 23 = .ok (.bipush 43, 2) := gq_13 db00c_30 eb_530
theorem d_X8_readSum_25 : decode prog_10_method_31_code 25 = .ok (.if_icmp .eq 12, 3) := gq_14 db00c_30 eb_531
theorem d_X8_readSum_28 : decode prog_10_method_31_code 28 = .ok (.aload_n 0, 1) := gq_15 db00c_30 eb_0
theorem d_X8_readSum_29 : decode prog_10_method_31_code 29 = .ok (.invokevirtual 63, 3) := gq_16 db00c_30 eb_357
theorem d_X8_readSum_32 : decode prog_10_method_31_code 32 = .ok (.bipush 45, 2) := gq_17 db00c_30 eb_532
theorem d_X8_readSum_34 : decode prog_10_method_31_code 34 = .ok (.if_icmp .ne 50, 3) := gq_18 db00c_30 eb_533
theorem d_X8_readSum_37 : decode prog_10_method_31_code 37 = .ok (.aload_n 0, 1) := gq_19 db00c_30 eb_0
theorem d_X8_readSum_38 : decode prog_10_method_31_code 38 = .ok (.invokevirtual 63, 3) := gq_20 db00c_30 eb_357
theorem d_X8_readSum_41 : decode prog_10_method_31_code 41 = .ok (.bipush 43, 2) := gq_21 db00c_30 eb_530
theorem d_X8_readSum_43 : decode prog_10_method_31_code 43 = .ok (.if_icmp .ne 7, 3) := gq_22 db00c_30 eb_135
theorem d_X8_readSum_46 : decode prog_10_method_31_code 46 = .ok (.iconst 5, 1) := gq_23 db00c_30 eb_122
theorem db00c_31 : Pf_ prog_10_method_31_code [(47, [0xa7, 0x00, 0x05]), (50, [0x10, 0x06]), (52, [0x36, 0x04]), (54, [0x2a]), (55, [0x59]), (56, [0xb4, 0x00, 0x2f]), (59, [0x04]), (60, [0x60]), (61, [0xb5, 0x00, 0x2f]), (64, [0x2a]), (65, [0x1b]), (66, [0xb6, 0x00, 0x9d]), (69, [0x3d]), (70, [0x2a]), (71, [0x15, 0x04]), (73, [0x03]), (74, [0xb6, 0x00, 0x79]), (77, [0x57]), (78, [0x84, 0x03, 0x01]), (81, [0xa7, 0xff, 0xb7]), (84, [0x1c]), (85, [0xac])] := pf_ok prog_10_method_31_code _ 47 (by decide +kernel)
theorem d_X8_readSum_47 : decode prog_10_method_31_code 47 = .ok (.goto 5, 3) := gq_0 db00c_31 eb_89
theorem d_X8_readSum_50 : decode prog_10_method_31_code 50 = .ok (.bipush 6, 2) := gq_1 db00c_31 eb_14
theorem d_X8_readSum_52 : decode prog_10_method_31_code 52 = .ok (.istore 4, 2) := gq_2 db00c_31 eb_133
theorem d_X8_readSum_54 : decode prog_10_method_31_code 54 = .ok (.aload_n 0, 1) := gq_3 db00c_31 eb_0
theorem d_X8_readSum_55 : decode prog_10_method_31_code 55 = .ok (.dup, 1) := gq_4 db00c_31 eb_46
theorem d_X8_readSum_56 : decode prog_10_method_31_code 56 = .ok (.getfield 47, 3) := gq_5 db00c_31 eb_455
theorem d_X8_readSum_59 : decode prog_10_method_31_code 59 = .ok (.iconst 1, 1) := gq_6 db00c_31 eb_19
theorem d_X8_readSum_60 : decode prog_10_method_31_code 60 = .ok (.iadd, 1) := gq_7 db00c_31 eb_35
theorem d_X8_readSum_61 : decode prog_10_method_31_code 61 = .ok (.putfield 47, 3) := gq_8 db00c_31 eb_452
theorem d_X8_readSum_64 : decode prog_10_method_31_code 64 = .ok (.aload_n 0, 1) := gq_9 db00c_31 eb_0
theorem d_X8_readSum_65 : decode prog_10_method_31_code 65 = .ok (.iload_n 1, 1) := gq_10 db00c_31 eb_9
theorem d_X8_readSum_66 : decode prog_10_method_31_code 66 = .ok (.invokevirtual 157, 3) := gq_11 db00c_31 eb_528
theorem d_X8_readSum_69 : decode prog_10_method_31_code 69 = .ok (.istore_n 2, 1) := gq_12 db00c_31 eb_27
theorem d_X8_readSum_70 : decode prog_10_method_31_code 70 = .ok (.aload_n 0, 1) := gq_13 db00c_31 eb_0
theorem d_X8_readSum_71 : decode prog_10_method_31_code 71 = .ok (.iload 4, 2) := gq_14 db00c_31 eb_76
theorem d_X8_readSum_73 : decode prog_10_method_31_code 73 = .ok (.iconst 0, 1) := gq_15 db00c_31 eb_21
theorem d_X8_readSum_74 : decode prog_10_method_31_code 74 = .ok (.invokevirtual 121, 3) := gq_16 db00c_31 eb_498
theorem d_X8_readSum_77 : decode prog_10_method_31_code 77 = .ok (.pop, 1) := gq_17 db00c_31 eb_466
theorem d_X8_readSum_78 : decode prog_10_method_31_code 78 = .ok (.iinc 3 1, 3) := gq_18 db00c_31 eb_42
theorem d_X8_readSum_81 : decode prog_10_method_31_code 81 = .ok (.goto (-73), 3) := gq_19 db00c_31 eb_534
theorem d_X8_readSum_84 : decode prog_10_method_31_code 84 = .ok (.iload_n 2, 1) := gq_20 db00c_31 eb_13
theorem d_X8_readSum_85 : decode prog_10_method_31_code 85 = .ok (.ireturn, 1) := gq_21 db00c_31 eb_15
theorem db00c_32 : Pf_ prog_10_method_32_code [(0, [0x2a]), (1, [0x1b]), (2, [0xb6, 0x00, 0xa0]), (5, [0x3d]), (6, [0x03]), (7, [0x3e]), (8, [0x1d]), (9, [0x11, 0x00, 0xa0]), (12, [0xa2, 0x00, 0x2e]), (15, [0x1c]), (16, [0x99, 0x00, 0x2a]), (19, [0x2a]), (20, [0xb6, 0x00, 0x3f]), (23, [0x10, 0x2a]), (25, [0xa0, 0x00, 0x21]), (28, [0x2a]), (29, [0x59]), (30, [0xb4, 0x00, 0x2f]), (33, [0x04]), (34, [0x60]), (35, [0xb5, 0x00, 0x2f]), (38, [0x2a]), (39, [0x1b]), (40, [0xb6, 0x00, 0xa0])] := pf_ok prog_10_method_32_code _ 0 (by decide +kernel)
theorem d_X8_readTerm_0 : decode prog_10_method_32_code 0 = .ok (.aload_n 0, 1) := gq_0 db00c_32 eb_0
theorem d_X8_readTerm_1 : decode prog_10_method_32_code 1 = .ok (.iload_n 1, 1) := gq_1 db00c_32 eb_9
theorem d_X8_readTerm_2 : decode prog_10_method_32_code 2 = .ok (.invokevirtual 160, 3) := gq_2 db00c_32 eb_535
theorem d_X8_readTerm_5 : decode prog_10_method_32_code 5 = .ok (.istore_n 2, 1) := gq_3 db00c_32 eb_27
theorem d_X8_readTerm_6 : decode prog_10_method_32_code 6 = .ok (.iconst 0, 1) := gq_4 db00c_32 eb_21
theorem d_X8_readTerm_7 : decode prog_10_method_32_code 7 = .ok (.istore_n 3, 1) := gq_5 db00c_32 eb_28
theorem d_X8_readTerm_8 : decode prog_10_method_32_code 8 = .ok (.iload_n 3, 1) := gq_6 db00c_32 eb_29
theorem d_X8_readTerm_9 : decode prog_10_method_32_code 9 = .ok (.sipush 160, 3) := gq_7 db00c_32 eb_434
theorem d_X8_readTerm_12 : decode prog_10_method_32_code 12 = .ok (.if_icmp .ge 46, 3) := gq_8 db00c_32 eb_31
theorem d_X8_readTerm_15 : decode prog_10_method_32_code 15 = .ok (.iload_n 2, 1) := gq_9 db00c_32 eb_13
theorem d_X8_readTerm_16 : decode prog_10_method_32_code 16 = .ok (.ifCond .eq 42, 3) := gq_10 db00c_32 eb_516
theorem d_X8_readTerm_19 : decode prog_10_method_32_code 19 = .ok (.aload_n 0, 1) := gq_11 db00c_32 eb_0
theorem d_X8_readTerm_20 : decode prog_10_method_32_code 20 = .ok (.invokevirtual 63, 3) := gq_12 db00c_32 eb_357
theorem d_X8_readTerm_23 : decode prog_10_method_32_code 23 = .ok (.bipush 42, 2) := gq_13 db00c_32 eb_536
theorem d_X8_readTerm_25 : decode prog_10_method_32_code 25 = .ok (.if_icmp .ne 33, 3) := gq_14 db00c_32 eb_518
theorem d_X8_readTerm_28 : decode prog_10_method_32_code 28 = .ok (.aload_n 0, 1) := gq_15 db00c_32 eb_0
theorem d_X8_readTerm_29 : decode prog_10_method_32_code 29 = .ok (.dup, 1) := gq_16 db00c_32 eb_46
theorem d_X8_readTerm_30 : decode prog_10_method_32_code 30 = .ok (.getfield 47, 3) := gq_17 db00c_32 eb_455
theorem d_X8_readTerm_33 : decode prog_10_method_32_code 33 = .ok (.iconst 1, 1) := gq_18 db00c_32 eb_19
theorem d_X8_readTerm_34 : decode prog_10_method_32_code 34 = .ok (.iadd, 1) := gq_19 db00c_32 eb_35
theorem d_X8_readTerm_35 : decode prog_10_method_32_code 35 = .ok (.putfield 47, 3) := gq_20 db00c_32 eb_452
theorem d_X8_readTerm_38 : decode prog_10_method_32_code 38 = .ok (.aload_n 0, 1) := gq_21 db00c_32 eb_0
theorem d_X8_readTerm_39 : decode prog_10_method_32_code 39 = .ok (.iload_n 1, 1) := gq_22 db00c_32 eb_9
theorem d_X8_readTerm_40 : decode prog_10_method_32_code 40 = .ok (.invokevirtual 160, 3) := gq_23 db00c_32 eb_535
theorem db00c_33 : Pf_ prog_10_method_32_code [(43, [0x3d]), (44, [0x2a]), (45, [0x10, 0x07]), (47, [0x03]), (48, [0xb6, 0x00, 0x79]), (51, [0x57]), (52, [0x84, 0x03, 0x01]), (55, [0xa7, 0xff, 0xd1]), (58, [0x1c]), (59, [0xac])] := pf_ok prog_10_method_32_code _ 43 (by decide +kernel)
theorem d_X8_readTerm_43 : decode prog_10_method_32_code 43 = .ok (.istore_n 2, 1) := gq_0 db00c_33 eb_27
theorem d_X8_readTerm_44 : decode prog_10_method_32_code 44 = .ok (.aload_n 0, 1) := gq_1 db00c_33 eb_0
theorem d_X8_readTerm_45 : decode prog_10_method_32_code 45 = .ok (.bipush 7, 2) := gq_2 db00c_33 eb_132
theorem d_X8_readTerm_47 : decode prog_10_method_32_code 47 = .ok (.iconst 0, 1) := gq_3 db00c_33 eb_21
theorem d_X8_readTerm_48 : decode prog_10_method_32_code 48 = .ok (.invokevirtual 121, 3) := gq_4 db00c_33 eb_498
theorem d_X8_readTerm_51 : decode prog_10_method_32_code 51 = .ok (.pop, 1) := gq_5 db00c_33 eb_466
theorem d_X8_readTerm_52 : decode prog_10_method_32_code 52 = .ok (.iinc 3 1, 3) := gq_6 db00c_33 eb_42
theorem d_X8_readTerm_55 : decode prog_10_method_32_code 55 = .ok (.goto (-47), 3) := gq_7 db00c_33 eb_433
theorem d_X8_readTerm_58 : decode prog_10_method_32_code 58 = .ok (.iload_n 2, 1) := gq_8 db00c_33 eb_13
theorem d_X8_readTerm_59 : decode prog_10_method_32_code 59 = .ok (.ireturn, 1) := gq_9 db00c_33 eb_15
theorem db00c_34 : Pf_ prog_10_method_33_code [(0, [0x2a]), (1, [0xb6, 0x00, 0x3f]), (4, [0x3d]), (5, [0x1c]), (6, [0xb8, 0x00, 0x47]), (9, [0x99, 0x00, 0x1e]), (12, [0x2a]), (13, [0x03]), (14, [0x11, 0x27, 0x0f]), (17, [0xb6, 0x00, 0x55]), (20, [0x3e]), (21, [0x2a]), (22, [0x03]), (23, [0x1d]), (24, [0xb6, 0x00, 0x79]), (27, [0x57]), (28, [0x1d]), (29, [0x02]), (30, [0x9f, 0x00, 0x07]), (33, [0x04]), (34, [0xa7, 0x00, 0x04]), (37, [0x03]), (38, [0xac]), (39, [0x1c])] := pf_ok prog_10_method_33_code _ 0 (by decide +kernel)
theorem d_X8_readAtom_0 : decode prog_10_method_33_code 0 = .ok (.aload_n 0, 1) := gq_0 db00c_34 eb_0
theorem d_X8_readAtom_1 : decode prog_10_method_33_code 1 = .ok (.invokevirtual 63, 3) := gq_1 db00c_34 eb_357
theorem d_X8_readAtom_4 : decode prog_10_method_33_code 4 = .ok (.istore_n 2, 1) := gq_2 db00c_34 eb_27
theorem d_X8_readAtom_5 : decode prog_10_method_33_code 5 = .ok (.iload_n 2, 1) := gq_3 db00c_34 eb_13
theorem d_X8_readAtom_6 : decode prog_10_method_33_code 6 = .ok (.invokestatic 71, 3) := gq_4 db00c_34 eb_118
theorem d_X8_readAtom_9 : decode prog_10_method_33_code 9 = .ok (.ifCond .eq 30, 3) := gq_5 db00c_34 eb_537
theorem d_X8_readAtom_12 : decode prog_10_method_33_code 12 = .ok (.aload_n 0, 1) := gq_6 db00c_34 eb_0
theorem d_X8_readAtom_13 : decode prog_10_method_33_code 13 = .ok (.iconst 0, 1) := gq_7 db00c_34 eb_21
theorem d_X8_readAtom_14 : decode prog_10_method_33_code 14 = .ok (.sipush 9999, 3) := gq_8 db00c_34 eb_538
theorem d_X8_readAtom_17 : decode prog_10_method_33_code 17 = .ok (.invokevirtual 85, 3) := gq_9 db00c_34 eb_469
theorem d_X8_readAtom_20 : decode prog_10_method_33_code 20 = .ok (.istore_n 3, 1) := gq_10 db00c_34 eb_28
theorem d_X8_readAtom_21 : decode prog_10_method_33_code 21 = .ok (.aload_n 0, 1) := gq_11 db00c_34 eb_0
theorem d_X8_readAtom_22 : decode prog_10_method_33_code 22 = .ok (.iconst 0, 1) := gq_12 db00c_34 eb_21
theorem d_X8_readAtom_23 : decode prog_10_method_33_code 23 = .ok (.iload_n 3, 1) := gq_13 db00c_34 eb_29
theorem d_X8_readAtom_24 : decode prog_10_method_33_code 24 = .ok (.invokevirtual 121, 3) := gq_14 db00c_34 eb_498
theorem d_X8_readAtom_27 : decode prog_10_method_33_code 27 = .ok (.pop, 1) := gq_15 db00c_34 eb_466
theorem d_X8_readAtom_28 : decode prog_10_method_33_code 28 = .ok (.iload_n 3, 1) := gq_16 db00c_34 eb_29
theorem d_X8_readAtom_29 : decode prog_10_method_33_code 29 = .ok (.iconst (-1), 1) := gq_17 db00c_34 eb_26
theorem d_X8_readAtom_30 : decode prog_10_method_33_code 30 = .ok (.if_icmp .eq 7, 3) := gq_18 db00c_34 eb_539
theorem d_X8_readAtom_33 : decode prog_10_method_33_code 33 = .ok (.iconst 1, 1) := gq_19 db00c_34 eb_19
theorem d_X8_readAtom_34 : decode prog_10_method_33_code 34 = .ok (.goto 4, 3) := gq_20 db00c_34 eb_20
theorem d_X8_readAtom_37 : decode prog_10_method_33_code 37 = .ok (.iconst 0, 1) := gq_21 db00c_34 eb_21
theorem d_X8_readAtom_38 : decode prog_10_method_33_code 38 = .ok (.ireturn, 1) := gq_22 db00c_34 eb_15
theorem d_X8_readAtom_39 : decode prog_10_method_33_code 39 = .ok (.iload_n 2, 1) := gq_23 db00c_34 eb_13
theorem db00c_35 : Pf_ prog_10_method_33_code [(40, [0x10, 0x5b]), (42, [0xa0, 0x00, 0x31]), (45, [0x1b]), (46, [0x10, 0x06]), (48, [0xa1, 0x00, 0x08]), (51, [0x2a]), (52, [0xb6, 0x00, 0x43]), (55, [0xac]), (56, [0x2a]), (57, [0x59]), (58, [0xb4, 0x00, 0x2f]), (61, [0x04]), (62, [0x60]), (63, [0xb5, 0x00, 0x2f]), (66, [0x2a]), (67, [0x1b]), (68, [0x04]), (69, [0x60]), (70, [0xb6, 0x00, 0x89]), (73, [0x99, 0x00, 0x10]), (76, [0x2a]), (77, [0x10, 0x5d]), (79, [0xb6, 0x00, 0x62]), (82, [0x99, 0x00, 0x07])] := pf_ok prog_10_method_33_code _ 40 (by decide +kernel)
theorem d_X8_readAtom_40 : decode prog_10_method_33_code 40 = .ok (.bipush 91, 2) := gq_0 db00c_35 eb_540
theorem d_X8_readAtom_42 : decode prog_10_method_33_code 42 = .ok (.if_icmp .ne 49, 3) := gq_1 db00c_35 eb_514
theorem d_X8_readAtom_45 : decode prog_10_method_33_code 45 = .ok (.iload_n 1, 1) := gq_2 db00c_35 eb_9
theorem d_X8_readAtom_46 : decode prog_10_method_33_code 46 = .ok (.bipush 6, 2) := gq_3 db00c_35 eb_14
theorem d_X8_readAtom_48 : decode prog_10_method_33_code 48 = .ok (.if_icmp .lt 8, 3) := gq_4 db00c_35 eb_348
theorem d_X8_readAtom_51 : decode prog_10_method_33_code 51 = .ok (.aload_n 0, 1) := gq_5 db00c_35 eb_0
theorem d_X8_readAtom_52 : decode prog_10_method_33_code 52 = .ok (.invokevirtual 67, 3) := gq_6 db00c_35 eb_215
theorem d_X8_readAtom_55 : decode prog_10_method_33_code 55 = .ok (.ireturn, 1) := gq_7 db00c_35 eb_15
theorem d_X8_readAtom_56 : decode prog_10_method_33_code 56 = .ok (.aload_n 0, 1) := gq_8 db00c_35 eb_0
theorem d_X8_readAtom_57 : decode prog_10_method_33_code 57 = .ok (.dup, 1) := gq_9 db00c_35 eb_46
theorem d_X8_readAtom_58 : decode prog_10_method_33_code 58 = .ok (.getfield 47, 3) := gq_10 db00c_35 eb_455
theorem d_X8_readAtom_61 : decode prog_10_method_33_code 61 = .ok (.iconst 1, 1) := gq_11 db00c_35 eb_19
theorem d_X8_readAtom_62 : decode prog_10_method_33_code 62 = .ok (.iadd, 1) := gq_12 db00c_35 eb_35
theorem d_X8_readAtom_63 : decode prog_10_method_33_code 63 = .ok (.putfield 47, 3) := gq_13 db00c_35 eb_452
theorem d_X8_readAtom_66 : decode prog_10_method_33_code 66 = .ok (.aload_n 0, 1) := gq_14 db00c_35 eb_0
theorem d_X8_readAtom_67 : decode prog_10_method_33_code 67 = .ok (.iload_n 1, 1) := gq_15 db00c_35 eb_9
theorem d_X8_readAtom_68 : decode prog_10_method_33_code 68 = .ok (.iconst 1, 1) := gq_16 db00c_35 eb_19
theorem d_X8_readAtom_69 : decode prog_10_method_33_code 69 = .ok (.iadd, 1) := gq_17 db00c_35 eb_35
theorem d_X8_readAtom_70 : decode prog_10_method_33_code 70 = .ok (.invokevirtual 137, 3) := gq_18 db00c_35 eb_506
theorem d_X8_readAtom_73 : decode prog_10_method_33_code 73 = .ok (.ifCond .eq 16, 3) := gq_19 db00c_35 eb_136
theorem d_X8_readAtom_76 : decode prog_10_method_33_code 76 = .ok (.aload_n 0, 1) := gq_20 db00c_35 eb_0
theorem d_X8_readAtom_77 : decode prog_10_method_33_code 77 = .ok (.bipush 93, 2) := gq_21 db00c_35 eb_541
theorem d_X8_readAtom_79 : decode prog_10_method_33_code 79 = .ok (.invokevirtual 98, 3) := gq_22 db00c_35 eb_477
theorem d_X8_readAtom_82 : decode prog_10_method_33_code 82 = .ok (.ifCond .eq 7, 3) := gq_23 db00c_35 eb_123
theorem d_X8_readAtom_105 : decode prog_10_method_33_code 105 = .ok (.i2c, 1) := by decide +kernel
theorem db00c_36 : Pf_ prog_10_method_33_code [(85, [0x04]), (86, [0xa7, 0x00, 0x04]), (89, [0x03]), (90, [0xac]), (91, [0x1c]), (92, [0x02]), (93, [0xa0, 0x00, 0x07]), (96, [0x02]), (97, [0xa7, 0x00, 0x0c]), (100, [0x2a]), (101, [0xb4, 0x00, 0x11]), (104, [0x1c]), (106, [0xb6, 0x00, 0x7e]), (109, [0x3e]), (110, [0x1d]), (111, [0x9c, 0x00, 0x08]), (114, [0x2a]), (115, [0xb6, 0x00, 0x43]), (118, [0xac]), (119, [0x2a]), (120, [0x59]), (121, [0xb4, 0x00, 0x2f]), (124, [0x04]), (125, [0x60])] := pf_ok prog_10_method_33_code _ 85 (by decide +kernel)
theorem d_X8_readAtom_85 : decode prog_10_method_33_code 85 = .ok (.iconst 1, 1) := gq_0 db00c_36 eb_19
theorem d_X8_readAtom_86 : decode prog_10_method_33_code 86 = .ok (.goto 4, 3) := gq_1 db00c_36 eb_20
theorem d_X8_readAtom_89 : decode prog_10_method_33_code 89 = .ok (.iconst 0, 1) := gq_2 db00c_36 eb_21
theorem d_X8_readAtom_90 : decode prog_10_method_33_code 90 = .ok (.ireturn, 1) := gq_3 db00c_36 eb_15
theorem d_X8_readAtom_91 : decode prog_10_method_33_code 91 = .ok (.iload_n 2, 1) := gq_4 db00c_36 eb_13
theorem d_X8_readAtom_92 : decode prog_10_method_33_code 92 = .ok (.iconst (-1), 1) := gq_5 db00c_36 eb_26
theorem d_X8_readAtom_93 : decode prog_10_method_33_code 93 = .ok (.if_icmp .ne 7, 3) := gq_6 db00c_36 eb_135
theorem d_X8_readAtom_96 : decode prog_10_method_33_code 96 = .ok (.iconst (-1), 1) := gq_7 db00c_36 eb_26
theorem d_X8_readAtom_97 : decode prog_10_method_33_code 97 = .ok (.goto 12, 3) := gq_8 db00c_36 eb_542
theorem d_X8_readAtom_100 : decode prog_10_method_33_code 100 = .ok (.aload_n 0, 1) := gq_9 db00c_36 eb_0
theorem d_X8_readAtom_101 : decode prog_10_method_33_code 101 = .ok (.getfield 17, 3) := gq_10 db00c_36 eb_543
theorem d_X8_readAtom_104 : decode prog_10_method_33_code 104 = .ok (.iload_n 2, 1) := gq_11 db00c_36 eb_13
theorem d_X8_readAtom_106 : decode prog_10_method_33_code 106 = .ok (.invokevirtual 126, 3) := gq_12 db00c_36 eb_500
theorem d_X8_readAtom_109 : decode prog_10_method_33_code 109 = .ok (.istore_n 3, 1) := gq_13 db00c_36 eb_28
theorem d_X8_readAtom_110 : decode prog_10_method_33_code 110 = .ok (.iload_n 3, 1) := gq_14 db00c_36 eb_29
theorem d_X8_readAtom_111 : decode prog_10_method_33_code 111 = .ok (.ifCond .ge 8, 3) := gq_15 db00c_36 eb_501
theorem d_X8_readAtom_114 : decode prog_10_method_33_code 114 = .ok (.aload_n 0, 1) := gq_16 db00c_36 eb_0
theorem d_X8_readAtom_115 : decode prog_10_method_33_code 115 = .ok (.invokevirtual 67, 3) := gq_17 db00c_36 eb_215
theorem d_X8_readAtom_118 : decode prog_10_method_33_code 118 = .ok (.ireturn, 1) := gq_18 db00c_36 eb_15
theorem d_X8_readAtom_119 : decode prog_10_method_33_code 119 = .ok (.aload_n 0, 1) := gq_19 db00c_36 eb_0
theorem d_X8_readAtom_120 : decode prog_10_method_33_code 120 = .ok (.dup, 1) := gq_20 db00c_36 eb_46
theorem d_X8_readAtom_121 : decode prog_10_method_33_code 121 = .ok (.getfield 47, 3) := gq_21 db00c_36 eb_455
theorem d_X8_readAtom_124 : decode prog_10_method_33_code 124 = .ok (.iconst 1, 1) := gq_22 db00c_36 eb_19
theorem d_X8_readAtom_125 : decode prog_10_method_33_code 125 = .ok (.iadd, 1) := gq_23 db00c_36 eb_35
theorem db00c_37 : Pf_ prog_10_method_33_code [(126, [0xb5, 0x00, 0x2f]), (129, [0x2a]), (130, [0x04]), (131, [0x1d]), (132, [0xb6, 0x00, 0x79]), (135, [0x57]), (136, [0x04]), (137, [0xac])] := pf_ok prog_10_method_33_code _ 126 (by decide +kernel)
theorem d_X8_readAtom_126 : decode prog_10_method_33_code 126 = .ok (.putfield 47, 3) := gq_0 db00c_37 eb_452
theorem d_X8_readAtom_129 : decode prog_10_method_33_code 129 = .ok (.aload_n 0, 1) := gq_1 db00c_37 eb_0
theorem d_X8_readAtom_130 : decode prog_10_method_33_code 130 = .ok (.iconst 1, 1) := gq_2 db00c_37 eb_19
theorem d_X8_readAtom_131 : decode prog_10_method_33_code 131 = .ok (.iload_n 3, 1) := gq_3 db00c_37 eb_29
theorem d_X8_readAtom_132 : decode prog_10_method_33_code 132 = .ok (.invokevirtual 121, 3) := gq_4 db00c_37 eb_498
theorem d_X8_readAtom_135 : decode prog_10_method_33_code 135 = .ok (.pop, 1) := gq_5 db00c_37 eb_466
theorem d_X8_readAtom_136 : decode prog_10_method_33_code 136 = .ok (.iconst 1, 1) := gq_6 db00c_37 eb_19
theorem d_X8_readAtom_137 : decode prog_10_method_33_code 137 = .ok (.ireturn, 1) := gq_7 db00c_37 eb_15
theorem d_X9_init_8 : decode prog_11_method_1_code 8 = .ok (.newarray .int, 2) := by decide +kernel
theorem db00c_38 : Pf_ prog_11_method_1_code [(0, [0x2a]), (1, [0xb7, 0x00, 0x03]), (4, [0x2a]), (5, [0x11, 0x01, 0x00]), (10, [0xb5, 0x00, 0x09]), (13, [0x03]), (14, [0x3c]), (15, [0x1b]), (16, [0x2a]), (17, [0xb4, 0x00, 0x09]), (20, [0xbe]), (21, [0xa2, 0x00, 0x20]), (24, [0x2a]), (25, [0xb4, 0x00, 0x09]), (28, [0x1b]), (29, [0x1b]), (30, [0x10, 0x10]), (32, [0x6c]), (33, [0x1b]), (34, [0x10, 0x10]), (36, [0x70]), (37, [0xa0, 0x00, 0x07]), (40, [0x03]), (41, [0xa7, 0x00, 0x05])] := pf_ok prog_11_method_1_code _ 0 (by decide +kernel)
theorem d_X9_init_0 : decode prog_11_method_1_code 0 = .ok (.aload_n 0, 1) := gq_0 db00c_38 eb_0
theorem d_X9_init_1 : decode prog_11_method_1_code 1 = .ok (.invokespecial 3, 3) := gq_1 db00c_38 eb_1
theorem d_X9_init_4 : decode prog_11_method_1_code 4 = .ok (.aload_n 0, 1) := gq_2 db00c_38 eb_0
theorem d_X9_init_5 : decode prog_11_method_1_code 5 = .ok (.sipush 256, 3) := gq_3 db00c_38 eb_232
theorem d_X9_init_10 : decode prog_11_method_1_code 10 = .ok (.putfield 9, 3) := gq_4 db00c_38 eb_194
theorem d_X9_init_13 : decode prog_11_method_1_code 13 = .ok (.iconst 0, 1) := gq_5 db00c_38 eb_21
theorem d_X9_init_14 : decode prog_11_method_1_code 14 = .ok (.istore_n 1, 1) := gq_6 db00c_38 eb_222
theorem d_X9_init_15 : decode prog_11_method_1_code 15 = .ok (.iload_n 1, 1) := gq_7 db00c_38 eb_9
theorem d_X9_init_16 : decode prog_11_method_1_code 16 = .ok (.aload_n 0, 1) := gq_8 db00c_38 eb_0
theorem d_X9_init_17 : decode prog_11_method_1_code 17 = .ok (.getfield 9, 3) := gq_9 db00c_38 eb_544
theorem d_X9_init_20 : decode prog_11_method_1_code 20 = .ok (.arraylength, 1) := gq_10 db00c_38 eb_52
theorem d_X9_init_21 : decode prog_11_method_1_code 21 = .ok (.if_icmp .ge 32, 3) := gq_11 db00c_38 eb_304
theorem d_X9_init_24 : decode prog_11_method_1_code 24 = .ok (.aload_n 0, 1) := gq_12 db00c_38 eb_0
theorem d_X9_init_25 : decode prog_11_method_1_code 25 = .ok (.getfield 9, 3) := gq_13 db00c_38 eb_544
theorem d_X9_init_28 : decode prog_11_method_1_code 28 = .ok (.iload_n 1, 1) := gq_14 db00c_38 eb_9
theorem d_X9_init_29 : decode prog_11_method_1_code 29 = .ok (.iload_n 1, 1) := gq_15 db00c_38 eb_9
theorem d_X9_init_30 : decode prog_11_method_1_code 30 = .ok (.bipush 16, 2) := gq_16 db00c_38 eb_99
theorem d_X9_init_32 : decode prog_11_method_1_code 32 = .ok (.idiv, 1) := gq_17 db00c_38 eb_219
theorem d_X9_init_33 : decode prog_11_method_1_code 33 = .ok (.iload_n 1, 1) := gq_18 db00c_38 eb_9
theorem d_X9_init_34 : decode prog_11_method_1_code 34 = .ok (.bipush 16, 2) := gq_19 db00c_38 eb_99
theorem d_X9_init_36 : decode prog_11_method_1_code 36 = .ok (.irem, 1) := gq_20 db00c_38 eb_218
theorem d_X9_init_37 : decode prog_11_method_1_code 37 = .ok (.if_icmp .ne 7, 3) := gq_21 db00c_38 eb_135
theorem d_X9_init_40 : decode prog_11_method_1_code 40 = .ok (.iconst 0, 1) := gq_22 db00c_38 eb_21
theorem d_X9_init_41 : decode prog_11_method_1_code 41 = .ok (.goto 5, 3) := gq_23 db00c_38 eb_89
theorem db00c_39 : Pf_ prog_11_method_1_code [(44, [0x12, 0x0f]), (46, [0x4f]), (47, [0x84, 0x01, 0x01]), (50, [0xa7, 0xff, 0xdd]), (53, [0xb1])] := pf_ok prog_11_method_1_code _ 44 (by decide +kernel)
theorem d_X9_init_44 : decode prog_11_method_1_code 44 = .ok (.ldc 15, 2) := gq_0 db00c_39 eb_435
theorem d_X9_init_46 : decode prog_11_method_1_code 46 = .ok (.iastore, 1) := gq_1 db00c_39 eb_38
theorem d_X9_init_47 : decode prog_11_method_1_code 47 = .ok (.iinc 1 1, 3) := gq_2 db00c_39 eb_228
theorem d_X9_init_50 : decode prog_11_method_1_code 50 = .ok (.goto (-35), 3) := gq_3 db00c_39 eb_149
theorem d_X9_init_53 : decode prog_11_method_1_code 53 = .ok (.return_, 1) := gq_4 db00c_39 eb_7
theorem db00c_40 : Pf_ prog_11_method_2_code [(0, [0x1b]), (1, [0xb8, 0x00, 0x10]), (4, [0x99, 0x00, 0x0a]), (7, [0x1c]), (8, [0xb8, 0x00, 0x10]), (11, [0x9a, 0x00, 0x05]), (14, [0x02]), (15, [0xac]), (16, [0x2a]), (17, [0xb4, 0x00, 0x09]), (20, [0x1b]), (21, [0x10, 0x10]), (23, [0x68]), (24, [0x1c]), (25, [0x60]), (26, [0x2e]), (27, [0x3e]), (28, [0x1d]), (29, [0x12, 0x0f]), (31, [0xa1, 0x00, 0x07]), (34, [0x02]), (35, [0xa7, 0x00, 0x04]), (38, [0x1d]), (39, [0xac])] := pf_ok prog_11_method_2_code _ 0 (by decide +kernel)
theorem d_X9_minutes_0 : decode prog_11_method_2_code 0 = .ok (.iload_n 1, 1) := gq_0 db00c_40 eb_9
theorem d_X9_minutes_1 : decode prog_11_method_2_code 1 = .ok (.invokestatic 16, 3) := gq_1 db00c_40 eb_545
theorem d_X9_minutes_4 : decode prog_11_method_2_code 4 = .ok (.ifCond .eq 10, 3) := gq_2 db00c_40 eb_202
theorem d_X9_minutes_7 : decode prog_11_method_2_code 7 = .ok (.iload_n 2, 1) := gq_3 db00c_40 eb_13
theorem d_X9_minutes_8 : decode prog_11_method_2_code 8 = .ok (.invokestatic 16, 3) := gq_4 db00c_40 eb_545
theorem d_X9_minutes_11 : decode prog_11_method_2_code 11 = .ok (.ifCond .ne 5, 3) := gq_5 db00c_40 eb_150
theorem d_X9_minutes_14 : decode prog_11_method_2_code 14 = .ok (.iconst (-1), 1) := gq_6 db00c_40 eb_26
theorem d_X9_minutes_15 : decode prog_11_method_2_code 15 = .ok (.ireturn, 1) := gq_7 db00c_40 eb_15
theorem d_X9_minutes_16 : decode prog_11_method_2_code 16 = .ok (.aload_n 0, 1) := gq_8 db00c_40 eb_0
theorem d_X9_minutes_17 : decode prog_11_method_2_code 17 = .ok (.getfield 9, 3) := gq_9 db00c_40 eb_544
theorem d_X9_minutes_20 : decode prog_11_method_2_code 20 = .ok (.iload_n 1, 1) := gq_10 db00c_40 eb_9
theorem d_X9_minutes_21 : decode prog_11_method_2_code 21 = .ok (.bipush 16, 2) := gq_11 db00c_40 eb_99
theorem d_X9_minutes_23 : decode prog_11_method_2_code 23 = .ok (.imul, 1) := gq_12 db00c_40 eb_34
theorem d_X9_minutes_24 : decode prog_11_method_2_code 24 = .ok (.iload_n 2, 1) := gq_13 db00c_40 eb_13
theorem d_X9_minutes_25 : decode prog_11_method_2_code 25 = .ok (.iadd, 1) := gq_14 db00c_40 eb_35
theorem d_X9_minutes_26 : decode prog_11_method_2_code 26 = .ok (.iaload, 1) := gq_15 db00c_40 eb_37
theorem d_X9_minutes_27 : decode prog_11_method_2_code 27 = .ok (.istore_n 3, 1) := gq_16 db00c_40 eb_28
theorem d_X9_minutes_28 : decode prog_11_method_2_code 28 = .ok (.iload_n 3, 1) := gq_17 db00c_40 eb_29
theorem d_X9_minutes_29 : decode prog_11_method_2_code 29 = .ok (.ldc 15, 2) := gq_18 db00c_40 eb_435
theorem d_X9_minutes_31 : decode prog_11_method_2_code 31 = .ok (.if_icmp .lt 7, 3) := gq_19 db00c_40 eb_154
theorem d_X9_minutes_34 : decode prog_11_method_2_code 34 = .ok (.iconst (-1), 1) := gq_20 db00c_40 eb_26
theorem d_X9_minutes_35 : decode prog_11_method_2_code 35 = .ok (.goto 4, 3) := gq_21 db00c_40 eb_20
theorem d_X9_minutes_38 : decode prog_11_method_2_code 38 = .ok (.iload_n 3, 1) := gq_22 db00c_40 eb_29
theorem d_X9_minutes_39 : decode prog_11_method_2_code 39 = .ok (.ireturn, 1) := gq_23 db00c_40 eb_15
theorem db00c_41 : Pf_ prog_11_method_3_code [(0, [0x2a]), (1, [0xb4, 0x00, 0x14]), (4, [0x10, 0x28]), (6, [0xa1, 0x00, 0x05]), (9, [0x02]), (10, [0xac]), (11, [0x03]), (12, [0x36, 0x04]), (14, [0x15, 0x04]), (16, [0x10, 0x10]), (18, [0xa2, 0x00, 0x75]), (21, [0x03]), (22, [0x36, 0x05]), (24, [0x15, 0x05]), (26, [0x10, 0x10]), (28, [0xa2, 0x00, 0x65]), (31, [0x2a]), (32, [0xb4, 0x00, 0x09]), (35, [0x15, 0x04]), (37, [0x10, 0x10]), (39, [0x68]), (40, [0x1b]), (41, [0x60]), (42, [0x2e])] := pf_ok prog_11_method_3_code _ 0 (by decide +kernel)
theorem d_X9_lay_0 : decode prog_11_method_3_code 0 = .ok (.aload_n 0, 1) := gq_0 db00c_41 eb_0
theorem d_X9_lay_1 : decode prog_11_method_3_code 1 = .ok (.getfield 20, 3) := gq_1 db00c_41 eb_546
theorem d_X9_lay_4 : decode prog_11_method_3_code 4 = .ok (.bipush 40, 2) := gq_2 db00c_41 eb_314
theorem d_X9_lay_6 : decode prog_11_method_3_code 6 = .ok (.if_icmp .lt 5, 3) := gq_3 db00c_41 eb_114
theorem d_X9_lay_9 : decode prog_11_method_3_code 9 = .ok (.iconst (-1), 1) := gq_4 db00c_41 eb_26
theorem d_X9_lay_10 : decode prog_11_method_3_code 10 = .ok (.ireturn, 1) := gq_5 db00c_41 eb_15
theorem d_X9_lay_11 : decode prog_11_method_3_code 11 = .ok (.iconst 0, 1) := gq_6 db00c_41 eb_21
theorem d_X9_lay_12 : decode prog_11_method_3_code 12 = .ok (.istore 4, 2) := gq_7 db00c_41 eb_133
theorem d_X9_lay_14 : decode prog_11_method_3_code 14 = .ok (.iload 4, 2) := gq_8 db00c_41 eb_76
theorem d_X9_lay_16 : decode prog_11_method_3_code 16 = .ok (.bipush 16, 2) := gq_9 db00c_41 eb_99
theorem d_X9_lay_18 : decode prog_11_method_3_code 18 = .ok (.if_icmp .ge 117, 3) := gq_10 db00c_41 eb_547
theorem d_X9_lay_21 : decode prog_11_method_3_code 21 = .ok (.iconst 0, 1) := gq_11 db00c_41 eb_21
theorem d_X9_lay_22 : decode prog_11_method_3_code 22 = .ok (.istore 5, 2) := gq_12 db00c_41 eb_134
theorem d_X9_lay_24 : decode prog_11_method_3_code 24 = .ok (.iload 5, 2) := gq_13 db00c_41 eb_125
theorem d_X9_lay_26 : decode prog_11_method_3_code 26 = .ok (.bipush 16, 2) := gq_14 db00c_41 eb_99
theorem d_X9_lay_28 : decode prog_11_method_3_code 28 = .ok (.if_icmp .ge 101, 3) := gq_15 db00c_41 eb_340
theorem d_X9_lay_31 : decode prog_11_method_3_code 31 = .ok (.aload_n 0, 1) := gq_16 db00c_41 eb_0
theorem d_X9_lay_32 : decode prog_11_method_3_code 32 = .ok (.getfield 9, 3) := gq_17 db00c_41 eb_544
theorem d_X9_lay_35 : decode prog_11_method_3_code 35 = .ok (.iload 4, 2) := gq_18 db00c_41 eb_76
theorem d_X9_lay_37 : decode prog_11_method_3_code 37 = .ok (.bipush 16, 2) := gq_19 db00c_41 eb_99
theorem d_X9_lay_39 : decode prog_11_method_3_code 39 = .ok (.imul, 1) := gq_20 db00c_41 eb_34
theorem d_X9_lay_40 : decode prog_11_method_3_code 40 = .ok (.iload_n 1, 1) := gq_21 db00c_41 eb_9
theorem d_X9_lay_41 : decode prog_11_method_3_code 41 = .ok (.iadd, 1) := gq_22 db00c_41 eb_35
theorem d_X9_lay_42 : decode prog_11_method_3_code 42 = .ok (.iaload, 1) := gq_23 db00c_41 eb_37
theorem db00c_42 : Pf_ prog_11_method_3_code [(43, [0x1d]), (44, [0x60]), (45, [0x2a]), (46, [0xb4, 0x00, 0x09]), (49, [0x1c]), (50, [0x10, 0x10]), (52, [0x68]), (53, [0x15, 0x05]), (55, [0x60]), (56, [0x2e]), (57, [0x60]), (58, [0x36, 0x06]), (60, [0x2a]), (61, [0xb4, 0x00, 0x09]), (64, [0x15, 0x04]), (66, [0x10, 0x10]), (68, [0x68]), (69, [0x1c]), (70, [0x60]), (71, [0x2e]), (72, [0x1d]), (73, [0x60]), (74, [0x2a]), (75, [0xb4, 0x00, 0x09])] := pf_ok prog_11_method_3_code _ 43 (by decide +kernel)
theorem d_X9_lay_43 : decode prog_11_method_3_code 43 = .ok (.iload_n 3, 1) := gq_0 db00c_42 eb_29
theorem d_X9_lay_44 : decode prog_11_method_3_code 44 = .ok (.iadd, 1) := gq_1 db00c_42 eb_35
theorem d_X9_lay_45 : decode prog_11_method_3_code 45 = .ok (.aload_n 0, 1) := gq_2 db00c_42 eb_0
theorem d_X9_lay_46 : decode prog_11_method_3_code 46 = .ok (.getfield 9, 3) := gq_3 db00c_42 eb_544
theorem d_X9_lay_49 : decode prog_11_method_3_code 49 = .ok (.iload_n 2, 1) := gq_4 db00c_42 eb_13
theorem d_X9_lay_50 : decode prog_11_method_3_code 50 = .ok (.bipush 16, 2) := gq_5 db00c_42 eb_99
theorem d_X9_lay_52 : decode prog_11_method_3_code 52 = .ok (.imul, 1) := gq_6 db00c_42 eb_34
theorem d_X9_lay_53 : decode prog_11_method_3_code 53 = .ok (.iload 5, 2) := gq_7 db00c_42 eb_125
theorem d_X9_lay_55 : decode prog_11_method_3_code 55 = .ok (.iadd, 1) := gq_8 db00c_42 eb_35
theorem d_X9_lay_56 : decode prog_11_method_3_code 56 = .ok (.iaload, 1) := gq_9 db00c_42 eb_37
theorem d_X9_lay_57 : decode prog_11_method_3_code 57 = .ok (.iadd, 1) := gq_10 db00c_42 eb_35
theorem d_X9_lay_58 : decode prog_11_method_3_code 58 = .ok (.istore 6, 2) := gq_11 db00c_42 eb_58
theorem d_X9_lay_60 : decode prog_11_method_3_code 60 = .ok (.aload_n 0, 1) := gq_12 db00c_42 eb_0
theorem d_X9_lay_61 : decode prog_11_method_3_code 61 = .ok (.getfield 9, 3) := gq_13 db00c_42 eb_544
theorem d_X9_lay_64 : decode prog_11_method_3_code 64 = .ok (.iload 4, 2) := gq_14 db00c_42 eb_76
theorem d_X9_lay_66 : decode prog_11_method_3_code 66 = .ok (.bipush 16, 2) := gq_15 db00c_42 eb_99
theorem d_X9_lay_68 : decode prog_11_method_3_code 68 = .ok (.imul, 1) := gq_16 db00c_42 eb_34
theorem d_X9_lay_69 : decode prog_11_method_3_code 69 = .ok (.iload_n 2, 1) := gq_17 db00c_42 eb_13
theorem d_X9_lay_70 : decode prog_11_method_3_code 70 = .ok (.iadd, 1) := gq_18 db00c_42 eb_35
theorem d_X9_lay_71 : decode prog_11_method_3_code 71 = .ok (.iaload, 1) := gq_19 db00c_42 eb_37
theorem d_X9_lay_72 : decode prog_11_method_3_code 72 = .ok (.iload_n 3, 1) := gq_20 db00c_42 eb_29
theorem d_X9_lay_73 : decode prog_11_method_3_code 73 = .ok (.iadd, 1) := gq_21 db00c_42 eb_35
theorem d_X9_lay_74 : decode prog_11_method_3_code 74 = .ok (.aload_n 0, 1) := gq_22 db00c_42 eb_0
theorem d_X9_lay_75 : decode prog_11_method_3_code 75 = .ok (.getfield 9, 3) := gq_23 db00c_42 eb_544
theorem db00c_43 : Pf_ prog_11_method_3_code [(78, [0x1b]), (79, [0x10, 0x10]), (81, [0x68]), (82, [0x15, 0x05]), (84, [0x60]), (85, [0x2e]), (86, [0x60]), (87, [0x36, 0x07]), (89, [0x15, 0x04]), (91, [0x10, 0x10]), (93, [0x68]), (94, [0x15, 0x05]), (96, [0x60]), (97, [0x36, 0x08]), (99, [0x2a]), (100, [0xb4, 0x00, 0x09]), (103, [0x15, 0x08]), (105, [0x2a]), (106, [0xb4, 0x00, 0x09]), (109, [0x15, 0x08]), (111, [0x2e]), (112, [0x15, 0x06]), (114, [0x15, 0x07]), (116, [0xb8, 0x00, 0x18])] := pf_ok prog_11_method_3_code _ 78 (by decide +kernel)
theorem d_X9_lay_78 : decode prog_11_method_3_code 78 = .ok (.iload_n 1, 1) := gq_0 db00c_43 eb_9
theorem d_X9_lay_79 : decode prog_11_method_3_code 79 = .ok (.bipush 16, 2) := gq_1 db00c_43 eb_99
theorem d_X9_lay_81 : decode prog_11_method_3_code 81 = .ok (.imul, 1) := gq_2 db00c_43 eb_34
theorem d_X9_lay_82 : decode prog_11_method_3_code 82 = .ok (.iload 5, 2) := gq_3 db00c_43 eb_125
theorem d_X9_lay_84 : decode prog_11_method_3_code 84 = .ok (.iadd, 1) := gq_4 db00c_43 eb_35
theorem d_X9_lay_85 : decode prog_11_method_3_code 85 = .ok (.iaload, 1) := gq_5 db00c_43 eb_37
theorem d_X9_lay_86 : decode prog_11_method_3_code 86 = .ok (.iadd, 1) := gq_6 db00c_43 eb_35
theorem d_X9_lay_87 : decode prog_11_method_3_code 87 = .ok (.istore 7, 2) := gq_7 db00c_43 eb_59
theorem d_X9_lay_89 : decode prog_11_method_3_code 89 = .ok (.iload 4, 2) := gq_8 db00c_43 eb_76
theorem d_X9_lay_91 : decode prog_11_method_3_code 91 = .ok (.bipush 16, 2) := gq_9 db00c_43 eb_99
theorem d_X9_lay_93 : decode prog_11_method_3_code 93 = .ok (.imul, 1) := gq_10 db00c_43 eb_34
theorem d_X9_lay_94 : decode prog_11_method_3_code 94 = .ok (.iload 5, 2) := gq_11 db00c_43 eb_125
theorem d_X9_lay_96 : decode prog_11_method_3_code 96 = .ok (.iadd, 1) := gq_12 db00c_43 eb_35
theorem d_X9_lay_97 : decode prog_11_method_3_code 97 = .ok (.istore 8, 2) := gq_13 db00c_43 eb_61
theorem d_X9_lay_99 : decode prog_11_method_3_code 99 = .ok (.aload_n 0, 1) := gq_14 db00c_43 eb_0
theorem d_X9_lay_100 : decode prog_11_method_3_code 100 = .ok (.getfield 9, 3) := gq_15 db00c_43 eb_544
theorem d_X9_lay_103 : decode prog_11_method_3_code 103 = .ok (.iload 8, 2) := gq_16 db00c_43 eb_64
theorem d_X9_lay_105 : decode prog_11_method_3_code 105 = .ok (.aload_n 0, 1) := gq_17 db00c_43 eb_0
theorem d_X9_lay_106 : decode prog_11_method_3_code 106 = .ok (.getfield 9, 3) := gq_18 db00c_43 eb_544
theorem d_X9_lay_109 : decode prog_11_method_3_code 109 = .ok (.iload 8, 2) := gq_19 db00c_43 eb_64
theorem d_X9_lay_111 : decode prog_11_method_3_code 111 = .ok (.iaload, 1) := gq_20 db00c_43 eb_37
theorem d_X9_lay_112 : decode prog_11_method_3_code 112 = .ok (.iload 6, 2) := gq_21 db00c_43 eb_75
theorem d_X9_lay_114 : decode prog_11_method_3_code 114 = .ok (.iload 7, 2) := gq_22 db00c_43 eb_73
theorem d_X9_lay_116 : decode prog_11_method_3_code 116 = .ok (.invokestatic 24, 3) := gq_23 db00c_43 eb_548
theorem db00c_44 : Pf_ prog_11_method_3_code [(119, [0xb8, 0x00, 0x18]), (122, [0x4f]), (123, [0x84, 0x05, 0x01]), (126, [0xa7, 0xff, 0x9a]), (129, [0x84, 0x04, 0x01]), (132, [0xa7, 0xff, 0x8a]), (135, [0x2a]), (136, [0x59]), (137, [0xb4, 0x00, 0x14]), (140, [0x04]), (141, [0x60]), (142, [0xb5, 0x00, 0x14]), (145, [0x2a]), (146, [0xb4, 0x00, 0x14]), (149, [0x04]), (150, [0x64]), (151, [0xac])] := pf_ok prog_11_method_3_code _ 119 (by decide +kernel)
theorem d_X9_lay_119 : decode prog_11_method_3_code 119 = .ok (.invokestatic 24, 3) := gq_0 db00c_44 eb_548
theorem d_X9_lay_122 : decode prog_11_method_3_code 122 = .ok (.iastore, 1) := gq_1 db00c_44 eb_38
theorem d_X9_lay_123 : decode prog_11_method_3_code 123 = .ok (.iinc 5 1, 3) := gq_2 db00c_44 eb_220
theorem d_X9_lay_126 : decode prog_11_method_3_code 126 = .ok (.goto (-102), 3) := gq_3 db00c_44 eb_549
theorem d_X9_lay_129 : decode prog_11_method_3_code 129 = .ok (.iinc 4 1, 3) := gq_4 db00c_44 eb_144
theorem d_X9_lay_132 : decode prog_11_method_3_code 132 = .ok (.goto (-118), 3) := gq_5 db00c_44 eb_550
theorem d_X9_lay_135 : decode prog_11_method_3_code 135 = .ok (.aload_n 0, 1) := gq_6 db00c_44 eb_0
theorem d_X9_lay_136 : decode prog_11_method_3_code 136 = .ok (.dup, 1) := gq_7 db00c_44 eb_46
theorem d_X9_lay_137 : decode prog_11_method_3_code 137 = .ok (.getfield 20, 3) := gq_8 db00c_44 eb_546
theorem d_X9_lay_140 : decode prog_11_method_3_code 140 = .ok (.iconst 1, 1) := gq_9 db00c_44 eb_19
theorem d_X9_lay_141 : decode prog_11_method_3_code 141 = .ok (.iadd, 1) := gq_10 db00c_44 eb_35
theorem d_X9_lay_142 : decode prog_11_method_3_code 142 = .ok (.putfield 20, 3) := gq_11 db00c_44 eb_551
theorem d_X9_lay_145 : decode prog_11_method_3_code 145 = .ok (.aload_n 0, 1) := gq_12 db00c_44 eb_0
theorem d_X9_lay_146 : decode prog_11_method_3_code 146 = .ok (.getfield 20, 3) := gq_13 db00c_44 eb_546
theorem d_X9_lay_149 : decode prog_11_method_3_code 149 = .ok (.iconst 1, 1) := gq_14 db00c_44 eb_19
theorem d_X9_lay_150 : decode prog_11_method_3_code 150 = .ok (.isub, 1) := gq_15 db00c_44 eb_48
theorem d_X9_lay_151 : decode prog_11_method_3_code 151 = .ok (.ireturn, 1) := gq_16 db00c_44 eb_15
theorem d_X10_init_7 : decode prog_12_method_1_code 7 = .ok (.newarray .int, 2) := by decide +kernel
theorem d_X10_init_15 : decode prog_12_method_1_code 15 = .ok (.newarray .int, 2) := by decide +kernel
theorem d_X10_init_23 : decode prog_12_method_1_code 23 = .ok (.newarray .int, 2) := by decide +kernel
theorem d_X10_init_32 : decode prog_12_method_1_code 32 = .ok (.newarray .int, 2) := by decide +kernel
theorem d_X10_init_41 : decode prog_12_method_1_code 41 = .ok (.newarray .int, 2) := by decide +kernel
theorem db00c_45 : Pf_ prog_12_method_1_code [(0, [0x2a]), (1, [0xb7, 0x00, 0x03]), (4, [0x2a]), (5, [0x10, 0x14]), (9, [0xb5, 0x00, 0x0b]), (12, [0x2a]), (13, [0x10, 0x14]), (17, [0xb5, 0x00, 0x0f]), (20, [0x2a]), (21, [0x10, 0x14]), (25, [0xb5, 0x00, 0x12]), (28, [0x2a]), (29, [0x11, 0x0c, 0xd0]), (34, [0xb5, 0x00, 0x15]), (37, [0x2a]), (38, [0x11, 0x00, 0xa4]), (43, [0xb5, 0x00, 0x18]), (46, [0xb1])] := pf_ok prog_12_method_1_code _ 0 (by decide +kernel)
theorem d_X10_init_0 : decode prog_12_method_1_code 0 = .ok (.aload_n 0, 1) := gq_0 db00c_45 eb_0
theorem d_X10_init_1 : decode prog_12_method_1_code 1 = .ok (.invokespecial 3, 3) := gq_1 db00c_45 eb_1
theorem d_X10_init_4 : decode prog_12_method_1_code 4 = .ok (.aload_n 0, 1) := gq_2 db00c_45 eb_0
theorem d_X10_init_5 : decode prog_12_method_1_code 5 = .ok (.bipush 20, 2) := gq_3 db00c_45 eb_478
theorem d_X10_init_9 : decode prog_12_method_1_code 9 = .ok (.putfield 11, 3) := gq_4 db00c_45 eb_3
theorem d_X10_init_12 : decode prog_12_method_1_code 12 = .ok (.aload_n 0, 1) := gq_5 db00c_45 eb_0
theorem d_X10_init_13 : decode prog_12_method_1_code 13 = .ok (.bipush 20, 2) := gq_6 db00c_45 eb_478
theorem d_X10_init_17 : decode prog_12_method_1_code 17 = .ok (.putfield 15, 3) := gq_7 db00c_45 eb_5
theorem d_X10_init_20 : decode prog_12_method_1_code 20 = .ok (.aload_n 0, 1) := gq_8 db00c_45 eb_0
theorem d_X10_init_21 : decode prog_12_method_1_code 21 = .ok (.bipush 20, 2) := gq_9 db00c_45 eb_478
theorem d_X10_init_25 : decode prog_12_method_1_code 25 = .ok (.putfield 18, 3) := gq_10 db00c_45 eb_6
theorem d_X10_init_28 : decode prog_12_method_1_code 28 = .ok (.aload_n 0, 1) := gq_11 db00c_45 eb_0
theorem d_X10_init_29 : decode prog_12_method_1_code 29 = .ok (.sipush 3280, 3) := gq_12 db00c_45 eb_552
theorem d_X10_init_34 : decode prog_12_method_1_code 34 = .ok (.putfield 21, 3) := gq_13 db00c_45 eb_47
theorem d_X10_init_37 : decode prog_12_method_1_code 37 = .ok (.aload_n 0, 1) := gq_14 db00c_45 eb_0
theorem d_X10_init_38 : decode prog_12_method_1_code 38 = .ok (.sipush 164, 3) := gq_15 db00c_45 eb_438
theorem d_X10_init_43 : decode prog_12_method_1_code 43 = .ok (.putfield 24, 3) := gq_16 db00c_45 eb_95
theorem d_X10_init_46 : decode prog_12_method_1_code 46 = .ok (.return_, 1) := gq_17 db00c_45 eb_7
theorem db00c_46 : Pf_ prog_12_method_2_code [(0, [0x1a]), (1, [0x1b]), (2, [0x07]), (3, [0x78]), (4, [0x80]), (5, [0xac])] := pf_ok prog_12_method_2_code _ 0 (by decide +kernel)
theorem d_X10_pack_0 : decode prog_12_method_2_code 0 = .ok (.iload_n 0, 1) := gq_0 db00c_46 eb_8
theorem d_X10_pack_1 : decode prog_12_method_2_code 1 = .ok (.iload_n 1, 1) := gq_1 db00c_46 eb_9
theorem d_X10_pack_2 : decode prog_12_method_2_code 2 = .ok (.iconst 4, 1) := gq_2 db00c_46 eb_291
theorem d_X10_pack_3 : decode prog_12_method_2_code 3 = .ok (.ishl, 1) := gq_3 db00c_46 eb_11
theorem d_X10_pack_4 : decode prog_12_method_2_code 4 = .ok (.ior, 1) := gq_4 db00c_46 eb_12
theorem d_X10_pack_5 : decode prog_12_method_2_code 5 = .ok (.ireturn, 1) := gq_5 db00c_46 eb_15
theorem db00c_47 : Pf_ prog_12_method_3_code [(0, [0x2a]), (1, [0xb4, 0x00, 0x1b]), (4, [0x10, 0x14]), (6, [0xa1, 0x00, 0x05]), (9, [0x02]), (10, [0xac]), (11, [0x2a]), (12, [0xb4, 0x00, 0x0b]), (15, [0x2a]), (16, [0xb4, 0x00, 0x1b]), (19, [0x1b]), (20, [0x4f]), (21, [0x2a]), (22, [0xb4, 0x00, 0x0f]), (25, [0x2a]), (26, [0xb4, 0x00, 0x1b]), (29, [0x1c]), (30, [0x4f]), (31, [0x2a]), (32, [0xb4, 0x00, 0x12]), (35, [0x2a]), (36, [0xb4, 0x00, 0x1b]), (39, [0x2d]), (40, [0xb4, 0x00, 0x1f])] := pf_ok prog_12_method_3_code _ 0 (by decide +kernel)
theorem d_X10_keep_0 : decode prog_12_method_3_code 0 = .ok (.aload_n 0, 1) := gq_0 db00c_47 eb_0
theorem d_X10_keep_1 : decode prog_12_method_3_code 1 = .ok (.getfield 27, 3) := gq_1 db00c_47 eb_121
theorem d_X10_keep_4 : decode prog_12_method_3_code 4 = .ok (.bipush 20, 2) := gq_2 db00c_47 eb_478
theorem d_X10_keep_6 : decode prog_12_method_3_code 6 = .ok (.if_icmp .lt 5, 3) := gq_3 db00c_47 eb_114
theorem d_X10_keep_9 : decode prog_12_method_3_code 9 = .ok (.iconst (-1), 1) := gq_4 db00c_47 eb_26
theorem d_X10_keep_10 : decode prog_12_method_3_code 10 = .ok (.ireturn, 1) := gq_5 db00c_47 eb_15
theorem d_X10_keep_11 : decode prog_12_method_3_code 11 = .ok (.aload_n 0, 1) := gq_6 db00c_47 eb_0
theorem d_X10_keep_12 : decode prog_12_method_3_code 12 = .ok (.getfield 11, 3) := gq_7 db00c_47 eb_32
theorem d_X10_keep_15 : decode prog_12_method_3_code 15 = .ok (.aload_n 0, 1) := gq_8 db00c_47 eb_0
theorem d_X10_keep_16 : decode prog_12_method_3_code 16 = .ok (.getfield 27, 3) := gq_9 db00c_47 eb_121
theorem d_X10_keep_19 : decode prog_12_method_3_code 19 = .ok (.iload_n 1, 1) := gq_10 db00c_47 eb_9
theorem d_X10_keep_20 : decode prog_12_method_3_code 20 = .ok (.iastore, 1) := gq_11 db00c_47 eb_38
theorem d_X10_keep_21 : decode prog_12_method_3_code 21 = .ok (.aload_n 0, 1) := gq_12 db00c_47 eb_0
theorem d_X10_keep_22 : decode prog_12_method_3_code 22 = .ok (.getfield 15, 3) := gq_13 db00c_47 eb_44
theorem d_X10_keep_25 : decode prog_12_method_3_code 25 = .ok (.aload_n 0, 1) := gq_14 db00c_47 eb_0
theorem d_X10_keep_26 : decode prog_12_method_3_code 26 = .ok (.getfield 27, 3) := gq_15 db00c_47 eb_121
theorem d_X10_keep_29 : decode prog_12_method_3_code 29 = .ok (.iload_n 2, 1) := gq_16 db00c_47 eb_13
theorem d_X10_keep_30 : decode prog_12_method_3_code 30 = .ok (.iastore, 1) := gq_17 db00c_47 eb_38
theorem d_X10_keep_31 : decode prog_12_method_3_code 31 = .ok (.aload_n 0, 1) := gq_18 db00c_47 eb_0
theorem d_X10_keep_32 : decode prog_12_method_3_code 32 = .ok (.getfield 18, 3) := gq_19 db00c_47 eb_45
theorem d_X10_keep_35 : decode prog_12_method_3_code 35 = .ok (.aload_n 0, 1) := gq_20 db00c_47 eb_0
theorem d_X10_keep_36 : decode prog_12_method_3_code 36 = .ok (.getfield 27, 3) := gq_21 db00c_47 eb_121
theorem d_X10_keep_39 : decode prog_12_method_3_code 39 = .ok (.aload_n 3, 1) := gq_22 db00c_47 eb_312
theorem d_X10_keep_40 : decode prog_12_method_3_code 40 = .ok (.getfield 31, 3) := gq_23 db00c_47 eb_30
theorem db00c_48 : Pf_ prog_12_method_3_code [(43, [0x4f]), (44, [0x2d]), (45, [0xb4, 0x00, 0x24]), (48, [0x03]), (49, [0x2a]), (50, [0xb4, 0x00, 0x15]), (53, [0x2a]), (54, [0xb4, 0x00, 0x1b]), (57, [0x11, 0x00, 0xa4]), (60, [0x68]), (61, [0x2d]), (62, [0xb4, 0x00, 0x1f]), (65, [0xb8, 0x00, 0x27]), (68, [0x2a]), (69, [0x59]), (70, [0xb4, 0x00, 0x1b]), (73, [0x04]), (74, [0x60]), (75, [0xb5, 0x00, 0x1b]), (78, [0x2a]), (79, [0xb4, 0x00, 0x1b]), (82, [0x04]), (83, [0x64]), (84, [0xac])] := pf_ok prog_12_method_3_code _ 43 (by decide +kernel)
theorem d_X10_keep_43 : decode prog_12_method_3_code 43 = .ok (.iastore, 1) := gq_0 db00c_48 eb_38
theorem d_X10_keep_44 : decode prog_12_method_3_code 44 = .ok (.aload_n 3, 1) := gq_1 db00c_48 eb_312
theorem d_X10_keep_45 : decode prog_12_method_3_code 45 = .ok (.getfield 36, 3) := gq_2 db00c_48 eb_175
theorem d_X10_keep_48 : decode prog_12_method_3_code 48 = .ok (.iconst 0, 1) := gq_3 db00c_48 eb_21
theorem d_X10_keep_49 : decode prog_12_method_3_code 49 = .ok (.aload_n 0, 1) := gq_4 db00c_48 eb_0
theorem d_X10_keep_50 : decode prog_12_method_3_code 50 = .ok (.getfield 21, 3) := gq_5 db00c_48 eb_17
theorem d_X10_keep_53 : decode prog_12_method_3_code 53 = .ok (.aload_n 0, 1) := gq_6 db00c_48 eb_0
theorem d_X10_keep_54 : decode prog_12_method_3_code 54 = .ok (.getfield 27, 3) := gq_7 db00c_48 eb_121
theorem d_X10_keep_57 : decode prog_12_method_3_code 57 = .ok (.sipush 164, 3) := gq_8 db00c_48 eb_438
theorem d_X10_keep_60 : decode prog_12_method_3_code 60 = .ok (.imul, 1) := gq_9 db00c_48 eb_34
theorem d_X10_keep_61 : decode prog_12_method_3_code 61 = .ok (.aload_n 3, 1) := gq_10 db00c_48 eb_312
theorem d_X10_keep_62 : decode prog_12_method_3_code 62 = .ok (.getfield 31, 3) := gq_11 db00c_48 eb_30
theorem d_X10_keep_65 : decode prog_12_method_3_code 65 = .ok (.invokestatic 39, 3) := gq_12 db00c_48 eb_553
theorem d_X10_keep_68 : decode prog_12_method_3_code 68 = .ok (.aload_n 0, 1) := gq_13 db00c_48 eb_0
theorem d_X10_keep_69 : decode prog_12_method_3_code 69 = .ok (.dup, 1) := gq_14 db00c_48 eb_46
theorem d_X10_keep_70 : decode prog_12_method_3_code 70 = .ok (.getfield 27, 3) := gq_15 db00c_48 eb_121
theorem d_X10_keep_73 : decode prog_12_method_3_code 73 = .ok (.iconst 1, 1) := gq_16 db00c_48 eb_19
theorem d_X10_keep_74 : decode prog_12_method_3_code 74 = .ok (.iadd, 1) := gq_17 db00c_48 eb_35
theorem d_X10_keep_75 : decode prog_12_method_3_code 75 = .ok (.putfield 27, 3) := gq_18 db00c_48 eb_97
theorem d_X10_keep_78 : decode prog_12_method_3_code 78 = .ok (.aload_n 0, 1) := gq_19 db00c_48 eb_0
theorem d_X10_keep_79 : decode prog_12_method_3_code 79 = .ok (.getfield 27, 3) := gq_20 db00c_48 eb_121
theorem d_X10_keep_82 : decode prog_12_method_3_code 82 = .ok (.iconst 1, 1) := gq_21 db00c_48 eb_19
theorem d_X10_keep_83 : decode prog_12_method_3_code 83 = .ok (.isub, 1) := gq_22 db00c_48 eb_48
theorem d_X10_keep_84 : decode prog_12_method_3_code 84 = .ok (.ireturn, 1) := gq_23 db00c_48 eb_15
theorem db00c_49 : Pf_ prog_12_method_4_code [(0, [0x02]), (1, [0x3e]), (2, [0x03]), (3, [0x36, 0x04]), (5, [0x15, 0x04]), (7, [0x2a]), (8, [0xb4, 0x00, 0x1b]), (11, [0xa2, 0x00, 0x37]), (14, [0x2a]), (15, [0xb4, 0x00, 0x0f]), (18, [0x15, 0x04]), (20, [0x2e]), (21, [0x1c]), (22, [0xa3, 0x00, 0x26]), (25, [0x2a]), (26, [0xb4, 0x00, 0x0b]), (29, [0x15, 0x04]), (31, [0x2e]), (32, [0x1b]), (33, [0xa3, 0x00, 0x1b]), (36, [0x1d]), (37, [0x02]), (38, [0x9f, 0x00, 0x13]), (41, [0x2a])] := pf_ok prog_12_method_4_code _ 0 (by decide +kernel)
theorem d_X10_inForce_0 : decode prog_12_method_4_code 0 = .ok (.iconst (-1), 1) := gq_0 db00c_49 eb_26
theorem d_X10_inForce_1 : decode prog_12_method_4_code 1 = .ok (.istore_n 3, 1) := gq_1 db00c_49 eb_28
theorem d_X10_inForce_2 : decode prog_12_method_4_code 2 = .ok (.iconst 0, 1) := gq_2 db00c_49 eb_21
theorem d_X10_inForce_3 : decode prog_12_method_4_code 3 = .ok (.istore 4, 2) := gq_3 db00c_49 eb_133
theorem d_X10_inForce_5 : decode prog_12_method_4_code 5 = .ok (.iload 4, 2) := gq_4 db00c_49 eb_76
theorem d_X10_inForce_7 : decode prog_12_method_4_code 7 = .ok (.aload_n 0, 1) := gq_5 db00c_49 eb_0
theorem d_X10_inForce_8 : decode prog_12_method_4_code 8 = .ok (.getfield 27, 3) := gq_6 db00c_49 eb_121
theorem d_X10_inForce_11 : decode prog_12_method_4_code 11 = .ok (.if_icmp .ge 55, 3) := gq_7 db00c_49 eb_554
theorem d_X10_inForce_14 : decode prog_12_method_4_code 14 = .ok (.aload_n 0, 1) := gq_8 db00c_49 eb_0
theorem d_X10_inForce_15 : decode prog_12_method_4_code 15 = .ok (.getfield 15, 3) := gq_9 db00c_49 eb_44
theorem d_X10_inForce_18 : decode prog_12_method_4_code 18 = .ok (.iload 4, 2) := gq_10 db00c_49 eb_76
theorem d_X10_inForce_20 : decode prog_12_method_4_code 20 = .ok (.iaload, 1) := gq_11 db00c_49 eb_37
theorem d_X10_inForce_21 : decode prog_12_method_4_code 21 = .ok (.iload_n 2, 1) := gq_12 db00c_49 eb_13
theorem d_X10_inForce_22 : decode prog_12_method_4_code 22 = .ok (.if_icmp .gt 38, 3) := gq_13 db00c_49 eb_555
theorem d_X10_inForce_25 : decode prog_12_method_4_code 25 = .ok (.aload_n 0, 1) := gq_14 db00c_49 eb_0
theorem d_X10_inForce_26 : decode prog_12_method_4_code 26 = .ok (.getfield 11, 3) := gq_15 db00c_49 eb_32
theorem d_X10_inForce_29 : decode prog_12_method_4_code 29 = .ok (.iload 4, 2) := gq_16 db00c_49 eb_76
theorem d_X10_inForce_31 : decode prog_12_method_4_code 31 = .ok (.iaload, 1) := gq_17 db00c_49 eb_37
theorem d_X10_inForce_32 : decode prog_12_method_4_code 32 = .ok (.iload_n 1, 1) := gq_18 db00c_49 eb_9
theorem d_X10_inForce_33 : decode prog_12_method_4_code 33 = .ok (.if_icmp .gt 27, 3) := gq_19 db00c_49 eb_556
theorem d_X10_inForce_36 : decode prog_12_method_4_code 36 = .ok (.iload_n 3, 1) := gq_20 db00c_49 eb_29
theorem d_X10_inForce_37 : decode prog_12_method_4_code 37 = .ok (.iconst (-1), 1) := gq_21 db00c_49 eb_26
theorem d_X10_inForce_38 : decode prog_12_method_4_code 38 = .ok (.if_icmp .eq 19, 3) := gq_22 db00c_49 eb_557
theorem d_X10_inForce_41 : decode prog_12_method_4_code 41 = .ok (.aload_n 0, 1) := gq_23 db00c_49 eb_0
theorem db00c_50 : Pf_ prog_12_method_4_code [(42, [0xb4, 0x00, 0x0b]), (45, [0x15, 0x04]), (47, [0x2e]), (48, [0x2a]), (49, [0xb4, 0x00, 0x0b]), (52, [0x1d]), (53, [0x2e]), (54, [0xa1, 0x00, 0x06]), (57, [0x15, 0x04]), (59, [0x3e]), (60, [0x84, 0x04, 0x01]), (63, [0xa7, 0xff, 0xc6]), (66, [0x1d]), (67, [0xac])] := pf_ok prog_12_method_4_code _ 42 (by decide +kernel)
theorem d_X10_inForce_42 : decode prog_12_method_4_code 42 = .ok (.getfield 11, 3) := gq_0 db00c_50 eb_32
theorem d_X10_inForce_45 : decode prog_12_method_4_code 45 = .ok (.iload 4, 2) := gq_1 db00c_50 eb_76
theorem d_X10_inForce_47 : decode prog_12_method_4_code 47 = .ok (.iaload, 1) := gq_2 db00c_50 eb_37
theorem d_X10_inForce_48 : decode prog_12_method_4_code 48 = .ok (.aload_n 0, 1) := gq_3 db00c_50 eb_0
theorem d_X10_inForce_49 : decode prog_12_method_4_code 49 = .ok (.getfield 11, 3) := gq_4 db00c_50 eb_32
theorem d_X10_inForce_52 : decode prog_12_method_4_code 52 = .ok (.iload_n 3, 1) := gq_5 db00c_50 eb_29
theorem d_X10_inForce_53 : decode prog_12_method_4_code 53 = .ok (.iaload, 1) := gq_6 db00c_50 eb_37
theorem d_X10_inForce_54 : decode prog_12_method_4_code 54 = .ok (.if_icmp .lt 6, 3) := gq_7 db00c_50 eb_432
theorem d_X10_inForce_57 : decode prog_12_method_4_code 57 = .ok (.iload 4, 2) := gq_8 db00c_50 eb_76
theorem d_X10_inForce_59 : decode prog_12_method_4_code 59 = .ok (.istore_n 3, 1) := gq_9 db00c_50 eb_28
theorem d_X10_inForce_60 : decode prog_12_method_4_code 60 = .ok (.iinc 4 1, 3) := gq_10 db00c_50 eb_144
theorem d_X10_inForce_63 : decode prog_12_method_4_code 63 = .ok (.goto (-58), 3) := gq_11 db00c_50 eb_558
theorem d_X10_inForce_66 : decode prog_12_method_4_code 66 = .ok (.iload_n 3, 1) := gq_12 db00c_50 eb_29
theorem d_X10_inForce_67 : decode prog_12_method_4_code 67 = .ok (.ireturn, 1) := gq_13 db00c_50 eb_15
theorem db00c_51 : Pf_ prog_12_method_5_code [(0, [0x1b]), (1, [0x03]), (2, [0x2a]), (3, [0xb4, 0x00, 0x1b]), (6, [0x04]), (7, [0x64]), (8, [0xb8, 0x00, 0x2d]), (11, [0x9a, 0x00, 0x05]), (14, [0x03]), (15, [0xac]), (16, [0x03]), (17, [0x36, 0x04]), (19, [0x03]), (20, [0x36, 0x05]), (22, [0x15, 0x05]), (24, [0x2a]), (25, [0xb4, 0x00, 0x12]), (28, [0x1b]), (29, [0x2e]), (30, [0xa2, 0x00, 0xe6]), (33, [0x2a]), (34, [0xb4, 0x00, 0x15]), (37, [0x1b]), (38, [0x11, 0x00, 0xa4])] := pf_ok prog_12_method_5_code _ 0 (by decide +kernel)
theorem d_X10_answer_0 : decode prog_12_method_5_code 0 = .ok (.iload_n 1, 1) := gq_0 db00c_51 eb_9
theorem d_X10_answer_1 : decode prog_12_method_5_code 1 = .ok (.iconst 0, 1) := gq_1 db00c_51 eb_21
theorem d_X10_answer_2 : decode prog_12_method_5_code 2 = .ok (.aload_n 0, 1) := gq_2 db00c_51 eb_0
theorem d_X10_answer_3 : decode prog_12_method_5_code 3 = .ok (.getfield 27, 3) := gq_3 db00c_51 eb_121
theorem d_X10_answer_6 : decode prog_12_method_5_code 6 = .ok (.iconst 1, 1) := gq_4 db00c_51 eb_19
theorem d_X10_answer_7 : decode prog_12_method_5_code 7 = .ok (.isub, 1) := gq_5 db00c_51 eb_48
theorem d_X10_answer_8 : decode prog_12_method_5_code 8 = .ok (.invokestatic 45, 3) := gq_6 db00c_51 eb_559
theorem d_X10_answer_11 : decode prog_12_method_5_code 11 = .ok (.ifCond .ne 5, 3) := gq_7 db00c_51 eb_150
theorem d_X10_answer_14 : decode prog_12_method_5_code 14 = .ok (.iconst 0, 1) := gq_8 db00c_51 eb_21
theorem d_X10_answer_15 : decode prog_12_method_5_code 15 = .ok (.ireturn, 1) := gq_9 db00c_51 eb_15
theorem d_X10_answer_16 : decode prog_12_method_5_code 16 = .ok (.iconst 0, 1) := gq_10 db00c_51 eb_21
theorem d_X10_answer_17 : decode prog_12_method_5_code 17 = .ok (.istore 4, 2) := gq_11 db00c_51 eb_133
theorem d_X10_answer_19 : decode prog_12_method_5_code 19 = .ok (.iconst 0, 1) := gq_12 db00c_51 eb_21
theorem d_X10_answer_20 : decode prog_12_method_5_code 20 = .ok (.istore 5, 2) := gq_13 db00c_51 eb_134
theorem d_X10_answer_22 : decode prog_12_method_5_code 22 = .ok (.iload 5, 2) := gq_14 db00c_51 eb_125
theorem d_X10_answer_24 : decode prog_12_method_5_code 24 = .ok (.aload_n 0, 1) := gq_15 db00c_51 eb_0
theorem d_X10_answer_25 : decode prog_12_method_5_code 25 = .ok (.getfield 18, 3) := gq_16 db00c_51 eb_45
theorem d_X10_answer_28 : decode prog_12_method_5_code 28 = .ok (.iload_n 1, 1) := gq_17 db00c_51 eb_9
theorem d_X10_answer_29 : decode prog_12_method_5_code 29 = .ok (.iaload, 1) := gq_18 db00c_51 eb_37
theorem d_X10_answer_30 : decode prog_12_method_5_code 30 = .ok (.if_icmp .ge 230, 3) := gq_19 db00c_51 eb_560
theorem d_X10_answer_33 : decode prog_12_method_5_code 33 = .ok (.aload_n 0, 1) := gq_20 db00c_51 eb_0
theorem d_X10_answer_34 : decode prog_12_method_5_code 34 = .ok (.getfield 21, 3) := gq_21 db00c_51 eb_17
theorem d_X10_answer_37 : decode prog_12_method_5_code 37 = .ok (.iload_n 1, 1) := gq_22 db00c_51 eb_9
theorem d_X10_answer_38 : decode prog_12_method_5_code 38 = .ok (.sipush 164, 3) := gq_23 db00c_51 eb_438
theorem db00c_52 : Pf_ prog_12_method_5_code [(41, [0x68]), (42, [0x15, 0x05]), (44, [0x60]), (45, [0x2e]), (46, [0x10, 0x0f]), (48, [0x7e]), (49, [0x36, 0x06]), (51, [0x2a]), (52, [0xb4, 0x00, 0x15]), (55, [0x1b]), (56, [0x11, 0x00, 0xa4]), (59, [0x68]), (60, [0x15, 0x05]), (62, [0x60]), (63, [0x2e]), (64, [0x07]), (65, [0x7a]), (66, [0x36, 0x07]), (68, [0x15, 0x06]), (70, [0x99, 0x00, 0x09]), (73, [0x15, 0x06]), (75, [0x04]), (76, [0xa0, 0x00, 0x2e]), (79, [0x15, 0x04])] := pf_ok prog_12_method_5_code _ 41 (by decide +kernel)
theorem d_X10_answer_41 : decode prog_12_method_5_code 41 = .ok (.imul, 1) := gq_0 db00c_52 eb_34
theorem d_X10_answer_42 : decode prog_12_method_5_code 42 = .ok (.iload 5, 2) := gq_1 db00c_52 eb_125
theorem d_X10_answer_44 : decode prog_12_method_5_code 44 = .ok (.iadd, 1) := gq_2 db00c_52 eb_35
theorem d_X10_answer_45 : decode prog_12_method_5_code 45 = .ok (.iaload, 1) := gq_3 db00c_52 eb_37
theorem d_X10_answer_46 : decode prog_12_method_5_code 46 = .ok (.bipush 15, 2) := gq_4 db00c_52 eb_57
theorem d_X10_answer_48 : decode prog_12_method_5_code 48 = .ok (.iand, 1) := gq_5 db00c_52 eb_55
theorem d_X10_answer_49 : decode prog_12_method_5_code 49 = .ok (.istore 6, 2) := gq_6 db00c_52 eb_58
theorem d_X10_answer_51 : decode prog_12_method_5_code 51 = .ok (.aload_n 0, 1) := gq_7 db00c_52 eb_0
theorem d_X10_answer_52 : decode prog_12_method_5_code 52 = .ok (.getfield 21, 3) := gq_8 db00c_52 eb_17
theorem d_X10_answer_55 : decode prog_12_method_5_code 55 = .ok (.iload_n 1, 1) := gq_9 db00c_52 eb_9
theorem d_X10_answer_56 : decode prog_12_method_5_code 56 = .ok (.sipush 164, 3) := gq_10 db00c_52 eb_438
theorem d_X10_answer_59 : decode prog_12_method_5_code 59 = .ok (.imul, 1) := gq_11 db00c_52 eb_34
theorem d_X10_answer_60 : decode prog_12_method_5_code 60 = .ok (.iload 5, 2) := gq_12 db00c_52 eb_125
theorem d_X10_answer_62 : decode prog_12_method_5_code 62 = .ok (.iadd, 1) := gq_13 db00c_52 eb_35
theorem d_X10_answer_63 : decode prog_12_method_5_code 63 = .ok (.iaload, 1) := gq_14 db00c_52 eb_37
theorem d_X10_answer_64 : decode prog_12_method_5_code 64 = .ok (.iconst 4, 1) := gq_15 db00c_52 eb_291
theorem d_X10_answer_65 : decode prog_12_method_5_code 65 = .ok (.ishr, 1) := gq_16 db00c_52 eb_56
theorem d_X10_answer_66 : decode prog_12_method_5_code 66 = .ok (.istore 7, 2) := gq_17 db00c_52 eb_59
theorem d_X10_answer_68 : decode prog_12_method_5_code 68 = .ok (.iload 6, 2) := gq_18 db00c_52 eb_75
theorem d_X10_answer_70 : decode prog_12_method_5_code 70 = .ok (.ifCond .eq 9, 3) := gq_19 db00c_52 eb_249
theorem d_X10_answer_73 : decode prog_12_method_5_code 73 = .ok (.iload 6, 2) := gq_20 db00c_52 eb_75
theorem d_X10_answer_75 : decode prog_12_method_5_code 75 = .ok (.iconst 1, 1) := gq_21 db00c_52 eb_19
theorem d_X10_answer_76 : decode prog_12_method_5_code 76 = .ok (.if_icmp .ne 46, 3) := gq_22 db00c_52 eb_561
theorem d_X10_answer_79 : decode prog_12_method_5_code 79 = .ok (.iload 4, 2) := gq_23 db00c_52 eb_76
theorem db00c_53 : Pf_ prog_12_method_5_code [(81, [0x2a]), (82, [0xb4, 0x00, 0x18]), (85, [0xbe]), (86, [0xa1, 0x00, 0x05]), (89, [0x03]), (90, [0xac]), (91, [0x2a]), (92, [0xb4, 0x00, 0x18]), (95, [0x15, 0x04]), (97, [0x15, 0x06]), (99, [0x9a, 0x00, 0x08]), (102, [0x15, 0x07]), (104, [0xa7, 0x00, 0x0b]), (107, [0x2c]), (108, [0x1d]), (109, [0x15, 0x07]), (111, [0x60]), (112, [0xb8, 0x00, 0x31]), (115, [0x4f]), (116, [0x84, 0x04, 0x01]), (119, [0xa7, 0x00, 0x87]), (122, [0x15, 0x06]), (124, [0x08]), (125, [0xa1, 0x00, 0x2f])] := pf_ok prog_12_method_5_code _ 81 (by decide +kernel)
theorem d_X10_answer_81 : decode prog_12_method_5_code 81 = .ok (.aload_n 0, 1) := gq_0 db00c_53 eb_0
theorem d_X10_answer_82 : decode prog_12_method_5_code 82 = .ok (.getfield 24, 3) := gq_1 db00c_53 eb_108
theorem d_X10_answer_85 : decode prog_12_method_5_code 85 = .ok (.arraylength, 1) := gq_2 db00c_53 eb_52
theorem d_X10_answer_86 : decode prog_12_method_5_code 86 = .ok (.if_icmp .lt 5, 3) := gq_3 db00c_53 eb_114
theorem d_X10_answer_89 : decode prog_12_method_5_code 89 = .ok (.iconst 0, 1) := gq_4 db00c_53 eb_21
theorem d_X10_answer_90 : decode prog_12_method_5_code 90 = .ok (.ireturn, 1) := gq_5 db00c_53 eb_15
theorem d_X10_answer_91 : decode prog_12_method_5_code 91 = .ok (.aload_n 0, 1) := gq_6 db00c_53 eb_0
theorem d_X10_answer_92 : decode prog_12_method_5_code 92 = .ok (.getfield 24, 3) := gq_7 db00c_53 eb_108
theorem d_X10_answer_95 : decode prog_12_method_5_code 95 = .ok (.iload 4, 2) := gq_8 db00c_53 eb_76
theorem d_X10_answer_97 : decode prog_12_method_5_code 97 = .ok (.iload 6, 2) := gq_9 db00c_53 eb_75
theorem d_X10_answer_99 : decode prog_12_method_5_code 99 = .ok (.ifCond .ne 8, 3) := gq_10 db00c_53 eb_525
theorem d_X10_answer_102 : decode prog_12_method_5_code 102 = .ok (.iload 7, 2) := gq_11 db00c_53 eb_73
theorem d_X10_answer_104 : decode prog_12_method_5_code 104 = .ok (.goto 11, 3) := gq_12 db00c_53 eb_562
theorem d_X10_answer_107 : decode prog_12_method_5_code 107 = .ok (.aload_n 2, 1) := gq_13 db00c_53 eb_301
theorem d_X10_answer_108 : decode prog_12_method_5_code 108 = .ok (.iload_n 3, 1) := gq_14 db00c_53 eb_29
theorem d_X10_answer_109 : decode prog_12_method_5_code 109 = .ok (.iload 7, 2) := gq_15 db00c_53 eb_73
theorem d_X10_answer_111 : decode prog_12_method_5_code 111 = .ok (.iadd, 1) := gq_16 db00c_53 eb_35
theorem d_X10_answer_112 : decode prog_12_method_5_code 112 = .ok (.invokestatic 49, 3) := gq_17 db00c_53 eb_563
theorem d_X10_answer_115 : decode prog_12_method_5_code 115 = .ok (.iastore, 1) := gq_18 db00c_53 eb_38
theorem d_X10_answer_116 : decode prog_12_method_5_code 116 = .ok (.iinc 4 1, 3) := gq_19 db00c_53 eb_144
theorem d_X10_answer_119 : decode prog_12_method_5_code 119 = .ok (.goto 135, 3) := gq_20 db00c_53 eb_564
theorem d_X10_answer_122 : decode prog_12_method_5_code 122 = .ok (.iload 6, 2) := gq_21 db00c_53 eb_75
theorem d_X10_answer_124 : decode prog_12_method_5_code 124 = .ok (.iconst 5, 1) := gq_22 db00c_53 eb_122
theorem d_X10_answer_125 : decode prog_12_method_5_code 125 = .ok (.if_icmp .lt 47, 3) := gq_23 db00c_53 eb_565
theorem db00c_54 : Pf_ prog_12_method_5_code [(128, [0x15, 0x04]), (130, [0x05]), (131, [0xa2, 0x00, 0x05]), (134, [0x03]), (135, [0xac]), (136, [0x84, 0x04, 0xff]), (139, [0x2a]), (140, [0xb4, 0x00, 0x18]), (143, [0x15, 0x04]), (145, [0x04]), (146, [0x64]), (147, [0x15, 0x06]), (149, [0x2a]), (150, [0xb4, 0x00, 0x18]), (153, [0x15, 0x04]), (155, [0x04]), (156, [0x64]), (157, [0x2e]), (158, [0x2a]), (159, [0xb4, 0x00, 0x18]), (162, [0x15, 0x04]), (164, [0x2e]), (165, [0xb8, 0x00, 0x35]), (168, [0x4f])] := pf_ok prog_12_method_5_code _ 128 (by decide +kernel)
theorem d_X10_answer_128 : decode prog_12_method_5_code 128 = .ok (.iload 4, 2) := gq_0 db00c_54 eb_76
theorem d_X10_answer_130 : decode prog_12_method_5_code 130 = .ok (.iconst 2, 1) := gq_1 db00c_54 eb_10
theorem d_X10_answer_131 : decode prog_12_method_5_code 131 = .ok (.if_icmp .ge 5, 3) := gq_2 db00c_54 eb_566
theorem d_X10_answer_134 : decode prog_12_method_5_code 134 = .ok (.iconst 0, 1) := gq_3 db00c_54 eb_21
theorem d_X10_answer_135 : decode prog_12_method_5_code 135 = .ok (.ireturn, 1) := gq_4 db00c_54 eb_15
theorem d_X10_answer_136 : decode prog_12_method_5_code 136 = .ok (.iinc 4 (-1), 3) := gq_5 db00c_54 eb_404
theorem d_X10_answer_139 : decode prog_12_method_5_code 139 = .ok (.aload_n 0, 1) := gq_6 db00c_54 eb_0
theorem d_X10_answer_140 : decode prog_12_method_5_code 140 = .ok (.getfield 24, 3) := gq_7 db00c_54 eb_108
theorem d_X10_answer_143 : decode prog_12_method_5_code 143 = .ok (.iload 4, 2) := gq_8 db00c_54 eb_76
theorem d_X10_answer_145 : decode prog_12_method_5_code 145 = .ok (.iconst 1, 1) := gq_9 db00c_54 eb_19
theorem d_X10_answer_146 : decode prog_12_method_5_code 146 = .ok (.isub, 1) := gq_10 db00c_54 eb_48
theorem d_X10_answer_147 : decode prog_12_method_5_code 147 = .ok (.iload 6, 2) := gq_11 db00c_54 eb_75
theorem d_X10_answer_149 : decode prog_12_method_5_code 149 = .ok (.aload_n 0, 1) := gq_12 db00c_54 eb_0
theorem d_X10_answer_150 : decode prog_12_method_5_code 150 = .ok (.getfield 24, 3) := gq_13 db00c_54 eb_108
theorem d_X10_answer_153 : decode prog_12_method_5_code 153 = .ok (.iload 4, 2) := gq_14 db00c_54 eb_76
theorem d_X10_answer_155 : decode prog_12_method_5_code 155 = .ok (.iconst 1, 1) := gq_15 db00c_54 eb_19
theorem d_X10_answer_156 : decode prog_12_method_5_code 156 = .ok (.isub, 1) := gq_16 db00c_54 eb_48
theorem d_X10_answer_157 : decode prog_12_method_5_code 157 = .ok (.iaload, 1) := gq_17 db00c_54 eb_37
theorem d_X10_answer_158 : decode prog_12_method_5_code 158 = .ok (.aload_n 0, 1) := gq_18 db00c_54 eb_0
theorem d_X10_answer_159 : decode prog_12_method_5_code 159 = .ok (.getfield 24, 3) := gq_19 db00c_54 eb_108
theorem d_X10_answer_162 : decode prog_12_method_5_code 162 = .ok (.iload 4, 2) := gq_20 db00c_54 eb_76
theorem d_X10_answer_164 : decode prog_12_method_5_code 164 = .ok (.iaload, 1) := gq_21 db00c_54 eb_37
theorem d_X10_answer_165 : decode prog_12_method_5_code 165 = .ok (.invokestatic 53, 3) := gq_22 db00c_54 eb_567
theorem d_X10_answer_168 : decode prog_12_method_5_code 168 = .ok (.iastore, 1) := gq_23 db00c_54 eb_38
theorem db00c_55 : Pf_ prog_12_method_5_code [(169, [0xa7, 0x00, 0x55]), (172, [0x15, 0x04]), (174, [0x04]), (175, [0xa2, 0x00, 0x05]), (178, [0x03]), (179, [0xac]), (180, [0x15, 0x06]), (182, [0x05]), (183, [0xa0, 0x00, 0x1a]), (186, [0x2a]), (187, [0xb4, 0x00, 0x18]), (190, [0x15, 0x04]), (192, [0x04]), (193, [0x64]), (194, [0x04]), (195, [0x2a]), (196, [0xb4, 0x00, 0x18]), (199, [0x15, 0x04]), (201, [0x04]), (202, [0x64]), (203, [0x2e]), (204, [0x64]), (205, [0x4f]), (206, [0xa7, 0x00, 0x30])] := pf_ok prog_12_method_5_code _ 169 (by decide +kernel)
theorem d_X10_answer_169 : decode prog_12_method_5_code 169 = .ok (.goto 85, 3) := gq_0 db00c_55 eb_568
theorem d_X10_answer_172 : decode prog_12_method_5_code 172 = .ok (.iload 4, 2) := gq_1 db00c_55 eb_76
theorem d_X10_answer_174 : decode prog_12_method_5_code 174 = .ok (.iconst 1, 1) := gq_2 db00c_55 eb_19
theorem d_X10_answer_175 : decode prog_12_method_5_code 175 = .ok (.if_icmp .ge 5, 3) := gq_3 db00c_55 eb_566
theorem d_X10_answer_178 : decode prog_12_method_5_code 178 = .ok (.iconst 0, 1) := gq_4 db00c_55 eb_21
theorem d_X10_answer_179 : decode prog_12_method_5_code 179 = .ok (.ireturn, 1) := gq_5 db00c_55 eb_15
theorem d_X10_answer_180 : decode prog_12_method_5_code 180 = .ok (.iload 6, 2) := gq_6 db00c_55 eb_75
theorem d_X10_answer_182 : decode prog_12_method_5_code 182 = .ok (.iconst 2, 1) := gq_7 db00c_55 eb_10
theorem d_X10_answer_183 : decode prog_12_method_5_code 183 = .ok (.if_icmp .ne 26, 3) := gq_8 db00c_55 eb_279
theorem d_X10_answer_186 : decode prog_12_method_5_code 186 = .ok (.aload_n 0, 1) := gq_9 db00c_55 eb_0
theorem d_X10_answer_187 : decode prog_12_method_5_code 187 = .ok (.getfield 24, 3) := gq_10 db00c_55 eb_108
theorem d_X10_answer_190 : decode prog_12_method_5_code 190 = .ok (.iload 4, 2) := gq_11 db00c_55 eb_76
theorem d_X10_answer_192 : decode prog_12_method_5_code 192 = .ok (.iconst 1, 1) := gq_12 db00c_55 eb_19
theorem d_X10_answer_193 : decode prog_12_method_5_code 193 = .ok (.isub, 1) := gq_13 db00c_55 eb_48
theorem d_X10_answer_194 : decode prog_12_method_5_code 194 = .ok (.iconst 1, 1) := gq_14 db00c_55 eb_19
theorem d_X10_answer_195 : decode prog_12_method_5_code 195 = .ok (.aload_n 0, 1) := gq_15 db00c_55 eb_0
theorem d_X10_answer_196 : decode prog_12_method_5_code 196 = .ok (.getfield 24, 3) := gq_16 db00c_55 eb_108
theorem d_X10_answer_199 : decode prog_12_method_5_code 199 = .ok (.iload 4, 2) := gq_17 db00c_55 eb_76
theorem d_X10_answer_201 : decode prog_12_method_5_code 201 = .ok (.iconst 1, 1) := gq_18 db00c_55 eb_19
theorem d_X10_answer_202 : decode prog_12_method_5_code 202 = .ok (.isub, 1) := gq_19 db00c_55 eb_48
theorem d_X10_answer_203 : decode prog_12_method_5_code 203 = .ok (.iaload, 1) := gq_20 db00c_55 eb_37
theorem d_X10_answer_204 : decode prog_12_method_5_code 204 = .ok (.isub, 1) := gq_21 db00c_55 eb_48
theorem d_X10_answer_205 : decode prog_12_method_5_code 205 = .ok (.iastore, 1) := gq_22 db00c_55 eb_38
theorem d_X10_answer_206 : decode prog_12_method_5_code 206 = .ok (.goto 48, 3) := gq_23 db00c_55 eb_569
theorem db00c_56 : Pf_ prog_12_method_5_code [(209, [0x15, 0x06]), (211, [0x07]), (212, [0xa0, 0x00, 0x0d]), (215, [0x2a]), (216, [0xb4, 0x00, 0x18]), (219, [0x15, 0x04]), (221, [0x04]), (222, [0x64]), (223, [0x2e]), (224, [0xac]), (225, [0x84, 0x04, 0xff]), (228, [0x2a]), (229, [0xb4, 0x00, 0x18]), (232, [0x15, 0x04]), (234, [0x2e]), (235, [0x9a, 0x00, 0x0f]), (238, [0x15, 0x05]), (240, [0x15, 0x07]), (242, [0x04]), (243, [0x64]), (244, [0xb8, 0x00, 0x39]), (247, [0xa7, 0x00, 0x05]), (250, [0x15, 0x05]), (252, [0x36, 0x05])] := pf_ok prog_12_method_5_code _ 209 (by decide +kernel)
theorem d_X10_answer_209 : decode prog_12_method_5_code 209 = .ok (.iload 6, 2) := gq_0 db00c_56 eb_75
theorem d_X10_answer_211 : decode prog_12_method_5_code 211 = .ok (.iconst 4, 1) := gq_1 db00c_56 eb_291
theorem d_X10_answer_212 : decode prog_12_method_5_code 212 = .ok (.if_icmp .ne 13, 3) := gq_2 db00c_56 eb_423
theorem d_X10_answer_215 : decode prog_12_method_5_code 215 = .ok (.aload_n 0, 1) := gq_3 db00c_56 eb_0
theorem d_X10_answer_216 : decode prog_12_method_5_code 216 = .ok (.getfield 24, 3) := gq_4 db00c_56 eb_108
theorem d_X10_answer_219 : decode prog_12_method_5_code 219 = .ok (.iload 4, 2) := gq_5 db00c_56 eb_76
theorem d_X10_answer_221 : decode prog_12_method_5_code 221 = .ok (.iconst 1, 1) := gq_6 db00c_56 eb_19
theorem d_X10_answer_222 : decode prog_12_method_5_code 222 = .ok (.isub, 1) := gq_7 db00c_56 eb_48
theorem d_X10_answer_223 : decode prog_12_method_5_code 223 = .ok (.iaload, 1) := gq_8 db00c_56 eb_37
theorem d_X10_answer_224 : decode prog_12_method_5_code 224 = .ok (.ireturn, 1) := gq_9 db00c_56 eb_15
theorem d_X10_answer_225 : decode prog_12_method_5_code 225 = .ok (.iinc 4 (-1), 3) := gq_10 db00c_56 eb_404
theorem d_X10_answer_228 : decode prog_12_method_5_code 228 = .ok (.aload_n 0, 1) := gq_11 db00c_56 eb_0
theorem d_X10_answer_229 : decode prog_12_method_5_code 229 = .ok (.getfield 24, 3) := gq_12 db00c_56 eb_108
theorem d_X10_answer_232 : decode prog_12_method_5_code 232 = .ok (.iload 4, 2) := gq_13 db00c_56 eb_76
theorem d_X10_answer_234 : decode prog_12_method_5_code 234 = .ok (.iaload, 1) := gq_14 db00c_56 eb_37
theorem d_X10_answer_235 : decode prog_12_method_5_code 235 = .ok (.ifCond .ne 15, 3) := gq_15 db00c_56 eb_465
theorem d_X10_answer_238 : decode prog_12_method_5_code 238 = .ok (.iload 5, 2) := gq_16 db00c_56 eb_125
theorem d_X10_answer_240 : decode prog_12_method_5_code 240 = .ok (.iload 7, 2) := gq_17 db00c_56 eb_73
theorem d_X10_answer_242 : decode prog_12_method_5_code 242 = .ok (.iconst 1, 1) := gq_18 db00c_56 eb_19
theorem d_X10_answer_243 : decode prog_12_method_5_code 243 = .ok (.isub, 1) := gq_19 db00c_56 eb_48
theorem d_X10_answer_244 : decode prog_12_method_5_code 244 = .ok (.invokestatic 57, 3) := gq_20 db00c_56 eb_83
theorem d_X10_answer_247 : decode prog_12_method_5_code 247 = .ok (.goto 5, 3) := gq_21 db00c_56 eb_89
theorem d_X10_answer_250 : decode prog_12_method_5_code 250 = .ok (.iload 5, 2) := gq_22 db00c_56 eb_125
theorem d_X10_answer_252 : decode prog_12_method_5_code 252 = .ok (.istore 5, 2) := gq_23 db00c_56 eb_134
theorem db00c_57 : Pf_ prog_12_method_5_code [(254, [0x84, 0x05, 0x01]), (257, [0xa7, 0xff, 0x15]), (260, [0x03]), (261, [0xac])] := pf_ok prog_12_method_5_code _ 254 (by decide +kernel)
theorem d_X10_answer_254 : decode prog_12_method_5_code 254 = .ok (.iinc 5 1, 3) := gq_0 db00c_57 eb_220
theorem d_X10_answer_257 : decode prog_12_method_5_code 257 = .ok (.goto (-235), 3) := gq_1 db00c_57 eb_570
theorem d_X10_answer_260 : decode prog_12_method_5_code 260 = .ok (.iconst 0, 1) := gq_2 db00c_57 eb_21
theorem d_X10_answer_261 : decode prog_12_method_5_code 261 = .ok (.ireturn, 1) := gq_3 db00c_57 eb_15
theorem db00c_58 : Pf_ prog_12_method_6_code [(0, [0x1b]), (1, [0x03]), (2, [0x2a]), (3, [0xbe]), (4, [0x04]), (5, [0x64]), (6, [0xb8, 0x00, 0x2d]), (9, [0x99, 0x00, 0x09]), (12, [0x2a]), (13, [0x1b]), (14, [0x2e]), (15, [0xa7, 0x00, 0x04]), (18, [0x03]), (19, [0xac])] := pf_ok prog_12_method_6_code _ 0 (by decide +kernel)
theorem d_X10_valueOf_0 : decode prog_12_method_6_code 0 = .ok (.iload_n 1, 1) := gq_0 db00c_58 eb_9
theorem d_X10_valueOf_1 : decode prog_12_method_6_code 1 = .ok (.iconst 0, 1) := gq_1 db00c_58 eb_21
theorem d_X10_valueOf_2 : decode prog_12_method_6_code 2 = .ok (.aload_n 0, 1) := gq_2 db00c_58 eb_0
theorem d_X10_valueOf_3 : decode prog_12_method_6_code 3 = .ok (.arraylength, 1) := gq_3 db00c_58 eb_52
theorem d_X10_valueOf_4 : decode prog_12_method_6_code 4 = .ok (.iconst 1, 1) := gq_4 db00c_58 eb_19
theorem d_X10_valueOf_5 : decode prog_12_method_6_code 5 = .ok (.isub, 1) := gq_5 db00c_58 eb_48
theorem d_X10_valueOf_6 : decode prog_12_method_6_code 6 = .ok (.invokestatic 45, 3) := gq_6 db00c_58 eb_559
theorem d_X10_valueOf_9 : decode prog_12_method_6_code 9 = .ok (.ifCond .eq 9, 3) := gq_7 db00c_58 eb_249
theorem d_X10_valueOf_12 : decode prog_12_method_6_code 12 = .ok (.aload_n 0, 1) := gq_8 db00c_58 eb_0
theorem d_X10_valueOf_13 : decode prog_12_method_6_code 13 = .ok (.iload_n 1, 1) := gq_9 db00c_58 eb_9
theorem d_X10_valueOf_14 : decode prog_12_method_6_code 14 = .ok (.iaload, 1) := gq_10 db00c_58 eb_37
theorem d_X10_valueOf_15 : decode prog_12_method_6_code 15 = .ok (.goto 4, 3) := gq_11 db00c_58 eb_20
theorem d_X10_valueOf_18 : decode prog_12_method_6_code 18 = .ok (.iconst 0, 1) := gq_12 db00c_58 eb_21
theorem d_X10_valueOf_19 : decode prog_12_method_6_code 19 = .ok (.ireturn, 1) := gq_13 db00c_58 eb_15
theorem d_X10_combine_1 : decode prog_12_method_7_code 1 = .ok (.tableswitch 107 5 11 #[43, 52, 61, 70, 81, 92, 103], 43) := by decide +kernel
theorem d_X10_combine_48 : decode prog_12_method_7_code 48 = .ok (.ladd, 1) := by decide +kernel
theorem d_X10_combine_57 : decode prog_12_method_7_code 57 = .ok (.lsub, 1) := by decide +kernel
theorem d_X10_combine_66 : decode prog_12_method_7_code 66 = .ok (.lmul, 1) := by decide +kernel
theorem db00c_59 : Pf_ prog_12_method_7_code [(0, [0x1a]), (44, [0x1b]), (45, [0x85]), (46, [0x1c]), (47, [0x85]), (49, [0xb8, 0x00, 0x3f]), (52, [0xac]), (53, [0x1b]), (54, [0x85]), (55, [0x1c]), (56, [0x85]), (58, [0xb8, 0x00, 0x3f]), (61, [0xac]), (62, [0x1b]), (63, [0x85]), (64, [0x1c]), (65, [0x85]), (67, [0xb8, 0x00, 0x3f]), (70, [0xac]), (71, [0x1b]), (72, [0x1c]), (73, [0xa0, 0x00, 0x07]), (76, [0x04]), (77, [0xa7, 0x00, 0x04])] := pf_ok prog_12_method_7_code _ 0 (by decide +kernel)
theorem d_X10_combine_0 : decode prog_12_method_7_code 0 = .ok (.iload_n 0, 1) := gq_0 db00c_59 eb_8
theorem d_X10_combine_44 : decode prog_12_method_7_code 44 = .ok (.iload_n 1, 1) := gq_1 db00c_59 eb_9
theorem d_X10_combine_45 : decode prog_12_method_7_code 45 = .ok (.i2l, 1) := gq_2 db00c_59 eb_381
theorem d_X10_combine_46 : decode prog_12_method_7_code 46 = .ok (.iload_n 2, 1) := gq_3 db00c_59 eb_13
theorem d_X10_combine_47 : decode prog_12_method_7_code 47 = .ok (.i2l, 1) := gq_4 db00c_59 eb_381
theorem d_X10_combine_49 : decode prog_12_method_7_code 49 = .ok (.invokestatic 63, 3) := gq_5 db00c_59 eb_571
theorem d_X10_combine_52 : decode prog_12_method_7_code 52 = .ok (.ireturn, 1) := gq_6 db00c_59 eb_15
theorem d_X10_combine_53 : decode prog_12_method_7_code 53 = .ok (.iload_n 1, 1) := gq_7 db00c_59 eb_9
theorem d_X10_combine_54 : decode prog_12_method_7_code 54 = .ok (.i2l, 1) := gq_8 db00c_59 eb_381
theorem d_X10_combine_55 : decode prog_12_method_7_code 55 = .ok (.iload_n 2, 1) := gq_9 db00c_59 eb_13
theorem d_X10_combine_56 : decode prog_12_method_7_code 56 = .ok (.i2l, 1) := gq_10 db00c_59 eb_381
theorem d_X10_combine_58 : decode prog_12_method_7_code 58 = .ok (.invokestatic 63, 3) := gq_11 db00c_59 eb_571
theorem d_X10_combine_61 : decode prog_12_method_7_code 61 = .ok (.ireturn, 1) := gq_12 db00c_59 eb_15
theorem d_X10_combine_62 : decode prog_12_method_7_code 62 = .ok (.iload_n 1, 1) := gq_13 db00c_59 eb_9
theorem d_X10_combine_63 : decode prog_12_method_7_code 63 = .ok (.i2l, 1) := gq_14 db00c_59 eb_381
theorem d_X10_combine_64 : decode prog_12_method_7_code 64 = .ok (.iload_n 2, 1) := gq_15 db00c_59 eb_13
theorem d_X10_combine_65 : decode prog_12_method_7_code 65 = .ok (.i2l, 1) := gq_16 db00c_59 eb_381
theorem d_X10_combine_67 : decode prog_12_method_7_code 67 = .ok (.invokestatic 63, 3) := gq_17 db00c_59 eb_571
theorem d_X10_combine_70 : decode prog_12_method_7_code 70 = .ok (.ireturn, 1) := gq_18 db00c_59 eb_15
theorem d_X10_combine_71 : decode prog_12_method_7_code 71 = .ok (.iload_n 1, 1) := gq_19 db00c_59 eb_9
theorem d_X10_combine_72 : decode prog_12_method_7_code 72 = .ok (.iload_n 2, 1) := gq_20 db00c_59 eb_13
theorem d_X10_combine_73 : decode prog_12_method_7_code 73 = .ok (.if_icmp .ne 7, 3) := gq_21 db00c_59 eb_135
theorem d_X10_combine_76 : decode prog_12_method_7_code 76 = .ok (.iconst 1, 1) := gq_22 db00c_59 eb_19
theorem d_X10_combine_77 : decode prog_12_method_7_code 77 = .ok (.goto 4, 3) := gq_23 db00c_59 eb_20
theorem db00c_60 : Pf_ prog_12_method_7_code [(80, [0x03]), (81, [0xac]), (82, [0x1b]), (83, [0x1c]), (84, [0xa2, 0x00, 0x07]), (87, [0x04]), (88, [0xa7, 0x00, 0x04]), (91, [0x03]), (92, [0xac]), (93, [0x1b]), (94, [0x1c]), (95, [0xa4, 0x00, 0x07]), (98, [0x04]), (99, [0xa7, 0x00, 0x04]), (102, [0x03]), (103, [0xac]), (104, [0x1b]), (105, [0x1c]), (106, [0x7e]), (107, [0xac]), (108, [0x1b]), (109, [0x1c]), (110, [0x80]), (111, [0xac])] := pf_ok prog_12_method_7_code _ 80 (by decide +kernel)
theorem d_X10_combine_80 : decode prog_12_method_7_code 80 = .ok (.iconst 0, 1) := gq_0 db00c_60 eb_21
theorem d_X10_combine_81 : decode prog_12_method_7_code 81 = .ok (.ireturn, 1) := gq_1 db00c_60 eb_15
theorem d_X10_combine_82 : decode prog_12_method_7_code 82 = .ok (.iload_n 1, 1) := gq_2 db00c_60 eb_9
theorem d_X10_combine_83 : decode prog_12_method_7_code 83 = .ok (.iload_n 2, 1) := gq_3 db00c_60 eb_13
theorem d_X10_combine_84 : decode prog_12_method_7_code 84 = .ok (.if_icmp .ge 7, 3) := gq_4 db00c_60 eb_18
theorem d_X10_combine_87 : decode prog_12_method_7_code 87 = .ok (.iconst 1, 1) := gq_5 db00c_60 eb_19
theorem d_X10_combine_88 : decode prog_12_method_7_code 88 = .ok (.goto 4, 3) := gq_6 db00c_60 eb_20
theorem d_X10_combine_91 : decode prog_12_method_7_code 91 = .ok (.iconst 0, 1) := gq_7 db00c_60 eb_21
theorem d_X10_combine_92 : decode prog_12_method_7_code 92 = .ok (.ireturn, 1) := gq_8 db00c_60 eb_15
theorem d_X10_combine_93 : decode prog_12_method_7_code 93 = .ok (.iload_n 1, 1) := gq_9 db00c_60 eb_9
theorem d_X10_combine_94 : decode prog_12_method_7_code 94 = .ok (.iload_n 2, 1) := gq_10 db00c_60 eb_13
theorem d_X10_combine_95 : decode prog_12_method_7_code 95 = .ok (.if_icmp .le 7, 3) := gq_11 db00c_60 eb_572
theorem d_X10_combine_98 : decode prog_12_method_7_code 98 = .ok (.iconst 1, 1) := gq_12 db00c_60 eb_19
theorem d_X10_combine_99 : decode prog_12_method_7_code 99 = .ok (.goto 4, 3) := gq_13 db00c_60 eb_20
theorem d_X10_combine_102 : decode prog_12_method_7_code 102 = .ok (.iconst 0, 1) := gq_14 db00c_60 eb_21
theorem d_X10_combine_103 : decode prog_12_method_7_code 103 = .ok (.ireturn, 1) := gq_15 db00c_60 eb_15
theorem d_X10_combine_104 : decode prog_12_method_7_code 104 = .ok (.iload_n 1, 1) := gq_16 db00c_60 eb_9
theorem d_X10_combine_105 : decode prog_12_method_7_code 105 = .ok (.iload_n 2, 1) := gq_17 db00c_60 eb_13
theorem d_X10_combine_106 : decode prog_12_method_7_code 106 = .ok (.iand, 1) := gq_18 db00c_60 eb_55
theorem d_X10_combine_107 : decode prog_12_method_7_code 107 = .ok (.ireturn, 1) := gq_19 db00c_60 eb_15
theorem d_X10_combine_108 : decode prog_12_method_7_code 108 = .ok (.iload_n 1, 1) := gq_20 db00c_60 eb_9
theorem d_X10_combine_109 : decode prog_12_method_7_code 109 = .ok (.iload_n 2, 1) := gq_21 db00c_60 eb_13
theorem d_X10_combine_110 : decode prog_12_method_7_code 110 = .ok (.ior, 1) := gq_22 db00c_60 eb_12
theorem d_X10_combine_111 : decode prog_12_method_7_code 111 = .ok (.ireturn, 1) := gq_23 db00c_60 eb_15
theorem d_X10_bounded_1 : decode prog_12_method_8_code 1 = .ok (.ldc2_w 67, 3) := by decide +kernel
theorem d_X10_bounded_4 : decode prog_12_method_8_code 4 = .ok (.lcmp, 1) := by decide +kernel
theorem d_X10_bounded_14 : decode prog_12_method_8_code 14 = .ok (.ldc2_w 70, 3) := by decide +kernel
theorem d_X10_bounded_17 : decode prog_12_method_8_code 17 = .ok (.lcmp, 1) := by decide +kernel
theorem d_X10_bounded_27 : decode prog_12_method_8_code 27 = .ok (.l2i, 1) := by decide +kernel
theorem db00c_61 : Pf_ prog_12_method_8_code [(0, [0x1e]), (5, [0x9e, 0x00, 0x08]), (8, [0x12, 0x45]), (10, [0xa7, 0x00, 0x12]), (13, [0x1e]), (18, [0x9c, 0x00, 0x08]), (21, [0x12, 0x48]), (23, [0xa7, 0x00, 0x05]), (26, [0x1e]), (28, [0xac])] := pf_ok prog_12_method_8_code _ 0 (by decide +kernel)
theorem d_X10_bounded_0 : decode prog_12_method_8_code 0 = .ok (.lload_n 0, 1) := gq_0 db00c_61 eb_573
theorem d_X10_bounded_5 : decode prog_12_method_8_code 5 = .ok (.ifCond .le 8, 3) := gq_1 db00c_61 eb_574
theorem d_X10_bounded_8 : decode prog_12_method_8_code 8 = .ok (.ldc 69, 2) := gq_2 db00c_61 eb_575
theorem d_X10_bounded_10 : decode prog_12_method_8_code 10 = .ok (.goto 18, 3) := gq_3 db00c_61 eb_155
theorem d_X10_bounded_13 : decode prog_12_method_8_code 13 = .ok (.lload_n 0, 1) := gq_4 db00c_61 eb_573
theorem d_X10_bounded_18 : decode prog_12_method_8_code 18 = .ok (.ifCond .ge 8, 3) := gq_5 db00c_61 eb_501
theorem d_X10_bounded_21 : decode prog_12_method_8_code 21 = .ok (.ldc 72, 2) := gq_6 db00c_61 eb_576
theorem d_X10_bounded_23 : decode prog_12_method_8_code 23 = .ok (.goto 5, 3) := gq_7 db00c_61 eb_89
theorem d_X10_bounded_26 : decode prog_12_method_8_code 26 = .ok (.lload_n 0, 1) := gq_8 db00c_61 eb_573
theorem d_X10_bounded_28 : decode prog_12_method_8_code 28 = .ok (.ireturn, 1) := gq_9 db00c_61 eb_15
theorem db00c_62 : Pf_ prog_1_method_1_code [(0, [0x2a]), (1, [0xb7, 0x00, 0x01]), (4, [0x2a]), (5, [0xbb, 0x00, 0x07]), (8, [0x59]), (9, [0xb7, 0x00, 0x09]), (12, [0xb5, 0x00, 0x0a]), (15, [0x2a]), (16, [0xbb, 0x00, 0x10]), (19, [0x59]), (20, [0xb7, 0x00, 0x12]), (23, [0xb5, 0x00, 0x13]), (26, [0x2a]), (27, [0xbb, 0x00, 0x17]), (30, [0x59]), (31, [0xb7, 0x00, 0x19]), (34, [0xb5, 0x00, 0x1a]), (37, [0x2a]), (38, [0xbb, 0x00, 0x1e]), (41, [0x59]), (42, [0xb7, 0x00, 0x20]), (45, [0xb5, 0x00, 0x21]), (48, [0x2a]), (49, [0xbb, 0x00, 0x1e])] := pf_ok prog_1_method_1_code _ 0 (by decide +kernel)
theorem d_X11_init_0 : decode prog_1_method_1_code 0 = .ok (.aload_n 0, 1) := gq_0 db00c_62 eb_0
theorem d_X11_init_1 : decode prog_1_method_1_code 1 = .ok (.invokespecial 1, 3) := gq_1 db00c_62 eb_577
theorem d_X11_init_4 : decode prog_1_method_1_code 4 = .ok (.aload_n 0, 1) := gq_2 db00c_62 eb_0
theorem d_X11_init_5 : decode prog_1_method_1_code 5 = .ok (.new 7, 3) := gq_3 db00c_62 eb_578
theorem d_X11_init_8 : decode prog_1_method_1_code 8 = .ok (.dup, 1) := gq_4 db00c_62 eb_46
theorem d_X11_init_9 : decode prog_1_method_1_code 9 = .ok (.invokespecial 9, 3) := gq_5 db00c_62 eb_579
theorem d_X11_init_12 : decode prog_1_method_1_code 12 = .ok (.putfield 10, 3) := gq_6 db00c_62 eb_580
theorem d_X11_init_15 : decode prog_1_method_1_code 15 = .ok (.aload_n 0, 1) := gq_7 db00c_62 eb_0
theorem d_X11_init_16 : decode prog_1_method_1_code 16 = .ok (.new 16, 3) := gq_8 db00c_62 eb_581
theorem d_X11_init_19 : decode prog_1_method_1_code 19 = .ok (.dup, 1) := gq_9 db00c_62 eb_46
theorem d_X11_init_20 : decode prog_1_method_1_code 20 = .ok (.invokespecial 18, 3) := gq_10 db00c_62 eb_582
theorem d_X11_init_23 : decode prog_1_method_1_code 23 = .ok (.putfield 19, 3) := gq_11 db00c_62 eb_583
theorem d_X11_init_26 : decode prog_1_method_1_code 26 = .ok (.aload_n 0, 1) := gq_12 db00c_62 eb_0
theorem d_X11_init_27 : decode prog_1_method_1_code 27 = .ok (.new 23, 3) := gq_13 db00c_62 eb_584
theorem d_X11_init_30 : decode prog_1_method_1_code 30 = .ok (.dup, 1) := gq_14 db00c_62 eb_46
theorem d_X11_init_31 : decode prog_1_method_1_code 31 = .ok (.invokespecial 25, 3) := gq_15 db00c_62 eb_585
theorem d_X11_init_34 : decode prog_1_method_1_code 34 = .ok (.putfield 26, 3) := gq_16 db00c_62 eb_198
theorem d_X11_init_37 : decode prog_1_method_1_code 37 = .ok (.aload_n 0, 1) := gq_17 db00c_62 eb_0
theorem d_X11_init_38 : decode prog_1_method_1_code 38 = .ok (.new 30, 3) := gq_18 db00c_62 eb_586
theorem d_X11_init_41 : decode prog_1_method_1_code 41 = .ok (.dup, 1) := gq_19 db00c_62 eb_46
theorem d_X11_init_42 : decode prog_1_method_1_code 42 = .ok (.invokespecial 32, 3) := gq_20 db00c_62 eb_587
theorem d_X11_init_45 : decode prog_1_method_1_code 45 = .ok (.putfield 33, 3) := gq_21 db00c_62 eb_100
theorem d_X11_init_48 : decode prog_1_method_1_code 48 = .ok (.aload_n 0, 1) := gq_22 db00c_62 eb_0
theorem d_X11_init_49 : decode prog_1_method_1_code 49 = .ok (.new 30, 3) := gq_23 db00c_62 eb_586
theorem d_X11_init_62 : decode prog_1_method_1_code 62 = .ok (.anewarray 40, 3) := by decide +kernel
theorem db00c_63 : Pf_ prog_1_method_1_code [(52, [0x59]), (53, [0xb7, 0x00, 0x20]), (56, [0xb5, 0x00, 0x25]), (59, [0x2a]), (60, [0x10, 0x0c]), (65, [0xb5, 0x00, 0x2a]), (68, [0x2a]), (69, [0xbb, 0x00, 0x2e]), (72, [0x59]), (73, [0xb7, 0x00, 0x30]), (76, [0xb5, 0x00, 0x31]), (79, [0x2a]), (80, [0xbb, 0x00, 0x35]), (83, [0x59]), (84, [0xb7, 0x00, 0x37]), (87, [0xb5, 0x00, 0x38]), (90, [0x2a]), (91, [0xbb, 0x00, 0x3c]), (94, [0x59]), (95, [0xb7, 0x00, 0x3e]), (98, [0xb5, 0x00, 0x3f]), (101, [0x2a]), (102, [0xbb, 0x00, 0x43]), (105, [0x59])] := pf_ok prog_1_method_1_code _ 52 (by decide +kernel)
theorem d_X11_init_52 : decode prog_1_method_1_code 52 = .ok (.dup, 1) := gq_0 db00c_63 eb_46
theorem d_X11_init_53 : decode prog_1_method_1_code 53 = .ok (.invokespecial 32, 3) := gq_1 db00c_63 eb_587
theorem d_X11_init_56 : decode prog_1_method_1_code 56 = .ok (.putfield 37, 3) := gq_2 db00c_63 eb_266
theorem d_X11_init_59 : decode prog_1_method_1_code 59 = .ok (.aload_n 0, 1) := gq_3 db00c_63 eb_0
theorem d_X11_init_60 : decode prog_1_method_1_code 60 = .ok (.bipush 12, 2) := gq_4 db00c_63 eb_4
theorem d_X11_init_65 : decode prog_1_method_1_code 65 = .ok (.putfield 42, 3) := gq_5 db00c_63 eb_104
theorem d_X11_init_68 : decode prog_1_method_1_code 68 = .ok (.aload_n 0, 1) := gq_6 db00c_63 eb_0
theorem d_X11_init_69 : decode prog_1_method_1_code 69 = .ok (.new 46, 3) := gq_7 db00c_63 eb_588
theorem d_X11_init_72 : decode prog_1_method_1_code 72 = .ok (.dup, 1) := gq_8 db00c_63 eb_46
theorem d_X11_init_73 : decode prog_1_method_1_code 73 = .ok (.invokespecial 48, 3) := gq_9 db00c_63 eb_589
theorem d_X11_init_76 : decode prog_1_method_1_code 76 = .ok (.putfield 49, 3) := gq_10 db00c_63 eb_270
theorem d_X11_init_79 : decode prog_1_method_1_code 79 = .ok (.aload_n 0, 1) := gq_11 db00c_63 eb_0
theorem d_X11_init_80 : decode prog_1_method_1_code 80 = .ok (.new 53, 3) := gq_12 db00c_63 eb_590
theorem d_X11_init_83 : decode prog_1_method_1_code 83 = .ok (.dup, 1) := gq_13 db00c_63 eb_46
theorem d_X11_init_84 : decode prog_1_method_1_code 84 = .ok (.invokespecial 55, 3) := gq_14 db00c_63 eb_591
theorem d_X11_init_87 : decode prog_1_method_1_code 87 = .ok (.putfield 56, 3) := gq_15 db00c_63 eb_454
theorem d_X11_init_90 : decode prog_1_method_1_code 90 = .ok (.aload_n 0, 1) := gq_16 db00c_63 eb_0
theorem d_X11_init_91 : decode prog_1_method_1_code 91 = .ok (.new 60, 3) := gq_17 db00c_63 eb_592
theorem d_X11_init_94 : decode prog_1_method_1_code 94 = .ok (.dup, 1) := gq_18 db00c_63 eb_46
theorem d_X11_init_95 : decode prog_1_method_1_code 95 = .ok (.invokespecial 62, 3) := gq_19 db00c_63 eb_593
theorem d_X11_init_98 : decode prog_1_method_1_code 98 = .ok (.putfield 63, 3) := gq_20 db00c_63 eb_286
theorem d_X11_init_101 : decode prog_1_method_1_code 101 = .ok (.aload_n 0, 1) := gq_21 db00c_63 eb_0
theorem d_X11_init_102 : decode prog_1_method_1_code 102 = .ok (.new 67, 3) := gq_22 db00c_63 eb_594
theorem d_X11_init_105 : decode prog_1_method_1_code 105 = .ok (.dup, 1) := gq_23 db00c_63 eb_46
theorem d_X11_init_136 : decode prog_1_method_1_code 136 = .ok (.newarray .long, 2) := by decide +kernel
theorem db00c_64 : Pf_ prog_1_method_1_code [(106, [0xb7, 0x00, 0x45]), (109, [0xb5, 0x00, 0x46]), (112, [0x2a]), (113, [0xbb, 0x00, 0x4a]), (116, [0x59]), (117, [0xb7, 0x00, 0x4c]), (120, [0xb5, 0x00, 0x4d]), (123, [0x2a]), (124, [0xbb, 0x00, 0x51]), (127, [0x59]), (128, [0xb7, 0x00, 0x53]), (131, [0xb5, 0x00, 0x54]), (134, [0x2a]), (135, [0x03]), (138, [0xb5, 0x00, 0x58]), (141, [0xb1])] := pf_ok prog_1_method_1_code _ 106 (by decide +kernel)
theorem d_X11_init_106 : decode prog_1_method_1_code 106 = .ok (.invokespecial 69, 3) := gq_0 db00c_64 eb_595
theorem d_X11_init_109 : decode prog_1_method_1_code 109 = .ok (.putfield 70, 3) := gq_1 db00c_64 eb_299
theorem d_X11_init_112 : decode prog_1_method_1_code 112 = .ok (.aload_n 0, 1) := gq_2 db00c_64 eb_0
theorem d_X11_init_113 : decode prog_1_method_1_code 113 = .ok (.new 74, 3) := gq_3 db00c_64 eb_596
theorem d_X11_init_116 : decode prog_1_method_1_code 116 = .ok (.dup, 1) := gq_4 db00c_64 eb_46
theorem d_X11_init_117 : decode prog_1_method_1_code 117 = .ok (.invokespecial 76, 3) := gq_5 db00c_64 eb_597
theorem d_X11_init_120 : decode prog_1_method_1_code 120 = .ok (.putfield 77, 3) := gq_6 db00c_64 eb_598
theorem d_X11_init_123 : decode prog_1_method_1_code 123 = .ok (.aload_n 0, 1) := gq_7 db00c_64 eb_0
theorem d_X11_init_124 : decode prog_1_method_1_code 124 = .ok (.new 81, 3) := gq_8 db00c_64 eb_599
theorem d_X11_init_127 : decode prog_1_method_1_code 127 = .ok (.dup, 1) := gq_9 db00c_64 eb_46
theorem d_X11_init_128 : decode prog_1_method_1_code 128 = .ok (.invokespecial 83, 3) := gq_10 db00c_64 eb_600
theorem d_X11_init_131 : decode prog_1_method_1_code 131 = .ok (.putfield 84, 3) := gq_11 db00c_64 eb_601
theorem d_X11_init_134 : decode prog_1_method_1_code 134 = .ok (.aload_n 0, 1) := gq_12 db00c_64 eb_0
theorem d_X11_init_135 : decode prog_1_method_1_code 135 = .ok (.iconst 0, 1) := gq_13 db00c_64 eb_21
theorem d_X11_init_138 : decode prog_1_method_1_code 138 = .ok (.putfield 88, 3) := gq_14 db00c_64 eb_602
theorem d_X11_init_141 : decode prog_1_method_1_code 141 = .ok (.return_, 1) := gq_15 db00c_64 eb_7
theorem db00c_65 : Pf_ prog_1_method_2_code [(0, [0x1a]), (1, [0x1b]), (2, [0xa1, 0x00, 0x0c]), (5, [0x1a]), (6, [0x1c]), (7, [0xa3, 0x00, 0x07]), (10, [0x04]), (11, [0xa7, 0x00, 0x04]), (14, [0x03]), (15, [0xac])] := pf_ok prog_1_method_2_code _ 0 (by decide +kernel)
theorem d_X11_within_0 : decode prog_1_method_2_code 0 = .ok (.iload_n 0, 1) := gq_0 db00c_65 eb_8
theorem d_X11_within_1 : decode prog_1_method_2_code 1 = .ok (.iload_n 1, 1) := gq_1 db00c_65 eb_9
theorem d_X11_within_2 : decode prog_1_method_2_code 2 = .ok (.if_icmp .lt 12, 3) := gq_2 db00c_65 eb_603
theorem d_X11_within_5 : decode prog_1_method_2_code 5 = .ok (.iload_n 0, 1) := gq_3 db00c_65 eb_8
theorem d_X11_within_6 : decode prog_1_method_2_code 6 = .ok (.iload_n 2, 1) := gq_4 db00c_65 eb_13
theorem d_X11_within_7 : decode prog_1_method_2_code 7 = .ok (.if_icmp .gt 7, 3) := gq_5 db00c_65 eb_113
theorem d_X11_within_10 : decode prog_1_method_2_code 10 = .ok (.iconst 1, 1) := gq_6 db00c_65 eb_19
theorem d_X11_within_11 : decode prog_1_method_2_code 11 = .ok (.goto 4, 3) := gq_7 db00c_65 eb_20
theorem d_X11_within_14 : decode prog_1_method_2_code 14 = .ok (.iconst 0, 1) := gq_8 db00c_65 eb_21
theorem d_X11_within_15 : decode prog_1_method_2_code 15 = .ok (.ireturn, 1) := gq_9 db00c_65 eb_15
theorem db00c_66 : Pf_ prog_1_method_3_code [(0, [0x1a]), (1, [0x9b, 0x00, 0x0d]), (4, [0x1a]), (5, [0x10, 0x10]), (7, [0xa2, 0x00, 0x07]), (10, [0x04]), (11, [0xa7, 0x00, 0x04]), (14, [0x03]), (15, [0xac])] := pf_ok prog_1_method_3_code _ 0 (by decide +kernel)
theorem d_X11_isPlace_0 : decode prog_1_method_3_code 0 = .ok (.iload_n 0, 1) := gq_0 db00c_66 eb_8
theorem d_X11_isPlace_1 : decode prog_1_method_3_code 1 = .ok (.ifCond .lt 13, 3) := gq_1 db00c_66 eb_604
theorem d_X11_isPlace_4 : decode prog_1_method_3_code 4 = .ok (.iload_n 0, 1) := gq_2 db00c_66 eb_8
theorem d_X11_isPlace_5 : decode prog_1_method_3_code 5 = .ok (.bipush 16, 2) := gq_3 db00c_66 eb_99
theorem d_X11_isPlace_7 : decode prog_1_method_3_code 7 = .ok (.if_icmp .ge 7, 3) := gq_4 db00c_66 eb_18
theorem d_X11_isPlace_10 : decode prog_1_method_3_code 10 = .ok (.iconst 1, 1) := gq_5 db00c_66 eb_19
theorem d_X11_isPlace_11 : decode prog_1_method_3_code 11 = .ok (.goto 4, 3) := gq_6 db00c_66 eb_20
theorem d_X11_isPlace_14 : decode prog_1_method_3_code 14 = .ok (.iconst 0, 1) := gq_7 db00c_66 eb_21
theorem d_X11_isPlace_15 : decode prog_1_method_3_code 15 = .ok (.ireturn, 1) := gq_8 db00c_66 eb_15
theorem db00c_67 : Pf_ prog_1_method_4_code [(0, [0x1b]), (1, [0x03]), (2, [0x2a]), (3, [0xb4, 0x00, 0x5c]), (6, [0xb8, 0x00, 0x60]), (9, [0xac])] := pf_ok prog_1_method_4_code _ 0 (by decide +kernel)
theorem d_X11_isKnown_0 : decode prog_1_method_4_code 0 = .ok (.iload_n 1, 1) := gq_0 db00c_67 eb_9
theorem d_X11_isKnown_1 : decode prog_1_method_4_code 1 = .ok (.iconst 0, 1) := gq_1 db00c_67 eb_21
theorem d_X11_isKnown_2 : decode prog_1_method_4_code 2 = .ok (.aload_n 0, 1) := gq_2 db00c_67 eb_0
theorem d_X11_isKnown_3 : decode prog_1_method_4_code 3 = .ok (.getfield 92, 3) := gq_3 db00c_67 eb_605
theorem d_X11_isKnown_6 : decode prog_1_method_4_code 6 = .ok (.invokestatic 96, 3) := gq_4 db00c_67 eb_606
theorem d_X11_isKnown_9 : decode prog_1_method_4_code 9 = .ok (.ireturn, 1) := gq_5 db00c_67 eb_15
theorem db00c_68 : Pf_ prog_1_method_5_code [(0, [0x2a]), (1, [0x1b]), (2, [0xb6, 0x00, 0x64]), (5, [0xc6, 0x00, 0x07]), (8, [0x04]), (9, [0xa7, 0x00, 0x04]), (12, [0x03]), (13, [0xac])] := pf_ok prog_1_method_5_code _ 0 (by decide +kernel)
theorem d_X11_isMan_0 : decode prog_1_method_5_code 0 = .ok (.aload_n 0, 1) := gq_0 db00c_68 eb_0
theorem d_X11_isMan_1 : decode prog_1_method_5_code 1 = .ok (.iload_n 1, 1) := gq_1 db00c_68 eb_9
theorem d_X11_isMan_2 : decode prog_1_method_5_code 2 = .ok (.invokevirtual 100, 3) := gq_2 db00c_68 eb_166
theorem d_X11_isMan_5 : decode prog_1_method_5_code 5 = .ok (.ifnull 7, 3) := gq_3 db00c_68 eb_607
theorem d_X11_isMan_8 : decode prog_1_method_5_code 8 = .ok (.iconst 1, 1) := gq_4 db00c_68 eb_19
theorem d_X11_isMan_9 : decode prog_1_method_5_code 9 = .ok (.goto 4, 3) := gq_5 db00c_68 eb_20
theorem d_X11_isMan_12 : decode prog_1_method_5_code 12 = .ok (.iconst 0, 1) := gq_6 db00c_68 eb_21
theorem d_X11_isMan_13 : decode prog_1_method_5_code 13 = .ok (.ireturn, 1) := gq_7 db00c_68 eb_15
theorem d_X11_manOf_19 : decode prog_1_method_6_code 19 = .ok (.aaload, 1) := by decide +kernel
theorem d_X11_manOf_23 : decode prog_1_method_6_code 23 = .ok (.aconst_null, 1) := by decide +kernel
theorem d_X11_manOf_24 : decode prog_1_method_6_code 24 = .ok (.areturn, 1) := by decide +kernel
theorem db00c_69 : Pf_ prog_1_method_6_code [(0, [0x1b]), (1, [0x03]), (2, [0x2a]), (3, [0xb4, 0x00, 0x68]), (6, [0x04]), (7, [0x64]), (8, [0xb8, 0x00, 0x60]), (11, [0x99, 0x00, 0x0c]), (14, [0x2a]), (15, [0xb4, 0x00, 0x2a]), (18, [0x1b]), (20, [0xa7, 0x00, 0x04])] := pf_ok prog_1_method_6_code _ 0 (by decide +kernel)
theorem d_X11_manOf_0 : decode prog_1_method_6_code 0 = .ok (.iload_n 1, 1) := gq_0 db00c_69 eb_9
theorem d_X11_manOf_1 : decode prog_1_method_6_code 1 = .ok (.iconst 0, 1) := gq_1 db00c_69 eb_21
theorem d_X11_manOf_2 : decode prog_1_method_6_code 2 = .ok (.aload_n 0, 1) := gq_2 db00c_69 eb_0
theorem d_X11_manOf_3 : decode prog_1_method_6_code 3 = .ok (.getfield 104, 3) := gq_3 db00c_69 eb_389
theorem d_X11_manOf_6 : decode prog_1_method_6_code 6 = .ok (.iconst 1, 1) := gq_4 db00c_69 eb_19
theorem d_X11_manOf_7 : decode prog_1_method_6_code 7 = .ok (.isub, 1) := gq_5 db00c_69 eb_48
theorem d_X11_manOf_8 : decode prog_1_method_6_code 8 = .ok (.invokestatic 96, 3) := gq_6 db00c_69 eb_606
theorem d_X11_manOf_11 : decode prog_1_method_6_code 11 = .ok (.ifCond .eq 12, 3) := gq_7 db00c_69 eb_50
theorem d_X11_manOf_14 : decode prog_1_method_6_code 14 = .ok (.aload_n 0, 1) := gq_8 db00c_69 eb_0
theorem d_X11_manOf_15 : decode prog_1_method_6_code 15 = .ok (.getfield 42, 3) := gq_9 db00c_69 eb_177
theorem d_X11_manOf_18 : decode prog_1_method_6_code 18 = .ok (.iload_n 1, 1) := gq_10 db00c_69 eb_9
theorem d_X11_manOf_20 : decode prog_1_method_6_code 20 = .ok (.goto 4, 3) := gq_11 db00c_69 eb_20
theorem db00c_70 : Pf_ prog_1_method_7_code [(0, [0x1b]), (1, [0xb8, 0x00, 0x6b]), (4, [0x99, 0x00, 0x19]), (7, [0x1c]), (8, [0xb8, 0x00, 0x6b]), (11, [0x99, 0x00, 0x12]), (14, [0x1b]), (15, [0x1c]), (16, [0x9f, 0x00, 0x0d]), (19, [0x1d]), (20, [0x04]), (21, [0x10, 0x3c]), (23, [0xb8, 0x00, 0x60]), (26, [0x9a, 0x00, 0x05]), (29, [0x02]), (30, [0xac]), (31, [0x2a]), (32, [0xb4, 0x00, 0x0a]), (35, [0x1b]), (36, [0x1c]), (37, [0x1d]), (38, [0xb6, 0x00, 0x6f]), (41, [0xac])] := pf_ok prog_1_method_7_code _ 0 (by decide +kernel)
theorem d_X11_path_0 : decode prog_1_method_7_code 0 = .ok (.iload_n 1, 1) := gq_0 db00c_70 eb_9
theorem d_X11_path_1 : decode prog_1_method_7_code 1 = .ok (.invokestatic 107, 3) := gq_1 db00c_70 eb_608
theorem d_X11_path_4 : decode prog_1_method_7_code 4 = .ok (.ifCond .eq 25, 3) := gq_2 db00c_70 eb_293
theorem d_X11_path_7 : decode prog_1_method_7_code 7 = .ok (.iload_n 2, 1) := gq_3 db00c_70 eb_13
theorem d_X11_path_8 : decode prog_1_method_7_code 8 = .ok (.invokestatic 107, 3) := gq_4 db00c_70 eb_608
theorem d_X11_path_11 : decode prog_1_method_7_code 11 = .ok (.ifCond .eq 18, 3) := gq_5 db00c_70 eb_138
theorem d_X11_path_14 : decode prog_1_method_7_code 14 = .ok (.iload_n 1, 1) := gq_6 db00c_70 eb_9
theorem d_X11_path_15 : decode prog_1_method_7_code 15 = .ok (.iload_n 2, 1) := gq_7 db00c_70 eb_13
theorem d_X11_path_16 : decode prog_1_method_7_code 16 = .ok (.if_icmp .eq 13, 3) := gq_8 db00c_70 eb_147
theorem d_X11_path_19 : decode prog_1_method_7_code 19 = .ok (.iload_n 3, 1) := gq_9 db00c_70 eb_29
theorem d_X11_path_20 : decode prog_1_method_7_code 20 = .ok (.iconst 1, 1) := gq_10 db00c_70 eb_19
theorem d_X11_path_21 : decode prog_1_method_7_code 21 = .ok (.bipush 60, 2) := gq_11 db00c_70 eb_290
theorem d_X11_path_23 : decode prog_1_method_7_code 23 = .ok (.invokestatic 96, 3) := gq_12 db00c_70 eb_606
theorem d_X11_path_26 : decode prog_1_method_7_code 26 = .ok (.ifCond .ne 5, 3) := gq_13 db00c_70 eb_150
theorem d_X11_path_29 : decode prog_1_method_7_code 29 = .ok (.iconst (-1), 1) := gq_14 db00c_70 eb_26
theorem d_X11_path_30 : decode prog_1_method_7_code 30 = .ok (.ireturn, 1) := gq_15 db00c_70 eb_15
theorem d_X11_path_31 : decode prog_1_method_7_code 31 = .ok (.aload_n 0, 1) := gq_16 db00c_70 eb_0
theorem d_X11_path_32 : decode prog_1_method_7_code 32 = .ok (.getfield 10, 3) := gq_17 db00c_70 eb_609
theorem d_X11_path_35 : decode prog_1_method_7_code 35 = .ok (.iload_n 1, 1) := gq_18 db00c_70 eb_9
theorem d_X11_path_36 : decode prog_1_method_7_code 36 = .ok (.iload_n 2, 1) := gq_19 db00c_70 eb_13
theorem d_X11_path_37 : decode prog_1_method_7_code 37 = .ok (.iload_n 3, 1) := gq_20 db00c_70 eb_29
theorem d_X11_path_38 : decode prog_1_method_7_code 38 = .ok (.invokevirtual 111, 3) := gq_21 db00c_70 eb_377
theorem d_X11_path_41 : decode prog_1_method_7_code 41 = .ok (.ireturn, 1) := gq_22 db00c_70 eb_15
theorem db00c_71 : Pf_ prog_1_method_8_code [(0, [0x1b]), (1, [0xb8, 0x00, 0x6b]), (4, [0x99, 0x00, 0x16]), (7, [0x1c]), (8, [0xb8, 0x00, 0x6b]), (11, [0x99, 0x00, 0x0f]), (14, [0x2a]), (15, [0xb4, 0x00, 0x0a]), (18, [0x1b]), (19, [0x1c]), (20, [0xb6, 0x00, 0x73]), (23, [0xa7, 0x00, 0x04]), (26, [0x02]), (27, [0xac])] := pf_ok prog_1_method_8_code _ 0 (by decide +kernel)
theorem d_X11_walk_0 : decode prog_1_method_8_code 0 = .ok (.iload_n 1, 1) := gq_0 db00c_71 eb_9
theorem d_X11_walk_1 : decode prog_1_method_8_code 1 = .ok (.invokestatic 107, 3) := gq_1 db00c_71 eb_608
theorem d_X11_walk_4 : decode prog_1_method_8_code 4 = .ok (.ifCond .eq 22, 3) := gq_2 db00c_71 eb_416
theorem d_X11_walk_7 : decode prog_1_method_8_code 7 = .ok (.iload_n 2, 1) := gq_3 db00c_71 eb_13
theorem d_X11_walk_8 : decode prog_1_method_8_code 8 = .ok (.invokestatic 107, 3) := gq_4 db00c_71 eb_608
theorem d_X11_walk_11 : decode prog_1_method_8_code 11 = .ok (.ifCond .eq 15, 3) := gq_5 db00c_71 eb_294
theorem d_X11_walk_14 : decode prog_1_method_8_code 14 = .ok (.aload_n 0, 1) := gq_6 db00c_71 eb_0
theorem d_X11_walk_15 : decode prog_1_method_8_code 15 = .ok (.getfield 10, 3) := gq_7 db00c_71 eb_609
theorem d_X11_walk_18 : decode prog_1_method_8_code 18 = .ok (.iload_n 1, 1) := gq_8 db00c_71 eb_9
theorem d_X11_walk_19 : decode prog_1_method_8_code 19 = .ok (.iload_n 2, 1) := gq_9 db00c_71 eb_13
theorem d_X11_walk_20 : decode prog_1_method_8_code 20 = .ok (.invokevirtual 115, 3) := gq_10 db00c_71 eb_382
theorem d_X11_walk_23 : decode prog_1_method_8_code 23 = .ok (.goto 4, 3) := gq_11 db00c_71 eb_20
theorem d_X11_walk_26 : decode prog_1_method_8_code 26 = .ok (.iconst (-1), 1) := gq_12 db00c_71 eb_26
theorem d_X11_walk_27 : decode prog_1_method_8_code 27 = .ok (.ireturn, 1) := gq_13 db00c_71 eb_15
theorem db00c_72 : Pf_ prog_1_method_9_code [(0, [0x1b]), (1, [0x04]), (2, [0x07]), (3, [0xb8, 0x00, 0x60]), (6, [0x99, 0x00, 0x18]), (9, [0x1c]), (10, [0x03]), (11, [0x10, 0x28]), (13, [0xb8, 0x00, 0x60]), (16, [0x99, 0x00, 0x0e]), (19, [0x1d]), (20, [0xb8, 0x00, 0x6b]), (23, [0x99, 0x00, 0x07]), (26, [0x04]), (27, [0xa7, 0x00, 0x04]), (30, [0x03]), (31, [0x36, 0x04]), (33, [0x15, 0x04]), (35, [0x99, 0x00, 0x0c]), (38, [0x2a]), (39, [0xb4, 0x00, 0x68]), (42, [0x10, 0x0c]), (44, [0xa1, 0x00, 0x05]), (47, [0x02])] := pf_ok prog_1_method_9_code _ 0 (by decide +kernel)
theorem d_X11_constable_0 : decode prog_1_method_9_code 0 = .ok (.iload_n 1, 1) := gq_0 db00c_72 eb_9
theorem d_X11_constable_1 : decode prog_1_method_9_code 1 = .ok (.iconst 1, 1) := gq_1 db00c_72 eb_19
theorem d_X11_constable_2 : decode prog_1_method_9_code 2 = .ok (.iconst 4, 1) := gq_2 db00c_72 eb_291
theorem d_X11_constable_3 : decode prog_1_method_9_code 3 = .ok (.invokestatic 96, 3) := gq_3 db00c_72 eb_606
theorem d_X11_constable_6 : decode prog_1_method_9_code 6 = .ok (.ifCond .eq 24, 3) := gq_4 db00c_72 eb_213
theorem d_X11_constable_9 : decode prog_1_method_9_code 9 = .ok (.iload_n 2, 1) := gq_5 db00c_72 eb_13
theorem d_X11_constable_10 : decode prog_1_method_9_code 10 = .ok (.iconst 0, 1) := gq_6 db00c_72 eb_21
theorem d_X11_constable_11 : decode prog_1_method_9_code 11 = .ok (.bipush 40, 2) := gq_7 db00c_72 eb_314
theorem d_X11_constable_13 : decode prog_1_method_9_code 13 = .ok (.invokestatic 96, 3) := gq_8 db00c_72 eb_606
theorem d_X11_constable_16 : decode prog_1_method_9_code 16 = .ok (.ifCond .eq 14, 3) := gq_9 db00c_72 eb_174
theorem d_X11_constable_19 : decode prog_1_method_9_code 19 = .ok (.iload_n 3, 1) := gq_10 db00c_72 eb_29
theorem d_X11_constable_20 : decode prog_1_method_9_code 20 = .ok (.invokestatic 107, 3) := gq_11 db00c_72 eb_608
theorem d_X11_constable_23 : decode prog_1_method_9_code 23 = .ok (.ifCond .eq 7, 3) := gq_12 db00c_72 eb_123
theorem d_X11_constable_26 : decode prog_1_method_9_code 26 = .ok (.iconst 1, 1) := gq_13 db00c_72 eb_19
theorem d_X11_constable_27 : decode prog_1_method_9_code 27 = .ok (.goto 4, 3) := gq_14 db00c_72 eb_20
theorem d_X11_constable_30 : decode prog_1_method_9_code 30 = .ok (.iconst 0, 1) := gq_15 db00c_72 eb_21
theorem d_X11_constable_31 : decode prog_1_method_9_code 31 = .ok (.istore 4, 2) := gq_16 db00c_72 eb_133
theorem d_X11_constable_33 : decode prog_1_method_9_code 33 = .ok (.iload 4, 2) := gq_17 db00c_72 eb_76
theorem d_X11_constable_35 : decode prog_1_method_9_code 35 = .ok (.ifCond .eq 12, 3) := gq_18 db00c_72 eb_50
theorem d_X11_constable_38 : decode prog_1_method_9_code 38 = .ok (.aload_n 0, 1) := gq_19 db00c_72 eb_0
theorem d_X11_constable_39 : decode prog_1_method_9_code 39 = .ok (.getfield 104, 3) := gq_20 db00c_72 eb_389
theorem d_X11_constable_42 : decode prog_1_method_9_code 42 = .ok (.bipush 12, 2) := gq_21 db00c_72 eb_4
theorem d_X11_constable_44 : decode prog_1_method_9_code 44 = .ok (.if_icmp .lt 5, 3) := gq_22 db00c_72 eb_114
theorem d_X11_constable_47 : decode prog_1_method_9_code 47 = .ok (.iconst (-1), 1) := gq_23 db00c_72 eb_26
theorem d_X11_constable_63 : decode prog_1_method_9_code 63 = .ok (.astore 5, 2) := by decide +kernel
theorem d_X11_constable_75 : decode prog_1_method_9_code 75 = .ok (.aastore, 1) := by decide +kernel
theorem db00c_73 : Pf_ prog_1_method_9_code [(48, [0xac]), (49, [0xbb, 0x00, 0x28]), (52, [0x59]), (53, [0x2a]), (54, [0xb4, 0x00, 0x68]), (57, [0x1b]), (58, [0x1c]), (59, [0x1d]), (60, [0xb7, 0x00, 0x77]), (65, [0x2a]), (66, [0xb4, 0x00, 0x2a]), (69, [0x2a]), (70, [0xb4, 0x00, 0x68]), (73, [0x19, 0x05]), (76, [0x2a]), (77, [0x59]), (78, [0xb4, 0x00, 0x68]), (81, [0x04]), (82, [0x60]), (83, [0xb5, 0x00, 0x68]), (86, [0x2a]), (87, [0x19, 0x05]), (89, [0x1d]), (90, [0xb6, 0x00, 0x7a])] := pf_ok prog_1_method_9_code _ 48 (by decide +kernel)
theorem d_X11_constable_48 : decode prog_1_method_9_code 48 = .ok (.ireturn, 1) := gq_0 db00c_73 eb_15
theorem d_X11_constable_49 : decode prog_1_method_9_code 49 = .ok (.new 40, 3) := gq_1 db00c_73 eb_610
theorem d_X11_constable_52 : decode prog_1_method_9_code 52 = .ok (.dup, 1) := gq_2 db00c_73 eb_46
theorem d_X11_constable_53 : decode prog_1_method_9_code 53 = .ok (.aload_n 0, 1) := gq_3 db00c_73 eb_0
theorem d_X11_constable_54 : decode prog_1_method_9_code 54 = .ok (.getfield 104, 3) := gq_4 db00c_73 eb_389
theorem d_X11_constable_57 : decode prog_1_method_9_code 57 = .ok (.iload_n 1, 1) := gq_5 db00c_73 eb_9
theorem d_X11_constable_58 : decode prog_1_method_9_code 58 = .ok (.iload_n 2, 1) := gq_6 db00c_73 eb_13
theorem d_X11_constable_59 : decode prog_1_method_9_code 59 = .ok (.iload_n 3, 1) := gq_7 db00c_73 eb_29
theorem d_X11_constable_60 : decode prog_1_method_9_code 60 = .ok (.invokespecial 119, 3) := gq_8 db00c_73 eb_611
theorem d_X11_constable_65 : decode prog_1_method_9_code 65 = .ok (.aload_n 0, 1) := gq_9 db00c_73 eb_0
theorem d_X11_constable_66 : decode prog_1_method_9_code 66 = .ok (.getfield 42, 3) := gq_10 db00c_73 eb_177
theorem d_X11_constable_69 : decode prog_1_method_9_code 69 = .ok (.aload_n 0, 1) := gq_11 db00c_73 eb_0
theorem d_X11_constable_70 : decode prog_1_method_9_code 70 = .ok (.getfield 104, 3) := gq_12 db00c_73 eb_389
theorem d_X11_constable_73 : decode prog_1_method_9_code 73 = .ok (.aload 5, 2) := gq_13 db00c_73 eb_82
theorem d_X11_constable_76 : decode prog_1_method_9_code 76 = .ok (.aload_n 0, 1) := gq_14 db00c_73 eb_0
theorem d_X11_constable_77 : decode prog_1_method_9_code 77 = .ok (.dup, 1) := gq_15 db00c_73 eb_46
theorem d_X11_constable_78 : decode prog_1_method_9_code 78 = .ok (.getfield 104, 3) := gq_16 db00c_73 eb_389
theorem d_X11_constable_81 : decode prog_1_method_9_code 81 = .ok (.iconst 1, 1) := gq_17 db00c_73 eb_19
theorem d_X11_constable_82 : decode prog_1_method_9_code 82 = .ok (.iadd, 1) := gq_18 db00c_73 eb_35
theorem d_X11_constable_83 : decode prog_1_method_9_code 83 = .ok (.putfield 104, 3) := gq_19 db00c_73 eb_376
theorem d_X11_constable_86 : decode prog_1_method_9_code 86 = .ok (.aload_n 0, 1) := gq_20 db00c_73 eb_0
theorem d_X11_constable_87 : decode prog_1_method_9_code 87 = .ok (.aload 5, 2) := gq_21 db00c_73 eb_82
theorem d_X11_constable_89 : decode prog_1_method_9_code 89 = .ok (.iload_n 3, 1) := gq_22 db00c_73 eb_29
theorem d_X11_constable_90 : decode prog_1_method_9_code 90 = .ok (.invokevirtual 122, 3) := gq_23 db00c_73 eb_612
theorem db00c_74 : Pf_ prog_1_method_9_code [(93, [0x19, 0x05]), (95, [0xb4, 0x00, 0x7e]), (98, [0xac])] := pf_ok prog_1_method_9_code _ 93 (by decide +kernel)
theorem d_X11_constable_93 : decode prog_1_method_9_code 93 = .ok (.aload 5, 2) := gq_0 db00c_74 eb_82
theorem d_X11_constable_95 : decode prog_1_method_9_code 95 = .ok (.getfield 126, 3) := gq_1 db00c_74 eb_613
theorem d_X11_constable_98 : decode prog_1_method_9_code 98 = .ok (.ireturn, 1) := gq_2 db00c_74 eb_15
theorem db00c_75 : Pf_ prog_1_method_10_code [(0, [0x2a]), (1, [0xb4, 0x00, 0x13]), (4, [0x1b]), (5, [0x1c]), (6, [0x1d]), (7, [0x15, 0x04]), (9, [0x15, 0x05]), (11, [0xb6, 0x00, 0x81]), (14, [0xac])] := pf_ok prog_1_method_10_code _ 0 (by decide +kernel)
theorem d_X11_feed_0 : decode prog_1_method_10_code 0 = .ok (.aload_n 0, 1) := gq_0 db00c_75 eb_0
theorem d_X11_feed_1 : decode prog_1_method_10_code 1 = .ok (.getfield 19, 3) := gq_1 db00c_75 eb_614
theorem d_X11_feed_4 : decode prog_1_method_10_code 4 = .ok (.iload_n 1, 1) := gq_2 db00c_75 eb_9
theorem d_X11_feed_5 : decode prog_1_method_10_code 5 = .ok (.iload_n 2, 1) := gq_3 db00c_75 eb_13
theorem d_X11_feed_6 : decode prog_1_method_10_code 6 = .ok (.iload_n 3, 1) := gq_4 db00c_75 eb_29
theorem d_X11_feed_7 : decode prog_1_method_10_code 7 = .ok (.iload 4, 2) := gq_5 db00c_75 eb_76
theorem d_X11_feed_9 : decode prog_1_method_10_code 9 = .ok (.iload 5, 2) := gq_6 db00c_75 eb_125
theorem d_X11_feed_11 : decode prog_1_method_10_code 11 = .ok (.invokevirtual 129, 3) := gq_7 db00c_75 eb_615
theorem d_X11_feed_14 : decode prog_1_method_10_code 14 = .ok (.ireturn, 1) := gq_8 db00c_75 eb_15
theorem db00c_76 : Pf_ prog_1_method_11_code [(0, [0x2a]), (1, [0xb4, 0x00, 0x13]), (4, [0x1b]), (5, [0xb6, 0x00, 0x85]), (8, [0xac])] := pf_ok prog_1_method_11_code _ 0 (by decide +kernel)
theorem d_X11_end_0 : decode prog_1_method_11_code 0 = .ok (.aload_n 0, 1) := gq_0 db00c_76 eb_0
theorem d_X11_end_1 : decode prog_1_method_11_code 1 = .ok (.getfield 19, 3) := gq_1 db00c_76 eb_614
theorem d_X11_end_4 : decode prog_1_method_11_code 4 = .ok (.iload_n 1, 1) := gq_2 db00c_76 eb_9
theorem d_X11_end_5 : decode prog_1_method_11_code 5 = .ok (.invokevirtual 133, 3) := gq_3 db00c_76 eb_616
theorem d_X11_end_8 : decode prog_1_method_11_code 8 = .ok (.ireturn, 1) := gq_4 db00c_76 eb_15
theorem d_X11_fault_1 : decode prog_1_method_12_code 1 = .ok (.tableswitch 53 0 2 #[27, 35, 44], 27) := by decide +kernel
theorem db00c_77 : Pf_ prog_1_method_12_code [(0, [0x1b]), (28, [0x2a]), (29, [0xb4, 0x00, 0x13]), (32, [0xb6, 0x00, 0x88]), (35, [0xac]), (36, [0x2a]), (37, [0xb4, 0x00, 0x13]), (40, [0x04]), (41, [0xb6, 0x00, 0x8c]), (44, [0xac]), (45, [0x2a]), (46, [0xb4, 0x00, 0x13]), (49, [0x03]), (50, [0xb6, 0x00, 0x8c]), (53, [0xac]), (54, [0x10, 0xfe]), (56, [0xac])] := pf_ok prog_1_method_12_code _ 0 (by decide +kernel)
theorem d_X11_fault_0 : decode prog_1_method_12_code 0 = .ok (.iload_n 1, 1) := gq_0 db00c_77 eb_9
theorem d_X11_fault_28 : decode prog_1_method_12_code 28 = .ok (.aload_n 0, 1) := gq_1 db00c_77 eb_0
theorem d_X11_fault_29 : decode prog_1_method_12_code 29 = .ok (.getfield 19, 3) := gq_2 db00c_77 eb_614
theorem d_X11_fault_32 : decode prog_1_method_12_code 32 = .ok (.invokevirtual 136, 3) := gq_3 db00c_77 eb_617
theorem d_X11_fault_35 : decode prog_1_method_12_code 35 = .ok (.ireturn, 1) := gq_4 db00c_77 eb_15
theorem d_X11_fault_36 : decode prog_1_method_12_code 36 = .ok (.aload_n 0, 1) := gq_5 db00c_77 eb_0
theorem d_X11_fault_37 : decode prog_1_method_12_code 37 = .ok (.getfield 19, 3) := gq_6 db00c_77 eb_614
theorem d_X11_fault_40 : decode prog_1_method_12_code 40 = .ok (.iconst 1, 1) := gq_7 db00c_77 eb_19
theorem d_X11_fault_41 : decode prog_1_method_12_code 41 = .ok (.invokevirtual 140, 3) := gq_8 db00c_77 eb_402
theorem d_X11_fault_44 : decode prog_1_method_12_code 44 = .ok (.ireturn, 1) := gq_9 db00c_77 eb_15
theorem d_X11_fault_45 : decode prog_1_method_12_code 45 = .ok (.aload_n 0, 1) := gq_10 db00c_77 eb_0
theorem d_X11_fault_46 : decode prog_1_method_12_code 46 = .ok (.getfield 19, 3) := gq_11 db00c_77 eb_614
theorem d_X11_fault_49 : decode prog_1_method_12_code 49 = .ok (.iconst 0, 1) := gq_12 db00c_77 eb_21
theorem d_X11_fault_50 : decode prog_1_method_12_code 50 = .ok (.invokevirtual 140, 3) := gq_13 db00c_77 eb_402
theorem d_X11_fault_53 : decode prog_1_method_12_code 53 = .ok (.ireturn, 1) := gq_14 db00c_77 eb_15
theorem d_X11_fault_54 : decode prog_1_method_12_code 54 = .ok (.bipush (-2), 2) := gq_15 db00c_77 eb_618
theorem d_X11_fault_56 : decode prog_1_method_12_code 56 = .ok (.ireturn, 1) := gq_16 db00c_77 eb_15
theorem db00c_78 : Pf_ prog_1_method_13_code [(0, [0x2a]), (1, [0xb4, 0x00, 0x13]), (4, [0xb6, 0x00, 0x88]), (7, [0x02]), (8, [0x9f, 0x00, 0x05]), (11, [0x02]), (12, [0xac]), (13, [0x2a]), (14, [0xb4, 0x00, 0x1a]), (17, [0x2a]), (18, [0xb4, 0x00, 0x13]), (21, [0xb6, 0x00, 0x90]), (24, [0x3c]), (25, [0x1b]), (26, [0x02]), (27, [0x9f, 0x00, 0x0c]), (30, [0x2a]), (31, [0xb4, 0x00, 0x13]), (34, [0x03]), (35, [0xb6, 0x00, 0x85]), (38, [0x57]), (39, [0x1b]), (40, [0xac])] := pf_ok prog_1_method_13_code _ 0 (by decide +kernel)
theorem d_X11_beat_0 : decode prog_1_method_13_code 0 = .ok (.aload_n 0, 1) := gq_0 db00c_78 eb_0
theorem d_X11_beat_1 : decode prog_1_method_13_code 1 = .ok (.getfield 19, 3) := gq_1 db00c_78 eb_614
theorem d_X11_beat_4 : decode prog_1_method_13_code 4 = .ok (.invokevirtual 136, 3) := gq_2 db00c_78 eb_617
theorem d_X11_beat_7 : decode prog_1_method_13_code 7 = .ok (.iconst (-1), 1) := gq_3 db00c_78 eb_26
theorem d_X11_beat_8 : decode prog_1_method_13_code 8 = .ok (.if_icmp .eq 5, 3) := gq_4 db00c_78 eb_120
theorem d_X11_beat_11 : decode prog_1_method_13_code 11 = .ok (.iconst (-1), 1) := gq_5 db00c_78 eb_26
theorem d_X11_beat_12 : decode prog_1_method_13_code 12 = .ok (.ireturn, 1) := gq_6 db00c_78 eb_15
theorem d_X11_beat_13 : decode prog_1_method_13_code 13 = .ok (.aload_n 0, 1) := gq_7 db00c_78 eb_0
theorem d_X11_beat_14 : decode prog_1_method_13_code 14 = .ok (.getfield 26, 3) := gq_8 db00c_78 eb_226
theorem d_X11_beat_17 : decode prog_1_method_13_code 17 = .ok (.aload_n 0, 1) := gq_9 db00c_78 eb_0
theorem d_X11_beat_18 : decode prog_1_method_13_code 18 = .ok (.getfield 19, 3) := gq_10 db00c_78 eb_614
theorem d_X11_beat_21 : decode prog_1_method_13_code 21 = .ok (.invokevirtual 144, 3) := gq_11 db00c_78 eb_619
theorem d_X11_beat_24 : decode prog_1_method_13_code 24 = .ok (.istore_n 1, 1) := gq_12 db00c_78 eb_222
theorem d_X11_beat_25 : decode prog_1_method_13_code 25 = .ok (.iload_n 1, 1) := gq_13 db00c_78 eb_9
theorem d_X11_beat_26 : decode prog_1_method_13_code 26 = .ok (.iconst (-1), 1) := gq_14 db00c_78 eb_26
theorem d_X11_beat_27 : decode prog_1_method_13_code 27 = .ok (.if_icmp .eq 12, 3) := gq_15 db00c_78 eb_531
theorem d_X11_beat_30 : decode prog_1_method_13_code 30 = .ok (.aload_n 0, 1) := gq_16 db00c_78 eb_0
theorem d_X11_beat_31 : decode prog_1_method_13_code 31 = .ok (.getfield 19, 3) := gq_17 db00c_78 eb_614
theorem d_X11_beat_34 : decode prog_1_method_13_code 34 = .ok (.iconst 0, 1) := gq_18 db00c_78 eb_21
theorem d_X11_beat_35 : decode prog_1_method_13_code 35 = .ok (.invokevirtual 133, 3) := gq_19 db00c_78 eb_616
theorem d_X11_beat_38 : decode prog_1_method_13_code 38 = .ok (.pop, 1) := gq_20 db00c_78 eb_466
theorem d_X11_beat_39 : decode prog_1_method_13_code 39 = .ok (.iload_n 1, 1) := gq_21 db00c_78 eb_9
theorem d_X11_beat_40 : decode prog_1_method_13_code 40 = .ok (.ireturn, 1) := gq_22 db00c_78 eb_15
theorem d_X11_beaten_14 : decode prog_1_method_14_code 14 = .ok (.lookupswitch 44 #[(0, 26), (1, 35)], 26) := by decide +kernel
theorem db00c_79 : Pf_ prog_1_method_14_code [(0, [0x2a]), (1, [0xb4, 0x00, 0x1a]), (4, [0x1b]), (5, [0xb6, 0x00, 0x94]), (8, [0x9a, 0x00, 0x05]), (11, [0x02]), (12, [0xac]), (13, [0x1c]), (40, [0x2a]), (41, [0xb4, 0x00, 0x1a]), (44, [0x1b]), (45, [0xb6, 0x00, 0x97]), (48, [0xac]), (49, [0x2a]), (50, [0xb4, 0x00, 0x1a]), (53, [0x1b]), (54, [0xb6, 0x00, 0x9b]), (57, [0xac]), (58, [0x02]), (59, [0xac])] := pf_ok prog_1_method_14_code _ 0 (by decide +kernel)
theorem d_X11_beaten_0 : decode prog_1_method_14_code 0 = .ok (.aload_n 0, 1) := gq_0 db00c_79 eb_0
theorem d_X11_beaten_1 : decode prog_1_method_14_code 1 = .ok (.getfield 26, 3) := gq_1 db00c_79 eb_226
theorem d_X11_beaten_4 : decode prog_1_method_14_code 4 = .ok (.iload_n 1, 1) := gq_2 db00c_79 eb_9
theorem d_X11_beaten_5 : decode prog_1_method_14_code 5 = .ok (.invokevirtual 148, 3) := gq_3 db00c_79 eb_620
theorem d_X11_beaten_8 : decode prog_1_method_14_code 8 = .ok (.ifCond .ne 5, 3) := gq_4 db00c_79 eb_150
theorem d_X11_beaten_11 : decode prog_1_method_14_code 11 = .ok (.iconst (-1), 1) := gq_5 db00c_79 eb_26
theorem d_X11_beaten_12 : decode prog_1_method_14_code 12 = .ok (.ireturn, 1) := gq_6 db00c_79 eb_15
theorem d_X11_beaten_13 : decode prog_1_method_14_code 13 = .ok (.iload_n 2, 1) := gq_7 db00c_79 eb_13
theorem d_X11_beaten_40 : decode prog_1_method_14_code 40 = .ok (.aload_n 0, 1) := gq_8 db00c_79 eb_0
theorem d_X11_beaten_41 : decode prog_1_method_14_code 41 = .ok (.getfield 26, 3) := gq_9 db00c_79 eb_226
theorem d_X11_beaten_44 : decode prog_1_method_14_code 44 = .ok (.iload_n 1, 1) := gq_10 db00c_79 eb_9
theorem d_X11_beaten_45 : decode prog_1_method_14_code 45 = .ok (.invokevirtual 151, 3) := gq_11 db00c_79 eb_510
theorem d_X11_beaten_48 : decode prog_1_method_14_code 48 = .ok (.ireturn, 1) := gq_12 db00c_79 eb_15
theorem d_X11_beaten_49 : decode prog_1_method_14_code 49 = .ok (.aload_n 0, 1) := gq_13 db00c_79 eb_0
theorem d_X11_beaten_50 : decode prog_1_method_14_code 50 = .ok (.getfield 26, 3) := gq_14 db00c_79 eb_226
theorem d_X11_beaten_53 : decode prog_1_method_14_code 53 = .ok (.iload_n 1, 1) := gq_15 db00c_79 eb_9
theorem d_X11_beaten_54 : decode prog_1_method_14_code 54 = .ok (.invokevirtual 155, 3) := gq_16 db00c_79 eb_621
theorem d_X11_beaten_57 : decode prog_1_method_14_code 57 = .ok (.ireturn, 1) := gq_17 db00c_79 eb_15
theorem d_X11_beaten_58 : decode prog_1_method_14_code 58 = .ok (.iconst (-1), 1) := gq_18 db00c_79 eb_26
theorem d_X11_beaten_59 : decode prog_1_method_14_code 59 = .ok (.ireturn, 1) := gq_19 db00c_79 eb_15
theorem d_X11_begin_5 : decode prog_1_method_15_code 5 = .ok (.astore_n 3, 1) := by decide +kernel
theorem db00c_80 : Pf_ prog_1_method_15_code [(0, [0x2a]), (1, [0x1b]), (2, [0xb6, 0x00, 0x64]), (6, [0x2d]), (7, [0xc6, 0x00, 0x27]), (10, [0x2a]), (11, [0xb4, 0x00, 0x1a]), (14, [0x1c]), (15, [0xb6, 0x00, 0x94]), (18, [0x99, 0x00, 0x1c]), (21, [0x2d]), (22, [0xb4, 0x00, 0x9e]), (25, [0x9a, 0x00, 0x15]), (28, [0x2a]), (29, [0xb4, 0x00, 0x31]), (32, [0x2a]), (33, [0xb4, 0x00, 0x1a]), (36, [0x1c]), (37, [0xb6, 0x00, 0x9b]), (40, [0xb6, 0x00, 0xa1]), (43, [0x9a, 0x00, 0x05]), (46, [0x03]), (47, [0xac]), (48, [0x2d])] := pf_ok prog_1_method_15_code _ 0 (by decide +kernel)
theorem d_X11_begin_0 : decode prog_1_method_15_code 0 = .ok (.aload_n 0, 1) := gq_0 db00c_80 eb_0
theorem d_X11_begin_1 : decode prog_1_method_15_code 1 = .ok (.iload_n 1, 1) := gq_1 db00c_80 eb_9
theorem d_X11_begin_2 : decode prog_1_method_15_code 2 = .ok (.invokevirtual 100, 3) := gq_2 db00c_80 eb_166
theorem d_X11_begin_6 : decode prog_1_method_15_code 6 = .ok (.aload_n 3, 1) := gq_3 db00c_80 eb_312
theorem d_X11_begin_7 : decode prog_1_method_15_code 7 = .ok (.ifnull 39, 3) := gq_4 db00c_80 eb_622
theorem d_X11_begin_10 : decode prog_1_method_15_code 10 = .ok (.aload_n 0, 1) := gq_5 db00c_80 eb_0
theorem d_X11_begin_11 : decode prog_1_method_15_code 11 = .ok (.getfield 26, 3) := gq_6 db00c_80 eb_226
theorem d_X11_begin_14 : decode prog_1_method_15_code 14 = .ok (.iload_n 2, 1) := gq_7 db00c_80 eb_13
theorem d_X11_begin_15 : decode prog_1_method_15_code 15 = .ok (.invokevirtual 148, 3) := gq_8 db00c_80 eb_620
theorem d_X11_begin_18 : decode prog_1_method_15_code 18 = .ok (.ifCond .eq 28, 3) := gq_9 db00c_80 eb_623
theorem d_X11_begin_21 : decode prog_1_method_15_code 21 = .ok (.aload_n 3, 1) := gq_10 db00c_80 eb_312
theorem d_X11_begin_22 : decode prog_1_method_15_code 22 = .ok (.getfield 158, 3) := gq_11 db00c_80 eb_624
theorem d_X11_begin_25 : decode prog_1_method_15_code 25 = .ok (.ifCond .ne 21, 3) := gq_12 db00c_80 eb_230
theorem d_X11_begin_28 : decode prog_1_method_15_code 28 = .ok (.aload_n 0, 1) := gq_13 db00c_80 eb_0
theorem d_X11_begin_29 : decode prog_1_method_15_code 29 = .ok (.getfield 49, 3) := gq_14 db00c_80 eb_285
theorem d_X11_begin_32 : decode prog_1_method_15_code 32 = .ok (.aload_n 0, 1) := gq_15 db00c_80 eb_0
theorem d_X11_begin_33 : decode prog_1_method_15_code 33 = .ok (.getfield 26, 3) := gq_16 db00c_80 eb_226
theorem d_X11_begin_36 : decode prog_1_method_15_code 36 = .ok (.iload_n 2, 1) := gq_17 db00c_80 eb_13
theorem d_X11_begin_37 : decode prog_1_method_15_code 37 = .ok (.invokevirtual 155, 3) := gq_18 db00c_80 eb_621
theorem d_X11_begin_40 : decode prog_1_method_15_code 40 = .ok (.invokevirtual 161, 3) := gq_19 db00c_80 eb_625
theorem d_X11_begin_43 : decode prog_1_method_15_code 43 = .ok (.ifCond .ne 5, 3) := gq_20 db00c_80 eb_150
theorem d_X11_begin_46 : decode prog_1_method_15_code 46 = .ok (.iconst 0, 1) := gq_21 db00c_80 eb_21
theorem d_X11_begin_47 : decode prog_1_method_15_code 47 = .ok (.ireturn, 1) := gq_22 db00c_80 eb_15
theorem d_X11_begin_48 : decode prog_1_method_15_code 48 = .ok (.aload_n 3, 1) := gq_23 db00c_80 eb_312
theorem db00c_81 : Pf_ prog_1_method_15_code [(49, [0x04]), (50, [0xb5, 0x00, 0x9e]), (53, [0x2d]), (54, [0x1c]), (55, [0xb5, 0x00, 0xa4]), (58, [0x2d]), (59, [0x03]), (60, [0xb5, 0x00, 0xa7]), (63, [0x2d]), (64, [0x2a]), (65, [0xb4, 0x00, 0x5c]), (68, [0xb5, 0x00, 0xaa]), (71, [0x2d]), (72, [0x2a]), (73, [0xb4, 0x00, 0x31]), (76, [0xb4, 0x00, 0xad]), (79, [0xb5, 0x00, 0xb0]), (82, [0x2a]), (83, [0x2d]), (84, [0xb6, 0x00, 0xb3]), (87, [0x2d]), (88, [0x2a]), (89, [0xb4, 0x00, 0x31]), (92, [0xb4, 0x00, 0xad])] := pf_ok prog_1_method_15_code _ 49 (by decide +kernel)
theorem d_X11_begin_49 : decode prog_1_method_15_code 49 = .ok (.iconst 1, 1) := gq_0 db00c_81 eb_19
theorem d_X11_begin_50 : decode prog_1_method_15_code 50 = .ok (.putfield 158, 3) := gq_1 db00c_81 eb_626
theorem d_X11_begin_53 : decode prog_1_method_15_code 53 = .ok (.aload_n 3, 1) := gq_2 db00c_81 eb_312
theorem d_X11_begin_54 : decode prog_1_method_15_code 54 = .ok (.iload_n 2, 1) := gq_3 db00c_81 eb_13
theorem d_X11_begin_55 : decode prog_1_method_15_code 55 = .ok (.putfield 164, 3) := gq_4 db00c_81 eb_627
theorem d_X11_begin_58 : decode prog_1_method_15_code 58 = .ok (.aload_n 3, 1) := gq_5 db00c_81 eb_312
theorem d_X11_begin_59 : decode prog_1_method_15_code 59 = .ok (.iconst 0, 1) := gq_6 db00c_81 eb_21
theorem d_X11_begin_60 : decode prog_1_method_15_code 60 = .ok (.putfield 167, 3) := gq_7 db00c_81 eb_628
theorem d_X11_begin_63 : decode prog_1_method_15_code 63 = .ok (.aload_n 3, 1) := gq_8 db00c_81 eb_312
theorem d_X11_begin_64 : decode prog_1_method_15_code 64 = .ok (.aload_n 0, 1) := gq_9 db00c_81 eb_0
theorem d_X11_begin_65 : decode prog_1_method_15_code 65 = .ok (.getfield 92, 3) := gq_10 db00c_81 eb_605
theorem d_X11_begin_68 : decode prog_1_method_15_code 68 = .ok (.putfield 170, 3) := gq_11 db00c_81 eb_629
theorem d_X11_begin_71 : decode prog_1_method_15_code 71 = .ok (.aload_n 3, 1) := gq_12 db00c_81 eb_312
theorem d_X11_begin_72 : decode prog_1_method_15_code 72 = .ok (.aload_n 0, 1) := gq_13 db00c_81 eb_0
theorem d_X11_begin_73 : decode prog_1_method_15_code 73 = .ok (.getfield 49, 3) := gq_14 db00c_81 eb_285
theorem d_X11_begin_76 : decode prog_1_method_15_code 76 = .ok (.getfield 173, 3) := gq_15 db00c_81 eb_630
theorem d_X11_begin_79 : decode prog_1_method_15_code 79 = .ok (.putfield 176, 3) := gq_16 db00c_81 eb_631
theorem d_X11_begin_82 : decode prog_1_method_15_code 82 = .ok (.aload_n 0, 1) := gq_17 db00c_81 eb_0
theorem d_X11_begin_83 : decode prog_1_method_15_code 83 = .ok (.aload_n 3, 1) := gq_18 db00c_81 eb_312
theorem d_X11_begin_84 : decode prog_1_method_15_code 84 = .ok (.invokevirtual 179, 3) := gq_19 db00c_81 eb_632
theorem d_X11_begin_87 : decode prog_1_method_15_code 87 = .ok (.aload_n 3, 1) := gq_20 db00c_81 eb_312
theorem d_X11_begin_88 : decode prog_1_method_15_code 88 = .ok (.aload_n 0, 1) := gq_21 db00c_81 eb_0
theorem d_X11_begin_89 : decode prog_1_method_15_code 89 = .ok (.getfield 49, 3) := gq_22 db00c_81 eb_285
theorem d_X11_begin_92 : decode prog_1_method_15_code 92 = .ok (.getfield 173, 3) := gq_23 db00c_81 eb_630
theorem db00c_82 : Pf_ prog_1_method_15_code [(95, [0xb5, 0x00, 0xb7]), (98, [0x2a]), (99, [0x2d]), (100, [0xb6, 0x00, 0xba]), (103, [0x04]), (104, [0xac])] := pf_ok prog_1_method_15_code _ 95 (by decide +kernel)
theorem d_X11_begin_95 : decode prog_1_method_15_code 95 = .ok (.putfield 183, 3) := gq_0 db00c_82 eb_633
theorem d_X11_begin_98 : decode prog_1_method_15_code 98 = .ok (.aload_n 0, 1) := gq_1 db00c_82 eb_0
theorem d_X11_begin_99 : decode prog_1_method_15_code 99 = .ok (.aload_n 3, 1) := gq_2 db00c_82 eb_312
theorem d_X11_begin_100 : decode prog_1_method_15_code 100 = .ok (.invokevirtual 186, 3) := gq_3 db00c_82 eb_634
theorem d_X11_begin_103 : decode prog_1_method_15_code 103 = .ok (.iconst 1, 1) := gq_4 db00c_82 eb_19
theorem d_X11_begin_104 : decode prog_1_method_15_code 104 = .ok (.ireturn, 1) := gq_5 db00c_82 eb_15
theorem db00c_83 : Pf_ prog_1_method_16_code [(0, [0x2a]), (1, [0xb4, 0x00, 0x1a]), (4, [0x2b]), (5, [0xb4, 0x00, 0xa4]), (8, [0xb6, 0x00, 0x97]), (11, [0x3d]), (12, [0x03]), (13, [0x3e]), (14, [0x1d]), (15, [0x1c]), (16, [0xa2, 0x00, 0x3e]), (19, [0x2a]), (20, [0xb4, 0x00, 0x1a]), (23, [0x2b]), (24, [0xb4, 0x00, 0xa4]), (27, [0x1d]), (28, [0xb6, 0x00, 0xbd]), (31, [0x36, 0x04]), (33, [0x15, 0x04]), (35, [0xb8, 0x00, 0xc0]), (38, [0x05]), (39, [0xa0, 0x00, 0x21]), (42, [0x2a]), (43, [0xb4, 0x00, 0x31])] := pf_ok prog_1_method_16_code _ 0 (by decide +kernel)
theorem d_X11_writeRows_0 : decode prog_1_method_16_code 0 = .ok (.aload_n 0, 1) := gq_0 db00c_83 eb_0
theorem d_X11_writeRows_1 : decode prog_1_method_16_code 1 = .ok (.getfield 26, 3) := gq_1 db00c_83 eb_226
theorem d_X11_writeRows_4 : decode prog_1_method_16_code 4 = .ok (.aload_n 1, 1) := gq_2 db00c_83 eb_23
theorem d_X11_writeRows_5 : decode prog_1_method_16_code 5 = .ok (.getfield 164, 3) := gq_3 db00c_83 eb_635
theorem d_X11_writeRows_8 : decode prog_1_method_16_code 8 = .ok (.invokevirtual 151, 3) := gq_4 db00c_83 eb_510
theorem d_X11_writeRows_11 : decode prog_1_method_16_code 11 = .ok (.istore_n 2, 1) := gq_5 db00c_83 eb_27
theorem d_X11_writeRows_12 : decode prog_1_method_16_code 12 = .ok (.iconst 0, 1) := gq_6 db00c_83 eb_21
theorem d_X11_writeRows_13 : decode prog_1_method_16_code 13 = .ok (.istore_n 3, 1) := gq_7 db00c_83 eb_28
theorem d_X11_writeRows_14 : decode prog_1_method_16_code 14 = .ok (.iload_n 3, 1) := gq_8 db00c_83 eb_29
theorem d_X11_writeRows_15 : decode prog_1_method_16_code 15 = .ok (.iload_n 2, 1) := gq_9 db00c_83 eb_13
theorem d_X11_writeRows_16 : decode prog_1_method_16_code 16 = .ok (.if_icmp .ge 62, 3) := gq_10 db00c_83 eb_346
theorem d_X11_writeRows_19 : decode prog_1_method_16_code 19 = .ok (.aload_n 0, 1) := gq_11 db00c_83 eb_0
theorem d_X11_writeRows_20 : decode prog_1_method_16_code 20 = .ok (.getfield 26, 3) := gq_12 db00c_83 eb_226
theorem d_X11_writeRows_23 : decode prog_1_method_16_code 23 = .ok (.aload_n 1, 1) := gq_13 db00c_83 eb_23
theorem d_X11_writeRows_24 : decode prog_1_method_16_code 24 = .ok (.getfield 164, 3) := gq_14 db00c_83 eb_635
theorem d_X11_writeRows_27 : decode prog_1_method_16_code 27 = .ok (.iload_n 3, 1) := gq_15 db00c_83 eb_29
theorem d_X11_writeRows_28 : decode prog_1_method_16_code 28 = .ok (.invokevirtual 189, 3) := gq_16 db00c_83 eb_636
theorem d_X11_writeRows_31 : decode prog_1_method_16_code 31 = .ok (.istore 4, 2) := gq_17 db00c_83 eb_133
theorem d_X11_writeRows_33 : decode prog_1_method_16_code 33 = .ok (.iload 4, 2) := gq_18 db00c_83 eb_76
theorem d_X11_writeRows_35 : decode prog_1_method_16_code 35 = .ok (.invokestatic 192, 3) := gq_19 db00c_83 eb_637
theorem d_X11_writeRows_38 : decode prog_1_method_16_code 38 = .ok (.iconst 2, 1) := gq_20 db00c_83 eb_10
theorem d_X11_writeRows_39 : decode prog_1_method_16_code 39 = .ok (.if_icmp .ne 33, 3) := gq_21 db00c_83 eb_518
theorem d_X11_writeRows_42 : decode prog_1_method_16_code 42 = .ok (.aload_n 0, 1) := gq_22 db00c_83 eb_0
theorem d_X11_writeRows_43 : decode prog_1_method_16_code 43 = .ok (.getfield 49, 3) := gq_23 db00c_83 eb_285
theorem db00c_84 : Pf_ prog_1_method_16_code [(46, [0x2b]), (47, [0xb4, 0x00, 0x7e]), (50, [0x15, 0x04]), (52, [0xb8, 0x00, 0xc3]), (55, [0x2a]), (56, [0xb4, 0x00, 0x5c]), (59, [0x15, 0x04]), (61, [0xb8, 0x00, 0xc6]), (64, [0x60]), (65, [0x2a]), (66, [0xb4, 0x00, 0x5c]), (69, [0xb6, 0x00, 0xc9]), (72, [0x84, 0x03, 0x01]), (75, [0xa7, 0xff, 0xc3]), (78, [0xb1])] := pf_ok prog_1_method_16_code _ 46 (by decide +kernel)
theorem d_X11_writeRows_46 : decode prog_1_method_16_code 46 = .ok (.aload_n 1, 1) := gq_0 db00c_84 eb_23
theorem d_X11_writeRows_47 : decode prog_1_method_16_code 47 = .ok (.getfield 126, 3) := gq_1 db00c_84 eb_613
theorem d_X11_writeRows_50 : decode prog_1_method_16_code 50 = .ok (.iload 4, 2) := gq_2 db00c_84 eb_76
theorem d_X11_writeRows_52 : decode prog_1_method_16_code 52 = .ok (.invokestatic 195, 3) := gq_3 db00c_84 eb_638
theorem d_X11_writeRows_55 : decode prog_1_method_16_code 55 = .ok (.aload_n 0, 1) := gq_4 db00c_84 eb_0
theorem d_X11_writeRows_56 : decode prog_1_method_16_code 56 = .ok (.getfield 92, 3) := gq_5 db00c_84 eb_605
theorem d_X11_writeRows_59 : decode prog_1_method_16_code 59 = .ok (.iload 4, 2) := gq_6 db00c_84 eb_76
theorem d_X11_writeRows_61 : decode prog_1_method_16_code 61 = .ok (.invokestatic 198, 3) := gq_7 db00c_84 eb_639
theorem d_X11_writeRows_64 : decode prog_1_method_16_code 64 = .ok (.iadd, 1) := gq_8 db00c_84 eb_35
theorem d_X11_writeRows_65 : decode prog_1_method_16_code 65 = .ok (.aload_n 0, 1) := gq_9 db00c_84 eb_0
theorem d_X11_writeRows_66 : decode prog_1_method_16_code 66 = .ok (.getfield 92, 3) := gq_10 db00c_84 eb_605
theorem d_X11_writeRows_69 : decode prog_1_method_16_code 69 = .ok (.invokevirtual 201, 3) := gq_11 db00c_84 eb_640
theorem d_X11_writeRows_72 : decode prog_1_method_16_code 72 = .ok (.iinc 3 1, 3) := gq_12 db00c_84 eb_42
theorem d_X11_writeRows_75 : decode prog_1_method_16_code 75 = .ok (.goto (-61), 3) := gq_13 db00c_84 eb_641
theorem d_X11_writeRows_78 : decode prog_1_method_16_code 78 = .ok (.return_, 1) := gq_14 db00c_84 eb_7
theorem d_X11_draw_5 : decode prog_1_method_17_code 5 = .ok (.astore 4, 2) := by decide +kernel
theorem db00c_85 : Pf_ prog_1_method_17_code [(0, [0x2a]), (1, [0x1b]), (2, [0xb6, 0x00, 0x64]), (7, [0x19, 0x04]), (9, [0xc6, 0x00, 0x18]), (12, [0x1c]), (13, [0xb8, 0x00, 0x6b]), (16, [0x99, 0x00, 0x11]), (19, [0x1d]), (20, [0x2a]), (21, [0xb4, 0x00, 0x5c]), (24, [0x11, 0x75, 0x30]), (27, [0xb8, 0x00, 0x60]), (30, [0x9a, 0x00, 0x05]), (33, [0x03]), (34, [0xac]), (35, [0x2a]), (36, [0xb4, 0x00, 0x0a]), (39, [0x19, 0x04]), (41, [0xb4, 0x00, 0xcc]), (44, [0x1c]), (45, [0xb6, 0x00, 0x73]), (48, [0x02]), (49, [0x9f, 0x00, 0x15])] := pf_ok prog_1_method_17_code _ 0 (by decide +kernel)
theorem d_X11_draw_0 : decode prog_1_method_17_code 0 = .ok (.aload_n 0, 1) := gq_0 db00c_85 eb_0
theorem d_X11_draw_1 : decode prog_1_method_17_code 1 = .ok (.iload_n 1, 1) := gq_1 db00c_85 eb_9
theorem d_X11_draw_2 : decode prog_1_method_17_code 2 = .ok (.invokevirtual 100, 3) := gq_2 db00c_85 eb_166
theorem d_X11_draw_7 : decode prog_1_method_17_code 7 = .ok (.aload 4, 2) := gq_3 db00c_85 eb_355
theorem d_X11_draw_9 : decode prog_1_method_17_code 9 = .ok (.ifnull 24, 3) := gq_4 db00c_85 eb_642
theorem d_X11_draw_12 : decode prog_1_method_17_code 12 = .ok (.iload_n 2, 1) := gq_5 db00c_85 eb_13
theorem d_X11_draw_13 : decode prog_1_method_17_code 13 = .ok (.invokestatic 107, 3) := gq_6 db00c_85 eb_608
theorem d_X11_draw_16 : decode prog_1_method_17_code 16 = .ok (.ifCond .eq 17, 3) := gq_7 db00c_85 eb_112
theorem d_X11_draw_19 : decode prog_1_method_17_code 19 = .ok (.iload_n 3, 1) := gq_8 db00c_85 eb_29
theorem d_X11_draw_20 : decode prog_1_method_17_code 20 = .ok (.aload_n 0, 1) := gq_9 db00c_85 eb_0
theorem d_X11_draw_21 : decode prog_1_method_17_code 21 = .ok (.getfield 92, 3) := gq_10 db00c_85 eb_605
theorem d_X11_draw_24 : decode prog_1_method_17_code 24 = .ok (.sipush 30000, 3) := gq_11 db00c_85 eb_643
theorem d_X11_draw_27 : decode prog_1_method_17_code 27 = .ok (.invokestatic 96, 3) := gq_12 db00c_85 eb_606
theorem d_X11_draw_30 : decode prog_1_method_17_code 30 = .ok (.ifCond .ne 5, 3) := gq_13 db00c_85 eb_150
theorem d_X11_draw_33 : decode prog_1_method_17_code 33 = .ok (.iconst 0, 1) := gq_14 db00c_85 eb_21
theorem d_X11_draw_34 : decode prog_1_method_17_code 34 = .ok (.ireturn, 1) := gq_15 db00c_85 eb_15
theorem d_X11_draw_35 : decode prog_1_method_17_code 35 = .ok (.aload_n 0, 1) := gq_16 db00c_85 eb_0
theorem d_X11_draw_36 : decode prog_1_method_17_code 36 = .ok (.getfield 10, 3) := gq_17 db00c_85 eb_609
theorem d_X11_draw_39 : decode prog_1_method_17_code 39 = .ok (.aload 4, 2) := gq_18 db00c_85 eb_355
theorem d_X11_draw_41 : decode prog_1_method_17_code 41 = .ok (.getfield 204, 3) := gq_19 db00c_85 eb_644
theorem d_X11_draw_44 : decode prog_1_method_17_code 44 = .ok (.iload_n 2, 1) := gq_20 db00c_85 eb_13
theorem d_X11_draw_45 : decode prog_1_method_17_code 45 = .ok (.invokevirtual 115, 3) := gq_21 db00c_85 eb_382
theorem d_X11_draw_48 : decode prog_1_method_17_code 48 = .ok (.iconst (-1), 1) := gq_22 db00c_85 eb_26
theorem d_X11_draw_49 : decode prog_1_method_17_code 49 = .ok (.if_icmp .eq 21, 3) := gq_23 db00c_85 eb_645
theorem db00c_86 : Pf_ prog_1_method_17_code [(52, [0x19, 0x04]), (54, [0xb4, 0x00, 0x9e]), (57, [0x06]), (58, [0x9f, 0x00, 0x0c]), (61, [0x19, 0x04]), (63, [0xb4, 0x00, 0x9e]), (66, [0x07]), (67, [0xa0, 0x00, 0x05]), (70, [0x03]), (71, [0xac]), (72, [0x2a]), (73, [0x19, 0x04]), (75, [0x06]), (76, [0xb6, 0x00, 0xcf]), (79, [0x19, 0x04]), (81, [0x06]), (82, [0xb5, 0x00, 0x9e]), (85, [0x19, 0x04]), (87, [0x1c]), (88, [0xb5, 0x00, 0xd2]), (91, [0x19, 0x04]), (93, [0x1d]), (94, [0xb5, 0x00, 0xd5]), (97, [0x19, 0x04])] := pf_ok prog_1_method_17_code _ 52 (by decide +kernel)
theorem d_X11_draw_52 : decode prog_1_method_17_code 52 = .ok (.aload 4, 2) := gq_0 db00c_86 eb_355
theorem d_X11_draw_54 : decode prog_1_method_17_code 54 = .ok (.getfield 158, 3) := gq_1 db00c_86 eb_624
theorem d_X11_draw_57 : decode prog_1_method_17_code 57 = .ok (.iconst 3, 1) := gq_2 db00c_86 eb_54
theorem d_X11_draw_58 : decode prog_1_method_17_code 58 = .ok (.if_icmp .eq 12, 3) := gq_3 db00c_86 eb_531
theorem d_X11_draw_61 : decode prog_1_method_17_code 61 = .ok (.aload 4, 2) := gq_4 db00c_86 eb_355
theorem d_X11_draw_63 : decode prog_1_method_17_code 63 = .ok (.getfield 158, 3) := gq_5 db00c_86 eb_624
theorem d_X11_draw_66 : decode prog_1_method_17_code 66 = .ok (.iconst 4, 1) := gq_6 db00c_86 eb_291
theorem d_X11_draw_67 : decode prog_1_method_17_code 67 = .ok (.if_icmp .ne 5, 3) := gq_7 db00c_86 eb_479
theorem d_X11_draw_70 : decode prog_1_method_17_code 70 = .ok (.iconst 0, 1) := gq_8 db00c_86 eb_21
theorem d_X11_draw_71 : decode prog_1_method_17_code 71 = .ok (.ireturn, 1) := gq_9 db00c_86 eb_15
theorem d_X11_draw_72 : decode prog_1_method_17_code 72 = .ok (.aload_n 0, 1) := gq_10 db00c_86 eb_0
theorem d_X11_draw_73 : decode prog_1_method_17_code 73 = .ok (.aload 4, 2) := gq_11 db00c_86 eb_355
theorem d_X11_draw_75 : decode prog_1_method_17_code 75 = .ok (.iconst 3, 1) := gq_12 db00c_86 eb_54
theorem d_X11_draw_76 : decode prog_1_method_17_code 76 = .ok (.invokevirtual 207, 3) := gq_13 db00c_86 eb_646
theorem d_X11_draw_79 : decode prog_1_method_17_code 79 = .ok (.aload 4, 2) := gq_14 db00c_86 eb_355
theorem d_X11_draw_81 : decode prog_1_method_17_code 81 = .ok (.iconst 3, 1) := gq_15 db00c_86 eb_54
theorem d_X11_draw_82 : decode prog_1_method_17_code 82 = .ok (.putfield 158, 3) := gq_16 db00c_86 eb_626
theorem d_X11_draw_85 : decode prog_1_method_17_code 85 = .ok (.aload 4, 2) := gq_17 db00c_86 eb_355
theorem d_X11_draw_87 : decode prog_1_method_17_code 87 = .ok (.iload_n 2, 1) := gq_18 db00c_86 eb_13
theorem d_X11_draw_88 : decode prog_1_method_17_code 88 = .ok (.putfield 210, 3) := gq_19 db00c_86 eb_647
theorem d_X11_draw_91 : decode prog_1_method_17_code 91 = .ok (.aload 4, 2) := gq_20 db00c_86 eb_355
theorem d_X11_draw_93 : decode prog_1_method_17_code 93 = .ok (.iload_n 3, 1) := gq_21 db00c_86 eb_29
theorem d_X11_draw_94 : decode prog_1_method_17_code 94 = .ok (.putfield 213, 3) := gq_22 db00c_86 eb_648
theorem d_X11_draw_97 : decode prog_1_method_17_code 97 = .ok (.aload 4, 2) := gq_23 db00c_86 eb_355
theorem db00c_87 : Pf_ prog_1_method_17_code [(99, [0xb4, 0x00, 0xd8]), (102, [0x02]), (103, [0xa0, 0x00, 0x0f]), (106, [0x19, 0x04]), (108, [0x02]), (109, [0xb5, 0x00, 0xdb]), (112, [0x2a]), (113, [0x19, 0x04]), (115, [0xb6, 0x00, 0xde]), (118, [0x04]), (119, [0xac])] := pf_ok prog_1_method_17_code _ 99 (by decide +kernel)
theorem d_X11_draw_99 : decode prog_1_method_17_code 99 = .ok (.getfield 216, 3) := gq_0 db00c_87 eb_649
theorem d_X11_draw_102 : decode prog_1_method_17_code 102 = .ok (.iconst (-1), 1) := gq_1 db00c_87 eb_26
theorem d_X11_draw_103 : decode prog_1_method_17_code 103 = .ok (.if_icmp .ne 15, 3) := gq_2 db00c_87 eb_364
theorem d_X11_draw_106 : decode prog_1_method_17_code 106 = .ok (.aload 4, 2) := gq_3 db00c_87 eb_355
theorem d_X11_draw_108 : decode prog_1_method_17_code 108 = .ok (.iconst (-1), 1) := gq_4 db00c_87 eb_26
theorem d_X11_draw_109 : decode prog_1_method_17_code 109 = .ok (.putfield 219, 3) := gq_5 db00c_87 eb_650
theorem d_X11_draw_112 : decode prog_1_method_17_code 112 = .ok (.aload_n 0, 1) := gq_6 db00c_87 eb_0
theorem d_X11_draw_113 : decode prog_1_method_17_code 113 = .ok (.aload 4, 2) := gq_7 db00c_87 eb_355
theorem d_X11_draw_115 : decode prog_1_method_17_code 115 = .ok (.invokevirtual 222, 3) := gq_8 db00c_87 eb_651
theorem d_X11_draw_118 : decode prog_1_method_17_code 118 = .ok (.iconst 1, 1) := gq_9 db00c_87 eb_19
theorem d_X11_draw_119 : decode prog_1_method_17_code 119 = .ok (.ireturn, 1) := gq_10 db00c_87 eb_15
theorem d_X11_ill_5 : decode prog_1_method_18_code 5 = .ok (.astore_n 3, 1) := by decide +kernel
theorem db00c_88 : Pf_ prog_1_method_18_code [(0, [0x2a]), (1, [0x1b]), (2, [0xb6, 0x00, 0x64]), (6, [0x2d]), (7, [0xc6, 0x00, 0x14]), (10, [0x1c]), (11, [0x2d]), (12, [0xb4, 0x00, 0x9e]), (15, [0x07]), (16, [0xa0, 0x00, 0x07]), (19, [0x04]), (20, [0xa7, 0x00, 0x04]), (23, [0x03]), (24, [0xa0, 0x00, 0x05]), (27, [0x03]), (28, [0xac]), (29, [0x1c]), (30, [0x99, 0x00, 0x24]), (33, [0x2a]), (34, [0x2d]), (35, [0x07]), (36, [0xb6, 0x00, 0xcf]), (39, [0x2d]), (40, [0x07])] := pf_ok prog_1_method_18_code _ 0 (by decide +kernel)
theorem d_X11_ill_0 : decode prog_1_method_18_code 0 = .ok (.aload_n 0, 1) := gq_0 db00c_88 eb_0
theorem d_X11_ill_1 : decode prog_1_method_18_code 1 = .ok (.iload_n 1, 1) := gq_1 db00c_88 eb_9
theorem d_X11_ill_2 : decode prog_1_method_18_code 2 = .ok (.invokevirtual 100, 3) := gq_2 db00c_88 eb_166
theorem d_X11_ill_6 : decode prog_1_method_18_code 6 = .ok (.aload_n 3, 1) := gq_3 db00c_88 eb_312
theorem d_X11_ill_7 : decode prog_1_method_18_code 7 = .ok (.ifnull 20, 3) := gq_4 db00c_88 eb_652
theorem d_X11_ill_10 : decode prog_1_method_18_code 10 = .ok (.iload_n 2, 1) := gq_5 db00c_88 eb_13
theorem d_X11_ill_11 : decode prog_1_method_18_code 11 = .ok (.aload_n 3, 1) := gq_6 db00c_88 eb_312
theorem d_X11_ill_12 : decode prog_1_method_18_code 12 = .ok (.getfield 158, 3) := gq_7 db00c_88 eb_624
theorem d_X11_ill_15 : decode prog_1_method_18_code 15 = .ok (.iconst 4, 1) := gq_8 db00c_88 eb_291
theorem d_X11_ill_16 : decode prog_1_method_18_code 16 = .ok (.if_icmp .ne 7, 3) := gq_9 db00c_88 eb_135
theorem d_X11_ill_19 : decode prog_1_method_18_code 19 = .ok (.iconst 1, 1) := gq_10 db00c_88 eb_19
theorem d_X11_ill_20 : decode prog_1_method_18_code 20 = .ok (.goto 4, 3) := gq_11 db00c_88 eb_20
theorem d_X11_ill_23 : decode prog_1_method_18_code 23 = .ok (.iconst 0, 1) := gq_12 db00c_88 eb_21
theorem d_X11_ill_24 : decode prog_1_method_18_code 24 = .ok (.if_icmp .ne 5, 3) := gq_13 db00c_88 eb_479
theorem d_X11_ill_27 : decode prog_1_method_18_code 27 = .ok (.iconst 0, 1) := gq_14 db00c_88 eb_21
theorem d_X11_ill_28 : decode prog_1_method_18_code 28 = .ok (.ireturn, 1) := gq_15 db00c_88 eb_15
theorem d_X11_ill_29 : decode prog_1_method_18_code 29 = .ok (.iload_n 2, 1) := gq_16 db00c_88 eb_13
theorem d_X11_ill_30 : decode prog_1_method_18_code 30 = .ok (.ifCond .eq 36, 3) := gq_17 db00c_88 eb_278
theorem d_X11_ill_33 : decode prog_1_method_18_code 33 = .ok (.aload_n 0, 1) := gq_18 db00c_88 eb_0
theorem d_X11_ill_34 : decode prog_1_method_18_code 34 = .ok (.aload_n 3, 1) := gq_19 db00c_88 eb_312
theorem d_X11_ill_35 : decode prog_1_method_18_code 35 = .ok (.iconst 4, 1) := gq_20 db00c_88 eb_291
theorem d_X11_ill_36 : decode prog_1_method_18_code 36 = .ok (.invokevirtual 207, 3) := gq_21 db00c_88 eb_646
theorem d_X11_ill_39 : decode prog_1_method_18_code 39 = .ok (.aload_n 3, 1) := gq_22 db00c_88 eb_312
theorem d_X11_ill_40 : decode prog_1_method_18_code 40 = .ok (.iconst 4, 1) := gq_23 db00c_88 eb_291
theorem db00c_89 : Pf_ prog_1_method_18_code [(41, [0xb5, 0x00, 0x9e]), (44, [0x2d]), (45, [0x02]), (46, [0xb5, 0x00, 0xd8]), (49, [0x2d]), (50, [0x02]), (51, [0xb5, 0x00, 0xdb]), (54, [0x2a]), (55, [0x2d]), (56, [0x2d]), (57, [0xb4, 0x00, 0xcc]), (60, [0xb6, 0x00, 0x7a]), (63, [0xa7, 0x00, 0x08]), (66, [0x2a]), (67, [0x2d]), (68, [0xb6, 0x00, 0xe1]), (71, [0x04]), (72, [0xac])] := pf_ok prog_1_method_18_code _ 41 (by decide +kernel)
theorem d_X11_ill_41 : decode prog_1_method_18_code 41 = .ok (.putfield 158, 3) := gq_0 db00c_89 eb_626
theorem d_X11_ill_44 : decode prog_1_method_18_code 44 = .ok (.aload_n 3, 1) := gq_1 db00c_89 eb_312
theorem d_X11_ill_45 : decode prog_1_method_18_code 45 = .ok (.iconst (-1), 1) := gq_2 db00c_89 eb_26
theorem d_X11_ill_46 : decode prog_1_method_18_code 46 = .ok (.putfield 216, 3) := gq_3 db00c_89 eb_653
theorem d_X11_ill_49 : decode prog_1_method_18_code 49 = .ok (.aload_n 3, 1) := gq_4 db00c_89 eb_312
theorem d_X11_ill_50 : decode prog_1_method_18_code 50 = .ok (.iconst (-1), 1) := gq_5 db00c_89 eb_26
theorem d_X11_ill_51 : decode prog_1_method_18_code 51 = .ok (.putfield 219, 3) := gq_6 db00c_89 eb_650
theorem d_X11_ill_54 : decode prog_1_method_18_code 54 = .ok (.aload_n 0, 1) := gq_7 db00c_89 eb_0
theorem d_X11_ill_55 : decode prog_1_method_18_code 55 = .ok (.aload_n 3, 1) := gq_8 db00c_89 eb_312
theorem d_X11_ill_56 : decode prog_1_method_18_code 56 = .ok (.aload_n 3, 1) := gq_9 db00c_89 eb_312
theorem d_X11_ill_57 : decode prog_1_method_18_code 57 = .ok (.getfield 204, 3) := gq_10 db00c_89 eb_644
theorem d_X11_ill_60 : decode prog_1_method_18_code 60 = .ok (.invokevirtual 122, 3) := gq_11 db00c_89 eb_612
theorem d_X11_ill_63 : decode prog_1_method_18_code 63 = .ok (.goto 8, 3) := gq_12 db00c_89 eb_488
theorem d_X11_ill_66 : decode prog_1_method_18_code 66 = .ok (.aload_n 0, 1) := gq_13 db00c_89 eb_0
theorem d_X11_ill_67 : decode prog_1_method_18_code 67 = .ok (.aload_n 3, 1) := gq_14 db00c_89 eb_312
theorem d_X11_ill_68 : decode prog_1_method_18_code 68 = .ok (.invokevirtual 225, 3) := gq_15 db00c_89 eb_654
theorem d_X11_ill_71 : decode prog_1_method_18_code 71 = .ok (.iconst 1, 1) := gq_16 db00c_89 eb_19
theorem d_X11_ill_72 : decode prog_1_method_18_code 72 = .ok (.ireturn, 1) := gq_17 db00c_89 eb_15
theorem db00c_90 : Pf_ prog_1_method_19_code [(0, [0x1b]), (1, [0x03]), (2, [0x11, 0x05, 0xdc]), (5, [0xb8, 0x00, 0x60]), (8, [0x99, 0x00, 0x0f]), (11, [0x2a]), (12, [0xb4, 0x00, 0x5c]), (15, [0x1b]), (16, [0x60]), (17, [0x11, 0x4e, 0x20]), (20, [0xa4, 0x00, 0x05]), (23, [0x02]), (24, [0xac]), (25, [0x2a]), (26, [0x2a]), (27, [0xb4, 0x00, 0x5c]), (30, [0x1b]), (31, [0x60]), (32, [0xb6, 0x00, 0xe4]), (35, [0x03]), (36, [0x3d]), (37, [0x1c]), (38, [0x1b]), (39, [0xa2, 0x00, 0x4f])] := pf_ok prog_1_method_19_code _ 0 (by decide +kernel)
theorem d_X11_tick_0 : decode prog_1_method_19_code 0 = .ok (.iload_n 1, 1) := gq_0 db00c_90 eb_9
theorem d_X11_tick_1 : decode prog_1_method_19_code 1 = .ok (.iconst 0, 1) := gq_1 db00c_90 eb_21
theorem d_X11_tick_2 : decode prog_1_method_19_code 2 = .ok (.sipush 1500, 3) := gq_2 db00c_90 eb_655
theorem d_X11_tick_5 : decode prog_1_method_19_code 5 = .ok (.invokestatic 96, 3) := gq_3 db00c_90 eb_606
theorem d_X11_tick_8 : decode prog_1_method_19_code 8 = .ok (.ifCond .eq 15, 3) := gq_4 db00c_90 eb_294
theorem d_X11_tick_11 : decode prog_1_method_19_code 11 = .ok (.aload_n 0, 1) := gq_5 db00c_90 eb_0
theorem d_X11_tick_12 : decode prog_1_method_19_code 12 = .ok (.getfield 92, 3) := gq_6 db00c_90 eb_605
theorem d_X11_tick_15 : decode prog_1_method_19_code 15 = .ok (.iload_n 1, 1) := gq_7 db00c_90 eb_9
theorem d_X11_tick_16 : decode prog_1_method_19_code 16 = .ok (.iadd, 1) := gq_8 db00c_90 eb_35
theorem d_X11_tick_17 : decode prog_1_method_19_code 17 = .ok (.sipush 20000, 3) := gq_9 db00c_90 eb_656
theorem d_X11_tick_20 : decode prog_1_method_19_code 20 = .ok (.if_icmp .le 5, 3) := gq_10 db00c_90 eb_334
theorem d_X11_tick_23 : decode prog_1_method_19_code 23 = .ok (.iconst (-1), 1) := gq_11 db00c_90 eb_26
theorem d_X11_tick_24 : decode prog_1_method_19_code 24 = .ok (.ireturn, 1) := gq_12 db00c_90 eb_15
theorem d_X11_tick_25 : decode prog_1_method_19_code 25 = .ok (.aload_n 0, 1) := gq_13 db00c_90 eb_0
theorem d_X11_tick_26 : decode prog_1_method_19_code 26 = .ok (.aload_n 0, 1) := gq_14 db00c_90 eb_0
theorem d_X11_tick_27 : decode prog_1_method_19_code 27 = .ok (.getfield 92, 3) := gq_15 db00c_90 eb_605
theorem d_X11_tick_30 : decode prog_1_method_19_code 30 = .ok (.iload_n 1, 1) := gq_16 db00c_90 eb_9
theorem d_X11_tick_31 : decode prog_1_method_19_code 31 = .ok (.iadd, 1) := gq_17 db00c_90 eb_35
theorem d_X11_tick_32 : decode prog_1_method_19_code 32 = .ok (.invokevirtual 228, 3) := gq_18 db00c_90 eb_657
theorem d_X11_tick_35 : decode prog_1_method_19_code 35 = .ok (.iconst 0, 1) := gq_19 db00c_90 eb_21
theorem d_X11_tick_36 : decode prog_1_method_19_code 36 = .ok (.istore_n 2, 1) := gq_20 db00c_90 eb_27
theorem d_X11_tick_37 : decode prog_1_method_19_code 37 = .ok (.iload_n 2, 1) := gq_21 db00c_90 eb_13
theorem d_X11_tick_38 : decode prog_1_method_19_code 38 = .ok (.iload_n 1, 1) := gq_22 db00c_90 eb_9
theorem d_X11_tick_39 : decode prog_1_method_19_code 39 = .ok (.if_icmp .ge 79, 3) := gq_23 db00c_90 eb_658
theorem d_X11_tick_54 : decode prog_1_method_19_code 54 = .ok (.lastore, 1) := by decide +kernel
theorem d_X11_tick_80 : decode prog_1_method_19_code 80 = .ok (.aaload, 1) := by decide +kernel
theorem d_X11_tick_81 : decode prog_1_method_19_code 81 = .ok (.astore 4, 2) := by decide +kernel
theorem db00c_91 : Pf_ prog_1_method_19_code [(42, [0x2a]), (43, [0xb4, 0x00, 0x58]), (46, [0x2a]), (47, [0xb4, 0x00, 0x5c]), (50, [0x2a]), (51, [0xb4, 0x00, 0xe8]), (55, [0x2a]), (56, [0x59]), (57, [0xb4, 0x00, 0x5c]), (60, [0x04]), (61, [0x60]), (62, [0xb5, 0x00, 0x5c]), (65, [0x03]), (66, [0x3e]), (67, [0x1d]), (68, [0x2a]), (69, [0xb4, 0x00, 0x68]), (72, [0xa2, 0x00, 0x28]), (75, [0x2a]), (76, [0xb4, 0x00, 0x2a]), (79, [0x1d]), (83, [0x19, 0x04]), (85, [0xc6, 0x00, 0x15]), (88, [0x19, 0x04])] := pf_ok prog_1_method_19_code _ 42 (by decide +kernel)
theorem d_X11_tick_42 : decode prog_1_method_19_code 42 = .ok (.aload_n 0, 1) := gq_0 db00c_91 eb_0
theorem d_X11_tick_43 : decode prog_1_method_19_code 43 = .ok (.getfield 88, 3) := gq_1 db00c_91 eb_659
theorem d_X11_tick_46 : decode prog_1_method_19_code 46 = .ok (.aload_n 0, 1) := gq_2 db00c_91 eb_0
theorem d_X11_tick_47 : decode prog_1_method_19_code 47 = .ok (.getfield 92, 3) := gq_3 db00c_91 eb_605
theorem d_X11_tick_50 : decode prog_1_method_19_code 50 = .ok (.aload_n 0, 1) := gq_4 db00c_91 eb_0
theorem d_X11_tick_51 : decode prog_1_method_19_code 51 = .ok (.getfield 232, 3) := gq_5 db00c_91 eb_660
theorem d_X11_tick_55 : decode prog_1_method_19_code 55 = .ok (.aload_n 0, 1) := gq_6 db00c_91 eb_0
theorem d_X11_tick_56 : decode prog_1_method_19_code 56 = .ok (.dup, 1) := gq_7 db00c_91 eb_46
theorem d_X11_tick_57 : decode prog_1_method_19_code 57 = .ok (.getfield 92, 3) := gq_8 db00c_91 eb_605
theorem d_X11_tick_60 : decode prog_1_method_19_code 60 = .ok (.iconst 1, 1) := gq_9 db00c_91 eb_19
theorem d_X11_tick_61 : decode prog_1_method_19_code 61 = .ok (.iadd, 1) := gq_10 db00c_91 eb_35
theorem d_X11_tick_62 : decode prog_1_method_19_code 62 = .ok (.putfield 92, 3) := gq_11 db00c_91 eb_661
theorem d_X11_tick_65 : decode prog_1_method_19_code 65 = .ok (.iconst 0, 1) := gq_12 db00c_91 eb_21
theorem d_X11_tick_66 : decode prog_1_method_19_code 66 = .ok (.istore_n 3, 1) := gq_13 db00c_91 eb_28
theorem d_X11_tick_67 : decode prog_1_method_19_code 67 = .ok (.iload_n 3, 1) := gq_14 db00c_91 eb_29
theorem d_X11_tick_68 : decode prog_1_method_19_code 68 = .ok (.aload_n 0, 1) := gq_15 db00c_91 eb_0
theorem d_X11_tick_69 : decode prog_1_method_19_code 69 = .ok (.getfield 104, 3) := gq_16 db00c_91 eb_389
theorem d_X11_tick_72 : decode prog_1_method_19_code 72 = .ok (.if_icmp .ge 40, 3) := gq_17 db00c_91 eb_662
theorem d_X11_tick_75 : decode prog_1_method_19_code 75 = .ok (.aload_n 0, 1) := gq_18 db00c_91 eb_0
theorem d_X11_tick_76 : decode prog_1_method_19_code 76 = .ok (.getfield 42, 3) := gq_19 db00c_91 eb_177
theorem d_X11_tick_79 : decode prog_1_method_19_code 79 = .ok (.iload_n 3, 1) := gq_20 db00c_91 eb_29
theorem d_X11_tick_83 : decode prog_1_method_19_code 83 = .ok (.aload 4, 2) := gq_21 db00c_91 eb_355
theorem d_X11_tick_85 : decode prog_1_method_19_code 85 = .ok (.ifnull 21, 3) := gq_22 db00c_91 eb_663
theorem d_X11_tick_88 : decode prog_1_method_19_code 88 = .ok (.aload 4, 2) := gq_23 db00c_91 eb_355
theorem db00c_92 : Pf_ prog_1_method_19_code [(90, [0xb4, 0x00, 0xdb]), (93, [0x2a]), (94, [0xb4, 0x00, 0x5c]), (97, [0xa0, 0x00, 0x09]), (100, [0x2a]), (101, [0x19, 0x04]), (103, [0xb6, 0x00, 0xec]), (106, [0x84, 0x03, 0x01]), (109, [0xa7, 0xff, 0xd6]), (112, [0x84, 0x02, 0x01]), (115, [0xa7, 0xff, 0xb2]), (118, [0x2a]), (119, [0xb4, 0x00, 0x5c]), (122, [0xac])] := pf_ok prog_1_method_19_code _ 90 (by decide +kernel)
theorem d_X11_tick_90 : decode prog_1_method_19_code 90 = .ok (.getfield 219, 3) := gq_0 db00c_92 eb_664
theorem d_X11_tick_93 : decode prog_1_method_19_code 93 = .ok (.aload_n 0, 1) := gq_1 db00c_92 eb_0
theorem d_X11_tick_94 : decode prog_1_method_19_code 94 = .ok (.getfield 92, 3) := gq_2 db00c_92 eb_605
theorem d_X11_tick_97 : decode prog_1_method_19_code 97 = .ok (.if_icmp .ne 9, 3) := gq_3 db00c_92 eb_158
theorem d_X11_tick_100 : decode prog_1_method_19_code 100 = .ok (.aload_n 0, 1) := gq_4 db00c_92 eb_0
theorem d_X11_tick_101 : decode prog_1_method_19_code 101 = .ok (.aload 4, 2) := gq_5 db00c_92 eb_355
theorem d_X11_tick_103 : decode prog_1_method_19_code 103 = .ok (.invokevirtual 236, 3) := gq_6 db00c_92 eb_665
theorem d_X11_tick_106 : decode prog_1_method_19_code 106 = .ok (.iinc 3 1, 3) := gq_7 db00c_92 eb_42
theorem d_X11_tick_109 : decode prog_1_method_19_code 109 = .ok (.goto (-42), 3) := gq_8 db00c_92 eb_422
theorem d_X11_tick_112 : decode prog_1_method_19_code 112 = .ok (.iinc 2 1, 3) := gq_9 db00c_92 eb_41
theorem d_X11_tick_115 : decode prog_1_method_19_code 115 = .ok (.goto (-78), 3) := gq_10 db00c_92 eb_463
theorem d_X11_tick_118 : decode prog_1_method_19_code 118 = .ok (.aload_n 0, 1) := gq_11 db00c_92 eb_0
theorem d_X11_tick_119 : decode prog_1_method_19_code 119 = .ok (.getfield 92, 3) := gq_12 db00c_92 eb_605
theorem d_X11_tick_122 : decode prog_1_method_19_code 122 = .ok (.ireturn, 1) := gq_13 db00c_92 eb_15
theorem db00c_93 : Pf_ prog_1_method_20_code [(0, [0x1b]), (1, [0x2a]), (2, [0xb4, 0x00, 0x58]), (5, [0xbe]), (6, [0xa4, 0x00, 0x21]), (9, [0x1b]), (10, [0x05]), (11, [0x2a]), (12, [0xb4, 0x00, 0x58]), (15, [0xbe]), (16, [0x68]), (17, [0x11, 0x4e, 0x20]), (20, [0xb8, 0x00, 0xef]), (23, [0xb8, 0x00, 0xf4]), (26, [0x3d]), (27, [0x2a]), (28, [0x2a]), (29, [0xb4, 0x00, 0x58]), (32, [0x1c]), (33, [0xb8, 0x00, 0xf7]), (36, [0xb5, 0x00, 0x58]), (39, [0xb1])] := pf_ok prog_1_method_20_code _ 0 (by decide +kernel)
theorem d_X11_makeHistory_0 : decode prog_1_method_20_code 0 = .ok (.iload_n 1, 1) := gq_0 db00c_93 eb_9
theorem d_X11_makeHistory_1 : decode prog_1_method_20_code 1 = .ok (.aload_n 0, 1) := gq_1 db00c_93 eb_0
theorem d_X11_makeHistory_2 : decode prog_1_method_20_code 2 = .ok (.getfield 88, 3) := gq_2 db00c_93 eb_659
theorem d_X11_makeHistory_5 : decode prog_1_method_20_code 5 = .ok (.arraylength, 1) := gq_3 db00c_93 eb_52
theorem d_X11_makeHistory_6 : decode prog_1_method_20_code 6 = .ok (.if_icmp .le 33, 3) := gq_4 db00c_93 eb_666
theorem d_X11_makeHistory_9 : decode prog_1_method_20_code 9 = .ok (.iload_n 1, 1) := gq_5 db00c_93 eb_9
theorem d_X11_makeHistory_10 : decode prog_1_method_20_code 10 = .ok (.iconst 2, 1) := gq_6 db00c_93 eb_10
theorem d_X11_makeHistory_11 : decode prog_1_method_20_code 11 = .ok (.aload_n 0, 1) := gq_7 db00c_93 eb_0
theorem d_X11_makeHistory_12 : decode prog_1_method_20_code 12 = .ok (.getfield 88, 3) := gq_8 db00c_93 eb_659
theorem d_X11_makeHistory_15 : decode prog_1_method_20_code 15 = .ok (.arraylength, 1) := gq_9 db00c_93 eb_52
theorem d_X11_makeHistory_16 : decode prog_1_method_20_code 16 = .ok (.imul, 1) := gq_10 db00c_93 eb_34
theorem d_X11_makeHistory_17 : decode prog_1_method_20_code 17 = .ok (.sipush 20000, 3) := gq_11 db00c_93 eb_656
theorem d_X11_makeHistory_20 : decode prog_1_method_20_code 20 = .ok (.invokestatic 239, 3) := gq_12 db00c_93 eb_667
theorem d_X11_makeHistory_23 : decode prog_1_method_20_code 23 = .ok (.invokestatic 244, 3) := gq_13 db00c_93 eb_668
theorem d_X11_makeHistory_26 : decode prog_1_method_20_code 26 = .ok (.istore_n 2, 1) := gq_14 db00c_93 eb_27
theorem d_X11_makeHistory_27 : decode prog_1_method_20_code 27 = .ok (.aload_n 0, 1) := gq_15 db00c_93 eb_0
theorem d_X11_makeHistory_28 : decode prog_1_method_20_code 28 = .ok (.aload_n 0, 1) := gq_16 db00c_93 eb_0
theorem d_X11_makeHistory_29 : decode prog_1_method_20_code 29 = .ok (.getfield 88, 3) := gq_17 db00c_93 eb_659
theorem d_X11_makeHistory_32 : decode prog_1_method_20_code 32 = .ok (.iload_n 2, 1) := gq_18 db00c_93 eb_13
theorem d_X11_makeHistory_33 : decode prog_1_method_20_code 33 = .ok (.invokestatic 247, 3) := gq_19 db00c_93 eb_669
theorem d_X11_makeHistory_36 : decode prog_1_method_20_code 36 = .ok (.putfield 88, 3) := gq_20 db00c_93 eb_602
theorem d_X11_makeHistory_39 : decode prog_1_method_20_code 39 = .ok (.return_, 1) := gq_21 db00c_93 eb_7
theorem db00c_94 : Pf_ prog_1_method_21_code [(0, [0x2b]), (1, [0xb4, 0x00, 0xd8]), (4, [0x02]), (5, [0x9f, 0x00, 0x07]), (8, [0x04]), (9, [0xa7, 0x00, 0x04]), (12, [0x03]), (13, [0x3d]), (14, [0x1c]), (15, [0x99, 0x00, 0x13]), (18, [0x2b]), (19, [0xb4, 0x00, 0xd8]), (22, [0x3e]), (23, [0x2b]), (24, [0x02]), (25, [0xb5, 0x00, 0xd8]), (28, [0x2a]), (29, [0x2b]), (30, [0x1d]), (31, [0xb6, 0x00, 0x7a]), (34, [0x2b]), (35, [0x02]), (36, [0xb5, 0x00, 0xdb]), (39, [0x2b])] := pf_ok prog_1_method_21_code _ 0 (by decide +kernel)
theorem d_X11_goOn_0 : decode prog_1_method_21_code 0 = .ok (.aload_n 1, 1) := gq_0 db00c_94 eb_23
theorem d_X11_goOn_1 : decode prog_1_method_21_code 1 = .ok (.getfield 216, 3) := gq_1 db00c_94 eb_649
theorem d_X11_goOn_4 : decode prog_1_method_21_code 4 = .ok (.iconst (-1), 1) := gq_2 db00c_94 eb_26
theorem d_X11_goOn_5 : decode prog_1_method_21_code 5 = .ok (.if_icmp .eq 7, 3) := gq_3 db00c_94 eb_539
theorem d_X11_goOn_8 : decode prog_1_method_21_code 8 = .ok (.iconst 1, 1) := gq_4 db00c_94 eb_19
theorem d_X11_goOn_9 : decode prog_1_method_21_code 9 = .ok (.goto 4, 3) := gq_5 db00c_94 eb_20
theorem d_X11_goOn_12 : decode prog_1_method_21_code 12 = .ok (.iconst 0, 1) := gq_6 db00c_94 eb_21
theorem d_X11_goOn_13 : decode prog_1_method_21_code 13 = .ok (.istore_n 2, 1) := gq_7 db00c_94 eb_27
theorem d_X11_goOn_14 : decode prog_1_method_21_code 14 = .ok (.iload_n 2, 1) := gq_8 db00c_94 eb_13
theorem d_X11_goOn_15 : decode prog_1_method_21_code 15 = .ok (.ifCond .eq 19, 3) := gq_9 db00c_94 eb_670
theorem d_X11_goOn_18 : decode prog_1_method_21_code 18 = .ok (.aload_n 1, 1) := gq_10 db00c_94 eb_23
theorem d_X11_goOn_19 : decode prog_1_method_21_code 19 = .ok (.getfield 216, 3) := gq_11 db00c_94 eb_649
theorem d_X11_goOn_22 : decode prog_1_method_21_code 22 = .ok (.istore_n 3, 1) := gq_12 db00c_94 eb_28
theorem d_X11_goOn_23 : decode prog_1_method_21_code 23 = .ok (.aload_n 1, 1) := gq_13 db00c_94 eb_23
theorem d_X11_goOn_24 : decode prog_1_method_21_code 24 = .ok (.iconst (-1), 1) := gq_14 db00c_94 eb_26
theorem d_X11_goOn_25 : decode prog_1_method_21_code 25 = .ok (.putfield 216, 3) := gq_15 db00c_94 eb_653
theorem d_X11_goOn_28 : decode prog_1_method_21_code 28 = .ok (.aload_n 0, 1) := gq_16 db00c_94 eb_0
theorem d_X11_goOn_29 : decode prog_1_method_21_code 29 = .ok (.aload_n 1, 1) := gq_17 db00c_94 eb_23
theorem d_X11_goOn_30 : decode prog_1_method_21_code 30 = .ok (.iload_n 3, 1) := gq_18 db00c_94 eb_29
theorem d_X11_goOn_31 : decode prog_1_method_21_code 31 = .ok (.invokevirtual 122, 3) := gq_19 db00c_94 eb_612
theorem d_X11_goOn_34 : decode prog_1_method_21_code 34 = .ok (.aload_n 1, 1) := gq_20 db00c_94 eb_23
theorem d_X11_goOn_35 : decode prog_1_method_21_code 35 = .ok (.iconst (-1), 1) := gq_21 db00c_94 eb_26
theorem d_X11_goOn_36 : decode prog_1_method_21_code 36 = .ok (.putfield 219, 3) := gq_22 db00c_94 eb_650
theorem d_X11_goOn_39 : decode prog_1_method_21_code 39 = .ok (.aload_n 1, 1) := gq_23 db00c_94 eb_23
theorem db00c_95 : Pf_ prog_1_method_21_code [(40, [0xb4, 0x00, 0x9e]), (43, [0x04]), (44, [0xa0, 0x00, 0x1e]), (47, [0x2a]), (48, [0x2b]), (49, [0x1c]), (50, [0xb6, 0x00, 0xfd]), (53, [0x99, 0x00, 0x32]), (56, [0x2b]), (57, [0x59]), (58, [0xb4, 0x00, 0xa7]), (61, [0x04]), (62, [0x60]), (63, [0xb5, 0x00, 0xa7]), (66, [0x2a]), (67, [0x2b]), (68, [0xb6, 0x00, 0xba]), (71, [0xa7, 0x00, 0x20]), (74, [0x2b]), (75, [0xb4, 0x00, 0x9e]), (78, [0x05]), (79, [0xa0, 0x00, 0x0b]), (82, [0x2a]), (83, [0x2b])] := pf_ok prog_1_method_21_code _ 40 (by decide +kernel)
theorem d_X11_goOn_40 : decode prog_1_method_21_code 40 = .ok (.getfield 158, 3) := gq_0 db00c_95 eb_624
theorem d_X11_goOn_43 : decode prog_1_method_21_code 43 = .ok (.iconst 1, 1) := gq_1 db00c_95 eb_19
theorem d_X11_goOn_44 : decode prog_1_method_21_code 44 = .ok (.if_icmp .ne 30, 3) := gq_2 db00c_95 eb_252
theorem d_X11_goOn_47 : decode prog_1_method_21_code 47 = .ok (.aload_n 0, 1) := gq_3 db00c_95 eb_0
theorem d_X11_goOn_48 : decode prog_1_method_21_code 48 = .ok (.aload_n 1, 1) := gq_4 db00c_95 eb_23
theorem d_X11_goOn_49 : decode prog_1_method_21_code 49 = .ok (.iload_n 2, 1) := gq_5 db00c_95 eb_13
theorem d_X11_goOn_50 : decode prog_1_method_21_code 50 = .ok (.invokevirtual 253, 3) := gq_6 db00c_95 eb_671
theorem d_X11_goOn_53 : decode prog_1_method_21_code 53 = .ok (.ifCond .eq 50, 3) := gq_7 db00c_95 eb_672
theorem d_X11_goOn_56 : decode prog_1_method_21_code 56 = .ok (.aload_n 1, 1) := gq_8 db00c_95 eb_23
theorem d_X11_goOn_57 : decode prog_1_method_21_code 57 = .ok (.dup, 1) := gq_9 db00c_95 eb_46
theorem d_X11_goOn_58 : decode prog_1_method_21_code 58 = .ok (.getfield 167, 3) := gq_10 db00c_95 eb_673
theorem d_X11_goOn_61 : decode prog_1_method_21_code 61 = .ok (.iconst 1, 1) := gq_11 db00c_95 eb_19
theorem d_X11_goOn_62 : decode prog_1_method_21_code 62 = .ok (.iadd, 1) := gq_12 db00c_95 eb_35
theorem d_X11_goOn_63 : decode prog_1_method_21_code 63 = .ok (.putfield 167, 3) := gq_13 db00c_95 eb_628
theorem d_X11_goOn_66 : decode prog_1_method_21_code 66 = .ok (.aload_n 0, 1) := gq_14 db00c_95 eb_0
theorem d_X11_goOn_67 : decode prog_1_method_21_code 67 = .ok (.aload_n 1, 1) := gq_15 db00c_95 eb_23
theorem d_X11_goOn_68 : decode prog_1_method_21_code 68 = .ok (.invokevirtual 186, 3) := gq_16 db00c_95 eb_634
theorem d_X11_goOn_71 : decode prog_1_method_21_code 71 = .ok (.goto 32, 3) := gq_17 db00c_95 eb_674
theorem d_X11_goOn_74 : decode prog_1_method_21_code 74 = .ok (.aload_n 1, 1) := gq_18 db00c_95 eb_23
theorem d_X11_goOn_75 : decode prog_1_method_21_code 75 = .ok (.getfield 158, 3) := gq_19 db00c_95 eb_624
theorem d_X11_goOn_78 : decode prog_1_method_21_code 78 = .ok (.iconst 2, 1) := gq_20 db00c_95 eb_10
theorem d_X11_goOn_79 : decode prog_1_method_21_code 79 = .ok (.if_icmp .ne 11, 3) := gq_21 db00c_95 eb_675
theorem d_X11_goOn_82 : decode prog_1_method_21_code 82 = .ok (.aload_n 0, 1) := gq_22 db00c_95 eb_0
theorem d_X11_goOn_83 : decode prog_1_method_21_code 83 = .ok (.aload_n 1, 1) := gq_23 db00c_95 eb_23
theorem db00c_96 : Pf_ prog_1_method_21_code [(84, [0xb6, 0x00, 0xe1]), (87, [0xa7, 0x00, 0x10]), (90, [0x2b]), (91, [0xb4, 0x00, 0x9e]), (94, [0x06]), (95, [0xa0, 0x00, 0x08]), (98, [0x2a]), (99, [0x2b]), (100, [0xb6, 0x00, 0xde]), (103, [0xb1])] := pf_ok prog_1_method_21_code _ 84 (by decide +kernel)
theorem d_X11_goOn_84 : decode prog_1_method_21_code 84 = .ok (.invokevirtual 225, 3) := gq_0 db00c_96 eb_654
theorem d_X11_goOn_87 : decode prog_1_method_21_code 87 = .ok (.goto 16, 3) := gq_1 db00c_96 eb_527
theorem d_X11_goOn_90 : decode prog_1_method_21_code 90 = .ok (.aload_n 1, 1) := gq_2 db00c_96 eb_23
theorem d_X11_goOn_91 : decode prog_1_method_21_code 91 = .ok (.getfield 158, 3) := gq_3 db00c_96 eb_624
theorem d_X11_goOn_94 : decode prog_1_method_21_code 94 = .ok (.iconst 3, 1) := gq_4 db00c_96 eb_54
theorem d_X11_goOn_95 : decode prog_1_method_21_code 95 = .ok (.if_icmp .ne 8, 3) := gq_5 db00c_96 eb_526
theorem d_X11_goOn_98 : decode prog_1_method_21_code 98 = .ok (.aload_n 0, 1) := gq_6 db00c_96 eb_0
theorem d_X11_goOn_99 : decode prog_1_method_21_code 99 = .ok (.aload_n 1, 1) := gq_7 db00c_96 eb_23
theorem d_X11_goOn_100 : decode prog_1_method_21_code 100 = .ok (.invokevirtual 222, 3) := gq_8 db00c_96 eb_651
theorem d_X11_goOn_103 : decode prog_1_method_21_code 103 = .ok (.return_, 1) := gq_9 db00c_96 eb_7
theorem db00c_97 : Pf_ prog_1_method_22_code [(0, [0x2a]), (1, [0xb4, 0x00, 0x1a]), (4, [0x2b]), (5, [0xb4, 0x00, 0xa4]), (8, [0x2b]), (9, [0xb4, 0x00, 0xa7]), (12, [0xb6, 0x00, 0xbd]), (15, [0x3e]), (16, [0x1d]), (17, [0xb8, 0x00, 0xc0]), (20, [0x36, 0x04]), (22, [0x15, 0x04]), (24, [0x06]), (25, [0xa0, 0x00, 0x08]), (28, [0x2a]), (29, [0x2b]), (30, [0xb6, 0x01, 0x01]), (33, [0x15, 0x04]), (35, [0x05]), (36, [0xa0, 0x00, 0x10]), (39, [0x1c]), (40, [0x99, 0x00, 0x0c]), (43, [0x2a]), (44, [0x2b])] := pf_ok prog_1_method_22_code _ 0 (by decide +kernel)
theorem d_X11_endsStep_0 : decode prog_1_method_22_code 0 = .ok (.aload_n 0, 1) := gq_0 db00c_97 eb_0
theorem d_X11_endsStep_1 : decode prog_1_method_22_code 1 = .ok (.getfield 26, 3) := gq_1 db00c_97 eb_226
theorem d_X11_endsStep_4 : decode prog_1_method_22_code 4 = .ok (.aload_n 1, 1) := gq_2 db00c_97 eb_23
theorem d_X11_endsStep_5 : decode prog_1_method_22_code 5 = .ok (.getfield 164, 3) := gq_3 db00c_97 eb_635
theorem d_X11_endsStep_8 : decode prog_1_method_22_code 8 = .ok (.aload_n 1, 1) := gq_4 db00c_97 eb_23
theorem d_X11_endsStep_9 : decode prog_1_method_22_code 9 = .ok (.getfield 167, 3) := gq_5 db00c_97 eb_673
theorem d_X11_endsStep_12 : decode prog_1_method_22_code 12 = .ok (.invokevirtual 189, 3) := gq_6 db00c_97 eb_636
theorem d_X11_endsStep_15 : decode prog_1_method_22_code 15 = .ok (.istore_n 3, 1) := gq_7 db00c_97 eb_28
theorem d_X11_endsStep_16 : decode prog_1_method_22_code 16 = .ok (.iload_n 3, 1) := gq_8 db00c_97 eb_29
theorem d_X11_endsStep_17 : decode prog_1_method_22_code 17 = .ok (.invokestatic 192, 3) := gq_9 db00c_97 eb_637
theorem d_X11_endsStep_20 : decode prog_1_method_22_code 20 = .ok (.istore 4, 2) := gq_10 db00c_97 eb_133
theorem d_X11_endsStep_22 : decode prog_1_method_22_code 22 = .ok (.iload 4, 2) := gq_11 db00c_97 eb_76
theorem d_X11_endsStep_24 : decode prog_1_method_22_code 24 = .ok (.iconst 3, 1) := gq_12 db00c_97 eb_54
theorem d_X11_endsStep_25 : decode prog_1_method_22_code 25 = .ok (.if_icmp .ne 8, 3) := gq_13 db00c_97 eb_526
theorem d_X11_endsStep_28 : decode prog_1_method_22_code 28 = .ok (.aload_n 0, 1) := gq_14 db00c_97 eb_0
theorem d_X11_endsStep_29 : decode prog_1_method_22_code 29 = .ok (.aload_n 1, 1) := gq_15 db00c_97 eb_23
theorem d_X11_endsStep_30 : decode prog_1_method_22_code 30 = .ok (.invokevirtual 257, 3) := gq_16 db00c_97 eb_676
theorem d_X11_endsStep_33 : decode prog_1_method_22_code 33 = .ok (.iload 4, 2) := gq_17 db00c_97 eb_76
theorem d_X11_endsStep_35 : decode prog_1_method_22_code 35 = .ok (.iconst 2, 1) := gq_18 db00c_97 eb_10
theorem d_X11_endsStep_36 : decode prog_1_method_22_code 36 = .ok (.if_icmp .ne 16, 3) := gq_19 db00c_97 eb_79
theorem d_X11_endsStep_39 : decode prog_1_method_22_code 39 = .ok (.iload_n 2, 1) := gq_20 db00c_97 eb_13
theorem d_X11_endsStep_40 : decode prog_1_method_22_code 40 = .ok (.ifCond .eq 12, 3) := gq_21 db00c_97 eb_50
theorem d_X11_endsStep_43 : decode prog_1_method_22_code 43 = .ok (.aload_n 0, 1) := gq_22 db00c_97 eb_0
theorem d_X11_endsStep_44 : decode prog_1_method_22_code 44 = .ok (.aload_n 1, 1) := gq_23 db00c_97 eb_23
theorem db00c_98 : Pf_ prog_1_method_22_code [(45, [0x1d]), (46, [0xb6, 0x01, 0x04]), (49, [0x9a, 0x00, 0x07]), (52, [0x04]), (53, [0xa7, 0x00, 0x04]), (56, [0x03]), (57, [0xac])] := pf_ok prog_1_method_22_code _ 45 (by decide +kernel)
theorem d_X11_endsStep_45 : decode prog_1_method_22_code 45 = .ok (.iload_n 3, 1) := gq_0 db00c_98 eb_29
theorem d_X11_endsStep_46 : decode prog_1_method_22_code 46 = .ok (.invokevirtual 260, 3) := gq_1 db00c_98 eb_677
theorem d_X11_endsStep_49 : decode prog_1_method_22_code 49 = .ok (.ifCond .ne 7, 3) := gq_2 db00c_98 eb_164
theorem d_X11_endsStep_52 : decode prog_1_method_22_code 52 = .ok (.iconst 1, 1) := gq_3 db00c_98 eb_19
theorem d_X11_endsStep_53 : decode prog_1_method_22_code 53 = .ok (.goto 4, 3) := gq_4 db00c_98 eb_20
theorem d_X11_endsStep_56 : decode prog_1_method_22_code 56 = .ok (.iconst 0, 1) := gq_5 db00c_98 eb_21
theorem d_X11_endsStep_57 : decode prog_1_method_22_code 57 = .ok (.ireturn, 1) := gq_6 db00c_98 eb_15
theorem db00c_99 : Pf_ prog_1_method_23_code [(0, [0x2a]), (1, [0xb4, 0x00, 0x1a]), (4, [0x2b]), (5, [0xb4, 0x00, 0xa4]), (8, [0xb6, 0x00, 0x97]), (11, [0x3d]), (12, [0x2b]), (13, [0xb4, 0x00, 0xa7]), (16, [0x1c]), (17, [0xa2, 0x00, 0x19]), (20, [0x2a]), (21, [0x2b]), (22, [0xb6, 0x01, 0x08]), (25, [0x99, 0x00, 0x04]), (28, [0xb1]), (29, [0x2b]), (30, [0x59]), (31, [0xb4, 0x00, 0xa7]), (34, [0x04]), (35, [0x60]), (36, [0xb5, 0x00, 0xa7]), (39, [0xa7, 0xff, 0xe5]), (42, [0x2a]), (43, [0x2b])] := pf_ok prog_1_method_23_code _ 0 (by decide +kernel)
theorem d_X11_doSteps_0 : decode prog_1_method_23_code 0 = .ok (.aload_n 0, 1) := gq_0 db00c_99 eb_0
theorem d_X11_doSteps_1 : decode prog_1_method_23_code 1 = .ok (.getfield 26, 3) := gq_1 db00c_99 eb_226
theorem d_X11_doSteps_4 : decode prog_1_method_23_code 4 = .ok (.aload_n 1, 1) := gq_2 db00c_99 eb_23
theorem d_X11_doSteps_5 : decode prog_1_method_23_code 5 = .ok (.getfield 164, 3) := gq_3 db00c_99 eb_635
theorem d_X11_doSteps_8 : decode prog_1_method_23_code 8 = .ok (.invokevirtual 151, 3) := gq_4 db00c_99 eb_510
theorem d_X11_doSteps_11 : decode prog_1_method_23_code 11 = .ok (.istore_n 2, 1) := gq_5 db00c_99 eb_27
theorem d_X11_doSteps_12 : decode prog_1_method_23_code 12 = .ok (.aload_n 1, 1) := gq_6 db00c_99 eb_23
theorem d_X11_doSteps_13 : decode prog_1_method_23_code 13 = .ok (.getfield 167, 3) := gq_7 db00c_99 eb_673
theorem d_X11_doSteps_16 : decode prog_1_method_23_code 16 = .ok (.iload_n 2, 1) := gq_8 db00c_99 eb_13
theorem d_X11_doSteps_17 : decode prog_1_method_23_code 17 = .ok (.if_icmp .ge 25, 3) := gq_9 db00c_99 eb_415
theorem d_X11_doSteps_20 : decode prog_1_method_23_code 20 = .ok (.aload_n 0, 1) := gq_10 db00c_99 eb_0
theorem d_X11_doSteps_21 : decode prog_1_method_23_code 21 = .ok (.aload_n 1, 1) := gq_11 db00c_99 eb_23
theorem d_X11_doSteps_22 : decode prog_1_method_23_code 22 = .ok (.invokevirtual 264, 3) := gq_12 db00c_99 eb_678
theorem d_X11_doSteps_25 : decode prog_1_method_23_code 25 = .ok (.ifCond .eq 4, 3) := gq_13 db00c_99 eb_679
theorem d_X11_doSteps_28 : decode prog_1_method_23_code 28 = .ok (.return_, 1) := gq_14 db00c_99 eb_7
theorem d_X11_doSteps_29 : decode prog_1_method_23_code 29 = .ok (.aload_n 1, 1) := gq_15 db00c_99 eb_23
theorem d_X11_doSteps_30 : decode prog_1_method_23_code 30 = .ok (.dup, 1) := gq_16 db00c_99 eb_46
theorem d_X11_doSteps_31 : decode prog_1_method_23_code 31 = .ok (.getfield 167, 3) := gq_17 db00c_99 eb_673
theorem d_X11_doSteps_34 : decode prog_1_method_23_code 34 = .ok (.iconst 1, 1) := gq_18 db00c_99 eb_19
theorem d_X11_doSteps_35 : decode prog_1_method_23_code 35 = .ok (.iadd, 1) := gq_19 db00c_99 eb_35
theorem d_X11_doSteps_36 : decode prog_1_method_23_code 36 = .ok (.putfield 167, 3) := gq_20 db00c_99 eb_628
theorem d_X11_doSteps_39 : decode prog_1_method_23_code 39 = .ok (.goto (-27), 3) := gq_21 db00c_99 eb_680
theorem d_X11_doSteps_42 : decode prog_1_method_23_code 42 = .ok (.aload_n 0, 1) := gq_22 db00c_99 eb_0
theorem d_X11_doSteps_43 : decode prog_1_method_23_code 43 = .ok (.aload_n 1, 1) := gq_23 db00c_99 eb_23
theorem db00c_100 : Pf_ prog_1_method_23_code [(44, [0xb6, 0x01, 0x0c]), (47, [0xb1])] := pf_ok prog_1_method_23_code _ 44 (by decide +kernel)
theorem d_X11_doSteps_44 : decode prog_1_method_23_code 44 = .ok (.invokevirtual 268, 3) := gq_0 db00c_100 eb_681
theorem d_X11_doSteps_47 : decode prog_1_method_23_code 47 = .ok (.return_, 1) := gq_1 db00c_100 eb_7
theorem d_X11_takesTime_20 : decode prog_1_method_24_code 20 = .ok (.tableswitch 62 1 3 #[28, 55, 43], 28) := by decide +kernel
theorem db00c_101 : Pf_ prog_1_method_24_code [(0, [0x2a]), (1, [0xb4, 0x00, 0x1a]), (4, [0x2b]), (5, [0xb4, 0x00, 0xa4]), (8, [0x2b]), (9, [0xb4, 0x00, 0xa7]), (12, [0xb6, 0x00, 0xbd]), (15, [0x3d]), (16, [0x1c]), (17, [0xb8, 0x00, 0xc0]), (48, [0x2b]), (49, [0x2a]), (50, [0xb4, 0x00, 0x5c]), (53, [0x1c]), (54, [0xb8, 0x00, 0xc6]), (57, [0x60]), (58, [0xb5, 0x00, 0xdb]), (61, [0x04]), (62, [0xac]), (63, [0x2b]), (64, [0x2a]), (65, [0xb4, 0x00, 0x5c]), (68, [0x04]), (69, [0x60])] := pf_ok prog_1_method_24_code _ 0 (by decide +kernel)
theorem d_X11_takesTime_0 : decode prog_1_method_24_code 0 = .ok (.aload_n 0, 1) := gq_0 db00c_101 eb_0
theorem d_X11_takesTime_1 : decode prog_1_method_24_code 1 = .ok (.getfield 26, 3) := gq_1 db00c_101 eb_226
theorem d_X11_takesTime_4 : decode prog_1_method_24_code 4 = .ok (.aload_n 1, 1) := gq_2 db00c_101 eb_23
theorem d_X11_takesTime_5 : decode prog_1_method_24_code 5 = .ok (.getfield 164, 3) := gq_3 db00c_101 eb_635
theorem d_X11_takesTime_8 : decode prog_1_method_24_code 8 = .ok (.aload_n 1, 1) := gq_4 db00c_101 eb_23
theorem d_X11_takesTime_9 : decode prog_1_method_24_code 9 = .ok (.getfield 167, 3) := gq_5 db00c_101 eb_673
theorem d_X11_takesTime_12 : decode prog_1_method_24_code 12 = .ok (.invokevirtual 189, 3) := gq_6 db00c_101 eb_636
theorem d_X11_takesTime_15 : decode prog_1_method_24_code 15 = .ok (.istore_n 2, 1) := gq_7 db00c_101 eb_27
theorem d_X11_takesTime_16 : decode prog_1_method_24_code 16 = .ok (.iload_n 2, 1) := gq_8 db00c_101 eb_13
theorem d_X11_takesTime_17 : decode prog_1_method_24_code 17 = .ok (.invokestatic 192, 3) := gq_9 db00c_101 eb_637
theorem d_X11_takesTime_48 : decode prog_1_method_24_code 48 = .ok (.aload_n 1, 1) := gq_10 db00c_101 eb_23
theorem d_X11_takesTime_49 : decode prog_1_method_24_code 49 = .ok (.aload_n 0, 1) := gq_11 db00c_101 eb_0
theorem d_X11_takesTime_50 : decode prog_1_method_24_code 50 = .ok (.getfield 92, 3) := gq_12 db00c_101 eb_605
theorem d_X11_takesTime_53 : decode prog_1_method_24_code 53 = .ok (.iload_n 2, 1) := gq_13 db00c_101 eb_13
theorem d_X11_takesTime_54 : decode prog_1_method_24_code 54 = .ok (.invokestatic 198, 3) := gq_14 db00c_101 eb_639
theorem d_X11_takesTime_57 : decode prog_1_method_24_code 57 = .ok (.iadd, 1) := gq_15 db00c_101 eb_35
theorem d_X11_takesTime_58 : decode prog_1_method_24_code 58 = .ok (.putfield 219, 3) := gq_16 db00c_101 eb_650
theorem d_X11_takesTime_61 : decode prog_1_method_24_code 61 = .ok (.iconst 1, 1) := gq_17 db00c_101 eb_19
theorem d_X11_takesTime_62 : decode prog_1_method_24_code 62 = .ok (.ireturn, 1) := gq_18 db00c_101 eb_15
theorem d_X11_takesTime_63 : decode prog_1_method_24_code 63 = .ok (.aload_n 1, 1) := gq_19 db00c_101 eb_23
theorem d_X11_takesTime_64 : decode prog_1_method_24_code 64 = .ok (.aload_n 0, 1) := gq_20 db00c_101 eb_0
theorem d_X11_takesTime_65 : decode prog_1_method_24_code 65 = .ok (.getfield 92, 3) := gq_21 db00c_101 eb_605
theorem d_X11_takesTime_68 : decode prog_1_method_24_code 68 = .ok (.iconst 1, 1) := gq_22 db00c_101 eb_19
theorem d_X11_takesTime_69 : decode prog_1_method_24_code 69 = .ok (.iadd, 1) := gq_23 db00c_101 eb_35
theorem db00c_102 : Pf_ prog_1_method_24_code [(70, [0xb5, 0x00, 0xdb]), (73, [0x04]), (74, [0xac]), (75, [0x2a]), (76, [0x2b]), (77, [0x1c]), (78, [0xb6, 0x01, 0x0f]), (81, [0xac]), (82, [0x2a]), (83, [0x2b]), (84, [0x1c]), (85, [0xb8, 0x00, 0xc3]), (88, [0xb6, 0x01, 0x12]), (91, [0xac])] := pf_ok prog_1_method_24_code _ 70 (by decide +kernel)
theorem d_X11_takesTime_70 : decode prog_1_method_24_code 70 = .ok (.putfield 219, 3) := gq_0 db00c_102 eb_650
theorem d_X11_takesTime_73 : decode prog_1_method_24_code 73 = .ok (.iconst 1, 1) := gq_1 db00c_102 eb_19
theorem d_X11_takesTime_74 : decode prog_1_method_24_code 74 = .ok (.ireturn, 1) := gq_2 db00c_102 eb_15
theorem d_X11_takesTime_75 : decode prog_1_method_24_code 75 = .ok (.aload_n 0, 1) := gq_3 db00c_102 eb_0
theorem d_X11_takesTime_76 : decode prog_1_method_24_code 76 = .ok (.aload_n 1, 1) := gq_4 db00c_102 eb_23
theorem d_X11_takesTime_77 : decode prog_1_method_24_code 77 = .ok (.iload_n 2, 1) := gq_5 db00c_102 eb_13
theorem d_X11_takesTime_78 : decode prog_1_method_24_code 78 = .ok (.invokevirtual 271, 3) := gq_6 db00c_102 eb_682
theorem d_X11_takesTime_81 : decode prog_1_method_24_code 81 = .ok (.ireturn, 1) := gq_7 db00c_102 eb_15
theorem d_X11_takesTime_82 : decode prog_1_method_24_code 82 = .ok (.aload_n 0, 1) := gq_8 db00c_102 eb_0
theorem d_X11_takesTime_83 : decode prog_1_method_24_code 83 = .ok (.aload_n 1, 1) := gq_9 db00c_102 eb_23
theorem d_X11_takesTime_84 : decode prog_1_method_24_code 84 = .ok (.iload_n 2, 1) := gq_10 db00c_102 eb_13
theorem d_X11_takesTime_85 : decode prog_1_method_24_code 85 = .ok (.invokestatic 195, 3) := gq_11 db00c_102 eb_638
theorem d_X11_takesTime_88 : decode prog_1_method_24_code 88 = .ok (.invokevirtual 274, 3) := gq_12 db00c_102 eb_683
theorem d_X11_takesTime_91 : decode prog_1_method_24_code 91 = .ok (.ireturn, 1) := gq_13 db00c_102 eb_15
theorem db00c_103 : Pf_ prog_1_method_25_code [(0, [0x1c]), (1, [0xb8, 0x00, 0xc3]), (4, [0x3e]), (5, [0x2a]), (6, [0xb4, 0x00, 0x0a]), (9, [0x2b]), (10, [0xb4, 0x01, 0x15]), (13, [0x1d]), (14, [0xb6, 0x00, 0x73]), (17, [0x02]), (18, [0xa0, 0x00, 0x0c]), (21, [0x2a]), (22, [0x2b]), (23, [0x05]), (24, [0x05]), (25, [0xb6, 0x01, 0x18]), (28, [0x03]), (29, [0xac]), (30, [0x2a]), (31, [0x2b]), (32, [0x1d]), (33, [0xb6, 0x01, 0x12]), (36, [0x9a, 0x00, 0x0c]), (39, [0x2a])] := pf_ok prog_1_method_25_code _ 0 (by decide +kernel)
theorem d_X11_goesToMeet_0 : decode prog_1_method_25_code 0 = .ok (.iload_n 2, 1) := gq_0 db00c_103 eb_13
theorem d_X11_goesToMeet_1 : decode prog_1_method_25_code 1 = .ok (.invokestatic 195, 3) := gq_1 db00c_103 eb_638
theorem d_X11_goesToMeet_4 : decode prog_1_method_25_code 4 = .ok (.istore_n 3, 1) := gq_2 db00c_103 eb_28
theorem d_X11_goesToMeet_5 : decode prog_1_method_25_code 5 = .ok (.aload_n 0, 1) := gq_3 db00c_103 eb_0
theorem d_X11_goesToMeet_6 : decode prog_1_method_25_code 6 = .ok (.getfield 10, 3) := gq_4 db00c_103 eb_609
theorem d_X11_goesToMeet_9 : decode prog_1_method_25_code 9 = .ok (.aload_n 1, 1) := gq_5 db00c_103 eb_23
theorem d_X11_goesToMeet_10 : decode prog_1_method_25_code 10 = .ok (.getfield 277, 3) := gq_6 db00c_103 eb_684
theorem d_X11_goesToMeet_13 : decode prog_1_method_25_code 13 = .ok (.iload_n 3, 1) := gq_7 db00c_103 eb_29
theorem d_X11_goesToMeet_14 : decode prog_1_method_25_code 14 = .ok (.invokevirtual 115, 3) := gq_8 db00c_103 eb_382
theorem d_X11_goesToMeet_17 : decode prog_1_method_25_code 17 = .ok (.iconst (-1), 1) := gq_9 db00c_103 eb_26
theorem d_X11_goesToMeet_18 : decode prog_1_method_25_code 18 = .ok (.if_icmp .ne 12, 3) := gq_10 db00c_103 eb_410
theorem d_X11_goesToMeet_21 : decode prog_1_method_25_code 21 = .ok (.aload_n 0, 1) := gq_11 db00c_103 eb_0
theorem d_X11_goesToMeet_22 : decode prog_1_method_25_code 22 = .ok (.aload_n 1, 1) := gq_12 db00c_103 eb_23
theorem d_X11_goesToMeet_23 : decode prog_1_method_25_code 23 = .ok (.iconst 2, 1) := gq_13 db00c_103 eb_10
theorem d_X11_goesToMeet_24 : decode prog_1_method_25_code 24 = .ok (.iconst 2, 1) := gq_14 db00c_103 eb_10
theorem d_X11_goesToMeet_25 : decode prog_1_method_25_code 25 = .ok (.invokevirtual 280, 3) := gq_15 db00c_103 eb_685
theorem d_X11_goesToMeet_28 : decode prog_1_method_25_code 28 = .ok (.iconst 0, 1) := gq_16 db00c_103 eb_21
theorem d_X11_goesToMeet_29 : decode prog_1_method_25_code 29 = .ok (.ireturn, 1) := gq_17 db00c_103 eb_15
theorem d_X11_goesToMeet_30 : decode prog_1_method_25_code 30 = .ok (.aload_n 0, 1) := gq_18 db00c_103 eb_0
theorem d_X11_goesToMeet_31 : decode prog_1_method_25_code 31 = .ok (.aload_n 1, 1) := gq_19 db00c_103 eb_23
theorem d_X11_goesToMeet_32 : decode prog_1_method_25_code 32 = .ok (.iload_n 3, 1) := gq_20 db00c_103 eb_29
theorem d_X11_goesToMeet_33 : decode prog_1_method_25_code 33 = .ok (.invokevirtual 274, 3) := gq_21 db00c_103 eb_683
theorem d_X11_goesToMeet_36 : decode prog_1_method_25_code 36 = .ok (.ifCond .ne 12, 3) := gq_22 db00c_103 eb_686
theorem d_X11_goesToMeet_39 : decode prog_1_method_25_code 39 = .ok (.aload_n 0, 1) := gq_23 db00c_103 eb_0
theorem db00c_104 : Pf_ prog_1_method_25_code [(40, [0x2b]), (41, [0x1c]), (42, [0xb6, 0x01, 0x04]), (45, [0x99, 0x00, 0x07]), (48, [0x04]), (49, [0xa7, 0x00, 0x04]), (52, [0x03]), (53, [0xac])] := pf_ok prog_1_method_25_code _ 40 (by decide +kernel)
theorem d_X11_goesToMeet_40 : decode prog_1_method_25_code 40 = .ok (.aload_n 1, 1) := gq_0 db00c_104 eb_23
theorem d_X11_goesToMeet_41 : decode prog_1_method_25_code 41 = .ok (.iload_n 2, 1) := gq_1 db00c_104 eb_13
theorem d_X11_goesToMeet_42 : decode prog_1_method_25_code 42 = .ok (.invokevirtual 260, 3) := gq_2 db00c_104 eb_677
theorem d_X11_goesToMeet_45 : decode prog_1_method_25_code 45 = .ok (.ifCond .eq 7, 3) := gq_3 db00c_104 eb_123
theorem d_X11_goesToMeet_48 : decode prog_1_method_25_code 48 = .ok (.iconst 1, 1) := gq_4 db00c_104 eb_19
theorem d_X11_goesToMeet_49 : decode prog_1_method_25_code 49 = .ok (.goto 4, 3) := gq_5 db00c_104 eb_20
theorem d_X11_goesToMeet_52 : decode prog_1_method_25_code 52 = .ok (.iconst 0, 1) := gq_6 db00c_104 eb_21
theorem d_X11_goesToMeet_53 : decode prog_1_method_25_code 53 = .ok (.ireturn, 1) := gq_7 db00c_104 eb_15
theorem db00c_105 : Pf_ prog_1_method_26_code [(0, [0x2b]), (1, [0xb4, 0x00, 0xaa]), (4, [0x1c]), (5, [0xb8, 0x00, 0xc6]), (8, [0x60]), (9, [0x3e]), (10, [0x2a]), (11, [0xb4, 0x00, 0x5c]), (14, [0x1d]), (15, [0xa4, 0x00, 0x0c]), (18, [0x2a]), (19, [0x2b]), (20, [0x05]), (21, [0x04]), (22, [0xb6, 0x01, 0x18]), (25, [0x03]), (26, [0xac]), (27, [0x2a]), (28, [0x2b]), (29, [0x04]), (30, [0x02]), (31, [0xb6, 0x01, 0x18]), (34, [0x1d]), (35, [0x2a])] := pf_ok prog_1_method_26_code _ 0 (by decide +kernel)
theorem d_X11_waitsAtPoint_0 : decode prog_1_method_26_code 0 = .ok (.aload_n 1, 1) := gq_0 db00c_105 eb_23
theorem d_X11_waitsAtPoint_1 : decode prog_1_method_26_code 1 = .ok (.getfield 170, 3) := gq_1 db00c_105 eb_687
theorem d_X11_waitsAtPoint_4 : decode prog_1_method_26_code 4 = .ok (.iload_n 2, 1) := gq_2 db00c_105 eb_13
theorem d_X11_waitsAtPoint_5 : decode prog_1_method_26_code 5 = .ok (.invokestatic 198, 3) := gq_3 db00c_105 eb_639
theorem d_X11_waitsAtPoint_8 : decode prog_1_method_26_code 8 = .ok (.iadd, 1) := gq_4 db00c_105 eb_35
theorem d_X11_waitsAtPoint_9 : decode prog_1_method_26_code 9 = .ok (.istore_n 3, 1) := gq_5 db00c_105 eb_28
theorem d_X11_waitsAtPoint_10 : decode prog_1_method_26_code 10 = .ok (.aload_n 0, 1) := gq_6 db00c_105 eb_0
theorem d_X11_waitsAtPoint_11 : decode prog_1_method_26_code 11 = .ok (.getfield 92, 3) := gq_7 db00c_105 eb_605
theorem d_X11_waitsAtPoint_14 : decode prog_1_method_26_code 14 = .ok (.iload_n 3, 1) := gq_8 db00c_105 eb_29
theorem d_X11_waitsAtPoint_15 : decode prog_1_method_26_code 15 = .ok (.if_icmp .le 12, 3) := gq_9 db00c_105 eb_688
theorem d_X11_waitsAtPoint_18 : decode prog_1_method_26_code 18 = .ok (.aload_n 0, 1) := gq_10 db00c_105 eb_0
theorem d_X11_waitsAtPoint_19 : decode prog_1_method_26_code 19 = .ok (.aload_n 1, 1) := gq_11 db00c_105 eb_23
theorem d_X11_waitsAtPoint_20 : decode prog_1_method_26_code 20 = .ok (.iconst 2, 1) := gq_12 db00c_105 eb_10
theorem d_X11_waitsAtPoint_21 : decode prog_1_method_26_code 21 = .ok (.iconst 1, 1) := gq_13 db00c_105 eb_19
theorem d_X11_waitsAtPoint_22 : decode prog_1_method_26_code 22 = .ok (.invokevirtual 280, 3) := gq_14 db00c_105 eb_685
theorem d_X11_waitsAtPoint_25 : decode prog_1_method_26_code 25 = .ok (.iconst 0, 1) := gq_15 db00c_105 eb_21
theorem d_X11_waitsAtPoint_26 : decode prog_1_method_26_code 26 = .ok (.ireturn, 1) := gq_16 db00c_105 eb_15
theorem d_X11_waitsAtPoint_27 : decode prog_1_method_26_code 27 = .ok (.aload_n 0, 1) := gq_17 db00c_105 eb_0
theorem d_X11_waitsAtPoint_28 : decode prog_1_method_26_code 28 = .ok (.aload_n 1, 1) := gq_18 db00c_105 eb_23
theorem d_X11_waitsAtPoint_29 : decode prog_1_method_26_code 29 = .ok (.iconst 1, 1) := gq_19 db00c_105 eb_19
theorem d_X11_waitsAtPoint_30 : decode prog_1_method_26_code 30 = .ok (.iconst (-1), 1) := gq_20 db00c_105 eb_26
theorem d_X11_waitsAtPoint_31 : decode prog_1_method_26_code 31 = .ok (.invokevirtual 280, 3) := gq_21 db00c_105 eb_685
theorem d_X11_waitsAtPoint_34 : decode prog_1_method_26_code 34 = .ok (.iload_n 3, 1) := gq_22 db00c_105 eb_29
theorem d_X11_waitsAtPoint_35 : decode prog_1_method_26_code 35 = .ok (.aload_n 0, 1) := gq_23 db00c_105 eb_0
theorem db00c_106 : Pf_ prog_1_method_26_code [(36, [0xb4, 0x00, 0x5c]), (39, [0xa4, 0x00, 0x0a]), (42, [0x2b]), (43, [0x1d]), (44, [0xb5, 0x00, 0xdb]), (47, [0x04]), (48, [0xac]), (49, [0x03]), (50, [0xac])] := pf_ok prog_1_method_26_code _ 36 (by decide +kernel)
theorem d_X11_waitsAtPoint_36 : decode prog_1_method_26_code 36 = .ok (.getfield 92, 3) := gq_0 db00c_106 eb_605
theorem d_X11_waitsAtPoint_39 : decode prog_1_method_26_code 39 = .ok (.if_icmp .le 10, 3) := gq_1 db00c_106 eb_689
theorem d_X11_waitsAtPoint_42 : decode prog_1_method_26_code 42 = .ok (.aload_n 1, 1) := gq_2 db00c_106 eb_23
theorem d_X11_waitsAtPoint_43 : decode prog_1_method_26_code 43 = .ok (.iload_n 3, 1) := gq_3 db00c_106 eb_29
theorem d_X11_waitsAtPoint_44 : decode prog_1_method_26_code 44 = .ok (.putfield 219, 3) := gq_4 db00c_106 eb_650
theorem d_X11_waitsAtPoint_47 : decode prog_1_method_26_code 47 = .ok (.iconst 1, 1) := gq_5 db00c_106 eb_19
theorem d_X11_waitsAtPoint_48 : decode prog_1_method_26_code 48 = .ok (.ireturn, 1) := gq_6 db00c_106 eb_15
theorem d_X11_waitsAtPoint_49 : decode prog_1_method_26_code 49 = .ok (.iconst 0, 1) := gq_7 db00c_106 eb_21
theorem d_X11_waitsAtPoint_50 : decode prog_1_method_26_code 50 = .ok (.ireturn, 1) := gq_8 db00c_106 eb_15
theorem db00c_107 : Pf_ prog_1_method_27_code [(0, [0x2a]), (1, [0xb4, 0x00, 0x0a]), (4, [0x2b]), (5, [0xb4, 0x01, 0x15]), (8, [0x1c]), (9, [0xb6, 0x00, 0x73]), (12, [0x3e])] := pf_ok prog_1_method_27_code _ 0 (by decide +kernel)
theorem d_X11_setsOut_0 : decode prog_1_method_27_code 0 = .ok (.aload_n 0, 1) := gq_0 db00c_107 eb_0
theorem d_X11_setsOut_1 : decode prog_1_method_27_code 1 = .ok (.getfield 10, 3) := gq_1 db00c_107 eb_609
theorem d_X11_setsOut_4 : decode prog_1_method_27_code 4 = .ok (.aload_n 1, 1) := gq_2 db00c_107 eb_23
theorem d_X11_setsOut_5 : decode prog_1_method_27_code 5 = .ok (.getfield 277, 3) := gq_3 db00c_107 eb_684
theorem d_X11_setsOut_8 : decode prog_1_method_27_code 8 = .ok (.iload_n 2, 1) := gq_4 db00c_107 eb_13
theorem d_X11_setsOut_9 : decode prog_1_method_27_code 9 = .ok (.invokevirtual 115, 3) := gq_5 db00c_107 eb_382
theorem d_X11_setsOut_12 : decode prog_1_method_27_code 12 = .ok (.istore_n 3, 1) := gq_6 db00c_107 eb_28
