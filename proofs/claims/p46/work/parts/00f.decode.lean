theorem db00f_0 : Pf_ prog_14_method_53_code [(11, [0x2e]), (12, [0xa2, 0x00, 0x39]), (15, [0x2a]), (16, [0xb4, 0x00, 0x87]), (19, [0x2a]), (20, [0xb4, 0x00, 0x3a]), (23, [0x1b]), (24, [0x2e]), (25, [0x2e]), (26, [0x02]), (27, [0xa0, 0x00, 0x1d]), (30, [0x2a]), (31, [0xb4, 0x00, 0x8a]), (34, [0x2a]), (35, [0xb4, 0x00, 0x3a]), (38, [0x1b]), (39, [0x2e]), (40, [0x2e]), (41, [0x02]), (42, [0xa0, 0x00, 0x0e]), (45, [0x2a]), (46, [0x2a]), (47, [0xb4, 0x00, 0x3a]), (50, [0x1b])] := pf_ok prog_14_method_53_code _ 11 (by decide +kernel)
theorem d_X12_drop_11 : decode prog_14_method_53_code 11 = .ok (.iaload, 1) := gq_0 db00f_0 eb_37
theorem d_X12_drop_12 : decode prog_14_method_53_code 12 = .ok (.if_icmp .ge 57, 3) := gq_1 db00f_0 eb_1058
theorem d_X12_drop_15 : decode prog_14_method_53_code 15 = .ok (.aload_n 0, 1) := gq_2 db00f_0 eb_0
theorem d_X12_drop_16 : decode prog_14_method_53_code 16 = .ok (.getfield 135, 3) := gq_3 db00f_0 eb_1059
theorem d_X12_drop_19 : decode prog_14_method_53_code 19 = .ok (.aload_n 0, 1) := gq_4 db00f_0 eb_0
theorem d_X12_drop_20 : decode prog_14_method_53_code 20 = .ok (.getfield 58, 3) := gq_5 db00f_0 eb_319
theorem d_X12_drop_23 : decode prog_14_method_53_code 23 = .ok (.iload_n 1, 1) := gq_6 db00f_0 eb_9
theorem d_X12_drop_24 : decode prog_14_method_53_code 24 = .ok (.iaload, 1) := gq_7 db00f_0 eb_37
theorem d_X12_drop_25 : decode prog_14_method_53_code 25 = .ok (.iaload, 1) := gq_8 db00f_0 eb_37
theorem d_X12_drop_26 : decode prog_14_method_53_code 26 = .ok (.iconst (-1), 1) := gq_9 db00f_0 eb_26
theorem d_X12_drop_27 : decode prog_14_method_53_code 27 = .ok (.if_icmp .ne 29, 3) := gq_10 db00f_0 eb_311
theorem d_X12_drop_30 : decode prog_14_method_53_code 30 = .ok (.aload_n 0, 1) := gq_11 db00f_0 eb_0
theorem d_X12_drop_31 : decode prog_14_method_53_code 31 = .ok (.getfield 138, 3) := gq_12 db00f_0 eb_1056
theorem d_X12_drop_34 : decode prog_14_method_53_code 34 = .ok (.aload_n 0, 1) := gq_13 db00f_0 eb_0
theorem d_X12_drop_35 : decode prog_14_method_53_code 35 = .ok (.getfield 58, 3) := gq_14 db00f_0 eb_319
theorem d_X12_drop_38 : decode prog_14_method_53_code 38 = .ok (.iload_n 1, 1) := gq_15 db00f_0 eb_9
theorem d_X12_drop_39 : decode prog_14_method_53_code 39 = .ok (.iaload, 1) := gq_16 db00f_0 eb_37
theorem d_X12_drop_40 : decode prog_14_method_53_code 40 = .ok (.iaload, 1) := gq_17 db00f_0 eb_37
theorem d_X12_drop_41 : decode prog_14_method_53_code 41 = .ok (.iconst (-1), 1) := gq_18 db00f_0 eb_26
theorem d_X12_drop_42 : decode prog_14_method_53_code 42 = .ok (.if_icmp .ne 14, 3) := gq_19 db00f_0 eb_1060
theorem d_X12_drop_45 : decode prog_14_method_53_code 45 = .ok (.aload_n 0, 1) := gq_20 db00f_0 eb_0
theorem d_X12_drop_46 : decode prog_14_method_53_code 46 = .ok (.aload_n 0, 1) := gq_21 db00f_0 eb_0
theorem d_X12_drop_47 : decode prog_14_method_53_code 47 = .ok (.getfield 58, 3) := gq_22 db00f_0 eb_319
theorem d_X12_drop_50 : decode prog_14_method_53_code 50 = .ok (.iload_n 1, 1) := gq_23 db00f_0 eb_9
theorem db00f_1 : Pf_ prog_14_method_53_code [(51, [0x2e]), (52, [0x1c]), (53, [0xb6, 0x01, 0xf4]), (56, [0x2a]), (57, [0xb4, 0x00, 0x3a]), (60, [0x1b]), (61, [0x5c]), (62, [0x2e]), (63, [0x04]), (64, [0x60]), (65, [0x4f]), (66, [0xa7, 0xff, 0xbe]), (69, [0x2a]), (70, [0xb4, 0x00, 0x31]), (73, [0x1b]), (74, [0x02]), (75, [0x4f]), (76, [0xb1])] := pf_ok prog_14_method_53_code _ 51 (by decide +kernel)
theorem d_X12_drop_51 : decode prog_14_method_53_code 51 = .ok (.iaload, 1) := gq_0 db00f_1 eb_37
theorem d_X12_drop_52 : decode prog_14_method_53_code 52 = .ok (.iload_n 2, 1) := gq_1 db00f_1 eb_13
theorem d_X12_drop_53 : decode prog_14_method_53_code 53 = .ok (.invokevirtual 500, 3) := gq_2 db00f_1 eb_1061
theorem d_X12_drop_56 : decode prog_14_method_53_code 56 = .ok (.aload_n 0, 1) := gq_3 db00f_1 eb_0
theorem d_X12_drop_57 : decode prog_14_method_53_code 57 = .ok (.getfield 58, 3) := gq_4 db00f_1 eb_319
theorem d_X12_drop_60 : decode prog_14_method_53_code 60 = .ok (.iload_n 1, 1) := gq_5 db00f_1 eb_9
theorem d_X12_drop_61 : decode prog_14_method_53_code 61 = .ok (.dup2, 1) := gq_6 db00f_1 eb_143
theorem d_X12_drop_62 : decode prog_14_method_53_code 62 = .ok (.iaload, 1) := gq_7 db00f_1 eb_37
theorem d_X12_drop_63 : decode prog_14_method_53_code 63 = .ok (.iconst 1, 1) := gq_8 db00f_1 eb_19
theorem d_X12_drop_64 : decode prog_14_method_53_code 64 = .ok (.iadd, 1) := gq_9 db00f_1 eb_35
theorem d_X12_drop_65 : decode prog_14_method_53_code 65 = .ok (.iastore, 1) := gq_10 db00f_1 eb_38
theorem d_X12_drop_66 : decode prog_14_method_53_code 66 = .ok (.goto (-66), 3) := gq_11 db00f_1 eb_1062
theorem d_X12_drop_69 : decode prog_14_method_53_code 69 = .ok (.aload_n 0, 1) := gq_12 db00f_1 eb_0
theorem d_X12_drop_70 : decode prog_14_method_53_code 70 = .ok (.getfield 49, 3) := gq_13 db00f_1 eb_285
theorem d_X12_drop_73 : decode prog_14_method_53_code 73 = .ok (.iload_n 1, 1) := gq_14 db00f_1 eb_9
theorem d_X12_drop_74 : decode prog_14_method_53_code 74 = .ok (.iconst (-1), 1) := gq_15 db00f_1 eb_26
theorem d_X12_drop_75 : decode prog_14_method_53_code 75 = .ok (.iastore, 1) := gq_16 db00f_1 eb_38
theorem d_X12_drop_76 : decode prog_14_method_53_code 76 = .ok (.return_, 1) := gq_17 db00f_1 eb_7
theorem db00f_2 : Pf_ prog_14_method_54_code [(0, [0x2a]), (1, [0xb4, 0x00, 0x87]), (4, [0x1b]), (5, [0x2e]), (6, [0x02]), (7, [0x9f, 0x00, 0x0f]), (10, [0x2a]), (11, [0xb4, 0x00, 0x87]), (14, [0x1b]), (15, [0x2e]), (16, [0x1c]), (17, [0xa3, 0x00, 0x05]), (20, [0x04]), (21, [0xac]), (22, [0x2a]), (23, [0xb4, 0x00, 0x8a]), (26, [0x1b]), (27, [0x2e]), (28, [0x02]), (29, [0x9f, 0x00, 0x11]), (32, [0x2a]), (33, [0xb4, 0x00, 0x8a]), (36, [0x1b]), (37, [0x2e])] := pf_ok prog_14_method_54_code _ 0 (by decide +kernel)
theorem d_X12_stateOf_0 : decode prog_14_method_54_code 0 = .ok (.aload_n 0, 1) := gq_0 db00f_2 eb_0
theorem d_X12_stateOf_1 : decode prog_14_method_54_code 1 = .ok (.getfield 135, 3) := gq_1 db00f_2 eb_1059
theorem d_X12_stateOf_4 : decode prog_14_method_54_code 4 = .ok (.iload_n 1, 1) := gq_2 db00f_2 eb_9
theorem d_X12_stateOf_5 : decode prog_14_method_54_code 5 = .ok (.iaload, 1) := gq_3 db00f_2 eb_37
theorem d_X12_stateOf_6 : decode prog_14_method_54_code 6 = .ok (.iconst (-1), 1) := gq_4 db00f_2 eb_26
theorem d_X12_stateOf_7 : decode prog_14_method_54_code 7 = .ok (.if_icmp .eq 15, 3) := gq_5 db00f_2 eb_523
theorem d_X12_stateOf_10 : decode prog_14_method_54_code 10 = .ok (.aload_n 0, 1) := gq_6 db00f_2 eb_0
theorem d_X12_stateOf_11 : decode prog_14_method_54_code 11 = .ok (.getfield 135, 3) := gq_7 db00f_2 eb_1059
theorem d_X12_stateOf_14 : decode prog_14_method_54_code 14 = .ok (.iload_n 1, 1) := gq_8 db00f_2 eb_9
theorem d_X12_stateOf_15 : decode prog_14_method_54_code 15 = .ok (.iaload, 1) := gq_9 db00f_2 eb_37
theorem d_X12_stateOf_16 : decode prog_14_method_54_code 16 = .ok (.iload_n 2, 1) := gq_10 db00f_2 eb_13
theorem d_X12_stateOf_17 : decode prog_14_method_54_code 17 = .ok (.if_icmp .gt 5, 3) := gq_11 db00f_2 eb_1063
theorem d_X12_stateOf_20 : decode prog_14_method_54_code 20 = .ok (.iconst 1, 1) := gq_12 db00f_2 eb_19
theorem d_X12_stateOf_21 : decode prog_14_method_54_code 21 = .ok (.ireturn, 1) := gq_13 db00f_2 eb_15
theorem d_X12_stateOf_22 : decode prog_14_method_54_code 22 = .ok (.aload_n 0, 1) := gq_14 db00f_2 eb_0
theorem d_X12_stateOf_23 : decode prog_14_method_54_code 23 = .ok (.getfield 138, 3) := gq_15 db00f_2 eb_1056
theorem d_X12_stateOf_26 : decode prog_14_method_54_code 26 = .ok (.iload_n 1, 1) := gq_16 db00f_2 eb_9
theorem d_X12_stateOf_27 : decode prog_14_method_54_code 27 = .ok (.iaload, 1) := gq_17 db00f_2 eb_37
theorem d_X12_stateOf_28 : decode prog_14_method_54_code 28 = .ok (.iconst (-1), 1) := gq_18 db00f_2 eb_26
theorem d_X12_stateOf_29 : decode prog_14_method_54_code 29 = .ok (.if_icmp .eq 17, 3) := gq_19 db00f_2 eb_411
theorem d_X12_stateOf_32 : decode prog_14_method_54_code 32 = .ok (.aload_n 0, 1) := gq_20 db00f_2 eb_0
theorem d_X12_stateOf_33 : decode prog_14_method_54_code 33 = .ok (.getfield 138, 3) := gq_21 db00f_2 eb_1056
theorem d_X12_stateOf_36 : decode prog_14_method_54_code 36 = .ok (.iload_n 1, 1) := gq_22 db00f_2 eb_9
theorem d_X12_stateOf_37 : decode prog_14_method_54_code 37 = .ok (.iaload, 1) := gq_23 db00f_2 eb_37
theorem db00f_3 : Pf_ prog_14_method_54_code [(38, [0x1c]), (39, [0xa3, 0x00, 0x07]), (42, [0x05]), (43, [0xa7, 0x00, 0x04]), (46, [0x03]), (47, [0xac])] := pf_ok prog_14_method_54_code _ 38 (by decide +kernel)
theorem d_X12_stateOf_38 : decode prog_14_method_54_code 38 = .ok (.iload_n 2, 1) := gq_0 db00f_3 eb_13
theorem d_X12_stateOf_39 : decode prog_14_method_54_code 39 = .ok (.if_icmp .gt 7, 3) := gq_1 db00f_3 eb_113
theorem d_X12_stateOf_42 : decode prog_14_method_54_code 42 = .ok (.iconst 2, 1) := gq_2 db00f_3 eb_10
theorem d_X12_stateOf_43 : decode prog_14_method_54_code 43 = .ok (.goto 4, 3) := gq_3 db00f_3 eb_20
theorem d_X12_stateOf_46 : decode prog_14_method_54_code 46 = .ok (.iconst 0, 1) := gq_4 db00f_3 eb_21
theorem d_X12_stateOf_47 : decode prog_14_method_54_code 47 = .ok (.ireturn, 1) := gq_5 db00f_3 eb_15
theorem db00f_4 : Pf_ prog_14_method_55_code [(0, [0x2a]), (1, [0xb4, 0x00, 0x8d]), (4, [0x1b]), (5, [0x2e]), (6, [0x3e]), (7, [0x03]), (8, [0x36, 0x04]), (10, [0x15, 0x04]), (12, [0x2a]), (13, [0xb4, 0x01, 0xf8]), (16, [0xa2, 0x00, 0x27]), (19, [0x2a]), (20, [0xb4, 0x00, 0x93]), (23, [0x15, 0x04]), (25, [0x2e]), (26, [0x1b]), (27, [0xa0, 0x00, 0x16]), (30, [0x2a]), (31, [0xb4, 0x00, 0x99]), (34, [0x15, 0x04]), (36, [0x2e]), (37, [0x1c]), (38, [0xa3, 0x00, 0x0b]), (41, [0x2a])] := pf_ok prog_14_method_55_code _ 0 (by decide +kernel)
theorem d_X12_causeOf_0 : decode prog_14_method_55_code 0 = .ok (.aload_n 0, 1) := gq_0 db00f_4 eb_0
theorem d_X12_causeOf_1 : decode prog_14_method_55_code 1 = .ok (.getfield 141, 3) := gq_1 db00f_4 eb_1057
theorem d_X12_causeOf_4 : decode prog_14_method_55_code 4 = .ok (.iload_n 1, 1) := gq_2 db00f_4 eb_9
theorem d_X12_causeOf_5 : decode prog_14_method_55_code 5 = .ok (.iaload, 1) := gq_3 db00f_4 eb_37
theorem d_X12_causeOf_6 : decode prog_14_method_55_code 6 = .ok (.istore_n 3, 1) := gq_4 db00f_4 eb_28
theorem d_X12_causeOf_7 : decode prog_14_method_55_code 7 = .ok (.iconst 0, 1) := gq_5 db00f_4 eb_21
theorem d_X12_causeOf_8 : decode prog_14_method_55_code 8 = .ok (.istore 4, 2) := gq_6 db00f_4 eb_133
theorem d_X12_causeOf_10 : decode prog_14_method_55_code 10 = .ok (.iload 4, 2) := gq_7 db00f_4 eb_76
theorem d_X12_causeOf_12 : decode prog_14_method_55_code 12 = .ok (.aload_n 0, 1) := gq_8 db00f_4 eb_0
theorem d_X12_causeOf_13 : decode prog_14_method_55_code 13 = .ok (.getfield 504, 3) := gq_9 db00f_4 eb_785
theorem d_X12_causeOf_16 : decode prog_14_method_55_code 16 = .ok (.if_icmp .ge 39, 3) := gq_10 db00f_4 eb_419
theorem d_X12_causeOf_19 : decode prog_14_method_55_code 19 = .ok (.aload_n 0, 1) := gq_11 db00f_4 eb_0
theorem d_X12_causeOf_20 : decode prog_14_method_55_code 20 = .ok (.getfield 147, 3) := gq_12 db00f_4 eb_1064
theorem d_X12_causeOf_23 : decode prog_14_method_55_code 23 = .ok (.iload 4, 2) := gq_13 db00f_4 eb_76
theorem d_X12_causeOf_25 : decode prog_14_method_55_code 25 = .ok (.iaload, 1) := gq_14 db00f_4 eb_37
theorem d_X12_causeOf_26 : decode prog_14_method_55_code 26 = .ok (.iload_n 1, 1) := gq_15 db00f_4 eb_9
theorem d_X12_causeOf_27 : decode prog_14_method_55_code 27 = .ok (.if_icmp .ne 22, 3) := gq_16 db00f_4 eb_420
theorem d_X12_causeOf_30 : decode prog_14_method_55_code 30 = .ok (.aload_n 0, 1) := gq_17 db00f_4 eb_0
theorem d_X12_causeOf_31 : decode prog_14_method_55_code 31 = .ok (.getfield 153, 3) := gq_18 db00f_4 eb_1065
theorem d_X12_causeOf_34 : decode prog_14_method_55_code 34 = .ok (.iload 4, 2) := gq_19 db00f_4 eb_76
theorem d_X12_causeOf_36 : decode prog_14_method_55_code 36 = .ok (.iaload, 1) := gq_20 db00f_4 eb_37
theorem d_X12_causeOf_37 : decode prog_14_method_55_code 37 = .ok (.iload_n 2, 1) := gq_21 db00f_4 eb_13
theorem d_X12_causeOf_38 : decode prog_14_method_55_code 38 = .ok (.if_icmp .gt 11, 3) := gq_22 db00f_4 eb_421
theorem d_X12_causeOf_41 : decode prog_14_method_55_code 41 = .ok (.aload_n 0, 1) := gq_23 db00f_4 eb_0
theorem db00f_5 : Pf_ prog_14_method_55_code [(42, [0xb4, 0x00, 0x96]), (45, [0x15, 0x04]), (47, [0x2e]), (48, [0x3e]), (49, [0x84, 0x04, 0x01]), (52, [0xa7, 0xff, 0xd6]), (55, [0x1d]), (56, [0xac])] := pf_ok prog_14_method_55_code _ 42 (by decide +kernel)
theorem d_X12_causeOf_42 : decode prog_14_method_55_code 42 = .ok (.getfield 150, 3) := gq_0 db00f_5 eb_1066
theorem d_X12_causeOf_45 : decode prog_14_method_55_code 45 = .ok (.iload 4, 2) := gq_1 db00f_5 eb_76
theorem d_X12_causeOf_47 : decode prog_14_method_55_code 47 = .ok (.iaload, 1) := gq_2 db00f_5 eb_37
theorem d_X12_causeOf_48 : decode prog_14_method_55_code 48 = .ok (.istore_n 3, 1) := gq_3 db00f_5 eb_28
theorem d_X12_causeOf_49 : decode prog_14_method_55_code 49 = .ok (.iinc 4 1, 3) := gq_4 db00f_5 eb_144
theorem d_X12_causeOf_52 : decode prog_14_method_55_code 52 = .ok (.goto (-42), 3) := gq_5 db00f_5 eb_422
theorem d_X12_causeOf_55 : decode prog_14_method_55_code 55 = .ok (.iload_n 3, 1) := gq_6 db00f_5 eb_29
theorem d_X12_causeOf_56 : decode prog_14_method_55_code 56 = .ok (.ireturn, 1) := gq_7 db00f_5 eb_15
theorem d_X12_point_35 : decode prog_14_method_56_code 35 = .ok (.tableswitch 82 0 4 #[33, 40, 47, 54, 61], 33) := by decide +kernel
theorem db00f_6 : Pf_ prog_14_method_56_code [(0, [0x1b]), (1, [0x03]), (2, [0x2a]), (3, [0xb4, 0x01, 0xfb]), (6, [0x04]), (7, [0x64]), (8, [0xb8, 0x01, 0x43]), (11, [0x99, 0x00, 0x15]), (14, [0x2a]), (15, [0x1c]), (16, [0xb6, 0x01, 0x5f]), (19, [0x99, 0x00, 0x0d]), (22, [0x2a]), (23, [0xb4, 0x00, 0x90]), (26, [0x1b]), (27, [0x2e]), (28, [0x1c]), (29, [0xa4, 0x00, 0x05]), (32, [0x02]), (33, [0xac]), (34, [0x1d]), (68, [0x2a]), (69, [0xb4, 0x00, 0x7e]), (72, [0x1b])] := pf_ok prog_14_method_56_code _ 0 (by decide +kernel)
theorem d_X12_point_0 : decode prog_14_method_56_code 0 = .ok (.iload_n 1, 1) := gq_0 db00f_6 eb_9
theorem d_X12_point_1 : decode prog_14_method_56_code 1 = .ok (.iconst 0, 1) := gq_1 db00f_6 eb_21
theorem d_X12_point_2 : decode prog_14_method_56_code 2 = .ok (.aload_n 0, 1) := gq_2 db00f_6 eb_0
theorem d_X12_point_3 : decode prog_14_method_56_code 3 = .ok (.getfield 507, 3) := gq_3 db00f_6 eb_1067
theorem d_X12_point_6 : decode prog_14_method_56_code 6 = .ok (.iconst 1, 1) := gq_4 db00f_6 eb_19
theorem d_X12_point_7 : decode prog_14_method_56_code 7 = .ok (.isub, 1) := gq_5 db00f_6 eb_48
theorem d_X12_point_8 : decode prog_14_method_56_code 8 = .ok (.invokestatic 323, 3) := gq_6 db00f_6 eb_913
theorem d_X12_point_11 : decode prog_14_method_56_code 11 = .ok (.ifCond .eq 21, 3) := gq_7 db00f_6 eb_326
theorem d_X12_point_14 : decode prog_14_method_56_code 14 = .ok (.aload_n 0, 1) := gq_8 db00f_6 eb_0
theorem d_X12_point_15 : decode prog_14_method_56_code 15 = .ok (.iload_n 2, 1) := gq_9 db00f_6 eb_13
theorem d_X12_point_16 : decode prog_14_method_56_code 16 = .ok (.invokevirtual 351, 3) := gq_10 db00f_6 eb_938
theorem d_X12_point_19 : decode prog_14_method_56_code 19 = .ok (.ifCond .eq 13, 3) := gq_11 db00f_6 eb_119
theorem d_X12_point_22 : decode prog_14_method_56_code 22 = .ok (.aload_n 0, 1) := gq_12 db00f_6 eb_0
theorem d_X12_point_23 : decode prog_14_method_56_code 23 = .ok (.getfield 144, 3) := gq_13 db00f_6 eb_1068
theorem d_X12_point_26 : decode prog_14_method_56_code 26 = .ok (.iload_n 1, 1) := gq_14 db00f_6 eb_9
theorem d_X12_point_27 : decode prog_14_method_56_code 27 = .ok (.iaload, 1) := gq_15 db00f_6 eb_37
theorem d_X12_point_28 : decode prog_14_method_56_code 28 = .ok (.iload_n 2, 1) := gq_16 db00f_6 eb_13
theorem d_X12_point_29 : decode prog_14_method_56_code 29 = .ok (.if_icmp .le 5, 3) := gq_17 db00f_6 eb_334
theorem d_X12_point_32 : decode prog_14_method_56_code 32 = .ok (.iconst (-1), 1) := gq_18 db00f_6 eb_26
theorem d_X12_point_33 : decode prog_14_method_56_code 33 = .ok (.ireturn, 1) := gq_19 db00f_6 eb_15
theorem d_X12_point_34 : decode prog_14_method_56_code 34 = .ok (.iload_n 3, 1) := gq_20 db00f_6 eb_29
theorem d_X12_point_68 : decode prog_14_method_56_code 68 = .ok (.aload_n 0, 1) := gq_21 db00f_6 eb_0
theorem d_X12_point_69 : decode prog_14_method_56_code 69 = .ok (.getfield 126, 3) := gq_22 db00f_6 eb_613
theorem d_X12_point_72 : decode prog_14_method_56_code 72 = .ok (.iload_n 1, 1) := gq_23 db00f_6 eb_9
theorem db00f_7 : Pf_ prog_14_method_56_code [(73, [0x2e]), (74, [0xac]), (75, [0x2a]), (76, [0xb4, 0x00, 0x81]), (79, [0x1b]), (80, [0x2e]), (81, [0xac]), (82, [0x2a]), (83, [0xb4, 0x00, 0x84]), (86, [0x1b]), (87, [0x2e]), (88, [0xac]), (89, [0x2a]), (90, [0x1b]), (91, [0x1c]), (92, [0xb6, 0x01, 0xfe]), (95, [0xac]), (96, [0x2a]), (97, [0x1b]), (98, [0x1c]), (99, [0xb6, 0x01, 0xfe]), (102, [0x05]), (103, [0xa0, 0x00, 0x0c]), (106, [0x2a])] := pf_ok prog_14_method_56_code _ 73 (by decide +kernel)
theorem d_X12_point_73 : decode prog_14_method_56_code 73 = .ok (.iaload, 1) := gq_0 db00f_7 eb_37
theorem d_X12_point_74 : decode prog_14_method_56_code 74 = .ok (.ireturn, 1) := gq_1 db00f_7 eb_15
theorem d_X12_point_75 : decode prog_14_method_56_code 75 = .ok (.aload_n 0, 1) := gq_2 db00f_7 eb_0
theorem d_X12_point_76 : decode prog_14_method_56_code 76 = .ok (.getfield 129, 3) := gq_3 db00f_7 eb_1069
theorem d_X12_point_79 : decode prog_14_method_56_code 79 = .ok (.iload_n 1, 1) := gq_4 db00f_7 eb_9
theorem d_X12_point_80 : decode prog_14_method_56_code 80 = .ok (.iaload, 1) := gq_5 db00f_7 eb_37
theorem d_X12_point_81 : decode prog_14_method_56_code 81 = .ok (.ireturn, 1) := gq_6 db00f_7 eb_15
theorem d_X12_point_82 : decode prog_14_method_56_code 82 = .ok (.aload_n 0, 1) := gq_7 db00f_7 eb_0
theorem d_X12_point_83 : decode prog_14_method_56_code 83 = .ok (.getfield 132, 3) := gq_8 db00f_7 eb_1070
theorem d_X12_point_86 : decode prog_14_method_56_code 86 = .ok (.iload_n 1, 1) := gq_9 db00f_7 eb_9
theorem d_X12_point_87 : decode prog_14_method_56_code 87 = .ok (.iaload, 1) := gq_10 db00f_7 eb_37
theorem d_X12_point_88 : decode prog_14_method_56_code 88 = .ok (.ireturn, 1) := gq_11 db00f_7 eb_15
theorem d_X12_point_89 : decode prog_14_method_56_code 89 = .ok (.aload_n 0, 1) := gq_12 db00f_7 eb_0
theorem d_X12_point_90 : decode prog_14_method_56_code 90 = .ok (.iload_n 1, 1) := gq_13 db00f_7 eb_9
theorem d_X12_point_91 : decode prog_14_method_56_code 91 = .ok (.iload_n 2, 1) := gq_14 db00f_7 eb_13
theorem d_X12_point_92 : decode prog_14_method_56_code 92 = .ok (.invokevirtual 510, 3) := gq_15 db00f_7 eb_787
theorem d_X12_point_95 : decode prog_14_method_56_code 95 = .ok (.ireturn, 1) := gq_16 db00f_7 eb_15
theorem d_X12_point_96 : decode prog_14_method_56_code 96 = .ok (.aload_n 0, 1) := gq_17 db00f_7 eb_0
theorem d_X12_point_97 : decode prog_14_method_56_code 97 = .ok (.iload_n 1, 1) := gq_18 db00f_7 eb_9
theorem d_X12_point_98 : decode prog_14_method_56_code 98 = .ok (.iload_n 2, 1) := gq_19 db00f_7 eb_13
theorem d_X12_point_99 : decode prog_14_method_56_code 99 = .ok (.invokevirtual 510, 3) := gq_20 db00f_7 eb_787
theorem d_X12_point_102 : decode prog_14_method_56_code 102 = .ok (.iconst 2, 1) := gq_21 db00f_7 eb_10
theorem d_X12_point_103 : decode prog_14_method_56_code 103 = .ok (.if_icmp .ne 12, 3) := gq_22 db00f_7 eb_410
theorem d_X12_point_106 : decode prog_14_method_56_code 106 = .ok (.aload_n 0, 1) := gq_23 db00f_7 eb_0
theorem db00f_8 : Pf_ prog_14_method_56_code [(107, [0x1b]), (108, [0x1c]), (109, [0xb6, 0x02, 0x01]), (112, [0xa7, 0x00, 0x04]), (115, [0x02]), (116, [0xac]), (117, [0x02]), (118, [0xac])] := pf_ok prog_14_method_56_code _ 107 (by decide +kernel)
theorem d_X12_point_107 : decode prog_14_method_56_code 107 = .ok (.iload_n 1, 1) := gq_0 db00f_8 eb_9
theorem d_X12_point_108 : decode prog_14_method_56_code 108 = .ok (.iload_n 2, 1) := gq_1 db00f_8 eb_13
theorem d_X12_point_109 : decode prog_14_method_56_code 109 = .ok (.invokevirtual 513, 3) := gq_2 db00f_8 eb_788
theorem d_X12_point_112 : decode prog_14_method_56_code 112 = .ok (.goto 4, 3) := gq_3 db00f_8 eb_20
theorem d_X12_point_115 : decode prog_14_method_56_code 115 = .ok (.iconst (-1), 1) := gq_4 db00f_8 eb_26
theorem d_X12_point_116 : decode prog_14_method_56_code 116 = .ok (.ireturn, 1) := gq_5 db00f_8 eb_15
theorem d_X12_point_117 : decode prog_14_method_56_code 117 = .ok (.iconst (-1), 1) := gq_6 db00f_8 eb_26
theorem d_X12_point_118 : decode prog_14_method_56_code 118 = .ok (.ireturn, 1) := gq_7 db00f_8 eb_15
theorem db00f_9 : Pf_ prog_14_method_57_code [(0, [0x1b]), (1, [0x03]), (2, [0x2a]), (3, [0xb4, 0x01, 0xfb]), (6, [0x04]), (7, [0x64]), (8, [0xb8, 0x01, 0x43]), (11, [0x99, 0x00, 0x24]), (14, [0x2a]), (15, [0x1b]), (16, [0x2a]), (17, [0xb4, 0x01, 0x56]), (20, [0xb6, 0x01, 0xfe]), (23, [0x05]), (24, [0xa0, 0x00, 0x17]), (27, [0x1c]), (28, [0x04]), (29, [0x10, 0x09]), (31, [0xb8, 0x01, 0x43]), (34, [0x99, 0x00, 0x0d]), (37, [0x2a]), (38, [0xb4, 0x01, 0xf8]), (41, [0x11, 0x00, 0xc8]), (44, [0xa0, 0x00, 0x05])] := pf_ok prog_14_method_57_code _ 0 (by decide +kernel)
theorem d_X12_cause_0 : decode prog_14_method_57_code 0 = .ok (.iload_n 1, 1) := gq_0 db00f_9 eb_9
theorem d_X12_cause_1 : decode prog_14_method_57_code 1 = .ok (.iconst 0, 1) := gq_1 db00f_9 eb_21
theorem d_X12_cause_2 : decode prog_14_method_57_code 2 = .ok (.aload_n 0, 1) := gq_2 db00f_9 eb_0
theorem d_X12_cause_3 : decode prog_14_method_57_code 3 = .ok (.getfield 507, 3) := gq_3 db00f_9 eb_1067
theorem d_X12_cause_6 : decode prog_14_method_57_code 6 = .ok (.iconst 1, 1) := gq_4 db00f_9 eb_19
theorem d_X12_cause_7 : decode prog_14_method_57_code 7 = .ok (.isub, 1) := gq_5 db00f_9 eb_48
theorem d_X12_cause_8 : decode prog_14_method_57_code 8 = .ok (.invokestatic 323, 3) := gq_6 db00f_9 eb_913
theorem d_X12_cause_11 : decode prog_14_method_57_code 11 = .ok (.ifCond .eq 36, 3) := gq_7 db00f_9 eb_278
theorem d_X12_cause_14 : decode prog_14_method_57_code 14 = .ok (.aload_n 0, 1) := gq_8 db00f_9 eb_0
theorem d_X12_cause_15 : decode prog_14_method_57_code 15 = .ok (.iload_n 1, 1) := gq_9 db00f_9 eb_9
theorem d_X12_cause_16 : decode prog_14_method_57_code 16 = .ok (.aload_n 0, 1) := gq_10 db00f_9 eb_0
theorem d_X12_cause_17 : decode prog_14_method_57_code 17 = .ok (.getfield 342, 3) := gq_11 db00f_9 eb_928
theorem d_X12_cause_20 : decode prog_14_method_57_code 20 = .ok (.invokevirtual 510, 3) := gq_12 db00f_9 eb_787
theorem d_X12_cause_23 : decode prog_14_method_57_code 23 = .ok (.iconst 2, 1) := gq_13 db00f_9 eb_10
theorem d_X12_cause_24 : decode prog_14_method_57_code 24 = .ok (.if_icmp .ne 23, 3) := gq_14 db00f_9 eb_999
theorem d_X12_cause_27 : decode prog_14_method_57_code 27 = .ok (.iload_n 2, 1) := gq_15 db00f_9 eb_13
theorem d_X12_cause_28 : decode prog_14_method_57_code 28 = .ok (.iconst 1, 1) := gq_16 db00f_9 eb_19
theorem d_X12_cause_29 : decode prog_14_method_57_code 29 = .ok (.bipush 9, 2) := gq_17 db00f_9 eb_287
theorem d_X12_cause_31 : decode prog_14_method_57_code 31 = .ok (.invokestatic 323, 3) := gq_18 db00f_9 eb_913
theorem d_X12_cause_34 : decode prog_14_method_57_code 34 = .ok (.ifCond .eq 13, 3) := gq_19 db00f_9 eb_119
theorem d_X12_cause_37 : decode prog_14_method_57_code 37 = .ok (.aload_n 0, 1) := gq_20 db00f_9 eb_0
theorem d_X12_cause_38 : decode prog_14_method_57_code 38 = .ok (.getfield 504, 3) := gq_21 db00f_9 eb_785
theorem d_X12_cause_41 : decode prog_14_method_57_code 41 = .ok (.sipush 200, 3) := gq_22 db00f_9 eb_96
theorem d_X12_cause_44 : decode prog_14_method_57_code 44 = .ok (.if_icmp .ne 5, 3) := gq_23 db00f_9 eb_479
theorem db00f_10 : Pf_ prog_14_method_57_code [(47, [0x03]), (48, [0xac]), (49, [0x2a]), (50, [0xb4, 0x00, 0x93]), (53, [0x2a]), (54, [0xb4, 0x01, 0xf8]), (57, [0x1b]), (58, [0x4f]), (59, [0x2a]), (60, [0xb4, 0x00, 0x96]), (63, [0x2a]), (64, [0xb4, 0x01, 0xf8]), (67, [0x1c]), (68, [0x4f]), (69, [0x2a]), (70, [0xb4, 0x00, 0x99]), (73, [0x2a]), (74, [0xb4, 0x01, 0xf8]), (77, [0x2a]), (78, [0xb4, 0x01, 0x56]), (81, [0x4f]), (82, [0x2a]), (83, [0x59]), (84, [0xb4, 0x01, 0xf8])] := pf_ok prog_14_method_57_code _ 47 (by decide +kernel)
theorem d_X12_cause_47 : decode prog_14_method_57_code 47 = .ok (.iconst 0, 1) := gq_0 db00f_10 eb_21
theorem d_X12_cause_48 : decode prog_14_method_57_code 48 = .ok (.ireturn, 1) := gq_1 db00f_10 eb_15
theorem d_X12_cause_49 : decode prog_14_method_57_code 49 = .ok (.aload_n 0, 1) := gq_2 db00f_10 eb_0
theorem d_X12_cause_50 : decode prog_14_method_57_code 50 = .ok (.getfield 147, 3) := gq_3 db00f_10 eb_1064
theorem d_X12_cause_53 : decode prog_14_method_57_code 53 = .ok (.aload_n 0, 1) := gq_4 db00f_10 eb_0
theorem d_X12_cause_54 : decode prog_14_method_57_code 54 = .ok (.getfield 504, 3) := gq_5 db00f_10 eb_785
theorem d_X12_cause_57 : decode prog_14_method_57_code 57 = .ok (.iload_n 1, 1) := gq_6 db00f_10 eb_9
theorem d_X12_cause_58 : decode prog_14_method_57_code 58 = .ok (.iastore, 1) := gq_7 db00f_10 eb_38
theorem d_X12_cause_59 : decode prog_14_method_57_code 59 = .ok (.aload_n 0, 1) := gq_8 db00f_10 eb_0
theorem d_X12_cause_60 : decode prog_14_method_57_code 60 = .ok (.getfield 150, 3) := gq_9 db00f_10 eb_1066
theorem d_X12_cause_63 : decode prog_14_method_57_code 63 = .ok (.aload_n 0, 1) := gq_10 db00f_10 eb_0
theorem d_X12_cause_64 : decode prog_14_method_57_code 64 = .ok (.getfield 504, 3) := gq_11 db00f_10 eb_785
theorem d_X12_cause_67 : decode prog_14_method_57_code 67 = .ok (.iload_n 2, 1) := gq_12 db00f_10 eb_13
theorem d_X12_cause_68 : decode prog_14_method_57_code 68 = .ok (.iastore, 1) := gq_13 db00f_10 eb_38
theorem d_X12_cause_69 : decode prog_14_method_57_code 69 = .ok (.aload_n 0, 1) := gq_14 db00f_10 eb_0
theorem d_X12_cause_70 : decode prog_14_method_57_code 70 = .ok (.getfield 153, 3) := gq_15 db00f_10 eb_1065
theorem d_X12_cause_73 : decode prog_14_method_57_code 73 = .ok (.aload_n 0, 1) := gq_16 db00f_10 eb_0
theorem d_X12_cause_74 : decode prog_14_method_57_code 74 = .ok (.getfield 504, 3) := gq_17 db00f_10 eb_785
theorem d_X12_cause_77 : decode prog_14_method_57_code 77 = .ok (.aload_n 0, 1) := gq_18 db00f_10 eb_0
theorem d_X12_cause_78 : decode prog_14_method_57_code 78 = .ok (.getfield 342, 3) := gq_19 db00f_10 eb_928
theorem d_X12_cause_81 : decode prog_14_method_57_code 81 = .ok (.iastore, 1) := gq_20 db00f_10 eb_38
theorem d_X12_cause_82 : decode prog_14_method_57_code 82 = .ok (.aload_n 0, 1) := gq_21 db00f_10 eb_0
theorem d_X12_cause_83 : decode prog_14_method_57_code 83 = .ok (.dup, 1) := gq_22 db00f_10 eb_46
theorem d_X12_cause_84 : decode prog_14_method_57_code 84 = .ok (.getfield 504, 3) := gq_23 db00f_10 eb_785
theorem db00f_11 : Pf_ prog_14_method_57_code [(87, [0x04]), (88, [0x60]), (89, [0xb5, 0x01, 0xf8]), (92, [0x04]), (93, [0xac])] := pf_ok prog_14_method_57_code _ 87 (by decide +kernel)
theorem d_X12_cause_87 : decode prog_14_method_57_code 87 = .ok (.iconst 1, 1) := gq_0 db00f_11 eb_19
theorem d_X12_cause_88 : decode prog_14_method_57_code 88 = .ok (.iadd, 1) := gq_1 db00f_11 eb_35
theorem d_X12_cause_89 : decode prog_14_method_57_code 89 = .ok (.putfield 504, 3) := gq_2 db00f_11 eb_1071
theorem d_X12_cause_92 : decode prog_14_method_57_code 92 = .ok (.iconst 1, 1) := gq_3 db00f_11 eb_19
theorem d_X12_cause_93 : decode prog_14_method_57_code 93 = .ok (.ireturn, 1) := gq_4 db00f_11 eb_15
theorem db00f_12 : Pf_ prog_14_method_58_code [(0, [0x1b]), (1, [0x04]), (2, [0x10, 0x09]), (4, [0xb8, 0x01, 0x43]), (7, [0x99, 0x00, 0x0b]), (10, [0x2a]), (11, [0x1c]), (12, [0xb6, 0x01, 0x5f]), (15, [0x9a, 0x00, 0x05]), (18, [0x02]), (19, [0xac]), (20, [0x03]), (21, [0x3e]), (22, [0x03]), (23, [0x36, 0x04]), (25, [0x15, 0x04]), (27, [0x2a]), (28, [0xb4, 0x01, 0xfb]), (31, [0xa2, 0x00, 0x27]), (34, [0x1d]), (35, [0x2a]), (36, [0x15, 0x04]), (38, [0x1c]), (39, [0xb6, 0x01, 0xfe])] := pf_ok prog_14_method_58_code _ 0 (by decide +kernel)
theorem d_X12_causes_0 : decode prog_14_method_58_code 0 = .ok (.iload_n 1, 1) := gq_0 db00f_12 eb_9
theorem d_X12_causes_1 : decode prog_14_method_58_code 1 = .ok (.iconst 1, 1) := gq_1 db00f_12 eb_19
theorem d_X12_causes_2 : decode prog_14_method_58_code 2 = .ok (.bipush 9, 2) := gq_2 db00f_12 eb_287
theorem d_X12_causes_4 : decode prog_14_method_58_code 4 = .ok (.invokestatic 323, 3) := gq_3 db00f_12 eb_913
theorem d_X12_causes_7 : decode prog_14_method_58_code 7 = .ok (.ifCond .eq 11, 3) := gq_4 db00f_12 eb_715
theorem d_X12_causes_10 : decode prog_14_method_58_code 10 = .ok (.aload_n 0, 1) := gq_5 db00f_12 eb_0
theorem d_X12_causes_11 : decode prog_14_method_58_code 11 = .ok (.iload_n 2, 1) := gq_6 db00f_12 eb_13
theorem d_X12_causes_12 : decode prog_14_method_58_code 12 = .ok (.invokevirtual 351, 3) := gq_7 db00f_12 eb_938
theorem d_X12_causes_15 : decode prog_14_method_58_code 15 = .ok (.ifCond .ne 5, 3) := gq_8 db00f_12 eb_150
theorem d_X12_causes_18 : decode prog_14_method_58_code 18 = .ok (.iconst (-1), 1) := gq_9 db00f_12 eb_26
theorem d_X12_causes_19 : decode prog_14_method_58_code 19 = .ok (.ireturn, 1) := gq_10 db00f_12 eb_15
theorem d_X12_causes_20 : decode prog_14_method_58_code 20 = .ok (.iconst 0, 1) := gq_11 db00f_12 eb_21
theorem d_X12_causes_21 : decode prog_14_method_58_code 21 = .ok (.istore_n 3, 1) := gq_12 db00f_12 eb_28
theorem d_X12_causes_22 : decode prog_14_method_58_code 22 = .ok (.iconst 0, 1) := gq_13 db00f_12 eb_21
theorem d_X12_causes_23 : decode prog_14_method_58_code 23 = .ok (.istore 4, 2) := gq_14 db00f_12 eb_133
theorem d_X12_causes_25 : decode prog_14_method_58_code 25 = .ok (.iload 4, 2) := gq_15 db00f_12 eb_76
theorem d_X12_causes_27 : decode prog_14_method_58_code 27 = .ok (.aload_n 0, 1) := gq_16 db00f_12 eb_0
theorem d_X12_causes_28 : decode prog_14_method_58_code 28 = .ok (.getfield 507, 3) := gq_17 db00f_12 eb_1067
theorem d_X12_causes_31 : decode prog_14_method_58_code 31 = .ok (.if_icmp .ge 39, 3) := gq_18 db00f_12 eb_419
theorem d_X12_causes_34 : decode prog_14_method_58_code 34 = .ok (.iload_n 3, 1) := gq_19 db00f_12 eb_29
theorem d_X12_causes_35 : decode prog_14_method_58_code 35 = .ok (.aload_n 0, 1) := gq_20 db00f_12 eb_0
theorem d_X12_causes_36 : decode prog_14_method_58_code 36 = .ok (.iload 4, 2) := gq_21 db00f_12 eb_76
theorem d_X12_causes_38 : decode prog_14_method_58_code 38 = .ok (.iload_n 2, 1) := gq_22 db00f_12 eb_13
theorem d_X12_causes_39 : decode prog_14_method_58_code 39 = .ok (.invokevirtual 510, 3) := gq_23 db00f_12 eb_787
theorem db00f_13 : Pf_ prog_14_method_58_code [(42, [0x05]), (43, [0xa0, 0x00, 0x12]), (46, [0x2a]), (47, [0x15, 0x04]), (49, [0x1c]), (50, [0xb6, 0x02, 0x01]), (53, [0x1b]), (54, [0xa0, 0x00, 0x07]), (57, [0x04]), (58, [0xa7, 0x00, 0x04]), (61, [0x03]), (62, [0x60]), (63, [0x3e]), (64, [0x84, 0x04, 0x01]), (67, [0xa7, 0xff, 0xd6]), (70, [0x1d]), (71, [0xac])] := pf_ok prog_14_method_58_code _ 42 (by decide +kernel)
theorem d_X12_causes_42 : decode prog_14_method_58_code 42 = .ok (.iconst 2, 1) := gq_0 db00f_13 eb_10
theorem d_X12_causes_43 : decode prog_14_method_58_code 43 = .ok (.if_icmp .ne 18, 3) := gq_1 db00f_13 eb_1072
theorem d_X12_causes_46 : decode prog_14_method_58_code 46 = .ok (.aload_n 0, 1) := gq_2 db00f_13 eb_0
theorem d_X12_causes_47 : decode prog_14_method_58_code 47 = .ok (.iload 4, 2) := gq_3 db00f_13 eb_76
theorem d_X12_causes_49 : decode prog_14_method_58_code 49 = .ok (.iload_n 2, 1) := gq_4 db00f_13 eb_13
theorem d_X12_causes_50 : decode prog_14_method_58_code 50 = .ok (.invokevirtual 513, 3) := gq_5 db00f_13 eb_788
theorem d_X12_causes_53 : decode prog_14_method_58_code 53 = .ok (.iload_n 1, 1) := gq_6 db00f_13 eb_9
theorem d_X12_causes_54 : decode prog_14_method_58_code 54 = .ok (.if_icmp .ne 7, 3) := gq_7 db00f_13 eb_135
theorem d_X12_causes_57 : decode prog_14_method_58_code 57 = .ok (.iconst 1, 1) := gq_8 db00f_13 eb_19
theorem d_X12_causes_58 : decode prog_14_method_58_code 58 = .ok (.goto 4, 3) := gq_9 db00f_13 eb_20
theorem d_X12_causes_61 : decode prog_14_method_58_code 61 = .ok (.iconst 0, 1) := gq_10 db00f_13 eb_21
theorem d_X12_causes_62 : decode prog_14_method_58_code 62 = .ok (.iadd, 1) := gq_11 db00f_13 eb_35
theorem d_X12_causes_63 : decode prog_14_method_58_code 63 = .ok (.istore_n 3, 1) := gq_12 db00f_13 eb_28
theorem d_X12_causes_64 : decode prog_14_method_58_code 64 = .ok (.iinc 4 1, 3) := gq_13 db00f_13 eb_144
theorem d_X12_causes_67 : decode prog_14_method_58_code 67 = .ok (.goto (-42), 3) := gq_14 db00f_13 eb_422
theorem d_X12_causes_70 : decode prog_14_method_58_code 70 = .ok (.iload_n 3, 1) := gq_15 db00f_13 eb_29
theorem d_X12_causes_71 : decode prog_14_method_58_code 71 = .ok (.ireturn, 1) := gq_16 db00f_13 eb_15
theorem db00f_14 : Pf_ prog_14_method_59_code [(0, [0x2a]), (1, [0xb4, 0x00, 0x22]), (4, [0x1b]), (5, [0x03]), (6, [0x4f]), (7, [0x2a]), (8, [0xb4, 0x00, 0x25]), (11, [0x1b]), (12, [0x2a]), (13, [0xb4, 0x00, 0x1c]), (16, [0x1b]), (17, [0x2e]), (18, [0x4f]), (19, [0x2a]), (20, [0xb4, 0x00, 0x28]), (23, [0x1b]), (24, [0x02]), (25, [0x4f]), (26, [0x2a]), (27, [0xb4, 0x00, 0x2b]), (30, [0x1b]), (31, [0x02]), (32, [0x4f]), (33, [0x2a])] := pf_ok prog_14_method_59_code _ 0 (by decide +kernel)
theorem d_X12_free_0 : decode prog_14_method_59_code 0 = .ok (.aload_n 0, 1) := gq_0 db00f_14 eb_0
theorem d_X12_free_1 : decode prog_14_method_59_code 1 = .ok (.getfield 34, 3) := gq_1 db00f_14 eb_36
theorem d_X12_free_4 : decode prog_14_method_59_code 4 = .ok (.iload_n 1, 1) := gq_2 db00f_14 eb_9
theorem d_X12_free_5 : decode prog_14_method_59_code 5 = .ok (.iconst 0, 1) := gq_3 db00f_14 eb_21
theorem d_X12_free_6 : decode prog_14_method_59_code 6 = .ok (.iastore, 1) := gq_4 db00f_14 eb_38
theorem d_X12_free_7 : decode prog_14_method_59_code 7 = .ok (.aload_n 0, 1) := gq_5 db00f_14 eb_0
theorem d_X12_free_8 : decode prog_14_method_59_code 8 = .ok (.getfield 37, 3) := gq_6 db00f_14 eb_281
theorem d_X12_free_11 : decode prog_14_method_59_code 11 = .ok (.iload_n 1, 1) := gq_7 db00f_14 eb_9
theorem d_X12_free_12 : decode prog_14_method_59_code 12 = .ok (.aload_n 0, 1) := gq_8 db00f_14 eb_0
theorem d_X12_free_13 : decode prog_14_method_59_code 13 = .ok (.getfield 28, 3) := gq_9 db00f_14 eb_361
theorem d_X12_free_16 : decode prog_14_method_59_code 16 = .ok (.iload_n 1, 1) := gq_10 db00f_14 eb_9
theorem d_X12_free_17 : decode prog_14_method_59_code 17 = .ok (.iaload, 1) := gq_11 db00f_14 eb_37
theorem d_X12_free_18 : decode prog_14_method_59_code 18 = .ok (.iastore, 1) := gq_12 db00f_14 eb_38
theorem d_X12_free_19 : decode prog_14_method_59_code 19 = .ok (.aload_n 0, 1) := gq_13 db00f_14 eb_0
theorem d_X12_free_20 : decode prog_14_method_59_code 20 = .ok (.getfield 40, 3) := gq_14 db00f_14 eb_282
theorem d_X12_free_23 : decode prog_14_method_59_code 23 = .ok (.iload_n 1, 1) := gq_15 db00f_14 eb_9
theorem d_X12_free_24 : decode prog_14_method_59_code 24 = .ok (.iconst (-1), 1) := gq_16 db00f_14 eb_26
theorem d_X12_free_25 : decode prog_14_method_59_code 25 = .ok (.iastore, 1) := gq_17 db00f_14 eb_38
theorem d_X12_free_26 : decode prog_14_method_59_code 26 = .ok (.aload_n 0, 1) := gq_18 db00f_14 eb_0
theorem d_X12_free_27 : decode prog_14_method_59_code 27 = .ok (.getfield 43, 3) := gq_19 db00f_14 eb_283
theorem d_X12_free_30 : decode prog_14_method_59_code 30 = .ok (.iload_n 1, 1) := gq_20 db00f_14 eb_9
theorem d_X12_free_31 : decode prog_14_method_59_code 31 = .ok (.iconst (-1), 1) := gq_21 db00f_14 eb_26
theorem d_X12_free_32 : decode prog_14_method_59_code 32 = .ok (.iastore, 1) := gq_22 db00f_14 eb_38
theorem d_X12_free_33 : decode prog_14_method_59_code 33 = .ok (.aload_n 0, 1) := gq_23 db00f_14 eb_0
theorem db00f_15 : Pf_ prog_14_method_59_code [(34, [0xb4, 0x00, 0x31]), (37, [0x1b]), (38, [0x02]), (39, [0x4f]), (40, [0x03]), (41, [0x3d]), (42, [0x1c]), (43, [0x2a]), (44, [0xb4, 0x02, 0x04]), (47, [0xa2, 0x00, 0x31]), (50, [0x2a]), (51, [0xb4, 0x00, 0xb2]), (54, [0x1c]), (55, [0x2e]), (56, [0x1b]), (57, [0xa0, 0x00, 0x21]), (60, [0x2a]), (61, [0xb4, 0x00, 0xbb]), (64, [0x1c]), (65, [0x2e]), (66, [0x04]), (67, [0xa0, 0x00, 0x17]), (70, [0x2a]), (71, [0xb4, 0x00, 0xc1])] := pf_ok prog_14_method_59_code _ 34 (by decide +kernel)
theorem d_X12_free_34 : decode prog_14_method_59_code 34 = .ok (.getfield 49, 3) := gq_0 db00f_15 eb_285
theorem d_X12_free_37 : decode prog_14_method_59_code 37 = .ok (.iload_n 1, 1) := gq_1 db00f_15 eb_9
theorem d_X12_free_38 : decode prog_14_method_59_code 38 = .ok (.iconst (-1), 1) := gq_2 db00f_15 eb_26
theorem d_X12_free_39 : decode prog_14_method_59_code 39 = .ok (.iastore, 1) := gq_3 db00f_15 eb_38
theorem d_X12_free_40 : decode prog_14_method_59_code 40 = .ok (.iconst 0, 1) := gq_4 db00f_15 eb_21
theorem d_X12_free_41 : decode prog_14_method_59_code 41 = .ok (.istore_n 2, 1) := gq_5 db00f_15 eb_27
theorem d_X12_free_42 : decode prog_14_method_59_code 42 = .ok (.iload_n 2, 1) := gq_6 db00f_15 eb_13
theorem d_X12_free_43 : decode prog_14_method_59_code 43 = .ok (.aload_n 0, 1) := gq_7 db00f_15 eb_0
theorem d_X12_free_44 : decode prog_14_method_59_code 44 = .ok (.getfield 516, 3) := gq_8 db00f_15 eb_1073
theorem d_X12_free_47 : decode prog_14_method_59_code 47 = .ok (.if_icmp .ge 49, 3) := gq_9 db00f_15 eb_224
theorem d_X12_free_50 : decode prog_14_method_59_code 50 = .ok (.aload_n 0, 1) := gq_10 db00f_15 eb_0
theorem d_X12_free_51 : decode prog_14_method_59_code 51 = .ok (.getfield 178, 3) := gq_11 db00f_15 eb_1074
theorem d_X12_free_54 : decode prog_14_method_59_code 54 = .ok (.iload_n 2, 1) := gq_12 db00f_15 eb_13
theorem d_X12_free_55 : decode prog_14_method_59_code 55 = .ok (.iaload, 1) := gq_13 db00f_15 eb_37
theorem d_X12_free_56 : decode prog_14_method_59_code 56 = .ok (.iload_n 1, 1) := gq_14 db00f_15 eb_9
theorem d_X12_free_57 : decode prog_14_method_59_code 57 = .ok (.if_icmp .ne 33, 3) := gq_15 db00f_15 eb_518
theorem d_X12_free_60 : decode prog_14_method_59_code 60 = .ok (.aload_n 0, 1) := gq_16 db00f_15 eb_0
theorem d_X12_free_61 : decode prog_14_method_59_code 61 = .ok (.getfield 187, 3) := gq_17 db00f_15 eb_1075
theorem d_X12_free_64 : decode prog_14_method_59_code 64 = .ok (.iload_n 2, 1) := gq_18 db00f_15 eb_13
theorem d_X12_free_65 : decode prog_14_method_59_code 65 = .ok (.iaload, 1) := gq_19 db00f_15 eb_37
theorem d_X12_free_66 : decode prog_14_method_59_code 66 = .ok (.iconst 1, 1) := gq_20 db00f_15 eb_19
theorem d_X12_free_67 : decode prog_14_method_59_code 67 = .ok (.if_icmp .ne 23, 3) := gq_21 db00f_15 eb_999
theorem d_X12_free_70 : decode prog_14_method_59_code 70 = .ok (.aload_n 0, 1) := gq_22 db00f_15 eb_0
theorem d_X12_free_71 : decode prog_14_method_59_code 71 = .ok (.getfield 193, 3) := gq_23 db00f_15 eb_1076
theorem db00f_16 : Pf_ prog_14_method_59_code [(74, [0x1c]), (75, [0x2e]), (76, [0x02]), (77, [0xa0, 0x00, 0x0d]), (80, [0x2a]), (81, [0xb4, 0x00, 0xc1]), (84, [0x1c]), (85, [0x2a]), (86, [0xb4, 0x01, 0x56]), (89, [0x4f]), (90, [0x84, 0x02, 0x01]), (93, [0xa7, 0xff, 0xcd]), (96, [0xb1])] := pf_ok prog_14_method_59_code _ 74 (by decide +kernel)
theorem d_X12_free_74 : decode prog_14_method_59_code 74 = .ok (.iload_n 2, 1) := gq_0 db00f_16 eb_13
theorem d_X12_free_75 : decode prog_14_method_59_code 75 = .ok (.iaload, 1) := gq_1 db00f_16 eb_37
theorem d_X12_free_76 : decode prog_14_method_59_code 76 = .ok (.iconst (-1), 1) := gq_2 db00f_16 eb_26
theorem d_X12_free_77 : decode prog_14_method_59_code 77 = .ok (.if_icmp .ne 13, 3) := gq_3 db00f_16 eb_423
theorem d_X12_free_80 : decode prog_14_method_59_code 80 = .ok (.aload_n 0, 1) := gq_4 db00f_16 eb_0
theorem d_X12_free_81 : decode prog_14_method_59_code 81 = .ok (.getfield 193, 3) := gq_5 db00f_16 eb_1076
theorem d_X12_free_84 : decode prog_14_method_59_code 84 = .ok (.iload_n 2, 1) := gq_6 db00f_16 eb_13
theorem d_X12_free_85 : decode prog_14_method_59_code 85 = .ok (.aload_n 0, 1) := gq_7 db00f_16 eb_0
theorem d_X12_free_86 : decode prog_14_method_59_code 86 = .ok (.getfield 342, 3) := gq_8 db00f_16 eb_928
theorem d_X12_free_89 : decode prog_14_method_59_code 89 = .ok (.iastore, 1) := gq_9 db00f_16 eb_38
theorem d_X12_free_90 : decode prog_14_method_59_code 90 = .ok (.iinc 2 1, 3) := gq_10 db00f_16 eb_41
theorem d_X12_free_93 : decode prog_14_method_59_code 93 = .ok (.goto (-51), 3) := gq_11 db00f_16 eb_227
theorem d_X12_free_96 : decode prog_14_method_59_code 96 = .ok (.return_, 1) := gq_12 db00f_16 eb_7
theorem db00f_17 : Pf_ prog_14_method_60_code [(0, [0x2a]), (1, [0x2a]), (2, [0xb4, 0x00, 0x25]), (5, [0x1b]), (6, [0x2e]), (7, [0x1c]), (8, [0xb6, 0x01, 0x4f]), (11, [0x3e]), (12, [0x1d]), (13, [0x9a, 0x00, 0x04]), (16, [0xb1]), (17, [0x2a]), (18, [0xb4, 0x00, 0x25]), (21, [0x1b]), (22, [0x02]), (23, [0x4f]), (24, [0x2a]), (25, [0xb4, 0x00, 0x28]), (28, [0x1b]), (29, [0x1c]), (30, [0x4f]), (31, [0x2a]), (32, [0xb4, 0x00, 0x2b]), (35, [0x1b])] := pf_ok prog_14_method_60_code _ 0 (by decide +kernel)
theorem d_X12_setOut_0 : decode prog_14_method_60_code 0 = .ok (.aload_n 0, 1) := gq_0 db00f_17 eb_0
theorem d_X12_setOut_1 : decode prog_14_method_60_code 1 = .ok (.aload_n 0, 1) := gq_1 db00f_17 eb_0
theorem d_X12_setOut_2 : decode prog_14_method_60_code 2 = .ok (.getfield 37, 3) := gq_2 db00f_17 eb_281
theorem d_X12_setOut_5 : decode prog_14_method_60_code 5 = .ok (.iload_n 1, 1) := gq_3 db00f_17 eb_9
theorem d_X12_setOut_6 : decode prog_14_method_60_code 6 = .ok (.iaload, 1) := gq_4 db00f_17 eb_37
theorem d_X12_setOut_7 : decode prog_14_method_60_code 7 = .ok (.iload_n 2, 1) := gq_5 db00f_17 eb_13
theorem d_X12_setOut_8 : decode prog_14_method_60_code 8 = .ok (.invokevirtual 335, 3) := gq_6 db00f_17 eb_925
theorem d_X12_setOut_11 : decode prog_14_method_60_code 11 = .ok (.istore_n 3, 1) := gq_7 db00f_17 eb_28
theorem d_X12_setOut_12 : decode prog_14_method_60_code 12 = .ok (.iload_n 3, 1) := gq_8 db00f_17 eb_29
theorem d_X12_setOut_13 : decode prog_14_method_60_code 13 = .ok (.ifCond .ne 4, 3) := gq_9 db00f_17 eb_295
theorem d_X12_setOut_16 : decode prog_14_method_60_code 16 = .ok (.return_, 1) := gq_10 db00f_17 eb_7
theorem d_X12_setOut_17 : decode prog_14_method_60_code 17 = .ok (.aload_n 0, 1) := gq_11 db00f_17 eb_0
theorem d_X12_setOut_18 : decode prog_14_method_60_code 18 = .ok (.getfield 37, 3) := gq_12 db00f_17 eb_281
theorem d_X12_setOut_21 : decode prog_14_method_60_code 21 = .ok (.iload_n 1, 1) := gq_13 db00f_17 eb_9
theorem d_X12_setOut_22 : decode prog_14_method_60_code 22 = .ok (.iconst (-1), 1) := gq_14 db00f_17 eb_26
theorem d_X12_setOut_23 : decode prog_14_method_60_code 23 = .ok (.iastore, 1) := gq_15 db00f_17 eb_38
theorem d_X12_setOut_24 : decode prog_14_method_60_code 24 = .ok (.aload_n 0, 1) := gq_16 db00f_17 eb_0
theorem d_X12_setOut_25 : decode prog_14_method_60_code 25 = .ok (.getfield 40, 3) := gq_17 db00f_17 eb_282
theorem d_X12_setOut_28 : decode prog_14_method_60_code 28 = .ok (.iload_n 1, 1) := gq_18 db00f_17 eb_9
theorem d_X12_setOut_29 : decode prog_14_method_60_code 29 = .ok (.iload_n 2, 1) := gq_19 db00f_17 eb_13
theorem d_X12_setOut_30 : decode prog_14_method_60_code 30 = .ok (.iastore, 1) := gq_20 db00f_17 eb_38
theorem d_X12_setOut_31 : decode prog_14_method_60_code 31 = .ok (.aload_n 0, 1) := gq_21 db00f_17 eb_0
theorem d_X12_setOut_32 : decode prog_14_method_60_code 32 = .ok (.getfield 43, 3) := gq_22 db00f_17 eb_283
theorem d_X12_setOut_35 : decode prog_14_method_60_code 35 = .ok (.iload_n 1, 1) := gq_23 db00f_17 eb_9
theorem db00f_18 : Pf_ prog_14_method_60_code [(36, [0x2a]), (37, [0xb4, 0x01, 0x56]), (40, [0x1d]), (41, [0x60]), (42, [0x4f]), (43, [0xb1])] := pf_ok prog_14_method_60_code _ 36 (by decide +kernel)
theorem d_X12_setOut_36 : decode prog_14_method_60_code 36 = .ok (.aload_n 0, 1) := gq_0 db00f_18 eb_0
theorem d_X12_setOut_37 : decode prog_14_method_60_code 37 = .ok (.getfield 342, 3) := gq_1 db00f_18 eb_928
theorem d_X12_setOut_40 : decode prog_14_method_60_code 40 = .ok (.iload_n 3, 1) := gq_2 db00f_18 eb_29
theorem d_X12_setOut_41 : decode prog_14_method_60_code 41 = .ok (.iadd, 1) := gq_3 db00f_18 eb_35
theorem d_X12_setOut_42 : decode prog_14_method_60_code 42 = .ok (.iastore, 1) := gq_4 db00f_18 eb_38
theorem d_X12_setOut_43 : decode prog_14_method_60_code 43 = .ok (.return_, 1) := gq_5 db00f_18 eb_7
theorem db00f_19 : Pf_ prog_14_method_61_code [(0, [0x2a]), (1, [0xb4, 0x00, 0x22]), (4, [0x1b]), (5, [0x05]), (6, [0x4f]), (7, [0x2a]), (8, [0xb4, 0x00, 0x31]), (11, [0x1b]), (12, [0x02]), (13, [0x4f]), (14, [0x2a]), (15, [0xb4, 0x00, 0x2b]), (18, [0x1b]), (19, [0x02]), (20, [0x4f]), (21, [0x2a]), (22, [0x2a]), (23, [0xb4, 0x00, 0x25]), (26, [0x1b]), (27, [0x2e]), (28, [0x2a]), (29, [0xb4, 0x00, 0x1c]), (32, [0x1b]), (33, [0x2e])] := pf_ok prog_14_method_61_code _ 0 (by decide +kernel)
theorem d_X12_goHome_0 : decode prog_14_method_61_code 0 = .ok (.aload_n 0, 1) := gq_0 db00f_19 eb_0
theorem d_X12_goHome_1 : decode prog_14_method_61_code 1 = .ok (.getfield 34, 3) := gq_1 db00f_19 eb_36
theorem d_X12_goHome_4 : decode prog_14_method_61_code 4 = .ok (.iload_n 1, 1) := gq_2 db00f_19 eb_9
theorem d_X12_goHome_5 : decode prog_14_method_61_code 5 = .ok (.iconst 2, 1) := gq_3 db00f_19 eb_10
theorem d_X12_goHome_6 : decode prog_14_method_61_code 6 = .ok (.iastore, 1) := gq_4 db00f_19 eb_38
theorem d_X12_goHome_7 : decode prog_14_method_61_code 7 = .ok (.aload_n 0, 1) := gq_5 db00f_19 eb_0
theorem d_X12_goHome_8 : decode prog_14_method_61_code 8 = .ok (.getfield 49, 3) := gq_6 db00f_19 eb_285
theorem d_X12_goHome_11 : decode prog_14_method_61_code 11 = .ok (.iload_n 1, 1) := gq_7 db00f_19 eb_9
theorem d_X12_goHome_12 : decode prog_14_method_61_code 12 = .ok (.iconst (-1), 1) := gq_8 db00f_19 eb_26
theorem d_X12_goHome_13 : decode prog_14_method_61_code 13 = .ok (.iastore, 1) := gq_9 db00f_19 eb_38
theorem d_X12_goHome_14 : decode prog_14_method_61_code 14 = .ok (.aload_n 0, 1) := gq_10 db00f_19 eb_0
theorem d_X12_goHome_15 : decode prog_14_method_61_code 15 = .ok (.getfield 43, 3) := gq_11 db00f_19 eb_283
theorem d_X12_goHome_18 : decode prog_14_method_61_code 18 = .ok (.iload_n 1, 1) := gq_12 db00f_19 eb_9
theorem d_X12_goHome_19 : decode prog_14_method_61_code 19 = .ok (.iconst (-1), 1) := gq_13 db00f_19 eb_26
theorem d_X12_goHome_20 : decode prog_14_method_61_code 20 = .ok (.iastore, 1) := gq_14 db00f_19 eb_38
theorem d_X12_goHome_21 : decode prog_14_method_61_code 21 = .ok (.aload_n 0, 1) := gq_15 db00f_19 eb_0
theorem d_X12_goHome_22 : decode prog_14_method_61_code 22 = .ok (.aload_n 0, 1) := gq_16 db00f_19 eb_0
theorem d_X12_goHome_23 : decode prog_14_method_61_code 23 = .ok (.getfield 37, 3) := gq_17 db00f_19 eb_281
theorem d_X12_goHome_26 : decode prog_14_method_61_code 26 = .ok (.iload_n 1, 1) := gq_18 db00f_19 eb_9
theorem d_X12_goHome_27 : decode prog_14_method_61_code 27 = .ok (.iaload, 1) := gq_19 db00f_19 eb_37
theorem d_X12_goHome_28 : decode prog_14_method_61_code 28 = .ok (.aload_n 0, 1) := gq_20 db00f_19 eb_0
theorem d_X12_goHome_29 : decode prog_14_method_61_code 29 = .ok (.getfield 28, 3) := gq_21 db00f_19 eb_361
theorem d_X12_goHome_32 : decode prog_14_method_61_code 32 = .ok (.iload_n 1, 1) := gq_22 db00f_19 eb_9
theorem d_X12_goHome_33 : decode prog_14_method_61_code 33 = .ok (.iaload, 1) := gq_23 db00f_19 eb_37
theorem db00f_20 : Pf_ prog_14_method_61_code [(34, [0xb6, 0x01, 0x4f]), (37, [0x3d]), (38, [0x1c]), (39, [0x02]), (40, [0x9f, 0x00, 0x07]), (43, [0x1c]), (44, [0x9a, 0x00, 0x09]), (47, [0x2a]), (48, [0x1b]), (49, [0xb6, 0x02, 0x07]), (52, [0xb1]), (53, [0x2a]), (54, [0x1b]), (55, [0x2a]), (56, [0xb4, 0x00, 0x1c]), (59, [0x1b]), (60, [0x2e]), (61, [0xb6, 0x02, 0x0a]), (64, [0xb1])] := pf_ok prog_14_method_61_code _ 34 (by decide +kernel)
theorem d_X12_goHome_34 : decode prog_14_method_61_code 34 = .ok (.invokevirtual 335, 3) := gq_0 db00f_20 eb_925
theorem d_X12_goHome_37 : decode prog_14_method_61_code 37 = .ok (.istore_n 2, 1) := gq_1 db00f_20 eb_27
theorem d_X12_goHome_38 : decode prog_14_method_61_code 38 = .ok (.iload_n 2, 1) := gq_2 db00f_20 eb_13
theorem d_X12_goHome_39 : decode prog_14_method_61_code 39 = .ok (.iconst (-1), 1) := gq_3 db00f_20 eb_26
theorem d_X12_goHome_40 : decode prog_14_method_61_code 40 = .ok (.if_icmp .eq 7, 3) := gq_4 db00f_20 eb_539
theorem d_X12_goHome_43 : decode prog_14_method_61_code 43 = .ok (.iload_n 2, 1) := gq_5 db00f_20 eb_13
theorem d_X12_goHome_44 : decode prog_14_method_61_code 44 = .ok (.ifCond .ne 9, 3) := gq_6 db00f_20 eb_957
theorem d_X12_goHome_47 : decode prog_14_method_61_code 47 = .ok (.aload_n 0, 1) := gq_7 db00f_20 eb_0
theorem d_X12_goHome_48 : decode prog_14_method_61_code 48 = .ok (.iload_n 1, 1) := gq_8 db00f_20 eb_9
theorem d_X12_goHome_49 : decode prog_14_method_61_code 49 = .ok (.invokevirtual 519, 3) := gq_9 db00f_20 eb_791
theorem d_X12_goHome_52 : decode prog_14_method_61_code 52 = .ok (.return_, 1) := gq_10 db00f_20 eb_7
theorem d_X12_goHome_53 : decode prog_14_method_61_code 53 = .ok (.aload_n 0, 1) := gq_11 db00f_20 eb_0
theorem d_X12_goHome_54 : decode prog_14_method_61_code 54 = .ok (.iload_n 1, 1) := gq_12 db00f_20 eb_9
theorem d_X12_goHome_55 : decode prog_14_method_61_code 55 = .ok (.aload_n 0, 1) := gq_13 db00f_20 eb_0
theorem d_X12_goHome_56 : decode prog_14_method_61_code 56 = .ok (.getfield 28, 3) := gq_14 db00f_20 eb_361
theorem d_X12_goHome_59 : decode prog_14_method_61_code 59 = .ok (.iload_n 1, 1) := gq_15 db00f_20 eb_9
theorem d_X12_goHome_60 : decode prog_14_method_61_code 60 = .ok (.iaload, 1) := gq_16 db00f_20 eb_37
theorem d_X12_goHome_61 : decode prog_14_method_61_code 61 = .ok (.invokevirtual 522, 3) := gq_17 db00f_20 eb_1077
theorem d_X12_goHome_64 : decode prog_14_method_61_code 64 = .ok (.return_, 1) := gq_18 db00f_20 eb_7
theorem db00f_21 : Pf_ prog_14_method_62_code [(0, [0x2a]), (1, [0xb4, 0x00, 0x43]), (4, [0x1b]), (5, [0x2e]), (6, [0x2a]), (7, [0xb4, 0x01, 0x56]), (10, [0xa3, 0x00, 0x0b]), (13, [0x2a]), (14, [0x1b]), (15, [0xb6, 0x02, 0x0d]), (18, [0xa7, 0x00, 0x0f]), (21, [0x2a]), (22, [0xb4, 0x00, 0x2b]), (25, [0x1b]), (26, [0x2a]), (27, [0xb4, 0x00, 0x43]), (30, [0x1b]), (31, [0x2e]), (32, [0x4f]), (33, [0xb1])] := pf_ok prog_14_method_62_code _ 0 (by decide +kernel)
theorem d_X12_stay_0 : decode prog_14_method_62_code 0 = .ok (.aload_n 0, 1) := gq_0 db00f_21 eb_0
theorem d_X12_stay_1 : decode prog_14_method_62_code 1 = .ok (.getfield 67, 3) := gq_1 db00f_21 eb_358
theorem d_X12_stay_4 : decode prog_14_method_62_code 4 = .ok (.iload_n 1, 1) := gq_2 db00f_21 eb_9
theorem d_X12_stay_5 : decode prog_14_method_62_code 5 = .ok (.iaload, 1) := gq_3 db00f_21 eb_37
theorem d_X12_stay_6 : decode prog_14_method_62_code 6 = .ok (.aload_n 0, 1) := gq_4 db00f_21 eb_0
theorem d_X12_stay_7 : decode prog_14_method_62_code 7 = .ok (.getfield 342, 3) := gq_5 db00f_21 eb_928
theorem d_X12_stay_10 : decode prog_14_method_62_code 10 = .ok (.if_icmp .gt 11, 3) := gq_6 db00f_21 eb_421
theorem d_X12_stay_13 : decode prog_14_method_62_code 13 = .ok (.aload_n 0, 1) := gq_7 db00f_21 eb_0
theorem d_X12_stay_14 : decode prog_14_method_62_code 14 = .ok (.iload_n 1, 1) := gq_8 db00f_21 eb_9
theorem d_X12_stay_15 : decode prog_14_method_62_code 15 = .ok (.invokevirtual 525, 3) := gq_9 db00f_21 eb_794
theorem d_X12_stay_18 : decode prog_14_method_62_code 18 = .ok (.goto 15, 3) := gq_10 db00f_21 eb_137
theorem d_X12_stay_21 : decode prog_14_method_62_code 21 = .ok (.aload_n 0, 1) := gq_11 db00f_21 eb_0
theorem d_X12_stay_22 : decode prog_14_method_62_code 22 = .ok (.getfield 43, 3) := gq_12 db00f_21 eb_283
theorem d_X12_stay_25 : decode prog_14_method_62_code 25 = .ok (.iload_n 1, 1) := gq_13 db00f_21 eb_9
theorem d_X12_stay_26 : decode prog_14_method_62_code 26 = .ok (.aload_n 0, 1) := gq_14 db00f_21 eb_0
theorem d_X12_stay_27 : decode prog_14_method_62_code 27 = .ok (.getfield 67, 3) := gq_15 db00f_21 eb_358
theorem d_X12_stay_30 : decode prog_14_method_62_code 30 = .ok (.iload_n 1, 1) := gq_16 db00f_21 eb_9
theorem d_X12_stay_31 : decode prog_14_method_62_code 31 = .ok (.iaload, 1) := gq_17 db00f_21 eb_37
theorem d_X12_stay_32 : decode prog_14_method_62_code 32 = .ok (.iastore, 1) := gq_18 db00f_21 eb_38
theorem d_X12_stay_33 : decode prog_14_method_62_code 33 = .ok (.return_, 1) := gq_19 db00f_21 eb_7
theorem db00f_22 : Pf_ prog_14_method_63_code [(0, [0x2a]), (1, [0xb4, 0x00, 0x2b]), (4, [0x1b]), (5, [0x02]), (6, [0x4f]), (7, [0x2a]), (8, [0x1b]), (9, [0x2a]), (10, [0xb4, 0x00, 0x40]), (13, [0x1b]), (14, [0x2e]), (15, [0xb6, 0x02, 0x0a]), (18, [0x2a]), (19, [0xb4, 0x00, 0x28]), (22, [0x1b]), (23, [0x2e]), (24, [0x02]), (25, [0xa0, 0x00, 0x08]), (28, [0x2a]), (29, [0x1b]), (30, [0xb6, 0x02, 0x10]), (33, [0xb1])] := pf_ok prog_14_method_63_code _ 0 (by decide +kernel)
theorem d_X12_goDrawn_0 : decode prog_14_method_63_code 0 = .ok (.aload_n 0, 1) := gq_0 db00f_22 eb_0
theorem d_X12_goDrawn_1 : decode prog_14_method_63_code 1 = .ok (.getfield 43, 3) := gq_1 db00f_22 eb_283
theorem d_X12_goDrawn_4 : decode prog_14_method_63_code 4 = .ok (.iload_n 1, 1) := gq_2 db00f_22 eb_9
theorem d_X12_goDrawn_5 : decode prog_14_method_63_code 5 = .ok (.iconst (-1), 1) := gq_3 db00f_22 eb_26
theorem d_X12_goDrawn_6 : decode prog_14_method_63_code 6 = .ok (.iastore, 1) := gq_4 db00f_22 eb_38
theorem d_X12_goDrawn_7 : decode prog_14_method_63_code 7 = .ok (.aload_n 0, 1) := gq_5 db00f_22 eb_0
theorem d_X12_goDrawn_8 : decode prog_14_method_63_code 8 = .ok (.iload_n 1, 1) := gq_6 db00f_22 eb_9
theorem d_X12_goDrawn_9 : decode prog_14_method_63_code 9 = .ok (.aload_n 0, 1) := gq_7 db00f_22 eb_0
theorem d_X12_goDrawn_10 : decode prog_14_method_63_code 10 = .ok (.getfield 64, 3) := gq_8 db00f_22 eb_1078
theorem d_X12_goDrawn_13 : decode prog_14_method_63_code 13 = .ok (.iload_n 1, 1) := gq_9 db00f_22 eb_9
theorem d_X12_goDrawn_14 : decode prog_14_method_63_code 14 = .ok (.iaload, 1) := gq_10 db00f_22 eb_37
theorem d_X12_goDrawn_15 : decode prog_14_method_63_code 15 = .ok (.invokevirtual 522, 3) := gq_11 db00f_22 eb_1077
theorem d_X12_goDrawn_18 : decode prog_14_method_63_code 18 = .ok (.aload_n 0, 1) := gq_12 db00f_22 eb_0
theorem d_X12_goDrawn_19 : decode prog_14_method_63_code 19 = .ok (.getfield 40, 3) := gq_13 db00f_22 eb_282
theorem d_X12_goDrawn_22 : decode prog_14_method_63_code 22 = .ok (.iload_n 1, 1) := gq_14 db00f_22 eb_9
theorem d_X12_goDrawn_23 : decode prog_14_method_63_code 23 = .ok (.iaload, 1) := gq_15 db00f_22 eb_37
theorem d_X12_goDrawn_24 : decode prog_14_method_63_code 24 = .ok (.iconst (-1), 1) := gq_16 db00f_22 eb_26
theorem d_X12_goDrawn_25 : decode prog_14_method_63_code 25 = .ok (.if_icmp .ne 8, 3) := gq_17 db00f_22 eb_526
theorem d_X12_goDrawn_28 : decode prog_14_method_63_code 28 = .ok (.aload_n 0, 1) := gq_18 db00f_22 eb_0
theorem d_X12_goDrawn_29 : decode prog_14_method_63_code 29 = .ok (.iload_n 1, 1) := gq_19 db00f_22 eb_9
theorem d_X12_goDrawn_30 : decode prog_14_method_63_code 30 = .ok (.invokevirtual 528, 3) := gq_20 db00f_22 eb_795
theorem d_X12_goDrawn_33 : decode prog_14_method_63_code 33 = .ok (.return_, 1) := gq_21 db00f_22 eb_7
theorem db00f_23 : Pf_ prog_14_method_64_code [(0, [0x2a]), (1, [0xb4, 0x00, 0x34]), (4, [0x1b]), (5, [0x2e]), (6, [0x1c]), (7, [0x60]), (8, [0x3e]), (9, [0x2a]), (10, [0xb4, 0x00, 0x3a]), (13, [0x1b]), (14, [0x2e]), (15, [0x36, 0x04]), (17, [0x2a]), (18, [0xb4, 0x00, 0x3a]), (21, [0x1b]), (22, [0x5c]), (23, [0x2e]), (24, [0x04]), (25, [0x60]), (26, [0x4f]), (27, [0x2a]), (28, [0xb4, 0x01, 0x56]), (31, [0x1d]), (32, [0xa4, 0x00, 0x0c])] := pf_ok prog_14_method_64_code _ 0 (by decide +kernel)
theorem d_X12_comes_0 : decode prog_14_method_64_code 0 = .ok (.aload_n 0, 1) := gq_0 db00f_23 eb_0
theorem d_X12_comes_1 : decode prog_14_method_64_code 1 = .ok (.getfield 52, 3) := gq_1 db00f_23 eb_288
theorem d_X12_comes_4 : decode prog_14_method_64_code 4 = .ok (.iload_n 1, 1) := gq_2 db00f_23 eb_9
theorem d_X12_comes_5 : decode prog_14_method_64_code 5 = .ok (.iaload, 1) := gq_3 db00f_23 eb_37
theorem d_X12_comes_6 : decode prog_14_method_64_code 6 = .ok (.iload_n 2, 1) := gq_4 db00f_23 eb_13
theorem d_X12_comes_7 : decode prog_14_method_64_code 7 = .ok (.iadd, 1) := gq_5 db00f_23 eb_35
theorem d_X12_comes_8 : decode prog_14_method_64_code 8 = .ok (.istore_n 3, 1) := gq_6 db00f_23 eb_28
theorem d_X12_comes_9 : decode prog_14_method_64_code 9 = .ok (.aload_n 0, 1) := gq_7 db00f_23 eb_0
theorem d_X12_comes_10 : decode prog_14_method_64_code 10 = .ok (.getfield 58, 3) := gq_8 db00f_23 eb_319
theorem d_X12_comes_13 : decode prog_14_method_64_code 13 = .ok (.iload_n 1, 1) := gq_9 db00f_23 eb_9
theorem d_X12_comes_14 : decode prog_14_method_64_code 14 = .ok (.iaload, 1) := gq_10 db00f_23 eb_37
theorem d_X12_comes_15 : decode prog_14_method_64_code 15 = .ok (.istore 4, 2) := gq_11 db00f_23 eb_133
theorem d_X12_comes_17 : decode prog_14_method_64_code 17 = .ok (.aload_n 0, 1) := gq_12 db00f_23 eb_0
theorem d_X12_comes_18 : decode prog_14_method_64_code 18 = .ok (.getfield 58, 3) := gq_13 db00f_23 eb_319
theorem d_X12_comes_21 : decode prog_14_method_64_code 21 = .ok (.iload_n 1, 1) := gq_14 db00f_23 eb_9
theorem d_X12_comes_22 : decode prog_14_method_64_code 22 = .ok (.dup2, 1) := gq_15 db00f_23 eb_143
theorem d_X12_comes_23 : decode prog_14_method_64_code 23 = .ok (.iaload, 1) := gq_16 db00f_23 eb_37
theorem d_X12_comes_24 : decode prog_14_method_64_code 24 = .ok (.iconst 1, 1) := gq_17 db00f_23 eb_19
theorem d_X12_comes_25 : decode prog_14_method_64_code 25 = .ok (.iadd, 1) := gq_18 db00f_23 eb_35
theorem d_X12_comes_26 : decode prog_14_method_64_code 26 = .ok (.iastore, 1) := gq_19 db00f_23 eb_38
theorem d_X12_comes_27 : decode prog_14_method_64_code 27 = .ok (.aload_n 0, 1) := gq_20 db00f_23 eb_0
theorem d_X12_comes_28 : decode prog_14_method_64_code 28 = .ok (.getfield 342, 3) := gq_21 db00f_23 eb_928
theorem d_X12_comes_31 : decode prog_14_method_64_code 31 = .ok (.iload_n 3, 1) := gq_22 db00f_23 eb_29
theorem d_X12_comes_32 : decode prog_14_method_64_code 32 = .ok (.if_icmp .le 12, 3) := gq_23 db00f_23 eb_688
theorem db00f_24 : Pf_ prog_14_method_64_code [(35, [0x2a]), (36, [0x15, 0x04]), (38, [0x04]), (39, [0xb6, 0x01, 0xf4]), (42, [0x03]), (43, [0xac]), (44, [0x2a]), (45, [0xb4, 0x00, 0x87]), (48, [0x15, 0x04]), (50, [0x2a]), (51, [0xb4, 0x01, 0x56]), (54, [0x4f]), (55, [0x2a]), (56, [0xb4, 0x01, 0x56]), (59, [0x1d]), (60, [0xa2, 0x00, 0x0c]), (63, [0x2a]), (64, [0xb4, 0x00, 0x2b]), (67, [0x1b]), (68, [0x1d]), (69, [0x4f]), (70, [0x04]), (71, [0xac]), (72, [0x03])] := pf_ok prog_14_method_64_code _ 35 (by decide +kernel)
theorem d_X12_comes_35 : decode prog_14_method_64_code 35 = .ok (.aload_n 0, 1) := gq_0 db00f_24 eb_0
theorem d_X12_comes_36 : decode prog_14_method_64_code 36 = .ok (.iload 4, 2) := gq_1 db00f_24 eb_76
theorem d_X12_comes_38 : decode prog_14_method_64_code 38 = .ok (.iconst 1, 1) := gq_2 db00f_24 eb_19
theorem d_X12_comes_39 : decode prog_14_method_64_code 39 = .ok (.invokevirtual 500, 3) := gq_3 db00f_24 eb_1061
theorem d_X12_comes_42 : decode prog_14_method_64_code 42 = .ok (.iconst 0, 1) := gq_4 db00f_24 eb_21
theorem d_X12_comes_43 : decode prog_14_method_64_code 43 = .ok (.ireturn, 1) := gq_5 db00f_24 eb_15
theorem d_X12_comes_44 : decode prog_14_method_64_code 44 = .ok (.aload_n 0, 1) := gq_6 db00f_24 eb_0
theorem d_X12_comes_45 : decode prog_14_method_64_code 45 = .ok (.getfield 135, 3) := gq_7 db00f_24 eb_1059
theorem d_X12_comes_48 : decode prog_14_method_64_code 48 = .ok (.iload 4, 2) := gq_8 db00f_24 eb_76
theorem d_X12_comes_50 : decode prog_14_method_64_code 50 = .ok (.aload_n 0, 1) := gq_9 db00f_24 eb_0
theorem d_X12_comes_51 : decode prog_14_method_64_code 51 = .ok (.getfield 342, 3) := gq_10 db00f_24 eb_928
theorem d_X12_comes_54 : decode prog_14_method_64_code 54 = .ok (.iastore, 1) := gq_11 db00f_24 eb_38
theorem d_X12_comes_55 : decode prog_14_method_64_code 55 = .ok (.aload_n 0, 1) := gq_12 db00f_24 eb_0
theorem d_X12_comes_56 : decode prog_14_method_64_code 56 = .ok (.getfield 342, 3) := gq_13 db00f_24 eb_928
theorem d_X12_comes_59 : decode prog_14_method_64_code 59 = .ok (.iload_n 3, 1) := gq_14 db00f_24 eb_29
theorem d_X12_comes_60 : decode prog_14_method_64_code 60 = .ok (.if_icmp .ge 12, 3) := gq_15 db00f_24 eb_53
theorem d_X12_comes_63 : decode prog_14_method_64_code 63 = .ok (.aload_n 0, 1) := gq_16 db00f_24 eb_0
theorem d_X12_comes_64 : decode prog_14_method_64_code 64 = .ok (.getfield 43, 3) := gq_17 db00f_24 eb_283
theorem d_X12_comes_67 : decode prog_14_method_64_code 67 = .ok (.iload_n 1, 1) := gq_18 db00f_24 eb_9
theorem d_X12_comes_68 : decode prog_14_method_64_code 68 = .ok (.iload_n 3, 1) := gq_19 db00f_24 eb_29
theorem d_X12_comes_69 : decode prog_14_method_64_code 69 = .ok (.iastore, 1) := gq_20 db00f_24 eb_38
theorem d_X12_comes_70 : decode prog_14_method_64_code 70 = .ok (.iconst 1, 1) := gq_21 db00f_24 eb_19
theorem d_X12_comes_71 : decode prog_14_method_64_code 71 = .ok (.ireturn, 1) := gq_22 db00f_24 eb_15
theorem d_X12_comes_72 : decode prog_14_method_64_code 72 = .ok (.iconst 0, 1) := gq_23 db00f_24 eb_21
theorem db00f_25 : Pf_ prog_14_method_64_code [(73, [0xac])] := pf_ok prog_14_method_64_code _ 73 (by decide +kernel)
theorem d_X12_comes_73 : decode prog_14_method_64_code 73 = .ok (.ireturn, 1) := gq_0 db00f_25 eb_15
theorem db00f_26 : Pf_ prog_14_method_65_code [(0, [0x2a]), (1, [0xb4, 0x00, 0x22]), (4, [0x1b]), (5, [0x2e]), (6, [0x04]), (7, [0xa0, 0x00, 0xcb]), (10, [0x2a]), (11, [0xb4, 0x00, 0x31]), (14, [0x1b]), (15, [0x2e]), (16, [0x2a]), (17, [0xb4, 0x00, 0x5d]), (20, [0x2a]), (21, [0xb4, 0x00, 0x2e]), (24, [0x1b]), (25, [0x2e]), (26, [0x2e]), (27, [0xa0, 0x00, 0x09]), (30, [0x2a]), (31, [0x1b]), (32, [0xb6, 0x02, 0x0d]), (35, [0xb1]), (36, [0x11, 0x00, 0x96]), (39, [0x2a])] := pf_ok prog_14_method_65_code _ 0 (by decide +kernel)
theorem d_X12_goOn_0 : decode prog_14_method_65_code 0 = .ok (.aload_n 0, 1) := gq_0 db00f_26 eb_0
theorem d_X12_goOn_1 : decode prog_14_method_65_code 1 = .ok (.getfield 34, 3) := gq_1 db00f_26 eb_36
theorem d_X12_goOn_4 : decode prog_14_method_65_code 4 = .ok (.iload_n 1, 1) := gq_2 db00f_26 eb_9
theorem d_X12_goOn_5 : decode prog_14_method_65_code 5 = .ok (.iaload, 1) := gq_3 db00f_26 eb_37
theorem d_X12_goOn_6 : decode prog_14_method_65_code 6 = .ok (.iconst 1, 1) := gq_4 db00f_26 eb_19
theorem d_X12_goOn_7 : decode prog_14_method_65_code 7 = .ok (.if_icmp .ne 203, 3) := gq_5 db00f_26 eb_1079
theorem d_X12_goOn_10 : decode prog_14_method_65_code 10 = .ok (.aload_n 0, 1) := gq_6 db00f_26 eb_0
theorem d_X12_goOn_11 : decode prog_14_method_65_code 11 = .ok (.getfield 49, 3) := gq_7 db00f_26 eb_285
theorem d_X12_goOn_14 : decode prog_14_method_65_code 14 = .ok (.iload_n 1, 1) := gq_8 db00f_26 eb_9
theorem d_X12_goOn_15 : decode prog_14_method_65_code 15 = .ok (.iaload, 1) := gq_9 db00f_26 eb_37
theorem d_X12_goOn_16 : decode prog_14_method_65_code 16 = .ok (.aload_n 0, 1) := gq_10 db00f_26 eb_0
theorem d_X12_goOn_17 : decode prog_14_method_65_code 17 = .ok (.getfield 93, 3) := gq_11 db00f_26 eb_996
theorem d_X12_goOn_20 : decode prog_14_method_65_code 20 = .ok (.aload_n 0, 1) := gq_12 db00f_26 eb_0
theorem d_X12_goOn_21 : decode prog_14_method_65_code 21 = .ok (.getfield 46, 3) := gq_13 db00f_26 eb_284
theorem d_X12_goOn_24 : decode prog_14_method_65_code 24 = .ok (.iload_n 1, 1) := gq_14 db00f_26 eb_9
theorem d_X12_goOn_25 : decode prog_14_method_65_code 25 = .ok (.iaload, 1) := gq_15 db00f_26 eb_37
theorem d_X12_goOn_26 : decode prog_14_method_65_code 26 = .ok (.iaload, 1) := gq_16 db00f_26 eb_37
theorem d_X12_goOn_27 : decode prog_14_method_65_code 27 = .ok (.if_icmp .ne 9, 3) := gq_17 db00f_26 eb_158
theorem d_X12_goOn_30 : decode prog_14_method_65_code 30 = .ok (.aload_n 0, 1) := gq_18 db00f_26 eb_0
theorem d_X12_goOn_31 : decode prog_14_method_65_code 31 = .ok (.iload_n 1, 1) := gq_19 db00f_26 eb_9
theorem d_X12_goOn_32 : decode prog_14_method_65_code 32 = .ok (.invokevirtual 525, 3) := gq_20 db00f_26 eb_794
theorem d_X12_goOn_35 : decode prog_14_method_65_code 35 = .ok (.return_, 1) := gq_21 db00f_26 eb_7
theorem d_X12_goOn_36 : decode prog_14_method_65_code 36 = .ok (.sipush 150, 3) := gq_22 db00f_26 eb_33
theorem d_X12_goOn_39 : decode prog_14_method_65_code 39 = .ok (.aload_n 0, 1) := gq_23 db00f_26 eb_0
theorem db00f_27 : Pf_ prog_14_method_65_code [(40, [0xb4, 0x00, 0x2e]), (43, [0x1b]), (44, [0x2e]), (45, [0x68]), (46, [0x2a]), (47, [0xb4, 0x00, 0x31]), (50, [0x1b]), (51, [0x2e]), (52, [0x60]), (53, [0x3d]), (54, [0x2a]), (55, [0xb4, 0x00, 0x60]), (58, [0x1c]), (59, [0x2e]), (60, [0x3e]), (61, [0x2a]), (62, [0xb4, 0x00, 0x2b]), (65, [0x1b]), (66, [0x02]), (67, [0x4f]), (68, [0x1d]), (69, [0x99, 0x00, 0x08]), (72, [0x1d]), (73, [0x05])] := pf_ok prog_14_method_65_code _ 40 (by decide +kernel)
theorem d_X12_goOn_40 : decode prog_14_method_65_code 40 = .ok (.getfield 46, 3) := gq_0 db00f_27 eb_284
theorem d_X12_goOn_43 : decode prog_14_method_65_code 43 = .ok (.iload_n 1, 1) := gq_1 db00f_27 eb_9
theorem d_X12_goOn_44 : decode prog_14_method_65_code 44 = .ok (.iaload, 1) := gq_2 db00f_27 eb_37
theorem d_X12_goOn_45 : decode prog_14_method_65_code 45 = .ok (.imul, 1) := gq_3 db00f_27 eb_34
theorem d_X12_goOn_46 : decode prog_14_method_65_code 46 = .ok (.aload_n 0, 1) := gq_4 db00f_27 eb_0
theorem d_X12_goOn_47 : decode prog_14_method_65_code 47 = .ok (.getfield 49, 3) := gq_5 db00f_27 eb_285
theorem d_X12_goOn_50 : decode prog_14_method_65_code 50 = .ok (.iload_n 1, 1) := gq_6 db00f_27 eb_9
theorem d_X12_goOn_51 : decode prog_14_method_65_code 51 = .ok (.iaload, 1) := gq_7 db00f_27 eb_37
theorem d_X12_goOn_52 : decode prog_14_method_65_code 52 = .ok (.iadd, 1) := gq_8 db00f_27 eb_35
theorem d_X12_goOn_53 : decode prog_14_method_65_code 53 = .ok (.istore_n 2, 1) := gq_9 db00f_27 eb_27
theorem d_X12_goOn_54 : decode prog_14_method_65_code 54 = .ok (.aload_n 0, 1) := gq_10 db00f_27 eb_0
theorem d_X12_goOn_55 : decode prog_14_method_65_code 55 = .ok (.getfield 96, 3) := gq_11 db00f_27 eb_989
theorem d_X12_goOn_58 : decode prog_14_method_65_code 58 = .ok (.iload_n 2, 1) := gq_12 db00f_27 eb_13
theorem d_X12_goOn_59 : decode prog_14_method_65_code 59 = .ok (.iaload, 1) := gq_13 db00f_27 eb_37
theorem d_X12_goOn_60 : decode prog_14_method_65_code 60 = .ok (.istore_n 3, 1) := gq_14 db00f_27 eb_28
theorem d_X12_goOn_61 : decode prog_14_method_65_code 61 = .ok (.aload_n 0, 1) := gq_15 db00f_27 eb_0
theorem d_X12_goOn_62 : decode prog_14_method_65_code 62 = .ok (.getfield 43, 3) := gq_16 db00f_27 eb_283
theorem d_X12_goOn_65 : decode prog_14_method_65_code 65 = .ok (.iload_n 1, 1) := gq_17 db00f_27 eb_9
theorem d_X12_goOn_66 : decode prog_14_method_65_code 66 = .ok (.iconst (-1), 1) := gq_18 db00f_27 eb_26
theorem d_X12_goOn_67 : decode prog_14_method_65_code 67 = .ok (.iastore, 1) := gq_19 db00f_27 eb_38
theorem d_X12_goOn_68 : decode prog_14_method_65_code 68 = .ok (.iload_n 3, 1) := gq_20 db00f_27 eb_29
theorem d_X12_goOn_69 : decode prog_14_method_65_code 69 = .ok (.ifCond .eq 8, 3) := gq_21 db00f_27 eb_489
theorem d_X12_goOn_72 : decode prog_14_method_65_code 72 = .ok (.iload_n 3, 1) := gq_22 db00f_27 eb_29
theorem d_X12_goOn_73 : decode prog_14_method_65_code 73 = .ok (.iconst 2, 1) := gq_23 db00f_27 eb_10
theorem db00f_28 : Pf_ prog_14_method_65_code [(74, [0xa0, 0x00, 0x60]), (77, [0x2a]), (78, [0x2a]), (79, [0xb4, 0x00, 0x25]), (82, [0x1b]), (83, [0x2e]), (84, [0x2a]), (85, [0xb4, 0x00, 0x63]), (88, [0x1c]), (89, [0x2e]), (90, [0xb6, 0x01, 0x4f]), (93, [0x36, 0x04]), (95, [0x15, 0x04]), (97, [0x9e, 0x00, 0x0f]), (100, [0x2a]), (101, [0x1b]), (102, [0x2a]), (103, [0xb4, 0x00, 0x63]), (106, [0x1c]), (107, [0x2e]), (108, [0xb6, 0x02, 0x0a]), (111, [0xb1]), (112, [0x1d]), (113, [0x05])] := pf_ok prog_14_method_65_code _ 74 (by decide +kernel)
theorem d_X12_goOn_74 : decode prog_14_method_65_code 74 = .ok (.if_icmp .ne 96, 3) := gq_0 db00f_28 eb_1080
theorem d_X12_goOn_77 : decode prog_14_method_65_code 77 = .ok (.aload_n 0, 1) := gq_1 db00f_28 eb_0
theorem d_X12_goOn_78 : decode prog_14_method_65_code 78 = .ok (.aload_n 0, 1) := gq_2 db00f_28 eb_0
theorem d_X12_goOn_79 : decode prog_14_method_65_code 79 = .ok (.getfield 37, 3) := gq_3 db00f_28 eb_281
theorem d_X12_goOn_82 : decode prog_14_method_65_code 82 = .ok (.iload_n 1, 1) := gq_4 db00f_28 eb_9
theorem d_X12_goOn_83 : decode prog_14_method_65_code 83 = .ok (.iaload, 1) := gq_5 db00f_28 eb_37
theorem d_X12_goOn_84 : decode prog_14_method_65_code 84 = .ok (.aload_n 0, 1) := gq_6 db00f_28 eb_0
theorem d_X12_goOn_85 : decode prog_14_method_65_code 85 = .ok (.getfield 99, 3) := gq_7 db00f_28 eb_990
theorem d_X12_goOn_88 : decode prog_14_method_65_code 88 = .ok (.iload_n 2, 1) := gq_8 db00f_28 eb_13
theorem d_X12_goOn_89 : decode prog_14_method_65_code 89 = .ok (.iaload, 1) := gq_9 db00f_28 eb_37
theorem d_X12_goOn_90 : decode prog_14_method_65_code 90 = .ok (.invokevirtual 335, 3) := gq_10 db00f_28 eb_925
theorem d_X12_goOn_93 : decode prog_14_method_65_code 93 = .ok (.istore 4, 2) := gq_11 db00f_28 eb_133
theorem d_X12_goOn_95 : decode prog_14_method_65_code 95 = .ok (.iload 4, 2) := gq_12 db00f_28 eb_76
theorem d_X12_goOn_97 : decode prog_14_method_65_code 97 = .ok (.ifCond .le 15, 3) := gq_13 db00f_28 eb_1081
theorem d_X12_goOn_100 : decode prog_14_method_65_code 100 = .ok (.aload_n 0, 1) := gq_14 db00f_28 eb_0
theorem d_X12_goOn_101 : decode prog_14_method_65_code 101 = .ok (.iload_n 1, 1) := gq_15 db00f_28 eb_9
theorem d_X12_goOn_102 : decode prog_14_method_65_code 102 = .ok (.aload_n 0, 1) := gq_16 db00f_28 eb_0
theorem d_X12_goOn_103 : decode prog_14_method_65_code 103 = .ok (.getfield 99, 3) := gq_17 db00f_28 eb_990
theorem d_X12_goOn_106 : decode prog_14_method_65_code 106 = .ok (.iload_n 2, 1) := gq_18 db00f_28 eb_13
theorem d_X12_goOn_107 : decode prog_14_method_65_code 107 = .ok (.iaload, 1) := gq_19 db00f_28 eb_37
theorem d_X12_goOn_108 : decode prog_14_method_65_code 108 = .ok (.invokevirtual 522, 3) := gq_20 db00f_28 eb_1077
theorem d_X12_goOn_111 : decode prog_14_method_65_code 111 = .ok (.return_, 1) := gq_21 db00f_28 eb_7
theorem d_X12_goOn_112 : decode prog_14_method_65_code 112 = .ok (.iload_n 3, 1) := gq_22 db00f_28 eb_29
theorem d_X12_goOn_113 : decode prog_14_method_65_code 113 = .ok (.iconst 2, 1) := gq_23 db00f_28 eb_10
theorem db00f_29 : Pf_ prog_14_method_65_code [(114, [0xa0, 0x00, 0x21]), (117, [0x15, 0x04]), (119, [0x02]), (120, [0xa0, 0x00, 0x1b]), (123, [0x2a]), (124, [0x2a]), (125, [0xb4, 0x00, 0x3a]), (128, [0x1b]), (129, [0x2e]), (130, [0x05]), (131, [0xb6, 0x01, 0xf4]), (134, [0x2a]), (135, [0xb4, 0x00, 0x3a]), (138, [0x1b]), (139, [0x5c]), (140, [0x2e]), (141, [0x04]), (142, [0x60]), (143, [0x4f]), (144, [0xa7, 0x00, 0x17]), (147, [0x1d]), (148, [0x05]), (149, [0xa0, 0x00, 0x12]), (152, [0x2a])] := pf_ok prog_14_method_65_code _ 114 (by decide +kernel)
theorem d_X12_goOn_114 : decode prog_14_method_65_code 114 = .ok (.if_icmp .ne 33, 3) := gq_0 db00f_29 eb_518
theorem d_X12_goOn_117 : decode prog_14_method_65_code 117 = .ok (.iload 4, 2) := gq_1 db00f_29 eb_76
theorem d_X12_goOn_119 : decode prog_14_method_65_code 119 = .ok (.iconst (-1), 1) := gq_2 db00f_29 eb_26
theorem d_X12_goOn_120 : decode prog_14_method_65_code 120 = .ok (.if_icmp .ne 27, 3) := gq_3 db00f_29 eb_191
theorem d_X12_goOn_123 : decode prog_14_method_65_code 123 = .ok (.aload_n 0, 1) := gq_4 db00f_29 eb_0
theorem d_X12_goOn_124 : decode prog_14_method_65_code 124 = .ok (.aload_n 0, 1) := gq_5 db00f_29 eb_0
theorem d_X12_goOn_125 : decode prog_14_method_65_code 125 = .ok (.getfield 58, 3) := gq_6 db00f_29 eb_319
theorem d_X12_goOn_128 : decode prog_14_method_65_code 128 = .ok (.iload_n 1, 1) := gq_7 db00f_29 eb_9
theorem d_X12_goOn_129 : decode prog_14_method_65_code 129 = .ok (.iaload, 1) := gq_8 db00f_29 eb_37
theorem d_X12_goOn_130 : decode prog_14_method_65_code 130 = .ok (.iconst 2, 1) := gq_9 db00f_29 eb_10
theorem d_X12_goOn_131 : decode prog_14_method_65_code 131 = .ok (.invokevirtual 500, 3) := gq_10 db00f_29 eb_1061
theorem d_X12_goOn_134 : decode prog_14_method_65_code 134 = .ok (.aload_n 0, 1) := gq_11 db00f_29 eb_0
theorem d_X12_goOn_135 : decode prog_14_method_65_code 135 = .ok (.getfield 58, 3) := gq_12 db00f_29 eb_319
theorem d_X12_goOn_138 : decode prog_14_method_65_code 138 = .ok (.iload_n 1, 1) := gq_13 db00f_29 eb_9
theorem d_X12_goOn_139 : decode prog_14_method_65_code 139 = .ok (.dup2, 1) := gq_14 db00f_29 eb_143
theorem d_X12_goOn_140 : decode prog_14_method_65_code 140 = .ok (.iaload, 1) := gq_15 db00f_29 eb_37
theorem d_X12_goOn_141 : decode prog_14_method_65_code 141 = .ok (.iconst 1, 1) := gq_16 db00f_29 eb_19
theorem d_X12_goOn_142 : decode prog_14_method_65_code 142 = .ok (.iadd, 1) := gq_17 db00f_29 eb_35
theorem d_X12_goOn_143 : decode prog_14_method_65_code 143 = .ok (.iastore, 1) := gq_18 db00f_29 eb_38
theorem d_X12_goOn_144 : decode prog_14_method_65_code 144 = .ok (.goto 23, 3) := gq_19 db00f_29 eb_1082
theorem d_X12_goOn_147 : decode prog_14_method_65_code 147 = .ok (.iload_n 3, 1) := gq_20 db00f_29 eb_29
theorem d_X12_goOn_148 : decode prog_14_method_65_code 148 = .ok (.iconst 2, 1) := gq_21 db00f_29 eb_10
theorem d_X12_goOn_149 : decode prog_14_method_65_code 149 = .ok (.if_icmp .ne 18, 3) := gq_22 db00f_29 eb_1072
theorem d_X12_goOn_152 : decode prog_14_method_65_code 152 = .ok (.aload_n 0, 1) := gq_23 db00f_29 eb_0
theorem db00f_30 : Pf_ prog_14_method_65_code [(153, [0x1b]), (154, [0x2a]), (155, [0xb4, 0x00, 0x66]), (158, [0x1c]), (159, [0x2e]), (160, [0xb6, 0x02, 0x13]), (163, [0x99, 0x00, 0x04]), (166, [0xb1]), (167, [0xa7, 0x00, 0x1e]), (170, [0x2a]), (171, [0xb4, 0x00, 0x2b]), (174, [0x1b]), (175, [0x2a]), (176, [0xb4, 0x01, 0x56]), (179, [0x1d]), (180, [0x04]), (181, [0xa0, 0x00, 0x0c]), (184, [0x2a]), (185, [0xb4, 0x00, 0x63]), (188, [0x1c]), (189, [0x2e]), (190, [0xa7, 0x00, 0x04]), (193, [0x04]), (194, [0x60])] := pf_ok prog_14_method_65_code _ 153 (by decide +kernel)
theorem d_X12_goOn_153 : decode prog_14_method_65_code 153 = .ok (.iload_n 1, 1) := gq_0 db00f_30 eb_9
theorem d_X12_goOn_154 : decode prog_14_method_65_code 154 = .ok (.aload_n 0, 1) := gq_1 db00f_30 eb_0
theorem d_X12_goOn_155 : decode prog_14_method_65_code 155 = .ok (.getfield 102, 3) := gq_2 db00f_30 eb_992
theorem d_X12_goOn_158 : decode prog_14_method_65_code 158 = .ok (.iload_n 2, 1) := gq_3 db00f_30 eb_13
theorem d_X12_goOn_159 : decode prog_14_method_65_code 159 = .ok (.iaload, 1) := gq_4 db00f_30 eb_37
theorem d_X12_goOn_160 : decode prog_14_method_65_code 160 = .ok (.invokevirtual 531, 3) := gq_5 db00f_30 eb_1083
theorem d_X12_goOn_163 : decode prog_14_method_65_code 163 = .ok (.ifCond .eq 4, 3) := gq_6 db00f_30 eb_679
theorem d_X12_goOn_166 : decode prog_14_method_65_code 166 = .ok (.return_, 1) := gq_7 db00f_30 eb_7
theorem d_X12_goOn_167 : decode prog_14_method_65_code 167 = .ok (.goto 30, 3) := gq_8 db00f_30 eb_1084
theorem d_X12_goOn_170 : decode prog_14_method_65_code 170 = .ok (.aload_n 0, 1) := gq_9 db00f_30 eb_0
theorem d_X12_goOn_171 : decode prog_14_method_65_code 171 = .ok (.getfield 43, 3) := gq_10 db00f_30 eb_283
theorem d_X12_goOn_174 : decode prog_14_method_65_code 174 = .ok (.iload_n 1, 1) := gq_11 db00f_30 eb_9
theorem d_X12_goOn_175 : decode prog_14_method_65_code 175 = .ok (.aload_n 0, 1) := gq_12 db00f_30 eb_0
theorem d_X12_goOn_176 : decode prog_14_method_65_code 176 = .ok (.getfield 342, 3) := gq_13 db00f_30 eb_928
theorem d_X12_goOn_179 : decode prog_14_method_65_code 179 = .ok (.iload_n 3, 1) := gq_14 db00f_30 eb_29
theorem d_X12_goOn_180 : decode prog_14_method_65_code 180 = .ok (.iconst 1, 1) := gq_15 db00f_30 eb_19
theorem d_X12_goOn_181 : decode prog_14_method_65_code 181 = .ok (.if_icmp .ne 12, 3) := gq_16 db00f_30 eb_410
theorem d_X12_goOn_184 : decode prog_14_method_65_code 184 = .ok (.aload_n 0, 1) := gq_17 db00f_30 eb_0
theorem d_X12_goOn_185 : decode prog_14_method_65_code 185 = .ok (.getfield 99, 3) := gq_18 db00f_30 eb_990
theorem d_X12_goOn_188 : decode prog_14_method_65_code 188 = .ok (.iload_n 2, 1) := gq_19 db00f_30 eb_13
theorem d_X12_goOn_189 : decode prog_14_method_65_code 189 = .ok (.iaload, 1) := gq_20 db00f_30 eb_37
theorem d_X12_goOn_190 : decode prog_14_method_65_code 190 = .ok (.goto 4, 3) := gq_21 db00f_30 eb_20
theorem d_X12_goOn_193 : decode prog_14_method_65_code 193 = .ok (.iconst 1, 1) := gq_22 db00f_30 eb_19
theorem d_X12_goOn_194 : decode prog_14_method_65_code 194 = .ok (.iadd, 1) := gq_23 db00f_30 eb_35
theorem db00f_31 : Pf_ prog_14_method_65_code [(195, [0x4f]), (196, [0xb1]), (197, [0x2a]), (198, [0xb4, 0x00, 0x31]), (201, [0x1b]), (202, [0x5c]), (203, [0x2e]), (204, [0x04]), (205, [0x60]), (206, [0x4f]), (207, [0xa7, 0xff, 0x31]), (210, [0xb1])] := pf_ok prog_14_method_65_code _ 195 (by decide +kernel)
theorem d_X12_goOn_195 : decode prog_14_method_65_code 195 = .ok (.iastore, 1) := gq_0 db00f_31 eb_38
theorem d_X12_goOn_196 : decode prog_14_method_65_code 196 = .ok (.return_, 1) := gq_1 db00f_31 eb_7
theorem d_X12_goOn_197 : decode prog_14_method_65_code 197 = .ok (.aload_n 0, 1) := gq_2 db00f_31 eb_0
theorem d_X12_goOn_198 : decode prog_14_method_65_code 198 = .ok (.getfield 49, 3) := gq_3 db00f_31 eb_285
theorem d_X12_goOn_201 : decode prog_14_method_65_code 201 = .ok (.iload_n 1, 1) := gq_4 db00f_31 eb_9
theorem d_X12_goOn_202 : decode prog_14_method_65_code 202 = .ok (.dup2, 1) := gq_5 db00f_31 eb_143
theorem d_X12_goOn_203 : decode prog_14_method_65_code 203 = .ok (.iaload, 1) := gq_6 db00f_31 eb_37
theorem d_X12_goOn_204 : decode prog_14_method_65_code 204 = .ok (.iconst 1, 1) := gq_7 db00f_31 eb_19
theorem d_X12_goOn_205 : decode prog_14_method_65_code 205 = .ok (.iadd, 1) := gq_8 db00f_31 eb_35
theorem d_X12_goOn_206 : decode prog_14_method_65_code 206 = .ok (.iastore, 1) := gq_9 db00f_31 eb_38
theorem d_X12_goOn_207 : decode prog_14_method_65_code 207 = .ok (.goto (-207), 3) := gq_10 db00f_31 eb_1085
theorem d_X12_goOn_210 : decode prog_14_method_65_code 210 = .ok (.return_, 1) := gq_11 db00f_31 eb_7
theorem db00f_32 : Pf_ prog_14_method_66_code [(0, [0x2a]), (1, [0x1b]), (2, [0xb6, 0x01, 0x59]), (5, [0x99, 0x00, 0x2a]), (8, [0x1c]), (9, [0x03]), (10, [0x2a]), (11, [0xb4, 0x01, 0x9d]), (14, [0x04]), (15, [0x64]), (16, [0xb8, 0x01, 0x43]), (19, [0x99, 0x00, 0x1c]), (22, [0x2a]), (23, [0xb4, 0x00, 0x22]), (26, [0x1b]), (27, [0x2e]), (28, [0x9a, 0x00, 0x13]), (31, [0x2a]), (32, [0xb4, 0x01, 0xfb]), (35, [0x2a]), (36, [0x1c]), (37, [0xb6, 0x01, 0xa4]), (40, [0x60]), (41, [0x11, 0x01, 0x90])] := pf_ok prog_14_method_66_code _ 0 (by decide +kernel)
theorem d_X12_begin_0 : decode prog_14_method_66_code 0 = .ok (.aload_n 0, 1) := gq_0 db00f_32 eb_0
theorem d_X12_begin_1 : decode prog_14_method_66_code 1 = .ok (.iload_n 1, 1) := gq_1 db00f_32 eb_9
theorem d_X12_begin_2 : decode prog_14_method_66_code 2 = .ok (.invokevirtual 345, 3) := gq_2 db00f_32 eb_930
theorem d_X12_begin_5 : decode prog_14_method_66_code 5 = .ok (.ifCond .eq 42, 3) := gq_3 db00f_32 eb_516
theorem d_X12_begin_8 : decode prog_14_method_66_code 8 = .ok (.iload_n 2, 1) := gq_4 db00f_32 eb_13
theorem d_X12_begin_9 : decode prog_14_method_66_code 9 = .ok (.iconst 0, 1) := gq_5 db00f_32 eb_21
theorem d_X12_begin_10 : decode prog_14_method_66_code 10 = .ok (.aload_n 0, 1) := gq_6 db00f_32 eb_0
theorem d_X12_begin_11 : decode prog_14_method_66_code 11 = .ok (.getfield 413, 3) := gq_7 db00f_32 eb_987
theorem d_X12_begin_14 : decode prog_14_method_66_code 14 = .ok (.iconst 1, 1) := gq_8 db00f_32 eb_19
theorem d_X12_begin_15 : decode prog_14_method_66_code 15 = .ok (.isub, 1) := gq_9 db00f_32 eb_48
theorem d_X12_begin_16 : decode prog_14_method_66_code 16 = .ok (.invokestatic 323, 3) := gq_10 db00f_32 eb_913
theorem d_X12_begin_19 : decode prog_14_method_66_code 19 = .ok (.ifCond .eq 28, 3) := gq_11 db00f_32 eb_623
theorem d_X12_begin_22 : decode prog_14_method_66_code 22 = .ok (.aload_n 0, 1) := gq_12 db00f_32 eb_0
theorem d_X12_begin_23 : decode prog_14_method_66_code 23 = .ok (.getfield 34, 3) := gq_13 db00f_32 eb_36
theorem d_X12_begin_26 : decode prog_14_method_66_code 26 = .ok (.iload_n 1, 1) := gq_14 db00f_32 eb_9
theorem d_X12_begin_27 : decode prog_14_method_66_code 27 = .ok (.iaload, 1) := gq_15 db00f_32 eb_37
theorem d_X12_begin_28 : decode prog_14_method_66_code 28 = .ok (.ifCond .ne 19, 3) := gq_16 db00f_32 eb_1086
theorem d_X12_begin_31 : decode prog_14_method_66_code 31 = .ok (.aload_n 0, 1) := gq_17 db00f_32 eb_0
theorem d_X12_begin_32 : decode prog_14_method_66_code 32 = .ok (.getfield 507, 3) := gq_18 db00f_32 eb_1067
theorem d_X12_begin_35 : decode prog_14_method_66_code 35 = .ok (.aload_n 0, 1) := gq_19 db00f_32 eb_0
theorem d_X12_begin_36 : decode prog_14_method_66_code 36 = .ok (.iload_n 2, 1) := gq_20 db00f_32 eb_13
theorem d_X12_begin_37 : decode prog_14_method_66_code 37 = .ok (.invokevirtual 420, 3) := gq_21 db00f_32 eb_998
theorem d_X12_begin_40 : decode prog_14_method_66_code 40 = .ok (.iadd, 1) := gq_22 db00f_32 eb_35
theorem d_X12_begin_41 : decode prog_14_method_66_code 41 = .ok (.sipush 400, 3) := gq_23 db00f_32 eb_413
theorem db00f_33 : Pf_ prog_14_method_66_code [(44, [0xa4, 0x00, 0x05]), (47, [0x03]), (48, [0xac]), (49, [0x2a]), (50, [0xb4, 0x00, 0x22]), (53, [0x1b]), (54, [0x04]), (55, [0x4f]), (56, [0x2a]), (57, [0xb4, 0x00, 0x2e]), (60, [0x1b]), (61, [0x1c]), (62, [0x4f]), (63, [0x2a]), (64, [0xb4, 0x00, 0x31]), (67, [0x1b]), (68, [0x03]), (69, [0x4f]), (70, [0x2a]), (71, [0xb4, 0x00, 0x34]), (74, [0x1b]), (75, [0x2a]), (76, [0xb4, 0x01, 0x56]), (79, [0x4f])] := pf_ok prog_14_method_66_code _ 44 (by decide +kernel)
theorem d_X12_begin_44 : decode prog_14_method_66_code 44 = .ok (.if_icmp .le 5, 3) := gq_0 db00f_33 eb_334
theorem d_X12_begin_47 : decode prog_14_method_66_code 47 = .ok (.iconst 0, 1) := gq_1 db00f_33 eb_21
theorem d_X12_begin_48 : decode prog_14_method_66_code 48 = .ok (.ireturn, 1) := gq_2 db00f_33 eb_15
theorem d_X12_begin_49 : decode prog_14_method_66_code 49 = .ok (.aload_n 0, 1) := gq_3 db00f_33 eb_0
theorem d_X12_begin_50 : decode prog_14_method_66_code 50 = .ok (.getfield 34, 3) := gq_4 db00f_33 eb_36
theorem d_X12_begin_53 : decode prog_14_method_66_code 53 = .ok (.iload_n 1, 1) := gq_5 db00f_33 eb_9
theorem d_X12_begin_54 : decode prog_14_method_66_code 54 = .ok (.iconst 1, 1) := gq_6 db00f_33 eb_19
theorem d_X12_begin_55 : decode prog_14_method_66_code 55 = .ok (.iastore, 1) := gq_7 db00f_33 eb_38
theorem d_X12_begin_56 : decode prog_14_method_66_code 56 = .ok (.aload_n 0, 1) := gq_8 db00f_33 eb_0
theorem d_X12_begin_57 : decode prog_14_method_66_code 57 = .ok (.getfield 46, 3) := gq_9 db00f_33 eb_284
theorem d_X12_begin_60 : decode prog_14_method_66_code 60 = .ok (.iload_n 1, 1) := gq_10 db00f_33 eb_9
theorem d_X12_begin_61 : decode prog_14_method_66_code 61 = .ok (.iload_n 2, 1) := gq_11 db00f_33 eb_13
theorem d_X12_begin_62 : decode prog_14_method_66_code 62 = .ok (.iastore, 1) := gq_12 db00f_33 eb_38
theorem d_X12_begin_63 : decode prog_14_method_66_code 63 = .ok (.aload_n 0, 1) := gq_13 db00f_33 eb_0
theorem d_X12_begin_64 : decode prog_14_method_66_code 64 = .ok (.getfield 49, 3) := gq_14 db00f_33 eb_285
theorem d_X12_begin_67 : decode prog_14_method_66_code 67 = .ok (.iload_n 1, 1) := gq_15 db00f_33 eb_9
theorem d_X12_begin_68 : decode prog_14_method_66_code 68 = .ok (.iconst 0, 1) := gq_16 db00f_33 eb_21
theorem d_X12_begin_69 : decode prog_14_method_66_code 69 = .ok (.iastore, 1) := gq_17 db00f_33 eb_38
theorem d_X12_begin_70 : decode prog_14_method_66_code 70 = .ok (.aload_n 0, 1) := gq_18 db00f_33 eb_0
theorem d_X12_begin_71 : decode prog_14_method_66_code 71 = .ok (.getfield 52, 3) := gq_19 db00f_33 eb_288
theorem d_X12_begin_74 : decode prog_14_method_66_code 74 = .ok (.iload_n 1, 1) := gq_20 db00f_33 eb_9
theorem d_X12_begin_75 : decode prog_14_method_66_code 75 = .ok (.aload_n 0, 1) := gq_21 db00f_33 eb_0
theorem d_X12_begin_76 : decode prog_14_method_66_code 76 = .ok (.getfield 342, 3) := gq_22 db00f_33 eb_928
theorem d_X12_begin_79 : decode prog_14_method_66_code 79 = .ok (.iastore, 1) := gq_23 db00f_33 eb_38
theorem db00f_34 : Pf_ prog_14_method_66_code [(80, [0x2a]), (81, [0xb4, 0x00, 0x37]), (84, [0x1b]), (85, [0x2a]), (86, [0xb4, 0x01, 0xfb]), (89, [0x4f]), (90, [0x2a]), (91, [0xb4, 0x00, 0x3a]), (94, [0x1b]), (95, [0x2a]), (96, [0xb4, 0x01, 0xfb]), (99, [0x4f]), (100, [0x11, 0x00, 0x96]), (103, [0x1c]), (104, [0x68]), (105, [0x3e]), (106, [0x1d]), (107, [0x11, 0x00, 0x96]), (110, [0x1c]), (111, [0x68]), (112, [0x2a]), (113, [0xb4, 0x00, 0x5d]), (116, [0x1c]), (117, [0x2e])] := pf_ok prog_14_method_66_code _ 80 (by decide +kernel)
theorem d_X12_begin_80 : decode prog_14_method_66_code 80 = .ok (.aload_n 0, 1) := gq_0 db00f_34 eb_0
theorem d_X12_begin_81 : decode prog_14_method_66_code 81 = .ok (.getfield 55, 3) := gq_1 db00f_34 eb_273
theorem d_X12_begin_84 : decode prog_14_method_66_code 84 = .ok (.iload_n 1, 1) := gq_2 db00f_34 eb_9
theorem d_X12_begin_85 : decode prog_14_method_66_code 85 = .ok (.aload_n 0, 1) := gq_3 db00f_34 eb_0
theorem d_X12_begin_86 : decode prog_14_method_66_code 86 = .ok (.getfield 507, 3) := gq_4 db00f_34 eb_1067
theorem d_X12_begin_89 : decode prog_14_method_66_code 89 = .ok (.iastore, 1) := gq_5 db00f_34 eb_38
theorem d_X12_begin_90 : decode prog_14_method_66_code 90 = .ok (.aload_n 0, 1) := gq_6 db00f_34 eb_0
theorem d_X12_begin_91 : decode prog_14_method_66_code 91 = .ok (.getfield 58, 3) := gq_7 db00f_34 eb_319
theorem d_X12_begin_94 : decode prog_14_method_66_code 94 = .ok (.iload_n 1, 1) := gq_8 db00f_34 eb_9
theorem d_X12_begin_95 : decode prog_14_method_66_code 95 = .ok (.aload_n 0, 1) := gq_9 db00f_34 eb_0
theorem d_X12_begin_96 : decode prog_14_method_66_code 96 = .ok (.getfield 507, 3) := gq_10 db00f_34 eb_1067
theorem d_X12_begin_99 : decode prog_14_method_66_code 99 = .ok (.iastore, 1) := gq_11 db00f_34 eb_38
theorem d_X12_begin_100 : decode prog_14_method_66_code 100 = .ok (.sipush 150, 3) := gq_12 db00f_34 eb_33
theorem d_X12_begin_103 : decode prog_14_method_66_code 103 = .ok (.iload_n 2, 1) := gq_13 db00f_34 eb_13
theorem d_X12_begin_104 : decode prog_14_method_66_code 104 = .ok (.imul, 1) := gq_14 db00f_34 eb_34
theorem d_X12_begin_105 : decode prog_14_method_66_code 105 = .ok (.istore_n 3, 1) := gq_15 db00f_34 eb_28
theorem d_X12_begin_106 : decode prog_14_method_66_code 106 = .ok (.iload_n 3, 1) := gq_16 db00f_34 eb_29
theorem d_X12_begin_107 : decode prog_14_method_66_code 107 = .ok (.sipush 150, 3) := gq_17 db00f_34 eb_33
theorem d_X12_begin_110 : decode prog_14_method_66_code 110 = .ok (.iload_n 2, 1) := gq_18 db00f_34 eb_13
theorem d_X12_begin_111 : decode prog_14_method_66_code 111 = .ok (.imul, 1) := gq_19 db00f_34 eb_34
theorem d_X12_begin_112 : decode prog_14_method_66_code 112 = .ok (.aload_n 0, 1) := gq_20 db00f_34 eb_0
theorem d_X12_begin_113 : decode prog_14_method_66_code 113 = .ok (.getfield 93, 3) := gq_21 db00f_34 eb_996
theorem d_X12_begin_116 : decode prog_14_method_66_code 116 = .ok (.iload_n 2, 1) := gq_22 db00f_34 eb_13
theorem d_X12_begin_117 : decode prog_14_method_66_code 117 = .ok (.iaload, 1) := gq_23 db00f_34 eb_37
theorem db00f_35 : Pf_ prog_14_method_66_code [(118, [0x60]), (119, [0xa2, 0x00, 0x6b]), (122, [0x2a]), (123, [0xb4, 0x00, 0x60]), (126, [0x1d]), (127, [0x2e]), (128, [0x05]), (129, [0xa0, 0x00, 0x5b]), (132, [0x2a]), (133, [0xb4, 0x00, 0x7e]), (136, [0x2a]), (137, [0xb4, 0x01, 0xfb]), (140, [0x1b]), (141, [0x4f]), (142, [0x2a]), (143, [0xb4, 0x00, 0x81]), (146, [0x2a]), (147, [0xb4, 0x01, 0xfb]), (150, [0x2a]), (151, [0xb4, 0x00, 0x63]), (154, [0x1d]), (155, [0x2e]), (156, [0x4f]), (157, [0x2a])] := pf_ok prog_14_method_66_code _ 118 (by decide +kernel)
theorem d_X12_begin_118 : decode prog_14_method_66_code 118 = .ok (.iadd, 1) := gq_0 db00f_35 eb_35
theorem d_X12_begin_119 : decode prog_14_method_66_code 119 = .ok (.if_icmp .ge 107, 3) := gq_1 db00f_35 eb_1087
theorem d_X12_begin_122 : decode prog_14_method_66_code 122 = .ok (.aload_n 0, 1) := gq_2 db00f_35 eb_0
theorem d_X12_begin_123 : decode prog_14_method_66_code 123 = .ok (.getfield 96, 3) := gq_3 db00f_35 eb_989
theorem d_X12_begin_126 : decode prog_14_method_66_code 126 = .ok (.iload_n 3, 1) := gq_4 db00f_35 eb_29
theorem d_X12_begin_127 : decode prog_14_method_66_code 127 = .ok (.iaload, 1) := gq_5 db00f_35 eb_37
theorem d_X12_begin_128 : decode prog_14_method_66_code 128 = .ok (.iconst 2, 1) := gq_6 db00f_35 eb_10
theorem d_X12_begin_129 : decode prog_14_method_66_code 129 = .ok (.if_icmp .ne 91, 3) := gq_7 db00f_35 eb_1088
theorem d_X12_begin_132 : decode prog_14_method_66_code 132 = .ok (.aload_n 0, 1) := gq_8 db00f_35 eb_0
theorem d_X12_begin_133 : decode prog_14_method_66_code 133 = .ok (.getfield 126, 3) := gq_9 db00f_35 eb_613
theorem d_X12_begin_136 : decode prog_14_method_66_code 136 = .ok (.aload_n 0, 1) := gq_10 db00f_35 eb_0
theorem d_X12_begin_137 : decode prog_14_method_66_code 137 = .ok (.getfield 507, 3) := gq_11 db00f_35 eb_1067
theorem d_X12_begin_140 : decode prog_14_method_66_code 140 = .ok (.iload_n 1, 1) := gq_12 db00f_35 eb_9
theorem d_X12_begin_141 : decode prog_14_method_66_code 141 = .ok (.iastore, 1) := gq_13 db00f_35 eb_38
theorem d_X12_begin_142 : decode prog_14_method_66_code 142 = .ok (.aload_n 0, 1) := gq_14 db00f_35 eb_0
theorem d_X12_begin_143 : decode prog_14_method_66_code 143 = .ok (.getfield 129, 3) := gq_15 db00f_35 eb_1069
theorem d_X12_begin_146 : decode prog_14_method_66_code 146 = .ok (.aload_n 0, 1) := gq_16 db00f_35 eb_0
theorem d_X12_begin_147 : decode prog_14_method_66_code 147 = .ok (.getfield 507, 3) := gq_17 db00f_35 eb_1067
theorem d_X12_begin_150 : decode prog_14_method_66_code 150 = .ok (.aload_n 0, 1) := gq_18 db00f_35 eb_0
theorem d_X12_begin_151 : decode prog_14_method_66_code 151 = .ok (.getfield 99, 3) := gq_19 db00f_35 eb_990
theorem d_X12_begin_154 : decode prog_14_method_66_code 154 = .ok (.iload_n 3, 1) := gq_20 db00f_35 eb_29
theorem d_X12_begin_155 : decode prog_14_method_66_code 155 = .ok (.iaload, 1) := gq_21 db00f_35 eb_37
theorem d_X12_begin_156 : decode prog_14_method_66_code 156 = .ok (.iastore, 1) := gq_22 db00f_35 eb_38
theorem d_X12_begin_157 : decode prog_14_method_66_code 157 = .ok (.aload_n 0, 1) := gq_23 db00f_35 eb_0
theorem db00f_36 : Pf_ prog_14_method_66_code [(158, [0xb4, 0x00, 0x84]), (161, [0x2a]), (162, [0xb4, 0x01, 0xfb]), (165, [0x2a]), (166, [0xb4, 0x01, 0x56]), (169, [0x2a]), (170, [0xb4, 0x00, 0x66]), (173, [0x1d]), (174, [0x2e]), (175, [0x60]), (176, [0x4f]), (177, [0x2a]), (178, [0xb4, 0x00, 0x87]), (181, [0x2a]), (182, [0xb4, 0x01, 0xfb]), (185, [0x02]), (186, [0x4f]), (187, [0x2a]), (188, [0xb4, 0x00, 0x8a]), (191, [0x2a]), (192, [0xb4, 0x01, 0xfb]), (195, [0x02]), (196, [0x4f]), (197, [0x2a])] := pf_ok prog_14_method_66_code _ 158 (by decide +kernel)
theorem d_X12_begin_158 : decode prog_14_method_66_code 158 = .ok (.getfield 132, 3) := gq_0 db00f_36 eb_1070
theorem d_X12_begin_161 : decode prog_14_method_66_code 161 = .ok (.aload_n 0, 1) := gq_1 db00f_36 eb_0
theorem d_X12_begin_162 : decode prog_14_method_66_code 162 = .ok (.getfield 507, 3) := gq_2 db00f_36 eb_1067
theorem d_X12_begin_165 : decode prog_14_method_66_code 165 = .ok (.aload_n 0, 1) := gq_3 db00f_36 eb_0
theorem d_X12_begin_166 : decode prog_14_method_66_code 166 = .ok (.getfield 342, 3) := gq_4 db00f_36 eb_928
theorem d_X12_begin_169 : decode prog_14_method_66_code 169 = .ok (.aload_n 0, 1) := gq_5 db00f_36 eb_0
theorem d_X12_begin_170 : decode prog_14_method_66_code 170 = .ok (.getfield 102, 3) := gq_6 db00f_36 eb_992
theorem d_X12_begin_173 : decode prog_14_method_66_code 173 = .ok (.iload_n 3, 1) := gq_7 db00f_36 eb_29
theorem d_X12_begin_174 : decode prog_14_method_66_code 174 = .ok (.iaload, 1) := gq_8 db00f_36 eb_37
theorem d_X12_begin_175 : decode prog_14_method_66_code 175 = .ok (.iadd, 1) := gq_9 db00f_36 eb_35
theorem d_X12_begin_176 : decode prog_14_method_66_code 176 = .ok (.iastore, 1) := gq_10 db00f_36 eb_38
theorem d_X12_begin_177 : decode prog_14_method_66_code 177 = .ok (.aload_n 0, 1) := gq_11 db00f_36 eb_0
theorem d_X12_begin_178 : decode prog_14_method_66_code 178 = .ok (.getfield 135, 3) := gq_12 db00f_36 eb_1059
theorem d_X12_begin_181 : decode prog_14_method_66_code 181 = .ok (.aload_n 0, 1) := gq_13 db00f_36 eb_0
theorem d_X12_begin_182 : decode prog_14_method_66_code 182 = .ok (.getfield 507, 3) := gq_14 db00f_36 eb_1067
theorem d_X12_begin_185 : decode prog_14_method_66_code 185 = .ok (.iconst (-1), 1) := gq_15 db00f_36 eb_26
theorem d_X12_begin_186 : decode prog_14_method_66_code 186 = .ok (.iastore, 1) := gq_16 db00f_36 eb_38
theorem d_X12_begin_187 : decode prog_14_method_66_code 187 = .ok (.aload_n 0, 1) := gq_17 db00f_36 eb_0
theorem d_X12_begin_188 : decode prog_14_method_66_code 188 = .ok (.getfield 138, 3) := gq_18 db00f_36 eb_1056
theorem d_X12_begin_191 : decode prog_14_method_66_code 191 = .ok (.aload_n 0, 1) := gq_19 db00f_36 eb_0
theorem d_X12_begin_192 : decode prog_14_method_66_code 192 = .ok (.getfield 507, 3) := gq_20 db00f_36 eb_1067
theorem d_X12_begin_195 : decode prog_14_method_66_code 195 = .ok (.iconst (-1), 1) := gq_21 db00f_36 eb_26
theorem d_X12_begin_196 : decode prog_14_method_66_code 196 = .ok (.iastore, 1) := gq_22 db00f_36 eb_38
theorem d_X12_begin_197 : decode prog_14_method_66_code 197 = .ok (.aload_n 0, 1) := gq_23 db00f_36 eb_0
theorem db00f_37 : Pf_ prog_14_method_66_code [(198, [0xb4, 0x00, 0x90]), (201, [0x2a]), (202, [0xb4, 0x01, 0xfb]), (205, [0x2a]), (206, [0xb4, 0x01, 0x56]), (209, [0x4f]), (210, [0x2a]), (211, [0x59]), (212, [0xb4, 0x01, 0xfb]), (215, [0x04]), (216, [0x60]), (217, [0xb5, 0x01, 0xfb]), (220, [0x84, 0x03, 0x01]), (223, [0xa7, 0xff, 0x8b]), (226, [0x2a]), (227, [0xb4, 0x00, 0x3d]), (230, [0x1b]), (231, [0x2a]), (232, [0xb4, 0x01, 0xfb]), (235, [0x4f]), (236, [0x2a]), (237, [0x1b]), (238, [0xb6, 0x02, 0x16]), (241, [0x04])] := pf_ok prog_14_method_66_code _ 198 (by decide +kernel)
theorem d_X12_begin_198 : decode prog_14_method_66_code 198 = .ok (.getfield 144, 3) := gq_0 db00f_37 eb_1068
theorem d_X12_begin_201 : decode prog_14_method_66_code 201 = .ok (.aload_n 0, 1) := gq_1 db00f_37 eb_0
theorem d_X12_begin_202 : decode prog_14_method_66_code 202 = .ok (.getfield 507, 3) := gq_2 db00f_37 eb_1067
theorem d_X12_begin_205 : decode prog_14_method_66_code 205 = .ok (.aload_n 0, 1) := gq_3 db00f_37 eb_0
theorem d_X12_begin_206 : decode prog_14_method_66_code 206 = .ok (.getfield 342, 3) := gq_4 db00f_37 eb_928
theorem d_X12_begin_209 : decode prog_14_method_66_code 209 = .ok (.iastore, 1) := gq_5 db00f_37 eb_38
theorem d_X12_begin_210 : decode prog_14_method_66_code 210 = .ok (.aload_n 0, 1) := gq_6 db00f_37 eb_0
theorem d_X12_begin_211 : decode prog_14_method_66_code 211 = .ok (.dup, 1) := gq_7 db00f_37 eb_46
theorem d_X12_begin_212 : decode prog_14_method_66_code 212 = .ok (.getfield 507, 3) := gq_8 db00f_37 eb_1067
theorem d_X12_begin_215 : decode prog_14_method_66_code 215 = .ok (.iconst 1, 1) := gq_9 db00f_37 eb_19
theorem d_X12_begin_216 : decode prog_14_method_66_code 216 = .ok (.iadd, 1) := gq_10 db00f_37 eb_35
theorem d_X12_begin_217 : decode prog_14_method_66_code 217 = .ok (.putfield 507, 3) := gq_11 db00f_37 eb_1089
theorem d_X12_begin_220 : decode prog_14_method_66_code 220 = .ok (.iinc 3 1, 3) := gq_12 db00f_37 eb_42
theorem d_X12_begin_223 : decode prog_14_method_66_code 223 = .ok (.goto (-117), 3) := gq_13 db00f_37 eb_1090
theorem d_X12_begin_226 : decode prog_14_method_66_code 226 = .ok (.aload_n 0, 1) := gq_14 db00f_37 eb_0
theorem d_X12_begin_227 : decode prog_14_method_66_code 227 = .ok (.getfield 61, 3) := gq_15 db00f_37 eb_321
theorem d_X12_begin_230 : decode prog_14_method_66_code 230 = .ok (.iload_n 1, 1) := gq_16 db00f_37 eb_9
theorem d_X12_begin_231 : decode prog_14_method_66_code 231 = .ok (.aload_n 0, 1) := gq_17 db00f_37 eb_0
theorem d_X12_begin_232 : decode prog_14_method_66_code 232 = .ok (.getfield 507, 3) := gq_18 db00f_37 eb_1067
theorem d_X12_begin_235 : decode prog_14_method_66_code 235 = .ok (.iastore, 1) := gq_19 db00f_37 eb_38
theorem d_X12_begin_236 : decode prog_14_method_66_code 236 = .ok (.aload_n 0, 1) := gq_20 db00f_37 eb_0
theorem d_X12_begin_237 : decode prog_14_method_66_code 237 = .ok (.iload_n 1, 1) := gq_21 db00f_37 eb_9
theorem d_X12_begin_238 : decode prog_14_method_66_code 238 = .ok (.invokevirtual 534, 3) := gq_22 db00f_37 eb_1091
theorem d_X12_begin_241 : decode prog_14_method_66_code 241 = .ok (.iconst 1, 1) := gq_23 db00f_37 eb_19
theorem db00f_38 : Pf_ prog_14_method_66_code [(242, [0xac])] := pf_ok prog_14_method_66_code _ 242 (by decide +kernel)
theorem d_X12_begin_242 : decode prog_14_method_66_code 242 = .ok (.ireturn, 1) := gq_0 db00f_38 eb_15
theorem db00f_39 : Pf_ prog_14_method_67_code [(0, [0x2a]), (1, [0x1b]), (2, [0xb6, 0x01, 0x59]), (5, [0x99, 0x00, 0x3b]), (8, [0x1c]), (9, [0xb8, 0x01, 0x47]), (12, [0x99, 0x00, 0x34]), (15, [0x1d]), (16, [0x2a]), (17, [0xb4, 0x01, 0x56]), (20, [0x11, 0x75, 0x30]), (23, [0xb8, 0x01, 0x43]), (26, [0x99, 0x00, 0x26]), (29, [0x2a]), (30, [0x2a]), (31, [0xb4, 0x00, 0x1c]), (34, [0x1b]), (35, [0x2e]), (36, [0x1c]), (37, [0xb6, 0x01, 0x4f]), (40, [0x02]), (41, [0x9f, 0x00, 0x17]), (44, [0x2a]), (45, [0xb4, 0x00, 0x22])] := pf_ok prog_14_method_67_code _ 0 (by decide +kernel)
theorem d_X12_draw_0 : decode prog_14_method_67_code 0 = .ok (.aload_n 0, 1) := gq_0 db00f_39 eb_0
theorem d_X12_draw_1 : decode prog_14_method_67_code 1 = .ok (.iload_n 1, 1) := gq_1 db00f_39 eb_9
theorem d_X12_draw_2 : decode prog_14_method_67_code 2 = .ok (.invokevirtual 345, 3) := gq_2 db00f_39 eb_930
theorem d_X12_draw_5 : decode prog_14_method_67_code 5 = .ok (.ifCond .eq 59, 3) := gq_3 db00f_39 eb_1092
theorem d_X12_draw_8 : decode prog_14_method_67_code 8 = .ok (.iload_n 2, 1) := gq_4 db00f_39 eb_13
theorem d_X12_draw_9 : decode prog_14_method_67_code 9 = .ok (.invokestatic 327, 3) := gq_5 db00f_39 eb_914
theorem d_X12_draw_12 : decode prog_14_method_67_code 12 = .ok (.ifCond .eq 52, 3) := gq_6 db00f_39 eb_1093
theorem d_X12_draw_15 : decode prog_14_method_67_code 15 = .ok (.iload_n 3, 1) := gq_7 db00f_39 eb_29
theorem d_X12_draw_16 : decode prog_14_method_67_code 16 = .ok (.aload_n 0, 1) := gq_8 db00f_39 eb_0
theorem d_X12_draw_17 : decode prog_14_method_67_code 17 = .ok (.getfield 342, 3) := gq_9 db00f_39 eb_928
theorem d_X12_draw_20 : decode prog_14_method_67_code 20 = .ok (.sipush 30000, 3) := gq_10 db00f_39 eb_643
theorem d_X12_draw_23 : decode prog_14_method_67_code 23 = .ok (.invokestatic 323, 3) := gq_11 db00f_39 eb_913
theorem d_X12_draw_26 : decode prog_14_method_67_code 26 = .ok (.ifCond .eq 38, 3) := gq_12 db00f_39 eb_1094
theorem d_X12_draw_29 : decode prog_14_method_67_code 29 = .ok (.aload_n 0, 1) := gq_13 db00f_39 eb_0
theorem d_X12_draw_30 : decode prog_14_method_67_code 30 = .ok (.aload_n 0, 1) := gq_14 db00f_39 eb_0
theorem d_X12_draw_31 : decode prog_14_method_67_code 31 = .ok (.getfield 28, 3) := gq_15 db00f_39 eb_361
theorem d_X12_draw_34 : decode prog_14_method_67_code 34 = .ok (.iload_n 1, 1) := gq_16 db00f_39 eb_9
theorem d_X12_draw_35 : decode prog_14_method_67_code 35 = .ok (.iaload, 1) := gq_17 db00f_39 eb_37
theorem d_X12_draw_36 : decode prog_14_method_67_code 36 = .ok (.iload_n 2, 1) := gq_18 db00f_39 eb_13
theorem d_X12_draw_37 : decode prog_14_method_67_code 37 = .ok (.invokevirtual 335, 3) := gq_19 db00f_39 eb_925
theorem d_X12_draw_40 : decode prog_14_method_67_code 40 = .ok (.iconst (-1), 1) := gq_20 db00f_39 eb_26
theorem d_X12_draw_41 : decode prog_14_method_67_code 41 = .ok (.if_icmp .eq 23, 3) := gq_21 db00f_39 eb_1095
theorem d_X12_draw_44 : decode prog_14_method_67_code 44 = .ok (.aload_n 0, 1) := gq_22 db00f_39 eb_0
theorem d_X12_draw_45 : decode prog_14_method_67_code 45 = .ok (.getfield 34, 3) := gq_23 db00f_39 eb_36
theorem db00f_40 : Pf_ prog_14_method_67_code [(48, [0x1b]), (49, [0x2e]), (50, [0x06]), (51, [0x9f, 0x00, 0x0d]), (54, [0x2a]), (55, [0xb4, 0x00, 0x22]), (58, [0x1b]), (59, [0x2e]), (60, [0x07]), (61, [0xa0, 0x00, 0x05]), (64, [0x03]), (65, [0xac]), (66, [0x2a]), (67, [0xb4, 0x00, 0x22]), (70, [0x1b]), (71, [0x2e]), (72, [0x04]), (73, [0xa0, 0x00, 0x09]), (76, [0x2a]), (77, [0x1b]), (78, [0x06]), (79, [0xb6, 0x02, 0x19]), (82, [0x2a]), (83, [0xb4, 0x00, 0x31])] := pf_ok prog_14_method_67_code _ 48 (by decide +kernel)
theorem d_X12_draw_48 : decode prog_14_method_67_code 48 = .ok (.iload_n 1, 1) := gq_0 db00f_40 eb_9
theorem d_X12_draw_49 : decode prog_14_method_67_code 49 = .ok (.iaload, 1) := gq_1 db00f_40 eb_37
theorem d_X12_draw_50 : decode prog_14_method_67_code 50 = .ok (.iconst 3, 1) := gq_2 db00f_40 eb_54
theorem d_X12_draw_51 : decode prog_14_method_67_code 51 = .ok (.if_icmp .eq 13, 3) := gq_3 db00f_40 eb_147
theorem d_X12_draw_54 : decode prog_14_method_67_code 54 = .ok (.aload_n 0, 1) := gq_4 db00f_40 eb_0
theorem d_X12_draw_55 : decode prog_14_method_67_code 55 = .ok (.getfield 34, 3) := gq_5 db00f_40 eb_36
theorem d_X12_draw_58 : decode prog_14_method_67_code 58 = .ok (.iload_n 1, 1) := gq_6 db00f_40 eb_9
theorem d_X12_draw_59 : decode prog_14_method_67_code 59 = .ok (.iaload, 1) := gq_7 db00f_40 eb_37
theorem d_X12_draw_60 : decode prog_14_method_67_code 60 = .ok (.iconst 4, 1) := gq_8 db00f_40 eb_291
theorem d_X12_draw_61 : decode prog_14_method_67_code 61 = .ok (.if_icmp .ne 5, 3) := gq_9 db00f_40 eb_479
theorem d_X12_draw_64 : decode prog_14_method_67_code 64 = .ok (.iconst 0, 1) := gq_10 db00f_40 eb_21
theorem d_X12_draw_65 : decode prog_14_method_67_code 65 = .ok (.ireturn, 1) := gq_11 db00f_40 eb_15
theorem d_X12_draw_66 : decode prog_14_method_67_code 66 = .ok (.aload_n 0, 1) := gq_12 db00f_40 eb_0
theorem d_X12_draw_67 : decode prog_14_method_67_code 67 = .ok (.getfield 34, 3) := gq_13 db00f_40 eb_36
theorem d_X12_draw_70 : decode prog_14_method_67_code 70 = .ok (.iload_n 1, 1) := gq_14 db00f_40 eb_9
theorem d_X12_draw_71 : decode prog_14_method_67_code 71 = .ok (.iaload, 1) := gq_15 db00f_40 eb_37
theorem d_X12_draw_72 : decode prog_14_method_67_code 72 = .ok (.iconst 1, 1) := gq_16 db00f_40 eb_19
theorem d_X12_draw_73 : decode prog_14_method_67_code 73 = .ok (.if_icmp .ne 9, 3) := gq_17 db00f_40 eb_158
theorem d_X12_draw_76 : decode prog_14_method_67_code 76 = .ok (.aload_n 0, 1) := gq_18 db00f_40 eb_0
theorem d_X12_draw_77 : decode prog_14_method_67_code 77 = .ok (.iload_n 1, 1) := gq_19 db00f_40 eb_9
theorem d_X12_draw_78 : decode prog_14_method_67_code 78 = .ok (.iconst 3, 1) := gq_20 db00f_40 eb_54
theorem d_X12_draw_79 : decode prog_14_method_67_code 79 = .ok (.invokevirtual 537, 3) := gq_21 db00f_40 eb_1096
theorem d_X12_draw_82 : decode prog_14_method_67_code 82 = .ok (.aload_n 0, 1) := gq_22 db00f_40 eb_0
theorem d_X12_draw_83 : decode prog_14_method_67_code 83 = .ok (.getfield 49, 3) := gq_23 db00f_40 eb_285
theorem db00f_41 : Pf_ prog_14_method_67_code [(86, [0x1b]), (87, [0x02]), (88, [0x4f]), (89, [0x2a]), (90, [0xb4, 0x00, 0x22]), (93, [0x1b]), (94, [0x06]), (95, [0x4f]), (96, [0x2a]), (97, [0xb4, 0x00, 0x40]), (100, [0x1b]), (101, [0x1c]), (102, [0x4f]), (103, [0x2a]), (104, [0xb4, 0x00, 0x43]), (107, [0x1b]), (108, [0x1d]), (109, [0x4f]), (110, [0x2a]), (111, [0xb4, 0x00, 0x9c]), (114, [0x1b]), (115, [0x2a]), (116, [0xb4, 0x00, 0x28]), (119, [0x1b])] := pf_ok prog_14_method_67_code _ 86 (by decide +kernel)
theorem d_X12_draw_86 : decode prog_14_method_67_code 86 = .ok (.iload_n 1, 1) := gq_0 db00f_41 eb_9
theorem d_X12_draw_87 : decode prog_14_method_67_code 87 = .ok (.iconst (-1), 1) := gq_1 db00f_41 eb_26
theorem d_X12_draw_88 : decode prog_14_method_67_code 88 = .ok (.iastore, 1) := gq_2 db00f_41 eb_38
theorem d_X12_draw_89 : decode prog_14_method_67_code 89 = .ok (.aload_n 0, 1) := gq_3 db00f_41 eb_0
theorem d_X12_draw_90 : decode prog_14_method_67_code 90 = .ok (.getfield 34, 3) := gq_4 db00f_41 eb_36
theorem d_X12_draw_93 : decode prog_14_method_67_code 93 = .ok (.iload_n 1, 1) := gq_5 db00f_41 eb_9
theorem d_X12_draw_94 : decode prog_14_method_67_code 94 = .ok (.iconst 3, 1) := gq_6 db00f_41 eb_54
theorem d_X12_draw_95 : decode prog_14_method_67_code 95 = .ok (.iastore, 1) := gq_7 db00f_41 eb_38
theorem d_X12_draw_96 : decode prog_14_method_67_code 96 = .ok (.aload_n 0, 1) := gq_8 db00f_41 eb_0
theorem d_X12_draw_97 : decode prog_14_method_67_code 97 = .ok (.getfield 64, 3) := gq_9 db00f_41 eb_1078
theorem d_X12_draw_100 : decode prog_14_method_67_code 100 = .ok (.iload_n 1, 1) := gq_10 db00f_41 eb_9
theorem d_X12_draw_101 : decode prog_14_method_67_code 101 = .ok (.iload_n 2, 1) := gq_11 db00f_41 eb_13
theorem d_X12_draw_102 : decode prog_14_method_67_code 102 = .ok (.iastore, 1) := gq_12 db00f_41 eb_38
theorem d_X12_draw_103 : decode prog_14_method_67_code 103 = .ok (.aload_n 0, 1) := gq_13 db00f_41 eb_0
theorem d_X12_draw_104 : decode prog_14_method_67_code 104 = .ok (.getfield 67, 3) := gq_14 db00f_41 eb_358
theorem d_X12_draw_107 : decode prog_14_method_67_code 107 = .ok (.iload_n 1, 1) := gq_15 db00f_41 eb_9
theorem d_X12_draw_108 : decode prog_14_method_67_code 108 = .ok (.iload_n 3, 1) := gq_16 db00f_41 eb_29
theorem d_X12_draw_109 : decode prog_14_method_67_code 109 = .ok (.iastore, 1) := gq_17 db00f_41 eb_38
theorem d_X12_draw_110 : decode prog_14_method_67_code 110 = .ok (.aload_n 0, 1) := gq_18 db00f_41 eb_0
theorem d_X12_draw_111 : decode prog_14_method_67_code 111 = .ok (.getfield 156, 3) := gq_19 db00f_41 eb_1097
theorem d_X12_draw_114 : decode prog_14_method_67_code 114 = .ok (.iload_n 1, 1) := gq_20 db00f_41 eb_9
theorem d_X12_draw_115 : decode prog_14_method_67_code 115 = .ok (.aload_n 0, 1) := gq_21 db00f_41 eb_0
theorem d_X12_draw_116 : decode prog_14_method_67_code 116 = .ok (.getfield 40, 3) := gq_22 db00f_41 eb_282
theorem d_X12_draw_119 : decode prog_14_method_67_code 119 = .ok (.iload_n 1, 1) := gq_23 db00f_41 eb_9
theorem db00f_42 : Pf_ prog_14_method_67_code [(120, [0x2e]), (121, [0x02]), (122, [0xa0, 0x00, 0x07]), (125, [0x04]), (126, [0xa7, 0x00, 0x04]), (129, [0x03]), (130, [0x54]), (131, [0x2a]), (132, [0xb4, 0x00, 0x28]), (135, [0x1b]), (136, [0x2e]), (137, [0x02]), (138, [0xa0, 0x00, 0x08]), (141, [0x2a]), (142, [0x1b]), (143, [0xb6, 0x02, 0x1c]), (146, [0x04]), (147, [0xac])] := pf_ok prog_14_method_67_code _ 120 (by decide +kernel)
theorem d_X12_draw_120 : decode prog_14_method_67_code 120 = .ok (.iaload, 1) := gq_0 db00f_42 eb_37
theorem d_X12_draw_121 : decode prog_14_method_67_code 121 = .ok (.iconst (-1), 1) := gq_1 db00f_42 eb_26
theorem d_X12_draw_122 : decode prog_14_method_67_code 122 = .ok (.if_icmp .ne 7, 3) := gq_2 db00f_42 eb_135
theorem d_X12_draw_125 : decode prog_14_method_67_code 125 = .ok (.iconst 1, 1) := gq_3 db00f_42 eb_19
theorem d_X12_draw_126 : decode prog_14_method_67_code 126 = .ok (.goto 4, 3) := gq_4 db00f_42 eb_20
theorem d_X12_draw_129 : decode prog_14_method_67_code 129 = .ok (.iconst 0, 1) := gq_5 db00f_42 eb_21
theorem d_X12_draw_130 : decode prog_14_method_67_code 130 = .ok (.bastore, 1) := gq_6 db00f_42 eb_244
theorem d_X12_draw_131 : decode prog_14_method_67_code 131 = .ok (.aload_n 0, 1) := gq_7 db00f_42 eb_0
theorem d_X12_draw_132 : decode prog_14_method_67_code 132 = .ok (.getfield 40, 3) := gq_8 db00f_42 eb_282
theorem d_X12_draw_135 : decode prog_14_method_67_code 135 = .ok (.iload_n 1, 1) := gq_9 db00f_42 eb_9
theorem d_X12_draw_136 : decode prog_14_method_67_code 136 = .ok (.iaload, 1) := gq_10 db00f_42 eb_37
theorem d_X12_draw_137 : decode prog_14_method_67_code 137 = .ok (.iconst (-1), 1) := gq_11 db00f_42 eb_26
theorem d_X12_draw_138 : decode prog_14_method_67_code 138 = .ok (.if_icmp .ne 8, 3) := gq_12 db00f_42 eb_526
theorem d_X12_draw_141 : decode prog_14_method_67_code 141 = .ok (.aload_n 0, 1) := gq_13 db00f_42 eb_0
theorem d_X12_draw_142 : decode prog_14_method_67_code 142 = .ok (.iload_n 1, 1) := gq_14 db00f_42 eb_9
theorem d_X12_draw_143 : decode prog_14_method_67_code 143 = .ok (.invokevirtual 540, 3) := gq_15 db00f_42 eb_1098
theorem d_X12_draw_146 : decode prog_14_method_67_code 146 = .ok (.iconst 1, 1) := gq_16 db00f_42 eb_19
theorem d_X12_draw_147 : decode prog_14_method_67_code 147 = .ok (.ireturn, 1) := gq_17 db00f_42 eb_15
theorem db00f_43 : Pf_ prog_14_method_68_code [(0, [0x2a]), (1, [0x1b]), (2, [0xb6, 0x01, 0x59]), (5, [0x99, 0x00, 0x16]), (8, [0x2a]), (9, [0xb4, 0x00, 0x22]), (12, [0x1b]), (13, [0x2e]), (14, [0x07]), (15, [0xa0, 0x00, 0x07]), (18, [0x04]), (19, [0xa7, 0x00, 0x04]), (22, [0x03]), (23, [0x1c]), (24, [0xa0, 0x00, 0x05]), (27, [0x03]), (28, [0xac]), (29, [0x1c]), (30, [0x9a, 0x00, 0x0a]), (33, [0x2a]), (34, [0x1b]), (35, [0xb6, 0x02, 0x07]), (38, [0x04]), (39, [0xac])] := pf_ok prog_14_method_68_code _ 0 (by decide +kernel)
theorem d_X12_ill_0 : decode prog_14_method_68_code 0 = .ok (.aload_n 0, 1) := gq_0 db00f_43 eb_0
theorem d_X12_ill_1 : decode prog_14_method_68_code 1 = .ok (.iload_n 1, 1) := gq_1 db00f_43 eb_9
theorem d_X12_ill_2 : decode prog_14_method_68_code 2 = .ok (.invokevirtual 345, 3) := gq_2 db00f_43 eb_930
theorem d_X12_ill_5 : decode prog_14_method_68_code 5 = .ok (.ifCond .eq 22, 3) := gq_3 db00f_43 eb_416
theorem d_X12_ill_8 : decode prog_14_method_68_code 8 = .ok (.aload_n 0, 1) := gq_4 db00f_43 eb_0
theorem d_X12_ill_9 : decode prog_14_method_68_code 9 = .ok (.getfield 34, 3) := gq_5 db00f_43 eb_36
theorem d_X12_ill_12 : decode prog_14_method_68_code 12 = .ok (.iload_n 1, 1) := gq_6 db00f_43 eb_9
theorem d_X12_ill_13 : decode prog_14_method_68_code 13 = .ok (.iaload, 1) := gq_7 db00f_43 eb_37
theorem d_X12_ill_14 : decode prog_14_method_68_code 14 = .ok (.iconst 4, 1) := gq_8 db00f_43 eb_291
theorem d_X12_ill_15 : decode prog_14_method_68_code 15 = .ok (.if_icmp .ne 7, 3) := gq_9 db00f_43 eb_135
theorem d_X12_ill_18 : decode prog_14_method_68_code 18 = .ok (.iconst 1, 1) := gq_10 db00f_43 eb_19
theorem d_X12_ill_19 : decode prog_14_method_68_code 19 = .ok (.goto 4, 3) := gq_11 db00f_43 eb_20
theorem d_X12_ill_22 : decode prog_14_method_68_code 22 = .ok (.iconst 0, 1) := gq_12 db00f_43 eb_21
theorem d_X12_ill_23 : decode prog_14_method_68_code 23 = .ok (.iload_n 2, 1) := gq_13 db00f_43 eb_13
theorem d_X12_ill_24 : decode prog_14_method_68_code 24 = .ok (.if_icmp .ne 5, 3) := gq_14 db00f_43 eb_479
theorem d_X12_ill_27 : decode prog_14_method_68_code 27 = .ok (.iconst 0, 1) := gq_15 db00f_43 eb_21
theorem d_X12_ill_28 : decode prog_14_method_68_code 28 = .ok (.ireturn, 1) := gq_16 db00f_43 eb_15
theorem d_X12_ill_29 : decode prog_14_method_68_code 29 = .ok (.iload_n 2, 1) := gq_17 db00f_43 eb_13
theorem d_X12_ill_30 : decode prog_14_method_68_code 30 = .ok (.ifCond .ne 10, 3) := gq_18 db00f_43 eb_1028
theorem d_X12_ill_33 : decode prog_14_method_68_code 33 = .ok (.aload_n 0, 1) := gq_19 db00f_43 eb_0
theorem d_X12_ill_34 : decode prog_14_method_68_code 34 = .ok (.iload_n 1, 1) := gq_20 db00f_43 eb_9
theorem d_X12_ill_35 : decode prog_14_method_68_code 35 = .ok (.invokevirtual 519, 3) := gq_21 db00f_43 eb_791
theorem d_X12_ill_38 : decode prog_14_method_68_code 38 = .ok (.iconst 1, 1) := gq_22 db00f_43 eb_19
theorem d_X12_ill_39 : decode prog_14_method_68_code 39 = .ok (.ireturn, 1) := gq_23 db00f_43 eb_15
theorem db00f_44 : Pf_ prog_14_method_68_code [(40, [0x2a]), (41, [0xb4, 0x00, 0x22]), (44, [0x1b]), (45, [0x2e]), (46, [0x04]), (47, [0xa0, 0x00, 0x09]), (50, [0x2a]), (51, [0x1b]), (52, [0x07]), (53, [0xb6, 0x02, 0x19]), (56, [0x2a]), (57, [0xb4, 0x00, 0x22]), (60, [0x1b]), (61, [0x07]), (62, [0x4f]), (63, [0x2a]), (64, [0xb4, 0x00, 0x25]), (67, [0x1b]), (68, [0x2a]), (69, [0xb4, 0x00, 0x1c]), (72, [0x1b]), (73, [0x2e]), (74, [0x4f]), (75, [0x2a])] := pf_ok prog_14_method_68_code _ 40 (by decide +kernel)
theorem d_X12_ill_40 : decode prog_14_method_68_code 40 = .ok (.aload_n 0, 1) := gq_0 db00f_44 eb_0
theorem d_X12_ill_41 : decode prog_14_method_68_code 41 = .ok (.getfield 34, 3) := gq_1 db00f_44 eb_36
theorem d_X12_ill_44 : decode prog_14_method_68_code 44 = .ok (.iload_n 1, 1) := gq_2 db00f_44 eb_9
theorem d_X12_ill_45 : decode prog_14_method_68_code 45 = .ok (.iaload, 1) := gq_3 db00f_44 eb_37
theorem d_X12_ill_46 : decode prog_14_method_68_code 46 = .ok (.iconst 1, 1) := gq_4 db00f_44 eb_19
theorem d_X12_ill_47 : decode prog_14_method_68_code 47 = .ok (.if_icmp .ne 9, 3) := gq_5 db00f_44 eb_158
theorem d_X12_ill_50 : decode prog_14_method_68_code 50 = .ok (.aload_n 0, 1) := gq_6 db00f_44 eb_0
theorem d_X12_ill_51 : decode prog_14_method_68_code 51 = .ok (.iload_n 1, 1) := gq_7 db00f_44 eb_9
theorem d_X12_ill_52 : decode prog_14_method_68_code 52 = .ok (.iconst 4, 1) := gq_8 db00f_44 eb_291
theorem d_X12_ill_53 : decode prog_14_method_68_code 53 = .ok (.invokevirtual 537, 3) := gq_9 db00f_44 eb_1096
theorem d_X12_ill_56 : decode prog_14_method_68_code 56 = .ok (.aload_n 0, 1) := gq_10 db00f_44 eb_0
theorem d_X12_ill_57 : decode prog_14_method_68_code 57 = .ok (.getfield 34, 3) := gq_11 db00f_44 eb_36
theorem d_X12_ill_60 : decode prog_14_method_68_code 60 = .ok (.iload_n 1, 1) := gq_12 db00f_44 eb_9
theorem d_X12_ill_61 : decode prog_14_method_68_code 61 = .ok (.iconst 4, 1) := gq_13 db00f_44 eb_291
theorem d_X12_ill_62 : decode prog_14_method_68_code 62 = .ok (.iastore, 1) := gq_14 db00f_44 eb_38
theorem d_X12_ill_63 : decode prog_14_method_68_code 63 = .ok (.aload_n 0, 1) := gq_15 db00f_44 eb_0
theorem d_X12_ill_64 : decode prog_14_method_68_code 64 = .ok (.getfield 37, 3) := gq_16 db00f_44 eb_281
theorem d_X12_ill_67 : decode prog_14_method_68_code 67 = .ok (.iload_n 1, 1) := gq_17 db00f_44 eb_9
theorem d_X12_ill_68 : decode prog_14_method_68_code 68 = .ok (.aload_n 0, 1) := gq_18 db00f_44 eb_0
theorem d_X12_ill_69 : decode prog_14_method_68_code 69 = .ok (.getfield 28, 3) := gq_19 db00f_44 eb_361
theorem d_X12_ill_72 : decode prog_14_method_68_code 72 = .ok (.iload_n 1, 1) := gq_20 db00f_44 eb_9
theorem d_X12_ill_73 : decode prog_14_method_68_code 73 = .ok (.iaload, 1) := gq_21 db00f_44 eb_37
theorem d_X12_ill_74 : decode prog_14_method_68_code 74 = .ok (.iastore, 1) := gq_22 db00f_44 eb_38
theorem d_X12_ill_75 : decode prog_14_method_68_code 75 = .ok (.aload_n 0, 1) := gq_23 db00f_44 eb_0
theorem db00f_45 : Pf_ prog_14_method_68_code [(76, [0xb4, 0x00, 0x28]), (79, [0x1b]), (80, [0x02]), (81, [0x4f]), (82, [0x2a]), (83, [0xb4, 0x00, 0x2b]), (86, [0x1b]), (87, [0x02]), (88, [0x4f]), (89, [0x2a]), (90, [0xb4, 0x00, 0x31]), (93, [0x1b]), (94, [0x02]), (95, [0x4f]), (96, [0x04]), (97, [0xac])] := pf_ok prog_14_method_68_code _ 76 (by decide +kernel)
theorem d_X12_ill_76 : decode prog_14_method_68_code 76 = .ok (.getfield 40, 3) := gq_0 db00f_45 eb_282
theorem d_X12_ill_79 : decode prog_14_method_68_code 79 = .ok (.iload_n 1, 1) := gq_1 db00f_45 eb_9
theorem d_X12_ill_80 : decode prog_14_method_68_code 80 = .ok (.iconst (-1), 1) := gq_2 db00f_45 eb_26
theorem d_X12_ill_81 : decode prog_14_method_68_code 81 = .ok (.iastore, 1) := gq_3 db00f_45 eb_38
theorem d_X12_ill_82 : decode prog_14_method_68_code 82 = .ok (.aload_n 0, 1) := gq_4 db00f_45 eb_0
theorem d_X12_ill_83 : decode prog_14_method_68_code 83 = .ok (.getfield 43, 3) := gq_5 db00f_45 eb_283
theorem d_X12_ill_86 : decode prog_14_method_68_code 86 = .ok (.iload_n 1, 1) := gq_6 db00f_45 eb_9
theorem d_X12_ill_87 : decode prog_14_method_68_code 87 = .ok (.iconst (-1), 1) := gq_7 db00f_45 eb_26
theorem d_X12_ill_88 : decode prog_14_method_68_code 88 = .ok (.iastore, 1) := gq_8 db00f_45 eb_38
theorem d_X12_ill_89 : decode prog_14_method_68_code 89 = .ok (.aload_n 0, 1) := gq_9 db00f_45 eb_0
theorem d_X12_ill_90 : decode prog_14_method_68_code 90 = .ok (.getfield 49, 3) := gq_10 db00f_45 eb_285
theorem d_X12_ill_93 : decode prog_14_method_68_code 93 = .ok (.iload_n 1, 1) := gq_11 db00f_45 eb_9
theorem d_X12_ill_94 : decode prog_14_method_68_code 94 = .ok (.iconst (-1), 1) := gq_12 db00f_45 eb_26
theorem d_X12_ill_95 : decode prog_14_method_68_code 95 = .ok (.iastore, 1) := gq_13 db00f_45 eb_38
theorem d_X12_ill_96 : decode prog_14_method_68_code 96 = .ok (.iconst 1, 1) := gq_14 db00f_45 eb_19
theorem d_X12_ill_97 : decode prog_14_method_68_code 97 = .ok (.ireturn, 1) := gq_15 db00f_45 eb_15
theorem db00f_46 : Pf_ prog_14_method_69_code [(0, [0x2a]), (1, [0xb4, 0x00, 0x2b]), (4, [0x1b]), (5, [0x2e]), (6, [0x2a]), (7, [0xb4, 0x01, 0x56]), (10, [0x9f, 0x00, 0x04]), (13, [0xb1]), (14, [0x2a]), (15, [0xb4, 0x00, 0x28]), (18, [0x1b]), (19, [0x2e]), (20, [0x02]), (21, [0x9f, 0x00, 0x07]), (24, [0x04]), (25, [0xa7, 0x00, 0x04]), (28, [0x03]), (29, [0x3d]), (30, [0x1c]), (31, [0x99, 0x00, 0x16]), (34, [0x2a]), (35, [0xb4, 0x00, 0x25]), (38, [0x1b]), (39, [0x2a])] := pf_ok prog_14_method_69_code _ 0 (by decide +kernel)
theorem d_X12_wake_0 : decode prog_14_method_69_code 0 = .ok (.aload_n 0, 1) := gq_0 db00f_46 eb_0
theorem d_X12_wake_1 : decode prog_14_method_69_code 1 = .ok (.getfield 43, 3) := gq_1 db00f_46 eb_283
theorem d_X12_wake_4 : decode prog_14_method_69_code 4 = .ok (.iload_n 1, 1) := gq_2 db00f_46 eb_9
theorem d_X12_wake_5 : decode prog_14_method_69_code 5 = .ok (.iaload, 1) := gq_3 db00f_46 eb_37
theorem d_X12_wake_6 : decode prog_14_method_69_code 6 = .ok (.aload_n 0, 1) := gq_4 db00f_46 eb_0
theorem d_X12_wake_7 : decode prog_14_method_69_code 7 = .ok (.getfield 342, 3) := gq_5 db00f_46 eb_928
theorem d_X12_wake_10 : decode prog_14_method_69_code 10 = .ok (.if_icmp .eq 4, 3) := gq_6 db00f_46 eb_1016
theorem d_X12_wake_13 : decode prog_14_method_69_code 13 = .ok (.return_, 1) := gq_7 db00f_46 eb_7
theorem d_X12_wake_14 : decode prog_14_method_69_code 14 = .ok (.aload_n 0, 1) := gq_8 db00f_46 eb_0
theorem d_X12_wake_15 : decode prog_14_method_69_code 15 = .ok (.getfield 40, 3) := gq_9 db00f_46 eb_282
theorem d_X12_wake_18 : decode prog_14_method_69_code 18 = .ok (.iload_n 1, 1) := gq_10 db00f_46 eb_9
theorem d_X12_wake_19 : decode prog_14_method_69_code 19 = .ok (.iaload, 1) := gq_11 db00f_46 eb_37
theorem d_X12_wake_20 : decode prog_14_method_69_code 20 = .ok (.iconst (-1), 1) := gq_12 db00f_46 eb_26
theorem d_X12_wake_21 : decode prog_14_method_69_code 21 = .ok (.if_icmp .eq 7, 3) := gq_13 db00f_46 eb_539
theorem d_X12_wake_24 : decode prog_14_method_69_code 24 = .ok (.iconst 1, 1) := gq_14 db00f_46 eb_19
theorem d_X12_wake_25 : decode prog_14_method_69_code 25 = .ok (.goto 4, 3) := gq_15 db00f_46 eb_20
theorem d_X12_wake_28 : decode prog_14_method_69_code 28 = .ok (.iconst 0, 1) := gq_16 db00f_46 eb_21
theorem d_X12_wake_29 : decode prog_14_method_69_code 29 = .ok (.istore_n 2, 1) := gq_17 db00f_46 eb_27
theorem d_X12_wake_30 : decode prog_14_method_69_code 30 = .ok (.iload_n 2, 1) := gq_18 db00f_46 eb_13
theorem d_X12_wake_31 : decode prog_14_method_69_code 31 = .ok (.ifCond .eq 22, 3) := gq_19 db00f_46 eb_416
theorem d_X12_wake_34 : decode prog_14_method_69_code 34 = .ok (.aload_n 0, 1) := gq_20 db00f_46 eb_0
theorem d_X12_wake_35 : decode prog_14_method_69_code 35 = .ok (.getfield 37, 3) := gq_21 db00f_46 eb_281
theorem d_X12_wake_38 : decode prog_14_method_69_code 38 = .ok (.iload_n 1, 1) := gq_22 db00f_46 eb_9
theorem d_X12_wake_39 : decode prog_14_method_69_code 39 = .ok (.aload_n 0, 1) := gq_23 db00f_46 eb_0
theorem db00f_47 : Pf_ prog_14_method_69_code [(40, [0xb4, 0x00, 0x28]), (43, [0x1b]), (44, [0x2e]), (45, [0x4f]), (46, [0x2a]), (47, [0xb4, 0x00, 0x28]), (50, [0x1b]), (51, [0x02]), (52, [0x4f]), (53, [0x2a]), (54, [0xb4, 0x00, 0x2b]), (57, [0x1b]), (58, [0x02]), (59, [0x4f]), (60, [0x2a]), (61, [0xb4, 0x00, 0x22]), (64, [0x1b]), (65, [0x2e]), (66, [0x05]), (67, [0xa0, 0x00, 0x0b]), (70, [0x2a]), (71, [0x1b]), (72, [0xb6, 0x02, 0x07]), (75, [0xa7, 0x00, 0x58])] := pf_ok prog_14_method_69_code _ 40 (by decide +kernel)
theorem d_X12_wake_40 : decode prog_14_method_69_code 40 = .ok (.getfield 40, 3) := gq_0 db00f_47 eb_282
theorem d_X12_wake_43 : decode prog_14_method_69_code 43 = .ok (.iload_n 1, 1) := gq_1 db00f_47 eb_9
theorem d_X12_wake_44 : decode prog_14_method_69_code 44 = .ok (.iaload, 1) := gq_2 db00f_47 eb_37
theorem d_X12_wake_45 : decode prog_14_method_69_code 45 = .ok (.iastore, 1) := gq_3 db00f_47 eb_38
theorem d_X12_wake_46 : decode prog_14_method_69_code 46 = .ok (.aload_n 0, 1) := gq_4 db00f_47 eb_0
theorem d_X12_wake_47 : decode prog_14_method_69_code 47 = .ok (.getfield 40, 3) := gq_5 db00f_47 eb_282
theorem d_X12_wake_50 : decode prog_14_method_69_code 50 = .ok (.iload_n 1, 1) := gq_6 db00f_47 eb_9
theorem d_X12_wake_51 : decode prog_14_method_69_code 51 = .ok (.iconst (-1), 1) := gq_7 db00f_47 eb_26
theorem d_X12_wake_52 : decode prog_14_method_69_code 52 = .ok (.iastore, 1) := gq_8 db00f_47 eb_38
theorem d_X12_wake_53 : decode prog_14_method_69_code 53 = .ok (.aload_n 0, 1) := gq_9 db00f_47 eb_0
theorem d_X12_wake_54 : decode prog_14_method_69_code 54 = .ok (.getfield 43, 3) := gq_10 db00f_47 eb_283
theorem d_X12_wake_57 : decode prog_14_method_69_code 57 = .ok (.iload_n 1, 1) := gq_11 db00f_47 eb_9
theorem d_X12_wake_58 : decode prog_14_method_69_code 58 = .ok (.iconst (-1), 1) := gq_12 db00f_47 eb_26
theorem d_X12_wake_59 : decode prog_14_method_69_code 59 = .ok (.iastore, 1) := gq_13 db00f_47 eb_38
theorem d_X12_wake_60 : decode prog_14_method_69_code 60 = .ok (.aload_n 0, 1) := gq_14 db00f_47 eb_0
theorem d_X12_wake_61 : decode prog_14_method_69_code 61 = .ok (.getfield 34, 3) := gq_15 db00f_47 eb_36
theorem d_X12_wake_64 : decode prog_14_method_69_code 64 = .ok (.iload_n 1, 1) := gq_16 db00f_47 eb_9
theorem d_X12_wake_65 : decode prog_14_method_69_code 65 = .ok (.iaload, 1) := gq_17 db00f_47 eb_37
theorem d_X12_wake_66 : decode prog_14_method_69_code 66 = .ok (.iconst 2, 1) := gq_18 db00f_47 eb_10
theorem d_X12_wake_67 : decode prog_14_method_69_code 67 = .ok (.if_icmp .ne 11, 3) := gq_19 db00f_47 eb_675
theorem d_X12_wake_70 : decode prog_14_method_69_code 70 = .ok (.aload_n 0, 1) := gq_20 db00f_47 eb_0
theorem d_X12_wake_71 : decode prog_14_method_69_code 71 = .ok (.iload_n 1, 1) := gq_21 db00f_47 eb_9
theorem d_X12_wake_72 : decode prog_14_method_69_code 72 = .ok (.invokevirtual 519, 3) := gq_22 db00f_47 eb_791
theorem d_X12_wake_75 : decode prog_14_method_69_code 75 = .ok (.goto 88, 3) := gq_23 db00f_47 eb_1099
theorem db00f_48 : Pf_ prog_14_method_69_code [(78, [0x2a]), (79, [0xb4, 0x00, 0x22]), (82, [0x1b]), (83, [0x2e]), (84, [0x06]), (85, [0xa0, 0x00, 0x3e]), (88, [0x1c]), (89, [0x9a, 0x00, 0x0b]), (92, [0x2a]), (93, [0x1b]), (94, [0xb6, 0x02, 0x0d]), (97, [0xa7, 0x00, 0x42]), (100, [0x2a]), (101, [0xb4, 0x00, 0x25]), (104, [0x1b]), (105, [0x2e]), (106, [0x2a]), (107, [0xb4, 0x00, 0x40]), (110, [0x1b]), (111, [0x2e]), (112, [0xa0, 0x00, 0x14]), (115, [0x2a]), (116, [0xb4, 0x00, 0x9c]), (119, [0x1b])] := pf_ok prog_14_method_69_code _ 78 (by decide +kernel)
theorem d_X12_wake_78 : decode prog_14_method_69_code 78 = .ok (.aload_n 0, 1) := gq_0 db00f_48 eb_0
theorem d_X12_wake_79 : decode prog_14_method_69_code 79 = .ok (.getfield 34, 3) := gq_1 db00f_48 eb_36
theorem d_X12_wake_82 : decode prog_14_method_69_code 82 = .ok (.iload_n 1, 1) := gq_2 db00f_48 eb_9
theorem d_X12_wake_83 : decode prog_14_method_69_code 83 = .ok (.iaload, 1) := gq_3 db00f_48 eb_37
theorem d_X12_wake_84 : decode prog_14_method_69_code 84 = .ok (.iconst 3, 1) := gq_4 db00f_48 eb_54
theorem d_X12_wake_85 : decode prog_14_method_69_code 85 = .ok (.if_icmp .ne 62, 3) := gq_5 db00f_48 eb_1100
theorem d_X12_wake_88 : decode prog_14_method_69_code 88 = .ok (.iload_n 2, 1) := gq_6 db00f_48 eb_13
theorem d_X12_wake_89 : decode prog_14_method_69_code 89 = .ok (.ifCond .ne 11, 3) := gq_7 db00f_48 eb_1101
theorem d_X12_wake_92 : decode prog_14_method_69_code 92 = .ok (.aload_n 0, 1) := gq_8 db00f_48 eb_0
theorem d_X12_wake_93 : decode prog_14_method_69_code 93 = .ok (.iload_n 1, 1) := gq_9 db00f_48 eb_9
theorem d_X12_wake_94 : decode prog_14_method_69_code 94 = .ok (.invokevirtual 525, 3) := gq_10 db00f_48 eb_794
theorem d_X12_wake_97 : decode prog_14_method_69_code 97 = .ok (.goto 66, 3) := gq_11 db00f_48 eb_1102
theorem d_X12_wake_100 : decode prog_14_method_69_code 100 = .ok (.aload_n 0, 1) := gq_12 db00f_48 eb_0
theorem d_X12_wake_101 : decode prog_14_method_69_code 101 = .ok (.getfield 37, 3) := gq_13 db00f_48 eb_281
theorem d_X12_wake_104 : decode prog_14_method_69_code 104 = .ok (.iload_n 1, 1) := gq_14 db00f_48 eb_9
theorem d_X12_wake_105 : decode prog_14_method_69_code 105 = .ok (.iaload, 1) := gq_15 db00f_48 eb_37
theorem d_X12_wake_106 : decode prog_14_method_69_code 106 = .ok (.aload_n 0, 1) := gq_16 db00f_48 eb_0
theorem d_X12_wake_107 : decode prog_14_method_69_code 107 = .ok (.getfield 64, 3) := gq_17 db00f_48 eb_1078
theorem d_X12_wake_110 : decode prog_14_method_69_code 110 = .ok (.iload_n 1, 1) := gq_18 db00f_48 eb_9
theorem d_X12_wake_111 : decode prog_14_method_69_code 111 = .ok (.iaload, 1) := gq_19 db00f_48 eb_37
theorem d_X12_wake_112 : decode prog_14_method_69_code 112 = .ok (.if_icmp .ne 20, 3) := gq_20 db00f_48 eb_300
theorem d_X12_wake_115 : decode prog_14_method_69_code 115 = .ok (.aload_n 0, 1) := gq_21 db00f_48 eb_0
theorem d_X12_wake_116 : decode prog_14_method_69_code 116 = .ok (.getfield 156, 3) := gq_22 db00f_48 eb_1097
theorem d_X12_wake_119 : decode prog_14_method_69_code 119 = .ok (.iload_n 1, 1) := gq_23 db00f_48 eb_9
theorem db00f_49 : Pf_ prog_14_method_69_code [(120, [0x33]), (121, [0x99, 0x00, 0x0b]), (124, [0x2a]), (125, [0x1b]), (126, [0xb6, 0x02, 0x10]), (129, [0xa7, 0x00, 0x22]), (132, [0x2a]), (133, [0xb4, 0x00, 0x9c]), (136, [0x1b]), (137, [0x04]), (138, [0x54]), (139, [0x2a]), (140, [0x1b]), (141, [0xb6, 0x02, 0x1c]), (144, [0xa7, 0x00, 0x13]), (147, [0x2a]), (148, [0xb4, 0x00, 0x22]), (151, [0x1b]), (152, [0x2e]), (153, [0x04]), (154, [0xa0, 0x00, 0x09]), (157, [0x2a]), (158, [0x1b]), (159, [0x1c])] := pf_ok prog_14_method_69_code _ 120 (by decide +kernel)
theorem d_X12_wake_120 : decode prog_14_method_69_code 120 = .ok (.baload, 1) := gq_0 db00f_49 eb_248
theorem d_X12_wake_121 : decode prog_14_method_69_code 121 = .ok (.ifCond .eq 11, 3) := gq_1 db00f_49 eb_715
theorem d_X12_wake_124 : decode prog_14_method_69_code 124 = .ok (.aload_n 0, 1) := gq_2 db00f_49 eb_0
theorem d_X12_wake_125 : decode prog_14_method_69_code 125 = .ok (.iload_n 1, 1) := gq_3 db00f_49 eb_9
theorem d_X12_wake_126 : decode prog_14_method_69_code 126 = .ok (.invokevirtual 528, 3) := gq_4 db00f_49 eb_795
theorem d_X12_wake_129 : decode prog_14_method_69_code 129 = .ok (.goto 34, 3) := gq_5 db00f_49 eb_1103
theorem d_X12_wake_132 : decode prog_14_method_69_code 132 = .ok (.aload_n 0, 1) := gq_6 db00f_49 eb_0
theorem d_X12_wake_133 : decode prog_14_method_69_code 133 = .ok (.getfield 156, 3) := gq_7 db00f_49 eb_1097
theorem d_X12_wake_136 : decode prog_14_method_69_code 136 = .ok (.iload_n 1, 1) := gq_8 db00f_49 eb_9
theorem d_X12_wake_137 : decode prog_14_method_69_code 137 = .ok (.iconst 1, 1) := gq_9 db00f_49 eb_19
theorem d_X12_wake_138 : decode prog_14_method_69_code 138 = .ok (.bastore, 1) := gq_10 db00f_49 eb_244
theorem d_X12_wake_139 : decode prog_14_method_69_code 139 = .ok (.aload_n 0, 1) := gq_11 db00f_49 eb_0
theorem d_X12_wake_140 : decode prog_14_method_69_code 140 = .ok (.iload_n 1, 1) := gq_12 db00f_49 eb_9
theorem d_X12_wake_141 : decode prog_14_method_69_code 141 = .ok (.invokevirtual 540, 3) := gq_13 db00f_49 eb_1098
theorem d_X12_wake_144 : decode prog_14_method_69_code 144 = .ok (.goto 19, 3) := gq_14 db00f_49 eb_1104
theorem d_X12_wake_147 : decode prog_14_method_69_code 147 = .ok (.aload_n 0, 1) := gq_15 db00f_49 eb_0
theorem d_X12_wake_148 : decode prog_14_method_69_code 148 = .ok (.getfield 34, 3) := gq_16 db00f_49 eb_36
theorem d_X12_wake_151 : decode prog_14_method_69_code 151 = .ok (.iload_n 1, 1) := gq_17 db00f_49 eb_9
theorem d_X12_wake_152 : decode prog_14_method_69_code 152 = .ok (.iaload, 1) := gq_18 db00f_49 eb_37
theorem d_X12_wake_153 : decode prog_14_method_69_code 153 = .ok (.iconst 1, 1) := gq_19 db00f_49 eb_19
theorem d_X12_wake_154 : decode prog_14_method_69_code 154 = .ok (.if_icmp .ne 9, 3) := gq_20 db00f_49 eb_158
theorem d_X12_wake_157 : decode prog_14_method_69_code 157 = .ok (.aload_n 0, 1) := gq_21 db00f_49 eb_0
theorem d_X12_wake_158 : decode prog_14_method_69_code 158 = .ok (.iload_n 1, 1) := gq_22 db00f_49 eb_9
theorem d_X12_wake_159 : decode prog_14_method_69_code 159 = .ok (.iload_n 2, 1) := gq_23 db00f_49 eb_13
theorem db00f_50 : Pf_ prog_14_method_69_code [(160, [0xb6, 0x02, 0x1f]), (163, [0xb1])] := pf_ok prog_14_method_69_code _ 160 (by decide +kernel)
theorem d_X12_wake_160 : decode prog_14_method_69_code 160 = .ok (.invokevirtual 543, 3) := gq_0 db00f_50 eb_1105
theorem d_X12_wake_163 : decode prog_14_method_69_code 163 = .ok (.return_, 1) := gq_1 db00f_50 eb_7
theorem db00f_51 : Pf_ prog_14_method_70_code [(0, [0x11, 0x00, 0x96]), (3, [0x2a]), (4, [0xb4, 0x00, 0x2e]), (7, [0x1b]), (8, [0x2e]), (9, [0x68]), (10, [0x2a]), (11, [0xb4, 0x00, 0x31]), (14, [0x1b]), (15, [0x2e]), (16, [0x60]), (17, [0x3e]), (18, [0x1c]), (19, [0x99, 0x00, 0x1c]), (22, [0x2a]), (23, [0xb4, 0x00, 0x60]), (26, [0x1d]), (27, [0x2e]), (28, [0x05]), (29, [0xa0, 0x00, 0x21]), (32, [0x2a]), (33, [0x1b]), (34, [0x2a]), (35, [0xb4, 0x00, 0x66])] := pf_ok prog_14_method_70_code _ 0 (by decide +kernel)
theorem d_X12_wakeBeat_0 : decode prog_14_method_70_code 0 = .ok (.sipush 150, 3) := gq_0 db00f_51 eb_33
theorem d_X12_wakeBeat_3 : decode prog_14_method_70_code 3 = .ok (.aload_n 0, 1) := gq_1 db00f_51 eb_0
theorem d_X12_wakeBeat_4 : decode prog_14_method_70_code 4 = .ok (.getfield 46, 3) := gq_2 db00f_51 eb_284
theorem d_X12_wakeBeat_7 : decode prog_14_method_70_code 7 = .ok (.iload_n 1, 1) := gq_3 db00f_51 eb_9
theorem d_X12_wakeBeat_8 : decode prog_14_method_70_code 8 = .ok (.iaload, 1) := gq_4 db00f_51 eb_37
theorem d_X12_wakeBeat_9 : decode prog_14_method_70_code 9 = .ok (.imul, 1) := gq_5 db00f_51 eb_34
theorem d_X12_wakeBeat_10 : decode prog_14_method_70_code 10 = .ok (.aload_n 0, 1) := gq_6 db00f_51 eb_0
theorem d_X12_wakeBeat_11 : decode prog_14_method_70_code 11 = .ok (.getfield 49, 3) := gq_7 db00f_51 eb_285
theorem d_X12_wakeBeat_14 : decode prog_14_method_70_code 14 = .ok (.iload_n 1, 1) := gq_8 db00f_51 eb_9
theorem d_X12_wakeBeat_15 : decode prog_14_method_70_code 15 = .ok (.iaload, 1) := gq_9 db00f_51 eb_37
theorem d_X12_wakeBeat_16 : decode prog_14_method_70_code 16 = .ok (.iadd, 1) := gq_10 db00f_51 eb_35
theorem d_X12_wakeBeat_17 : decode prog_14_method_70_code 17 = .ok (.istore_n 3, 1) := gq_11 db00f_51 eb_28
theorem d_X12_wakeBeat_18 : decode prog_14_method_70_code 18 = .ok (.iload_n 2, 1) := gq_12 db00f_51 eb_13
theorem d_X12_wakeBeat_19 : decode prog_14_method_70_code 19 = .ok (.ifCond .eq 28, 3) := gq_13 db00f_51 eb_623
theorem d_X12_wakeBeat_22 : decode prog_14_method_70_code 22 = .ok (.aload_n 0, 1) := gq_14 db00f_51 eb_0
theorem d_X12_wakeBeat_23 : decode prog_14_method_70_code 23 = .ok (.getfield 96, 3) := gq_15 db00f_51 eb_989
theorem d_X12_wakeBeat_26 : decode prog_14_method_70_code 26 = .ok (.iload_n 3, 1) := gq_16 db00f_51 eb_29
theorem d_X12_wakeBeat_27 : decode prog_14_method_70_code 27 = .ok (.iaload, 1) := gq_17 db00f_51 eb_37
theorem d_X12_wakeBeat_28 : decode prog_14_method_70_code 28 = .ok (.iconst 2, 1) := gq_18 db00f_51 eb_10
theorem d_X12_wakeBeat_29 : decode prog_14_method_70_code 29 = .ok (.if_icmp .ne 33, 3) := gq_19 db00f_51 eb_518
theorem d_X12_wakeBeat_32 : decode prog_14_method_70_code 32 = .ok (.aload_n 0, 1) := gq_20 db00f_51 eb_0
theorem d_X12_wakeBeat_33 : decode prog_14_method_70_code 33 = .ok (.iload_n 1, 1) := gq_21 db00f_51 eb_9
theorem d_X12_wakeBeat_34 : decode prog_14_method_70_code 34 = .ok (.aload_n 0, 1) := gq_22 db00f_51 eb_0
theorem d_X12_wakeBeat_35 : decode prog_14_method_70_code 35 = .ok (.getfield 102, 3) := gq_23 db00f_51 eb_992
theorem db00f_52 : Pf_ prog_14_method_70_code [(38, [0x1d]), (39, [0x2e]), (40, [0xb6, 0x02, 0x13]), (43, [0x99, 0x00, 0x13]), (46, [0xb1]), (47, [0x2a]), (48, [0xb4, 0x00, 0x60]), (51, [0x1d]), (52, [0x2e]), (53, [0x06]), (54, [0xa0, 0x00, 0x08]), (57, [0x2a]), (58, [0x1b]), (59, [0xb6, 0x02, 0x23]), (62, [0x2a]), (63, [0xb4, 0x00, 0x31]), (66, [0x1b]), (67, [0x5c]), (68, [0x2e]), (69, [0x04]), (70, [0x60]), (71, [0x4f]), (72, [0x2a]), (73, [0x1b])] := pf_ok prog_14_method_70_code _ 38 (by decide +kernel)
theorem d_X12_wakeBeat_38 : decode prog_14_method_70_code 38 = .ok (.iload_n 3, 1) := gq_0 db00f_52 eb_29
theorem d_X12_wakeBeat_39 : decode prog_14_method_70_code 39 = .ok (.iaload, 1) := gq_1 db00f_52 eb_37
theorem d_X12_wakeBeat_40 : decode prog_14_method_70_code 40 = .ok (.invokevirtual 531, 3) := gq_2 db00f_52 eb_1083
theorem d_X12_wakeBeat_43 : decode prog_14_method_70_code 43 = .ok (.ifCond .eq 19, 3) := gq_3 db00f_52 eb_670
theorem d_X12_wakeBeat_46 : decode prog_14_method_70_code 46 = .ok (.return_, 1) := gq_4 db00f_52 eb_7
theorem d_X12_wakeBeat_47 : decode prog_14_method_70_code 47 = .ok (.aload_n 0, 1) := gq_5 db00f_52 eb_0
theorem d_X12_wakeBeat_48 : decode prog_14_method_70_code 48 = .ok (.getfield 96, 3) := gq_6 db00f_52 eb_989
theorem d_X12_wakeBeat_51 : decode prog_14_method_70_code 51 = .ok (.iload_n 3, 1) := gq_7 db00f_52 eb_29
theorem d_X12_wakeBeat_52 : decode prog_14_method_70_code 52 = .ok (.iaload, 1) := gq_8 db00f_52 eb_37
theorem d_X12_wakeBeat_53 : decode prog_14_method_70_code 53 = .ok (.iconst 3, 1) := gq_9 db00f_52 eb_54
theorem d_X12_wakeBeat_54 : decode prog_14_method_70_code 54 = .ok (.if_icmp .ne 8, 3) := gq_10 db00f_52 eb_526
theorem d_X12_wakeBeat_57 : decode prog_14_method_70_code 57 = .ok (.aload_n 0, 1) := gq_11 db00f_52 eb_0
theorem d_X12_wakeBeat_58 : decode prog_14_method_70_code 58 = .ok (.iload_n 1, 1) := gq_12 db00f_52 eb_9
theorem d_X12_wakeBeat_59 : decode prog_14_method_70_code 59 = .ok (.invokevirtual 547, 3) := gq_13 db00f_52 eb_1106
theorem d_X12_wakeBeat_62 : decode prog_14_method_70_code 62 = .ok (.aload_n 0, 1) := gq_14 db00f_52 eb_0
theorem d_X12_wakeBeat_63 : decode prog_14_method_70_code 63 = .ok (.getfield 49, 3) := gq_15 db00f_52 eb_285
theorem d_X12_wakeBeat_66 : decode prog_14_method_70_code 66 = .ok (.iload_n 1, 1) := gq_16 db00f_52 eb_9
theorem d_X12_wakeBeat_67 : decode prog_14_method_70_code 67 = .ok (.dup2, 1) := gq_17 db00f_52 eb_143
theorem d_X12_wakeBeat_68 : decode prog_14_method_70_code 68 = .ok (.iaload, 1) := gq_18 db00f_52 eb_37
theorem d_X12_wakeBeat_69 : decode prog_14_method_70_code 69 = .ok (.iconst 1, 1) := gq_19 db00f_52 eb_19
theorem d_X12_wakeBeat_70 : decode prog_14_method_70_code 70 = .ok (.iadd, 1) := gq_20 db00f_52 eb_35
theorem d_X12_wakeBeat_71 : decode prog_14_method_70_code 71 = .ok (.iastore, 1) := gq_21 db00f_52 eb_38
theorem d_X12_wakeBeat_72 : decode prog_14_method_70_code 72 = .ok (.aload_n 0, 1) := gq_22 db00f_52 eb_0
theorem d_X12_wakeBeat_73 : decode prog_14_method_70_code 73 = .ok (.iload_n 1, 1) := gq_23 db00f_52 eb_9
theorem db00f_53 : Pf_ prog_14_method_70_code [(74, [0xb6, 0x02, 0x16]), (77, [0xb1])] := pf_ok prog_14_method_70_code _ 74 (by decide +kernel)
theorem d_X12_wakeBeat_74 : decode prog_14_method_70_code 74 = .ok (.invokevirtual 534, 3) := gq_0 db00f_53 eb_1091
theorem d_X12_wakeBeat_77 : decode prog_14_method_70_code 77 = .ok (.return_, 1) := gq_1 db00f_53 eb_7
theorem db00f_54 : Pf_ prog_14_method_71_code [(0, [0x1b]), (1, [0x03]), (2, [0x11, 0x05, 0xdc]), (5, [0xb8, 0x01, 0x43]), (8, [0x99, 0x00, 0x0f]), (11, [0x2a]), (12, [0xb4, 0x01, 0x56]), (15, [0x1b]), (16, [0x60]), (17, [0x11, 0x4e, 0x20]), (20, [0xa4, 0x00, 0x05]), (23, [0x02]), (24, [0xac]), (25, [0x03]), (26, [0x3d]), (27, [0x1c]), (28, [0x1b]), (29, [0xa2, 0x00, 0x4e]), (32, [0x03]), (33, [0x3e]), (34, [0x1d]), (35, [0x2a]), (36, [0xb4, 0x01, 0x53]), (39, [0xa2, 0x00, 0x1f])] := pf_ok prog_14_method_71_code _ 0 (by decide +kernel)
theorem d_X12_tick_0 : decode prog_14_method_71_code 0 = .ok (.iload_n 1, 1) := gq_0 db00f_54 eb_9
theorem d_X12_tick_1 : decode prog_14_method_71_code 1 = .ok (.iconst 0, 1) := gq_1 db00f_54 eb_21
theorem d_X12_tick_2 : decode prog_14_method_71_code 2 = .ok (.sipush 1500, 3) := gq_2 db00f_54 eb_655
theorem d_X12_tick_5 : decode prog_14_method_71_code 5 = .ok (.invokestatic 323, 3) := gq_3 db00f_54 eb_913
theorem d_X12_tick_8 : decode prog_14_method_71_code 8 = .ok (.ifCond .eq 15, 3) := gq_4 db00f_54 eb_294
theorem d_X12_tick_11 : decode prog_14_method_71_code 11 = .ok (.aload_n 0, 1) := gq_5 db00f_54 eb_0
theorem d_X12_tick_12 : decode prog_14_method_71_code 12 = .ok (.getfield 342, 3) := gq_6 db00f_54 eb_928
theorem d_X12_tick_15 : decode prog_14_method_71_code 15 = .ok (.iload_n 1, 1) := gq_7 db00f_54 eb_9
theorem d_X12_tick_16 : decode prog_14_method_71_code 16 = .ok (.iadd, 1) := gq_8 db00f_54 eb_35
theorem d_X12_tick_17 : decode prog_14_method_71_code 17 = .ok (.sipush 20000, 3) := gq_9 db00f_54 eb_656
theorem d_X12_tick_20 : decode prog_14_method_71_code 20 = .ok (.if_icmp .le 5, 3) := gq_10 db00f_54 eb_334
theorem d_X12_tick_23 : decode prog_14_method_71_code 23 = .ok (.iconst (-1), 1) := gq_11 db00f_54 eb_26
theorem d_X12_tick_24 : decode prog_14_method_71_code 24 = .ok (.ireturn, 1) := gq_12 db00f_54 eb_15
theorem d_X12_tick_25 : decode prog_14_method_71_code 25 = .ok (.iconst 0, 1) := gq_13 db00f_54 eb_21
theorem d_X12_tick_26 : decode prog_14_method_71_code 26 = .ok (.istore_n 2, 1) := gq_14 db00f_54 eb_27
theorem d_X12_tick_27 : decode prog_14_method_71_code 27 = .ok (.iload_n 2, 1) := gq_15 db00f_54 eb_13
theorem d_X12_tick_28 : decode prog_14_method_71_code 28 = .ok (.iload_n 1, 1) := gq_16 db00f_54 eb_9
theorem d_X12_tick_29 : decode prog_14_method_71_code 29 = .ok (.if_icmp .ge 78, 3) := gq_17 db00f_54 eb_1107
theorem d_X12_tick_32 : decode prog_14_method_71_code 32 = .ok (.iconst 0, 1) := gq_18 db00f_54 eb_21
theorem d_X12_tick_33 : decode prog_14_method_71_code 33 = .ok (.istore_n 3, 1) := gq_19 db00f_54 eb_28
theorem d_X12_tick_34 : decode prog_14_method_71_code 34 = .ok (.iload_n 3, 1) := gq_20 db00f_54 eb_29
theorem d_X12_tick_35 : decode prog_14_method_71_code 35 = .ok (.aload_n 0, 1) := gq_21 db00f_54 eb_0
theorem d_X12_tick_36 : decode prog_14_method_71_code 36 = .ok (.getfield 339, 3) := gq_22 db00f_54 eb_926
theorem d_X12_tick_39 : decode prog_14_method_71_code 39 = .ok (.if_icmp .ge 31, 3) := gq_23 db00f_54 eb_142
theorem d_X12_tick_62 : decode prog_14_method_71_code 62 = .ok (.i2b, 1) := by decide +kernel
theorem db00f_55 : Pf_ prog_14_method_71_code [(42, [0x2a]), (43, [0xb4, 0x00, 0x47]), (46, [0x11, 0x4e, 0x21]), (49, [0x1d]), (50, [0x68]), (51, [0x2a]), (52, [0xb4, 0x01, 0x56]), (55, [0x60]), (56, [0x2a]), (57, [0xb4, 0x00, 0x25]), (60, [0x1d]), (61, [0x2e]), (63, [0x54]), (64, [0x84, 0x03, 0x01]), (67, [0xa7, 0xff, 0xdf]), (70, [0x2a]), (71, [0x59]), (72, [0xb4, 0x01, 0x56]), (75, [0x04]), (76, [0x60]), (77, [0xb5, 0x01, 0x56]), (80, [0x03]), (81, [0x3e]), (82, [0x1d])] := pf_ok prog_14_method_71_code _ 42 (by decide +kernel)
theorem d_X12_tick_42 : decode prog_14_method_71_code 42 = .ok (.aload_n 0, 1) := gq_0 db00f_55 eb_0
theorem d_X12_tick_43 : decode prog_14_method_71_code 43 = .ok (.getfield 71, 3) := gq_1 db00f_55 eb_1108
theorem d_X12_tick_46 : decode prog_14_method_71_code 46 = .ok (.sipush 20001, 3) := gq_2 db00f_55 eb_1109
theorem d_X12_tick_49 : decode prog_14_method_71_code 49 = .ok (.iload_n 3, 1) := gq_3 db00f_55 eb_29
theorem d_X12_tick_50 : decode prog_14_method_71_code 50 = .ok (.imul, 1) := gq_4 db00f_55 eb_34
theorem d_X12_tick_51 : decode prog_14_method_71_code 51 = .ok (.aload_n 0, 1) := gq_5 db00f_55 eb_0
theorem d_X12_tick_52 : decode prog_14_method_71_code 52 = .ok (.getfield 342, 3) := gq_6 db00f_55 eb_928
theorem d_X12_tick_55 : decode prog_14_method_71_code 55 = .ok (.iadd, 1) := gq_7 db00f_55 eb_35
theorem d_X12_tick_56 : decode prog_14_method_71_code 56 = .ok (.aload_n 0, 1) := gq_8 db00f_55 eb_0
theorem d_X12_tick_57 : decode prog_14_method_71_code 57 = .ok (.getfield 37, 3) := gq_9 db00f_55 eb_281
theorem d_X12_tick_60 : decode prog_14_method_71_code 60 = .ok (.iload_n 3, 1) := gq_10 db00f_55 eb_29
theorem d_X12_tick_61 : decode prog_14_method_71_code 61 = .ok (.iaload, 1) := gq_11 db00f_55 eb_37
theorem d_X12_tick_63 : decode prog_14_method_71_code 63 = .ok (.bastore, 1) := gq_12 db00f_55 eb_244
theorem d_X12_tick_64 : decode prog_14_method_71_code 64 = .ok (.iinc 3 1, 3) := gq_13 db00f_55 eb_42
theorem d_X12_tick_67 : decode prog_14_method_71_code 67 = .ok (.goto (-33), 3) := gq_14 db00f_55 eb_399
theorem d_X12_tick_70 : decode prog_14_method_71_code 70 = .ok (.aload_n 0, 1) := gq_15 db00f_55 eb_0
theorem d_X12_tick_71 : decode prog_14_method_71_code 71 = .ok (.dup, 1) := gq_16 db00f_55 eb_46
theorem d_X12_tick_72 : decode prog_14_method_71_code 72 = .ok (.getfield 342, 3) := gq_17 db00f_55 eb_928
theorem d_X12_tick_75 : decode prog_14_method_71_code 75 = .ok (.iconst 1, 1) := gq_18 db00f_55 eb_19
theorem d_X12_tick_76 : decode prog_14_method_71_code 76 = .ok (.iadd, 1) := gq_19 db00f_55 eb_35
theorem d_X12_tick_77 : decode prog_14_method_71_code 77 = .ok (.putfield 342, 3) := gq_20 db00f_55 eb_1110
theorem d_X12_tick_80 : decode prog_14_method_71_code 80 = .ok (.iconst 0, 1) := gq_21 db00f_55 eb_21
theorem d_X12_tick_81 : decode prog_14_method_71_code 81 = .ok (.istore_n 3, 1) := gq_22 db00f_55 eb_28
theorem d_X12_tick_82 : decode prog_14_method_71_code 82 = .ok (.iload_n 3, 1) := gq_23 db00f_55 eb_29
theorem db00f_56 : Pf_ prog_14_method_71_code [(83, [0x2a]), (84, [0xb4, 0x01, 0x53]), (87, [0xa2, 0x00, 0x0e]), (90, [0x2a]), (91, [0x1d]), (92, [0xb6, 0x02, 0x26]), (95, [0x84, 0x03, 0x01]), (98, [0xa7, 0xff, 0xf0]), (101, [0x84, 0x02, 0x01]), (104, [0xa7, 0xff, 0xb3]), (107, [0x2a]), (108, [0xb4, 0x01, 0x56]), (111, [0xac])] := pf_ok prog_14_method_71_code _ 83 (by decide +kernel)
theorem d_X12_tick_83 : decode prog_14_method_71_code 83 = .ok (.aload_n 0, 1) := gq_0 db00f_56 eb_0
theorem d_X12_tick_84 : decode prog_14_method_71_code 84 = .ok (.getfield 339, 3) := gq_1 db00f_56 eb_926
theorem d_X12_tick_87 : decode prog_14_method_71_code 87 = .ok (.if_icmp .ge 14, 3) := gq_2 db00f_56 eb_1111
theorem d_X12_tick_90 : decode prog_14_method_71_code 90 = .ok (.aload_n 0, 1) := gq_3 db00f_56 eb_0
theorem d_X12_tick_91 : decode prog_14_method_71_code 91 = .ok (.iload_n 3, 1) := gq_4 db00f_56 eb_29
theorem d_X12_tick_92 : decode prog_14_method_71_code 92 = .ok (.invokevirtual 550, 3) := gq_5 db00f_56 eb_1112
theorem d_X12_tick_95 : decode prog_14_method_71_code 95 = .ok (.iinc 3 1, 3) := gq_6 db00f_56 eb_42
theorem d_X12_tick_98 : decode prog_14_method_71_code 98 = .ok (.goto (-16), 3) := gq_7 db00f_56 eb_699
theorem d_X12_tick_101 : decode prog_14_method_71_code 101 = .ok (.iinc 2 1, 3) := gq_8 db00f_56 eb_41
theorem d_X12_tick_104 : decode prog_14_method_71_code 104 = .ok (.goto (-77), 3) := gq_9 db00f_56 eb_1039
theorem d_X12_tick_107 : decode prog_14_method_71_code 107 = .ok (.aload_n 0, 1) := gq_10 db00f_56 eb_0
theorem d_X12_tick_108 : decode prog_14_method_71_code 108 = .ok (.getfield 342, 3) := gq_11 db00f_56 eb_928
theorem d_X12_tick_111 : decode prog_14_method_71_code 111 = .ok (.ireturn, 1) := gq_12 db00f_56 eb_15
theorem db00f_57 : Pf_ prog_14_method_72_code [(0, [0x03]), (1, [0x3e]), (2, [0x03]), (3, [0x36, 0x04]), (5, [0x15, 0x04]), (7, [0x2a]), (8, [0xb4, 0x01, 0xfb]), (11, [0xa2, 0x00, 0x35]), (14, [0x1d]), (15, [0x2a]), (16, [0xb4, 0x00, 0x7e]), (19, [0x15, 0x04]), (21, [0x2e]), (22, [0x1b]), (23, [0xa0, 0x00, 0x20]), (26, [0x1c]), (27, [0x99, 0x00, 0x0d]), (30, [0x2a]), (31, [0xb4, 0x00, 0x87]), (34, [0x15, 0x04]), (36, [0x2e]), (37, [0xa7, 0x00, 0x0a]), (40, [0x2a]), (41, [0xb4, 0x00, 0x8a])] := pf_ok prog_14_method_72_code _ 0 (by decide +kernel)
theorem d_X12_pointsBy_0 : decode prog_14_method_72_code 0 = .ok (.iconst 0, 1) := gq_0 db00f_57 eb_21
theorem d_X12_pointsBy_1 : decode prog_14_method_72_code 1 = .ok (.istore_n 3, 1) := gq_1 db00f_57 eb_28
theorem d_X12_pointsBy_2 : decode prog_14_method_72_code 2 = .ok (.iconst 0, 1) := gq_2 db00f_57 eb_21
theorem d_X12_pointsBy_3 : decode prog_14_method_72_code 3 = .ok (.istore 4, 2) := gq_3 db00f_57 eb_133
theorem d_X12_pointsBy_5 : decode prog_14_method_72_code 5 = .ok (.iload 4, 2) := gq_4 db00f_57 eb_76
theorem d_X12_pointsBy_7 : decode prog_14_method_72_code 7 = .ok (.aload_n 0, 1) := gq_5 db00f_57 eb_0
theorem d_X12_pointsBy_8 : decode prog_14_method_72_code 8 = .ok (.getfield 507, 3) := gq_6 db00f_57 eb_1067
theorem d_X12_pointsBy_11 : decode prog_14_method_72_code 11 = .ok (.if_icmp .ge 53, 3) := gq_7 db00f_57 eb_1113
theorem d_X12_pointsBy_14 : decode prog_14_method_72_code 14 = .ok (.iload_n 3, 1) := gq_8 db00f_57 eb_29
theorem d_X12_pointsBy_15 : decode prog_14_method_72_code 15 = .ok (.aload_n 0, 1) := gq_9 db00f_57 eb_0
theorem d_X12_pointsBy_16 : decode prog_14_method_72_code 16 = .ok (.getfield 126, 3) := gq_10 db00f_57 eb_613
theorem d_X12_pointsBy_19 : decode prog_14_method_72_code 19 = .ok (.iload 4, 2) := gq_11 db00f_57 eb_76
theorem d_X12_pointsBy_21 : decode prog_14_method_72_code 21 = .ok (.iaload, 1) := gq_12 db00f_57 eb_37
theorem d_X12_pointsBy_22 : decode prog_14_method_72_code 22 = .ok (.iload_n 1, 1) := gq_13 db00f_57 eb_9
theorem d_X12_pointsBy_23 : decode prog_14_method_72_code 23 = .ok (.if_icmp .ne 32, 3) := gq_14 db00f_57 eb_961
theorem d_X12_pointsBy_26 : decode prog_14_method_72_code 26 = .ok (.iload_n 2, 1) := gq_15 db00f_57 eb_13
theorem d_X12_pointsBy_27 : decode prog_14_method_72_code 27 = .ok (.ifCond .eq 13, 3) := gq_16 db00f_57 eb_119
theorem d_X12_pointsBy_30 : decode prog_14_method_72_code 30 = .ok (.aload_n 0, 1) := gq_17 db00f_57 eb_0
theorem d_X12_pointsBy_31 : decode prog_14_method_72_code 31 = .ok (.getfield 135, 3) := gq_18 db00f_57 eb_1059
theorem d_X12_pointsBy_34 : decode prog_14_method_72_code 34 = .ok (.iload 4, 2) := gq_19 db00f_57 eb_76
theorem d_X12_pointsBy_36 : decode prog_14_method_72_code 36 = .ok (.iaload, 1) := gq_20 db00f_57 eb_37
theorem d_X12_pointsBy_37 : decode prog_14_method_72_code 37 = .ok (.goto 10, 3) := gq_21 db00f_57 eb_180
theorem d_X12_pointsBy_40 : decode prog_14_method_72_code 40 = .ok (.aload_n 0, 1) := gq_22 db00f_57 eb_0
theorem d_X12_pointsBy_41 : decode prog_14_method_72_code 41 = .ok (.getfield 138, 3) := gq_23 db00f_57 eb_1056
theorem db00f_58 : Pf_ prog_14_method_72_code [(44, [0x15, 0x04]), (46, [0x2e]), (47, [0x02]), (48, [0x9f, 0x00, 0x07]), (51, [0x04]), (52, [0xa7, 0x00, 0x04]), (55, [0x03]), (56, [0x60]), (57, [0x3e]), (58, [0x84, 0x04, 0x01]), (61, [0xa7, 0xff, 0xc8]), (64, [0x1d]), (65, [0xac])] := pf_ok prog_14_method_72_code _ 44 (by decide +kernel)
theorem d_X12_pointsBy_44 : decode prog_14_method_72_code 44 = .ok (.iload 4, 2) := gq_0 db00f_58 eb_76
theorem d_X12_pointsBy_46 : decode prog_14_method_72_code 46 = .ok (.iaload, 1) := gq_1 db00f_58 eb_37
theorem d_X12_pointsBy_47 : decode prog_14_method_72_code 47 = .ok (.iconst (-1), 1) := gq_2 db00f_58 eb_26
theorem d_X12_pointsBy_48 : decode prog_14_method_72_code 48 = .ok (.if_icmp .eq 7, 3) := gq_3 db00f_58 eb_539
theorem d_X12_pointsBy_51 : decode prog_14_method_72_code 51 = .ok (.iconst 1, 1) := gq_4 db00f_58 eb_19
theorem d_X12_pointsBy_52 : decode prog_14_method_72_code 52 = .ok (.goto 4, 3) := gq_5 db00f_58 eb_20
theorem d_X12_pointsBy_55 : decode prog_14_method_72_code 55 = .ok (.iconst 0, 1) := gq_6 db00f_58 eb_21
theorem d_X12_pointsBy_56 : decode prog_14_method_72_code 56 = .ok (.iadd, 1) := gq_7 db00f_58 eb_35
theorem d_X12_pointsBy_57 : decode prog_14_method_72_code 57 = .ok (.istore_n 3, 1) := gq_8 db00f_58 eb_28
theorem d_X12_pointsBy_58 : decode prog_14_method_72_code 58 = .ok (.iinc 4 1, 3) := gq_9 db00f_58 eb_144
theorem d_X12_pointsBy_61 : decode prog_14_method_72_code 61 = .ok (.goto (-56), 3) := gq_10 db00f_58 eb_1114
theorem d_X12_pointsBy_64 : decode prog_14_method_72_code 64 = .ok (.iload_n 3, 1) := gq_11 db00f_58 eb_29
theorem d_X12_pointsBy_65 : decode prog_14_method_72_code 65 = .ok (.ireturn, 1) := gq_12 db00f_58 eb_15
theorem d_X12_about_38 : decode prog_14_method_73_code 38 = .ok (.tableswitch 116 0 7 #[46, 53, 60, 67, 74, 95, 102, 109], 46) := by decide +kernel
theorem db00f_59 : Pf_ prog_14_method_73_code [(0, [0x2a]), (1, [0x2a]), (2, [0x1b]), (3, [0xb6, 0x01, 0x59]), (6, [0x99, 0x00, 0x11]), (9, [0x1c]), (10, [0x03]), (11, [0x10, 0x08]), (13, [0xb8, 0x01, 0x43]), (16, [0x99, 0x00, 0x07]), (19, [0x03]), (20, [0xa7, 0x00, 0x04]), (23, [0x04]), (24, [0xb5, 0x01, 0x40]), (27, [0x2a]), (28, [0xb4, 0x01, 0x40]), (31, [0x04]), (32, [0xa0, 0x00, 0x05]), (35, [0x03]), (36, [0xac]), (37, [0x1c]), (84, [0x2a]), (85, [0xb4, 0x00, 0x22]), (88, [0x1b])] := pf_ok prog_14_method_73_code _ 0 (by decide +kernel)
theorem d_X12_about_0 : decode prog_14_method_73_code 0 = .ok (.aload_n 0, 1) := gq_0 db00f_59 eb_0
theorem d_X12_about_1 : decode prog_14_method_73_code 1 = .ok (.aload_n 0, 1) := gq_1 db00f_59 eb_0
theorem d_X12_about_2 : decode prog_14_method_73_code 2 = .ok (.iload_n 1, 1) := gq_2 db00f_59 eb_9
theorem d_X12_about_3 : decode prog_14_method_73_code 3 = .ok (.invokevirtual 345, 3) := gq_3 db00f_59 eb_930
theorem d_X12_about_6 : decode prog_14_method_73_code 6 = .ok (.ifCond .eq 17, 3) := gq_4 db00f_59 eb_112
theorem d_X12_about_9 : decode prog_14_method_73_code 9 = .ok (.iload_n 2, 1) := gq_5 db00f_59 eb_13
theorem d_X12_about_10 : decode prog_14_method_73_code 10 = .ok (.iconst 0, 1) := gq_6 db00f_59 eb_21
theorem d_X12_about_11 : decode prog_14_method_73_code 11 = .ok (.bipush 8, 2) := gq_7 db00f_59 eb_94
theorem d_X12_about_13 : decode prog_14_method_73_code 13 = .ok (.invokestatic 323, 3) := gq_8 db00f_59 eb_913
theorem d_X12_about_16 : decode prog_14_method_73_code 16 = .ok (.ifCond .eq 7, 3) := gq_9 db00f_59 eb_123
theorem d_X12_about_19 : decode prog_14_method_73_code 19 = .ok (.iconst 0, 1) := gq_10 db00f_59 eb_21
theorem d_X12_about_20 : decode prog_14_method_73_code 20 = .ok (.goto 4, 3) := gq_11 db00f_59 eb_20
theorem d_X12_about_23 : decode prog_14_method_73_code 23 = .ok (.iconst 1, 1) := gq_12 db00f_59 eb_19
theorem d_X12_about_24 : decode prog_14_method_73_code 24 = .ok (.putfield 320, 3) := gq_13 db00f_59 eb_1115
theorem d_X12_about_27 : decode prog_14_method_73_code 27 = .ok (.aload_n 0, 1) := gq_14 db00f_59 eb_0
theorem d_X12_about_28 : decode prog_14_method_73_code 28 = .ok (.getfield 320, 3) := gq_15 db00f_59 eb_1116
theorem d_X12_about_31 : decode prog_14_method_73_code 31 = .ok (.iconst 1, 1) := gq_16 db00f_59 eb_19
theorem d_X12_about_32 : decode prog_14_method_73_code 32 = .ok (.if_icmp .ne 5, 3) := gq_17 db00f_59 eb_479
theorem d_X12_about_35 : decode prog_14_method_73_code 35 = .ok (.iconst 0, 1) := gq_18 db00f_59 eb_21
theorem d_X12_about_36 : decode prog_14_method_73_code 36 = .ok (.ireturn, 1) := gq_19 db00f_59 eb_15
theorem d_X12_about_37 : decode prog_14_method_73_code 37 = .ok (.iload_n 2, 1) := gq_20 db00f_59 eb_13
theorem d_X12_about_84 : decode prog_14_method_73_code 84 = .ok (.aload_n 0, 1) := gq_21 db00f_59 eb_0
theorem d_X12_about_85 : decode prog_14_method_73_code 85 = .ok (.getfield 34, 3) := gq_22 db00f_59 eb_36
theorem d_X12_about_88 : decode prog_14_method_73_code 88 = .ok (.iload_n 1, 1) := gq_23 db00f_59 eb_9
theorem db00f_60 : Pf_ prog_14_method_73_code [(89, [0x2e]), (90, [0xac]), (91, [0x2a]), (92, [0xb4, 0x00, 0x25]), (95, [0x1b]), (96, [0x2e]), (97, [0xac]), (98, [0x2a]), (99, [0xb4, 0x00, 0x28]), (102, [0x1b]), (103, [0x2e]), (104, [0xac]), (105, [0x2a]), (106, [0xb4, 0x00, 0x2b]), (109, [0x1b]), (110, [0x2e]), (111, [0xac]), (112, [0x2a]), (113, [0xb4, 0x00, 0x22]), (116, [0x1b]), (117, [0x2e]), (118, [0x04]), (119, [0xa0, 0x00, 0x0c]), (122, [0x2a])] := pf_ok prog_14_method_73_code _ 89 (by decide +kernel)
theorem d_X12_about_89 : decode prog_14_method_73_code 89 = .ok (.iaload, 1) := gq_0 db00f_60 eb_37
theorem d_X12_about_90 : decode prog_14_method_73_code 90 = .ok (.ireturn, 1) := gq_1 db00f_60 eb_15
theorem d_X12_about_91 : decode prog_14_method_73_code 91 = .ok (.aload_n 0, 1) := gq_2 db00f_60 eb_0
theorem d_X12_about_92 : decode prog_14_method_73_code 92 = .ok (.getfield 37, 3) := gq_3 db00f_60 eb_281
theorem d_X12_about_95 : decode prog_14_method_73_code 95 = .ok (.iload_n 1, 1) := gq_4 db00f_60 eb_9
theorem d_X12_about_96 : decode prog_14_method_73_code 96 = .ok (.iaload, 1) := gq_5 db00f_60 eb_37
theorem d_X12_about_97 : decode prog_14_method_73_code 97 = .ok (.ireturn, 1) := gq_6 db00f_60 eb_15
theorem d_X12_about_98 : decode prog_14_method_73_code 98 = .ok (.aload_n 0, 1) := gq_7 db00f_60 eb_0
theorem d_X12_about_99 : decode prog_14_method_73_code 99 = .ok (.getfield 40, 3) := gq_8 db00f_60 eb_282
theorem d_X12_about_102 : decode prog_14_method_73_code 102 = .ok (.iload_n 1, 1) := gq_9 db00f_60 eb_9
theorem d_X12_about_103 : decode prog_14_method_73_code 103 = .ok (.iaload, 1) := gq_10 db00f_60 eb_37
theorem d_X12_about_104 : decode prog_14_method_73_code 104 = .ok (.ireturn, 1) := gq_11 db00f_60 eb_15
theorem d_X12_about_105 : decode prog_14_method_73_code 105 = .ok (.aload_n 0, 1) := gq_12 db00f_60 eb_0
theorem d_X12_about_106 : decode prog_14_method_73_code 106 = .ok (.getfield 43, 3) := gq_13 db00f_60 eb_283
theorem d_X12_about_109 : decode prog_14_method_73_code 109 = .ok (.iload_n 1, 1) := gq_14 db00f_60 eb_9
theorem d_X12_about_110 : decode prog_14_method_73_code 110 = .ok (.iaload, 1) := gq_15 db00f_60 eb_37
theorem d_X12_about_111 : decode prog_14_method_73_code 111 = .ok (.ireturn, 1) := gq_16 db00f_60 eb_15
theorem d_X12_about_112 : decode prog_14_method_73_code 112 = .ok (.aload_n 0, 1) := gq_17 db00f_60 eb_0
theorem d_X12_about_113 : decode prog_14_method_73_code 113 = .ok (.getfield 34, 3) := gq_18 db00f_60 eb_36
theorem d_X12_about_116 : decode prog_14_method_73_code 116 = .ok (.iload_n 1, 1) := gq_19 db00f_60 eb_9
theorem d_X12_about_117 : decode prog_14_method_73_code 117 = .ok (.iaload, 1) := gq_20 db00f_60 eb_37
theorem d_X12_about_118 : decode prog_14_method_73_code 118 = .ok (.iconst 1, 1) := gq_21 db00f_60 eb_19
theorem d_X12_about_119 : decode prog_14_method_73_code 119 = .ok (.if_icmp .ne 12, 3) := gq_22 db00f_60 eb_410
theorem d_X12_about_122 : decode prog_14_method_73_code 122 = .ok (.aload_n 0, 1) := gq_23 db00f_60 eb_0
theorem db00f_61 : Pf_ prog_14_method_73_code [(123, [0xb4, 0x00, 0x31]), (126, [0x1b]), (127, [0x2e]), (128, [0xa7, 0x00, 0x04]), (131, [0x02]), (132, [0xac]), (133, [0x2a]), (134, [0x1b]), (135, [0x04]), (136, [0xb6, 0x02, 0x29]), (139, [0xac]), (140, [0x2a]), (141, [0x1b]), (142, [0x03]), (143, [0xb6, 0x02, 0x29]), (146, [0xac]), (147, [0x2a]), (148, [0xb4, 0x00, 0x19]), (151, [0x1b]), (152, [0x2e]), (153, [0xac]), (154, [0x2a]), (155, [0xb4, 0x00, 0x1c]), (158, [0x1b])] := pf_ok prog_14_method_73_code _ 123 (by decide +kernel)
theorem d_X12_about_123 : decode prog_14_method_73_code 123 = .ok (.getfield 49, 3) := gq_0 db00f_61 eb_285
theorem d_X12_about_126 : decode prog_14_method_73_code 126 = .ok (.iload_n 1, 1) := gq_1 db00f_61 eb_9
theorem d_X12_about_127 : decode prog_14_method_73_code 127 = .ok (.iaload, 1) := gq_2 db00f_61 eb_37
theorem d_X12_about_128 : decode prog_14_method_73_code 128 = .ok (.goto 4, 3) := gq_3 db00f_61 eb_20
theorem d_X12_about_131 : decode prog_14_method_73_code 131 = .ok (.iconst (-1), 1) := gq_4 db00f_61 eb_26
theorem d_X12_about_132 : decode prog_14_method_73_code 132 = .ok (.ireturn, 1) := gq_5 db00f_61 eb_15
theorem d_X12_about_133 : decode prog_14_method_73_code 133 = .ok (.aload_n 0, 1) := gq_6 db00f_61 eb_0
theorem d_X12_about_134 : decode prog_14_method_73_code 134 = .ok (.iload_n 1, 1) := gq_7 db00f_61 eb_9
theorem d_X12_about_135 : decode prog_14_method_73_code 135 = .ok (.iconst 1, 1) := gq_8 db00f_61 eb_19
theorem d_X12_about_136 : decode prog_14_method_73_code 136 = .ok (.invokevirtual 553, 3) := gq_9 db00f_61 eb_1117
theorem d_X12_about_139 : decode prog_14_method_73_code 139 = .ok (.ireturn, 1) := gq_10 db00f_61 eb_15
theorem d_X12_about_140 : decode prog_14_method_73_code 140 = .ok (.aload_n 0, 1) := gq_11 db00f_61 eb_0
theorem d_X12_about_141 : decode prog_14_method_73_code 141 = .ok (.iload_n 1, 1) := gq_12 db00f_61 eb_9
theorem d_X12_about_142 : decode prog_14_method_73_code 142 = .ok (.iconst 0, 1) := gq_13 db00f_61 eb_21
theorem d_X12_about_143 : decode prog_14_method_73_code 143 = .ok (.invokevirtual 553, 3) := gq_14 db00f_61 eb_1117
theorem d_X12_about_146 : decode prog_14_method_73_code 146 = .ok (.ireturn, 1) := gq_15 db00f_61 eb_15
theorem d_X12_about_147 : decode prog_14_method_73_code 147 = .ok (.aload_n 0, 1) := gq_16 db00f_61 eb_0
theorem d_X12_about_148 : decode prog_14_method_73_code 148 = .ok (.getfield 25, 3) := gq_17 db00f_61 eb_24
theorem d_X12_about_151 : decode prog_14_method_73_code 151 = .ok (.iload_n 1, 1) := gq_18 db00f_61 eb_9
theorem d_X12_about_152 : decode prog_14_method_73_code 152 = .ok (.iaload, 1) := gq_19 db00f_61 eb_37
theorem d_X12_about_153 : decode prog_14_method_73_code 153 = .ok (.ireturn, 1) := gq_20 db00f_61 eb_15
theorem d_X12_about_154 : decode prog_14_method_73_code 154 = .ok (.aload_n 0, 1) := gq_21 db00f_61 eb_0
theorem d_X12_about_155 : decode prog_14_method_73_code 155 = .ok (.getfield 28, 3) := gq_22 db00f_61 eb_361
theorem d_X12_about_158 : decode prog_14_method_73_code 158 = .ok (.iload_n 1, 1) := gq_23 db00f_61 eb_9
theorem db00f_62 : Pf_ prog_14_method_73_code [(159, [0x2e]), (160, [0xac])] := pf_ok prog_14_method_73_code _ 159 (by decide +kernel)
theorem d_X12_about_159 : decode prog_14_method_73_code 159 = .ok (.iaload, 1) := gq_0 db00f_62 eb_37
theorem d_X12_about_160 : decode prog_14_method_73_code 160 = .ok (.ireturn, 1) := gq_1 db00f_62 eb_15
theorem db00f_63 : Pf_ prog_14_method_74_code [(0, [0x1c]), (1, [0x2a]), (2, [0xb4, 0x01, 0x56]), (5, [0xa0, 0x00, 0x0c]), (8, [0x2a]), (9, [0xb4, 0x00, 0x25]), (12, [0x1b]), (13, [0x2e]), (14, [0xa7, 0x00, 0x0f]), (17, [0x2a]), (18, [0xb4, 0x00, 0x47]), (21, [0x11, 0x4e, 0x21]), (24, [0x1b]), (25, [0x68]), (26, [0x1c]), (27, [0x60]), (28, [0x33]), (29, [0xac])] := pf_ok prog_14_method_74_code _ 0 (by decide +kernel)
theorem d_X12_wasAt_0 : decode prog_14_method_74_code 0 = .ok (.iload_n 2, 1) := gq_0 db00f_63 eb_13
theorem d_X12_wasAt_1 : decode prog_14_method_74_code 1 = .ok (.aload_n 0, 1) := gq_1 db00f_63 eb_0
theorem d_X12_wasAt_2 : decode prog_14_method_74_code 2 = .ok (.getfield 342, 3) := gq_2 db00f_63 eb_928
theorem d_X12_wasAt_5 : decode prog_14_method_74_code 5 = .ok (.if_icmp .ne 12, 3) := gq_3 db00f_63 eb_410
theorem d_X12_wasAt_8 : decode prog_14_method_74_code 8 = .ok (.aload_n 0, 1) := gq_4 db00f_63 eb_0
theorem d_X12_wasAt_9 : decode prog_14_method_74_code 9 = .ok (.getfield 37, 3) := gq_5 db00f_63 eb_281
theorem d_X12_wasAt_12 : decode prog_14_method_74_code 12 = .ok (.iload_n 1, 1) := gq_6 db00f_63 eb_9
theorem d_X12_wasAt_13 : decode prog_14_method_74_code 13 = .ok (.iaload, 1) := gq_7 db00f_63 eb_37
theorem d_X12_wasAt_14 : decode prog_14_method_74_code 14 = .ok (.goto 15, 3) := gq_8 db00f_63 eb_137
theorem d_X12_wasAt_17 : decode prog_14_method_74_code 17 = .ok (.aload_n 0, 1) := gq_9 db00f_63 eb_0
theorem d_X12_wasAt_18 : decode prog_14_method_74_code 18 = .ok (.getfield 71, 3) := gq_10 db00f_63 eb_1108
theorem d_X12_wasAt_21 : decode prog_14_method_74_code 21 = .ok (.sipush 20001, 3) := gq_11 db00f_63 eb_1109
theorem d_X12_wasAt_24 : decode prog_14_method_74_code 24 = .ok (.iload_n 1, 1) := gq_12 db00f_63 eb_9
theorem d_X12_wasAt_25 : decode prog_14_method_74_code 25 = .ok (.imul, 1) := gq_13 db00f_63 eb_34
theorem d_X12_wasAt_26 : decode prog_14_method_74_code 26 = .ok (.iload_n 2, 1) := gq_14 db00f_63 eb_13
theorem d_X12_wasAt_27 : decode prog_14_method_74_code 27 = .ok (.iadd, 1) := gq_15 db00f_63 eb_35
theorem d_X12_wasAt_28 : decode prog_14_method_74_code 28 = .ok (.baload, 1) := gq_16 db00f_63 eb_248
theorem d_X12_wasAt_29 : decode prog_14_method_74_code 29 = .ok (.ireturn, 1) := gq_17 db00f_63 eb_15
theorem db00f_64 : Pf_ prog_14_method_75_code [(0, [0x2a]), (1, [0x1b]), (2, [0xb6, 0x01, 0x59]), (5, [0x99, 0x00, 0x1d]), (8, [0x1c]), (9, [0x2a]), (10, [0xb4, 0x00, 0x1f]), (13, [0x1b]), (14, [0x2e]), (15, [0x2a]), (16, [0xb4, 0x01, 0x56]), (19, [0xb8, 0x01, 0x43]), (22, [0x99, 0x00, 0x0c]), (25, [0x2a]), (26, [0x1b]), (27, [0x1c]), (28, [0xb6, 0x02, 0x2d]), (31, [0xa7, 0x00, 0x04]), (34, [0x02]), (35, [0xac])] := pf_ok prog_14_method_75_code _ 0 (by decide +kernel)
theorem d_X12_was_0 : decode prog_14_method_75_code 0 = .ok (.aload_n 0, 1) := gq_0 db00f_64 eb_0
theorem d_X12_was_1 : decode prog_14_method_75_code 1 = .ok (.iload_n 1, 1) := gq_1 db00f_64 eb_9
theorem d_X12_was_2 : decode prog_14_method_75_code 2 = .ok (.invokevirtual 345, 3) := gq_2 db00f_64 eb_930
theorem d_X12_was_5 : decode prog_14_method_75_code 5 = .ok (.ifCond .eq 29, 3) := gq_3 db00f_64 eb_927
theorem d_X12_was_8 : decode prog_14_method_75_code 8 = .ok (.iload_n 2, 1) := gq_4 db00f_64 eb_13
theorem d_X12_was_9 : decode prog_14_method_75_code 9 = .ok (.aload_n 0, 1) := gq_5 db00f_64 eb_0
theorem d_X12_was_10 : decode prog_14_method_75_code 10 = .ok (.getfield 31, 3) := gq_6 db00f_64 eb_30
theorem d_X12_was_13 : decode prog_14_method_75_code 13 = .ok (.iload_n 1, 1) := gq_7 db00f_64 eb_9
theorem d_X12_was_14 : decode prog_14_method_75_code 14 = .ok (.iaload, 1) := gq_8 db00f_64 eb_37
theorem d_X12_was_15 : decode prog_14_method_75_code 15 = .ok (.aload_n 0, 1) := gq_9 db00f_64 eb_0
theorem d_X12_was_16 : decode prog_14_method_75_code 16 = .ok (.getfield 342, 3) := gq_10 db00f_64 eb_928
theorem d_X12_was_19 : decode prog_14_method_75_code 19 = .ok (.invokestatic 323, 3) := gq_11 db00f_64 eb_913
theorem d_X12_was_22 : decode prog_14_method_75_code 22 = .ok (.ifCond .eq 12, 3) := gq_12 db00f_64 eb_50
theorem d_X12_was_25 : decode prog_14_method_75_code 25 = .ok (.aload_n 0, 1) := gq_13 db00f_64 eb_0
theorem d_X12_was_26 : decode prog_14_method_75_code 26 = .ok (.iload_n 1, 1) := gq_14 db00f_64 eb_9
theorem d_X12_was_27 : decode prog_14_method_75_code 27 = .ok (.iload_n 2, 1) := gq_15 db00f_64 eb_13
theorem d_X12_was_28 : decode prog_14_method_75_code 28 = .ok (.invokevirtual 557, 3) := gq_16 db00f_64 eb_1118
theorem d_X12_was_31 : decode prog_14_method_75_code 31 = .ok (.goto 4, 3) := gq_17 db00f_64 eb_20
theorem d_X12_was_34 : decode prog_14_method_75_code 34 = .ok (.iconst (-1), 1) := gq_18 db00f_64 eb_26
theorem d_X12_was_35 : decode prog_14_method_75_code 35 = .ok (.ireturn, 1) := gq_19 db00f_64 eb_15
theorem db00f_65 : Pf_ prog_14_method_76_code [(0, [0x2a]), (1, [0x1b]), (2, [0xb6, 0x01, 0x59]), (5, [0x99, 0x00, 0x2d]), (8, [0x1c]), (9, [0xb8, 0x01, 0x47]), (12, [0x99, 0x00, 0x26]), (15, [0x1d]), (16, [0x03]), (17, [0x2a]), (18, [0xb4, 0x01, 0x56]), (21, [0xb8, 0x01, 0x43]), (24, [0x99, 0x00, 0x1a]), (27, [0x15, 0x04]), (29, [0x1d]), (30, [0x2a]), (31, [0xb4, 0x01, 0x56]), (34, [0xb8, 0x01, 0x43]), (37, [0x99, 0x00, 0x0d]), (40, [0x15, 0x04]), (42, [0x1d]), (43, [0x64]), (44, [0x11, 0x05, 0xa0]), (47, [0xa4, 0x00, 0x05])] := pf_ok prog_14_method_76_code _ 0 (by decide +kernel)
theorem d_X12_complain_0 : decode prog_14_method_76_code 0 = .ok (.aload_n 0, 1) := gq_0 db00f_65 eb_0
theorem d_X12_complain_1 : decode prog_14_method_76_code 1 = .ok (.iload_n 1, 1) := gq_1 db00f_65 eb_9
theorem d_X12_complain_2 : decode prog_14_method_76_code 2 = .ok (.invokevirtual 345, 3) := gq_2 db00f_65 eb_930
theorem d_X12_complain_5 : decode prog_14_method_76_code 5 = .ok (.ifCond .eq 45, 3) := gq_3 db00f_65 eb_1119
theorem d_X12_complain_8 : decode prog_14_method_76_code 8 = .ok (.iload_n 2, 1) := gq_4 db00f_65 eb_13
theorem d_X12_complain_9 : decode prog_14_method_76_code 9 = .ok (.invokestatic 327, 3) := gq_5 db00f_65 eb_914
theorem d_X12_complain_12 : decode prog_14_method_76_code 12 = .ok (.ifCond .eq 38, 3) := gq_6 db00f_65 eb_1094
theorem d_X12_complain_15 : decode prog_14_method_76_code 15 = .ok (.iload_n 3, 1) := gq_7 db00f_65 eb_29
theorem d_X12_complain_16 : decode prog_14_method_76_code 16 = .ok (.iconst 0, 1) := gq_8 db00f_65 eb_21
theorem d_X12_complain_17 : decode prog_14_method_76_code 17 = .ok (.aload_n 0, 1) := gq_9 db00f_65 eb_0
theorem d_X12_complain_18 : decode prog_14_method_76_code 18 = .ok (.getfield 342, 3) := gq_10 db00f_65 eb_928
theorem d_X12_complain_21 : decode prog_14_method_76_code 21 = .ok (.invokestatic 323, 3) := gq_11 db00f_65 eb_913
theorem d_X12_complain_24 : decode prog_14_method_76_code 24 = .ok (.ifCond .eq 26, 3) := gq_12 db00f_65 eb_277
theorem d_X12_complain_27 : decode prog_14_method_76_code 27 = .ok (.iload 4, 2) := gq_13 db00f_65 eb_76
theorem d_X12_complain_29 : decode prog_14_method_76_code 29 = .ok (.iload_n 3, 1) := gq_14 db00f_65 eb_29
theorem d_X12_complain_30 : decode prog_14_method_76_code 30 = .ok (.aload_n 0, 1) := gq_15 db00f_65 eb_0
theorem d_X12_complain_31 : decode prog_14_method_76_code 31 = .ok (.getfield 342, 3) := gq_16 db00f_65 eb_928
theorem d_X12_complain_34 : decode prog_14_method_76_code 34 = .ok (.invokestatic 323, 3) := gq_17 db00f_65 eb_913
theorem d_X12_complain_37 : decode prog_14_method_76_code 37 = .ok (.ifCond .eq 13, 3) := gq_18 db00f_65 eb_119
theorem d_X12_complain_40 : decode prog_14_method_76_code 40 = .ok (.iload 4, 2) := gq_19 db00f_65 eb_76
theorem d_X12_complain_42 : decode prog_14_method_76_code 42 = .ok (.iload_n 3, 1) := gq_20 db00f_65 eb_29
theorem d_X12_complain_43 : decode prog_14_method_76_code 43 = .ok (.isub, 1) := gq_21 db00f_65 eb_48
theorem d_X12_complain_44 : decode prog_14_method_76_code 44 = .ok (.sipush 1440, 3) := gq_22 db00f_65 eb_289
theorem d_X12_complain_47 : decode prog_14_method_76_code 47 = .ok (.if_icmp .le 5, 3) := gq_23 db00f_65 eb_334
theorem db00f_66 : Pf_ prog_14_method_76_code [(50, [0x02]), (51, [0xac]), (52, [0x03]), (53, [0x36, 0x05]), (55, [0x1d]), (56, [0x2a]), (57, [0xb4, 0x00, 0x1f]), (60, [0x1b]), (61, [0x2e]), (62, [0xb8, 0x02, 0x30]), (65, [0x36, 0x06]), (67, [0x15, 0x06]), (69, [0x15, 0x04]), (71, [0xa3, 0x00, 0x2d]), (74, [0x2a]), (75, [0x1b]), (76, [0x15, 0x06]), (78, [0xb6, 0x02, 0x2d]), (81, [0x1c]), (82, [0xa0, 0x00, 0x05]), (85, [0x04]), (86, [0xac]), (87, [0x15, 0x05]), (89, [0x9a, 0x00, 0x0e])] := pf_ok prog_14_method_76_code _ 50 (by decide +kernel)
theorem d_X12_complain_50 : decode prog_14_method_76_code 50 = .ok (.iconst (-1), 1) := gq_0 db00f_66 eb_26
theorem d_X12_complain_51 : decode prog_14_method_76_code 51 = .ok (.ireturn, 1) := gq_1 db00f_66 eb_15
theorem d_X12_complain_52 : decode prog_14_method_76_code 52 = .ok (.iconst 0, 1) := gq_2 db00f_66 eb_21
theorem d_X12_complain_53 : decode prog_14_method_76_code 53 = .ok (.istore 5, 2) := gq_3 db00f_66 eb_134
theorem d_X12_complain_55 : decode prog_14_method_76_code 55 = .ok (.iload_n 3, 1) := gq_4 db00f_66 eb_29
theorem d_X12_complain_56 : decode prog_14_method_76_code 56 = .ok (.aload_n 0, 1) := gq_5 db00f_66 eb_0
theorem d_X12_complain_57 : decode prog_14_method_76_code 57 = .ok (.getfield 31, 3) := gq_6 db00f_66 eb_30
theorem d_X12_complain_60 : decode prog_14_method_76_code 60 = .ok (.iload_n 1, 1) := gq_7 db00f_66 eb_9
theorem d_X12_complain_61 : decode prog_14_method_76_code 61 = .ok (.iaload, 1) := gq_8 db00f_66 eb_37
theorem d_X12_complain_62 : decode prog_14_method_76_code 62 = .ok (.invokestatic 560, 3) := gq_9 db00f_66 eb_1120
theorem d_X12_complain_65 : decode prog_14_method_76_code 65 = .ok (.istore 6, 2) := gq_10 db00f_66 eb_58
theorem d_X12_complain_67 : decode prog_14_method_76_code 67 = .ok (.iload 6, 2) := gq_11 db00f_66 eb_75
theorem d_X12_complain_69 : decode prog_14_method_76_code 69 = .ok (.iload 4, 2) := gq_12 db00f_66 eb_76
theorem d_X12_complain_71 : decode prog_14_method_76_code 71 = .ok (.if_icmp .gt 45, 3) := gq_13 db00f_66 eb_1121
theorem d_X12_complain_74 : decode prog_14_method_76_code 74 = .ok (.aload_n 0, 1) := gq_14 db00f_66 eb_0
theorem d_X12_complain_75 : decode prog_14_method_76_code 75 = .ok (.iload_n 1, 1) := gq_15 db00f_66 eb_9
theorem d_X12_complain_76 : decode prog_14_method_76_code 76 = .ok (.iload 6, 2) := gq_16 db00f_66 eb_75
theorem d_X12_complain_78 : decode prog_14_method_76_code 78 = .ok (.invokevirtual 557, 3) := gq_17 db00f_66 eb_1118
theorem d_X12_complain_81 : decode prog_14_method_76_code 81 = .ok (.iload_n 2, 1) := gq_18 db00f_66 eb_13
theorem d_X12_complain_82 : decode prog_14_method_76_code 82 = .ok (.if_icmp .ne 5, 3) := gq_19 db00f_66 eb_479
theorem d_X12_complain_85 : decode prog_14_method_76_code 85 = .ok (.iconst 1, 1) := gq_20 db00f_66 eb_19
theorem d_X12_complain_86 : decode prog_14_method_76_code 86 = .ok (.ireturn, 1) := gq_21 db00f_66 eb_15
theorem d_X12_complain_87 : decode prog_14_method_76_code 87 = .ok (.iload 5, 2) := gq_22 db00f_66 eb_125
theorem d_X12_complain_89 : decode prog_14_method_76_code 89 = .ok (.ifCond .ne 14, 3) := gq_23 db00f_66 eb_1122
theorem db00f_67 : Pf_ prog_14_method_76_code [(92, [0x2a]), (93, [0x1b]), (94, [0x15, 0x06]), (96, [0xb6, 0x02, 0x2d]), (99, [0x02]), (100, [0xa0, 0x00, 0x07]), (103, [0x04]), (104, [0xa7, 0x00, 0x04]), (107, [0x03]), (108, [0x36, 0x05]), (110, [0x84, 0x06, 0x01]), (113, [0xa7, 0xff, 0xd2]), (116, [0x15, 0x05]), (118, [0x99, 0x00, 0x07]), (121, [0x05]), (122, [0xa7, 0x00, 0x04]), (125, [0x03]), (126, [0xac])] := pf_ok prog_14_method_76_code _ 92 (by decide +kernel)
theorem d_X12_complain_92 : decode prog_14_method_76_code 92 = .ok (.aload_n 0, 1) := gq_0 db00f_67 eb_0
theorem d_X12_complain_93 : decode prog_14_method_76_code 93 = .ok (.iload_n 1, 1) := gq_1 db00f_67 eb_9
theorem d_X12_complain_94 : decode prog_14_method_76_code 94 = .ok (.iload 6, 2) := gq_2 db00f_67 eb_75
theorem d_X12_complain_96 : decode prog_14_method_76_code 96 = .ok (.invokevirtual 557, 3) := gq_3 db00f_67 eb_1118
theorem d_X12_complain_99 : decode prog_14_method_76_code 99 = .ok (.iconst (-1), 1) := gq_4 db00f_67 eb_26
theorem d_X12_complain_100 : decode prog_14_method_76_code 100 = .ok (.if_icmp .ne 7, 3) := gq_5 db00f_67 eb_135
theorem d_X12_complain_103 : decode prog_14_method_76_code 103 = .ok (.iconst 1, 1) := gq_6 db00f_67 eb_19
theorem d_X12_complain_104 : decode prog_14_method_76_code 104 = .ok (.goto 4, 3) := gq_7 db00f_67 eb_20
theorem d_X12_complain_107 : decode prog_14_method_76_code 107 = .ok (.iconst 0, 1) := gq_8 db00f_67 eb_21
theorem d_X12_complain_108 : decode prog_14_method_76_code 108 = .ok (.istore 5, 2) := gq_9 db00f_67 eb_134
theorem d_X12_complain_110 : decode prog_14_method_76_code 110 = .ok (.iinc 6 1, 3) := gq_10 db00f_67 eb_72
theorem d_X12_complain_113 : decode prog_14_method_76_code 113 = .ok (.goto (-46), 3) := gq_11 db00f_67 eb_1123
theorem d_X12_complain_116 : decode prog_14_method_76_code 116 = .ok (.iload 5, 2) := gq_12 db00f_67 eb_125
theorem d_X12_complain_118 : decode prog_14_method_76_code 118 = .ok (.ifCond .eq 7, 3) := gq_13 db00f_67 eb_123
theorem d_X12_complain_121 : decode prog_14_method_76_code 121 = .ok (.iconst 2, 1) := gq_14 db00f_67 eb_10
theorem d_X12_complain_122 : decode prog_14_method_76_code 122 = .ok (.goto 4, 3) := gq_15 db00f_67 eb_20
theorem d_X12_complain_125 : decode prog_14_method_76_code 125 = .ok (.iconst 0, 1) := gq_16 db00f_67 eb_21
theorem d_X12_complain_126 : decode prog_14_method_76_code 126 = .ok (.ireturn, 1) := gq_17 db00f_67 eb_15
theorem db00f_68 : Pf_ prog_14_method_77_code [(0, [0x1b]), (1, [0x03]), (2, [0x10, 0x09]), (4, [0xb8, 0x01, 0x43]), (7, [0x99, 0x00, 0x35]), (10, [0x1c]), (11, [0xb8, 0x01, 0x47]), (14, [0x99, 0x00, 0x2e]), (17, [0x1d]), (18, [0x03]), (19, [0x11, 0x4e, 0x20]), (22, [0xb8, 0x01, 0x43]), (25, [0x99, 0x00, 0x23]), (28, [0x15, 0x04]), (30, [0x1d]), (31, [0x11, 0x4e, 0x20]), (34, [0xb8, 0x01, 0x43]), (37, [0x99, 0x00, 0x17]), (40, [0x15, 0x05]), (42, [0x04]), (43, [0x10, 0x09]), (45, [0xb8, 0x01, 0x43]), (48, [0x99, 0x00, 0x0c]), (51, [0x2a])] := pf_ok prog_14_method_77_code _ 0 (by decide +kernel)
theorem d_X12_find_0 : decode prog_14_method_77_code 0 = .ok (.iload_n 1, 1) := gq_0 db00f_68 eb_9
theorem d_X12_find_1 : decode prog_14_method_77_code 1 = .ok (.iconst 0, 1) := gq_1 db00f_68 eb_21
theorem d_X12_find_2 : decode prog_14_method_77_code 2 = .ok (.bipush 9, 2) := gq_2 db00f_68 eb_287
theorem d_X12_find_4 : decode prog_14_method_77_code 4 = .ok (.invokestatic 323, 3) := gq_3 db00f_68 eb_913
theorem d_X12_find_7 : decode prog_14_method_77_code 7 = .ok (.ifCond .eq 53, 3) := gq_4 db00f_68 eb_462
theorem d_X12_find_10 : decode prog_14_method_77_code 10 = .ok (.iload_n 2, 1) := gq_5 db00f_68 eb_13
theorem d_X12_find_11 : decode prog_14_method_77_code 11 = .ok (.invokestatic 327, 3) := gq_6 db00f_68 eb_914
theorem d_X12_find_14 : decode prog_14_method_77_code 14 = .ok (.ifCond .eq 46, 3) := gq_7 db00f_68 eb_1124
theorem d_X12_find_17 : decode prog_14_method_77_code 17 = .ok (.iload_n 3, 1) := gq_8 db00f_68 eb_29
theorem d_X12_find_18 : decode prog_14_method_77_code 18 = .ok (.iconst 0, 1) := gq_9 db00f_68 eb_21
theorem d_X12_find_19 : decode prog_14_method_77_code 19 = .ok (.sipush 20000, 3) := gq_10 db00f_68 eb_656
theorem d_X12_find_22 : decode prog_14_method_77_code 22 = .ok (.invokestatic 323, 3) := gq_11 db00f_68 eb_913
theorem d_X12_find_25 : decode prog_14_method_77_code 25 = .ok (.ifCond .eq 35, 3) := gq_12 db00f_68 eb_354
theorem d_X12_find_28 : decode prog_14_method_77_code 28 = .ok (.iload 4, 2) := gq_13 db00f_68 eb_76
theorem d_X12_find_30 : decode prog_14_method_77_code 30 = .ok (.iload_n 3, 1) := gq_14 db00f_68 eb_29
theorem d_X12_find_31 : decode prog_14_method_77_code 31 = .ok (.sipush 20000, 3) := gq_15 db00f_68 eb_656
theorem d_X12_find_34 : decode prog_14_method_77_code 34 = .ok (.invokestatic 323, 3) := gq_16 db00f_68 eb_913
theorem d_X12_find_37 : decode prog_14_method_77_code 37 = .ok (.ifCond .eq 23, 3) := gq_17 db00f_68 eb_204
theorem d_X12_find_40 : decode prog_14_method_77_code 40 = .ok (.iload 5, 2) := gq_18 db00f_68 eb_125
theorem d_X12_find_42 : decode prog_14_method_77_code 42 = .ok (.iconst 1, 1) := gq_19 db00f_68 eb_19
theorem d_X12_find_43 : decode prog_14_method_77_code 43 = .ok (.bipush 9, 2) := gq_20 db00f_68 eb_287
theorem d_X12_find_45 : decode prog_14_method_77_code 45 = .ok (.invokestatic 323, 3) := gq_21 db00f_68 eb_913
theorem d_X12_find_48 : decode prog_14_method_77_code 48 = .ok (.ifCond .eq 12, 3) := gq_22 db00f_68 eb_50
theorem d_X12_find_51 : decode prog_14_method_77_code 51 = .ok (.aload_n 0, 1) := gq_23 db00f_68 eb_0
theorem db00f_69 : Pf_ prog_14_method_77_code [(52, [0xb4, 0x02, 0x32]), (55, [0x10, 0x50]), (57, [0xa0, 0x00, 0x05]), (60, [0x02]), (61, [0xac]), (62, [0x2a]), (63, [0xb4, 0x00, 0xa0]), (66, [0x2a]), (67, [0xb4, 0x02, 0x32]), (70, [0x1b]), (71, [0x4f]), (72, [0x2a]), (73, [0xb4, 0x00, 0xa3]), (76, [0x2a]), (77, [0xb4, 0x02, 0x32]), (80, [0x1c]), (81, [0x4f]), (82, [0x2a]), (83, [0xb4, 0x00, 0xa6]), (86, [0x2a]), (87, [0xb4, 0x02, 0x32]), (90, [0x1d]), (91, [0x4f]), (92, [0x2a])] := pf_ok prog_14_method_77_code _ 52 (by decide +kernel)
theorem d_X12_find_52 : decode prog_14_method_77_code 52 = .ok (.getfield 562, 3) := gq_0 db00f_69 eb_1125
theorem d_X12_find_55 : decode prog_14_method_77_code 55 = .ok (.bipush 80, 2) := gq_1 db00f_69 eb_263
theorem d_X12_find_57 : decode prog_14_method_77_code 57 = .ok (.if_icmp .ne 5, 3) := gq_2 db00f_69 eb_479
theorem d_X12_find_60 : decode prog_14_method_77_code 60 = .ok (.iconst (-1), 1) := gq_3 db00f_69 eb_26
theorem d_X12_find_61 : decode prog_14_method_77_code 61 = .ok (.ireturn, 1) := gq_4 db00f_69 eb_15
theorem d_X12_find_62 : decode prog_14_method_77_code 62 = .ok (.aload_n 0, 1) := gq_5 db00f_69 eb_0
theorem d_X12_find_63 : decode prog_14_method_77_code 63 = .ok (.getfield 160, 3) := gq_6 db00f_69 eb_1126
theorem d_X12_find_66 : decode prog_14_method_77_code 66 = .ok (.aload_n 0, 1) := gq_7 db00f_69 eb_0
theorem d_X12_find_67 : decode prog_14_method_77_code 67 = .ok (.getfield 562, 3) := gq_8 db00f_69 eb_1125
theorem d_X12_find_70 : decode prog_14_method_77_code 70 = .ok (.iload_n 1, 1) := gq_9 db00f_69 eb_9
theorem d_X12_find_71 : decode prog_14_method_77_code 71 = .ok (.iastore, 1) := gq_10 db00f_69 eb_38
theorem d_X12_find_72 : decode prog_14_method_77_code 72 = .ok (.aload_n 0, 1) := gq_11 db00f_69 eb_0
theorem d_X12_find_73 : decode prog_14_method_77_code 73 = .ok (.getfield 163, 3) := gq_12 db00f_69 eb_1127
theorem d_X12_find_76 : decode prog_14_method_77_code 76 = .ok (.aload_n 0, 1) := gq_13 db00f_69 eb_0
theorem d_X12_find_77 : decode prog_14_method_77_code 77 = .ok (.getfield 562, 3) := gq_14 db00f_69 eb_1125
theorem d_X12_find_80 : decode prog_14_method_77_code 80 = .ok (.iload_n 2, 1) := gq_15 db00f_69 eb_13
theorem d_X12_find_81 : decode prog_14_method_77_code 81 = .ok (.iastore, 1) := gq_16 db00f_69 eb_38
theorem d_X12_find_82 : decode prog_14_method_77_code 82 = .ok (.aload_n 0, 1) := gq_17 db00f_69 eb_0
theorem d_X12_find_83 : decode prog_14_method_77_code 83 = .ok (.getfield 166, 3) := gq_18 db00f_69 eb_1128
theorem d_X12_find_86 : decode prog_14_method_77_code 86 = .ok (.aload_n 0, 1) := gq_19 db00f_69 eb_0
theorem d_X12_find_87 : decode prog_14_method_77_code 87 = .ok (.getfield 562, 3) := gq_20 db00f_69 eb_1125
theorem d_X12_find_90 : decode prog_14_method_77_code 90 = .ok (.iload_n 3, 1) := gq_21 db00f_69 eb_29
theorem d_X12_find_91 : decode prog_14_method_77_code 91 = .ok (.iastore, 1) := gq_22 db00f_69 eb_38
theorem d_X12_find_92 : decode prog_14_method_77_code 92 = .ok (.aload_n 0, 1) := gq_23 db00f_69 eb_0
theorem db00f_70 : Pf_ prog_14_method_77_code [(93, [0xb4, 0x00, 0xa9]), (96, [0x2a]), (97, [0xb4, 0x02, 0x32]), (100, [0x15, 0x04]), (102, [0x4f]), (103, [0x2a]), (104, [0xb4, 0x00, 0xac]), (107, [0x2a]), (108, [0xb4, 0x02, 0x32]), (111, [0x15, 0x05]), (113, [0x4f]), (114, [0x2a]), (115, [0x59]), (116, [0xb4, 0x02, 0x32]), (119, [0x04]), (120, [0x60]), (121, [0xb5, 0x02, 0x32]), (124, [0x2a]), (125, [0xb4, 0x02, 0x32]), (128, [0x04]), (129, [0x64]), (130, [0xac])] := pf_ok prog_14_method_77_code _ 93 (by decide +kernel)
theorem d_X12_find_93 : decode prog_14_method_77_code 93 = .ok (.getfield 169, 3) := gq_0 db00f_70 eb_1129
theorem d_X12_find_96 : decode prog_14_method_77_code 96 = .ok (.aload_n 0, 1) := gq_1 db00f_70 eb_0
theorem d_X12_find_97 : decode prog_14_method_77_code 97 = .ok (.getfield 562, 3) := gq_2 db00f_70 eb_1125
theorem d_X12_find_100 : decode prog_14_method_77_code 100 = .ok (.iload 4, 2) := gq_3 db00f_70 eb_76
theorem d_X12_find_102 : decode prog_14_method_77_code 102 = .ok (.iastore, 1) := gq_4 db00f_70 eb_38
theorem d_X12_find_103 : decode prog_14_method_77_code 103 = .ok (.aload_n 0, 1) := gq_5 db00f_70 eb_0
theorem d_X12_find_104 : decode prog_14_method_77_code 104 = .ok (.getfield 172, 3) := gq_6 db00f_70 eb_1130
theorem d_X12_find_107 : decode prog_14_method_77_code 107 = .ok (.aload_n 0, 1) := gq_7 db00f_70 eb_0
theorem d_X12_find_108 : decode prog_14_method_77_code 108 = .ok (.getfield 562, 3) := gq_8 db00f_70 eb_1125
theorem d_X12_find_111 : decode prog_14_method_77_code 111 = .ok (.iload 5, 2) := gq_9 db00f_70 eb_125
theorem d_X12_find_113 : decode prog_14_method_77_code 113 = .ok (.iastore, 1) := gq_10 db00f_70 eb_38
theorem d_X12_find_114 : decode prog_14_method_77_code 114 = .ok (.aload_n 0, 1) := gq_11 db00f_70 eb_0
theorem d_X12_find_115 : decode prog_14_method_77_code 115 = .ok (.dup, 1) := gq_12 db00f_70 eb_46
theorem d_X12_find_116 : decode prog_14_method_77_code 116 = .ok (.getfield 562, 3) := gq_13 db00f_70 eb_1125
theorem d_X12_find_119 : decode prog_14_method_77_code 119 = .ok (.iconst 1, 1) := gq_14 db00f_70 eb_19
theorem d_X12_find_120 : decode prog_14_method_77_code 120 = .ok (.iadd, 1) := gq_15 db00f_70 eb_35
theorem d_X12_find_121 : decode prog_14_method_77_code 121 = .ok (.putfield 562, 3) := gq_16 db00f_70 eb_1131
theorem d_X12_find_124 : decode prog_14_method_77_code 124 = .ok (.aload_n 0, 1) := gq_17 db00f_70 eb_0
theorem d_X12_find_125 : decode prog_14_method_77_code 125 = .ok (.getfield 562, 3) := gq_18 db00f_70 eb_1125
theorem d_X12_find_128 : decode prog_14_method_77_code 128 = .ok (.iconst 1, 1) := gq_19 db00f_70 eb_19
theorem d_X12_find_129 : decode prog_14_method_77_code 129 = .ok (.isub, 1) := gq_20 db00f_70 eb_48
theorem d_X12_find_130 : decode prog_14_method_77_code 130 = .ok (.ireturn, 1) := gq_21 db00f_70 eb_15
theorem db00f_71 : Pf_ prog_14_method_78_code [(0, [0x13, 0x02, 0x35]), (3, [0x1a]), (4, [0xb6, 0x02, 0x37]), (7, [0xac])] := pf_ok prog_14_method_78_code _ 0 (by decide +kernel)
theorem d_X12_letterFor_0 : decode prog_14_method_78_code 0 = .ok (.ldc_w 565, 3) := gq_0 db00f_71 eb_1132
theorem d_X12_letterFor_3 : decode prog_14_method_78_code 3 = .ok (.iload_n 0, 1) := gq_1 db00f_71 eb_8
theorem d_X12_letterFor_4 : decode prog_14_method_78_code 4 = .ok (.invokevirtual 567, 3) := gq_2 db00f_71 eb_1133
theorem d_X12_letterFor_7 : decode prog_14_method_78_code 7 = .ok (.ireturn, 1) := gq_3 db00f_71 eb_15
theorem db00f_72 : Pf_ prog_14_method_79_code [(0, [0x03]), (1, [0x3d]), (2, [0x03]), (3, [0x3e]), (4, [0x1d]), (5, [0x2a]), (6, [0xb4, 0x01, 0x53]), (9, [0xa2, 0x00, 0x20]), (12, [0x1c]), (13, [0x2a]), (14, [0xb4, 0x00, 0x25]), (17, [0x1d]), (18, [0x2e]), (19, [0x2a]), (20, [0xb4, 0x00, 0x25]), (23, [0x1b]), (24, [0x2e]), (25, [0xa0, 0x00, 0x07]), (28, [0x04]), (29, [0xa7, 0x00, 0x04]), (32, [0x03]), (33, [0x60]), (34, [0x3d]), (35, [0x84, 0x03, 0x01])] := pf_ok prog_14_method_79_code _ 0 (by decide +kernel)
theorem d_X12_see_0 : decode prog_14_method_79_code 0 = .ok (.iconst 0, 1) := gq_0 db00f_72 eb_21
theorem d_X12_see_1 : decode prog_14_method_79_code 1 = .ok (.istore_n 2, 1) := gq_1 db00f_72 eb_27
theorem d_X12_see_2 : decode prog_14_method_79_code 2 = .ok (.iconst 0, 1) := gq_2 db00f_72 eb_21
theorem d_X12_see_3 : decode prog_14_method_79_code 3 = .ok (.istore_n 3, 1) := gq_3 db00f_72 eb_28
theorem d_X12_see_4 : decode prog_14_method_79_code 4 = .ok (.iload_n 3, 1) := gq_4 db00f_72 eb_29
theorem d_X12_see_5 : decode prog_14_method_79_code 5 = .ok (.aload_n 0, 1) := gq_5 db00f_72 eb_0
theorem d_X12_see_6 : decode prog_14_method_79_code 6 = .ok (.getfield 339, 3) := gq_6 db00f_72 eb_926
theorem d_X12_see_9 : decode prog_14_method_79_code 9 = .ok (.if_icmp .ge 32, 3) := gq_7 db00f_72 eb_304
theorem d_X12_see_12 : decode prog_14_method_79_code 12 = .ok (.iload_n 2, 1) := gq_8 db00f_72 eb_13
theorem d_X12_see_13 : decode prog_14_method_79_code 13 = .ok (.aload_n 0, 1) := gq_9 db00f_72 eb_0
theorem d_X12_see_14 : decode prog_14_method_79_code 14 = .ok (.getfield 37, 3) := gq_10 db00f_72 eb_281
theorem d_X12_see_17 : decode prog_14_method_79_code 17 = .ok (.iload_n 3, 1) := gq_11 db00f_72 eb_29
theorem d_X12_see_18 : decode prog_14_method_79_code 18 = .ok (.iaload, 1) := gq_12 db00f_72 eb_37
theorem d_X12_see_19 : decode prog_14_method_79_code 19 = .ok (.aload_n 0, 1) := gq_13 db00f_72 eb_0
theorem d_X12_see_20 : decode prog_14_method_79_code 20 = .ok (.getfield 37, 3) := gq_14 db00f_72 eb_281
theorem d_X12_see_23 : decode prog_14_method_79_code 23 = .ok (.iload_n 1, 1) := gq_15 db00f_72 eb_9
theorem d_X12_see_24 : decode prog_14_method_79_code 24 = .ok (.iaload, 1) := gq_16 db00f_72 eb_37
theorem d_X12_see_25 : decode prog_14_method_79_code 25 = .ok (.if_icmp .ne 7, 3) := gq_17 db00f_72 eb_135
theorem d_X12_see_28 : decode prog_14_method_79_code 28 = .ok (.iconst 1, 1) := gq_18 db00f_72 eb_19
theorem d_X12_see_29 : decode prog_14_method_79_code 29 = .ok (.goto 4, 3) := gq_19 db00f_72 eb_20
theorem d_X12_see_32 : decode prog_14_method_79_code 32 = .ok (.iconst 0, 1) := gq_20 db00f_72 eb_21
theorem d_X12_see_33 : decode prog_14_method_79_code 33 = .ok (.iadd, 1) := gq_21 db00f_72 eb_35
theorem d_X12_see_34 : decode prog_14_method_79_code 34 = .ok (.istore_n 2, 1) := gq_22 db00f_72 eb_27
theorem d_X12_see_35 : decode prog_14_method_79_code 35 = .ok (.iinc 3 1, 3) := gq_23 db00f_72 eb_42
theorem db00f_73 : Pf_ prog_14_method_79_code [(38, [0xa7, 0xff, 0xde]), (41, [0x03]), (42, [0x3e]), (43, [0x1d]), (44, [0x2a]), (45, [0xb4, 0x02, 0x32]), (48, [0xa2, 0x01, 0xb2]), (51, [0x2a]), (52, [0xb4, 0x00, 0xa3]), (55, [0x1d]), (56, [0x2e]), (57, [0x2a]), (58, [0xb4, 0x00, 0x25]), (61, [0x1b]), (62, [0x2e]), (63, [0xa0, 0x01, 0x9d]), (66, [0x2a]), (67, [0xb4, 0x01, 0x56]), (70, [0x2a]), (71, [0xb4, 0x00, 0xa6]), (74, [0x1d]), (75, [0x2e]), (76, [0x2a]), (77, [0xb4, 0x00, 0xa9])] := pf_ok prog_14_method_79_code _ 38 (by decide +kernel)
theorem d_X12_see_38 : decode prog_14_method_79_code 38 = .ok (.goto (-34), 3) := gq_0 db00f_73 eb_307
theorem d_X12_see_41 : decode prog_14_method_79_code 41 = .ok (.iconst 0, 1) := gq_1 db00f_73 eb_21
theorem d_X12_see_42 : decode prog_14_method_79_code 42 = .ok (.istore_n 3, 1) := gq_2 db00f_73 eb_28
theorem d_X12_see_43 : decode prog_14_method_79_code 43 = .ok (.iload_n 3, 1) := gq_3 db00f_73 eb_29
theorem d_X12_see_44 : decode prog_14_method_79_code 44 = .ok (.aload_n 0, 1) := gq_4 db00f_73 eb_0
theorem d_X12_see_45 : decode prog_14_method_79_code 45 = .ok (.getfield 562, 3) := gq_5 db00f_73 eb_1125
theorem d_X12_see_48 : decode prog_14_method_79_code 48 = .ok (.if_icmp .ge 434, 3) := gq_6 db00f_73 eb_1134
theorem d_X12_see_51 : decode prog_14_method_79_code 51 = .ok (.aload_n 0, 1) := gq_7 db00f_73 eb_0
theorem d_X12_see_52 : decode prog_14_method_79_code 52 = .ok (.getfield 163, 3) := gq_8 db00f_73 eb_1127
theorem d_X12_see_55 : decode prog_14_method_79_code 55 = .ok (.iload_n 3, 1) := gq_9 db00f_73 eb_29
theorem d_X12_see_56 : decode prog_14_method_79_code 56 = .ok (.iaload, 1) := gq_10 db00f_73 eb_37
theorem d_X12_see_57 : decode prog_14_method_79_code 57 = .ok (.aload_n 0, 1) := gq_11 db00f_73 eb_0
theorem d_X12_see_58 : decode prog_14_method_79_code 58 = .ok (.getfield 37, 3) := gq_12 db00f_73 eb_281
theorem d_X12_see_61 : decode prog_14_method_79_code 61 = .ok (.iload_n 1, 1) := gq_13 db00f_73 eb_9
theorem d_X12_see_62 : decode prog_14_method_79_code 62 = .ok (.iaload, 1) := gq_14 db00f_73 eb_37
theorem d_X12_see_63 : decode prog_14_method_79_code 63 = .ok (.if_icmp .ne 413, 3) := gq_15 db00f_73 eb_1135
theorem d_X12_see_66 : decode prog_14_method_79_code 66 = .ok (.aload_n 0, 1) := gq_16 db00f_73 eb_0
theorem d_X12_see_67 : decode prog_14_method_79_code 67 = .ok (.getfield 342, 3) := gq_17 db00f_73 eb_928
theorem d_X12_see_70 : decode prog_14_method_79_code 70 = .ok (.aload_n 0, 1) := gq_18 db00f_73 eb_0
theorem d_X12_see_71 : decode prog_14_method_79_code 71 = .ok (.getfield 166, 3) := gq_19 db00f_73 eb_1128
theorem d_X12_see_74 : decode prog_14_method_79_code 74 = .ok (.iload_n 3, 1) := gq_20 db00f_73 eb_29
theorem d_X12_see_75 : decode prog_14_method_79_code 75 = .ok (.iaload, 1) := gq_21 db00f_73 eb_37
theorem d_X12_see_76 : decode prog_14_method_79_code 76 = .ok (.aload_n 0, 1) := gq_22 db00f_73 eb_0
theorem d_X12_see_77 : decode prog_14_method_79_code 77 = .ok (.getfield 169, 3) := gq_23 db00f_73 eb_1129
theorem db00f_74 : Pf_ prog_14_method_79_code [(80, [0x1d]), (81, [0x2e]), (82, [0xb8, 0x01, 0x43]), (85, [0x99, 0x01, 0x87]), (88, [0x2a]), (89, [0xb4, 0x00, 0xaf]), (92, [0x1d]), (93, [0x33]), (94, [0x9a, 0x01, 0x7e]), (97, [0x2a]), (98, [0xb4, 0x02, 0x04]), (101, [0x11, 0x01, 0x2c]), (104, [0xa0, 0x00, 0x06]), (107, [0xa7, 0x01, 0x71]), (110, [0x03]), (111, [0x36, 0x04]), (113, [0x03]), (114, [0x36, 0x05]), (116, [0x15, 0x05]), (118, [0x2a]), (119, [0xb4, 0x02, 0x04]), (122, [0xa2, 0x00, 0x1e]), (125, [0x15, 0x04]), (127, [0x2a])] := pf_ok prog_14_method_79_code _ 80 (by decide +kernel)
theorem d_X12_see_80 : decode prog_14_method_79_code 80 = .ok (.iload_n 3, 1) := gq_0 db00f_74 eb_29
theorem d_X12_see_81 : decode prog_14_method_79_code 81 = .ok (.iaload, 1) := gq_1 db00f_74 eb_37
theorem d_X12_see_82 : decode prog_14_method_79_code 82 = .ok (.invokestatic 323, 3) := gq_2 db00f_74 eb_913
theorem d_X12_see_85 : decode prog_14_method_79_code 85 = .ok (.ifCond .eq 391, 3) := gq_3 db00f_74 eb_1136
theorem d_X12_see_88 : decode prog_14_method_79_code 88 = .ok (.aload_n 0, 1) := gq_4 db00f_74 eb_0
theorem d_X12_see_89 : decode prog_14_method_79_code 89 = .ok (.getfield 175, 3) := gq_5 db00f_74 eb_1137
theorem d_X12_see_92 : decode prog_14_method_79_code 92 = .ok (.iload_n 3, 1) := gq_6 db00f_74 eb_29
theorem d_X12_see_93 : decode prog_14_method_79_code 93 = .ok (.baload, 1) := gq_7 db00f_74 eb_248
theorem d_X12_see_94 : decode prog_14_method_79_code 94 = .ok (.ifCond .ne 382, 3) := gq_8 db00f_74 eb_1138
theorem d_X12_see_97 : decode prog_14_method_79_code 97 = .ok (.aload_n 0, 1) := gq_9 db00f_74 eb_0
theorem d_X12_see_98 : decode prog_14_method_79_code 98 = .ok (.getfield 516, 3) := gq_10 db00f_74 eb_1073
theorem d_X12_see_101 : decode prog_14_method_79_code 101 = .ok (.sipush 300, 3) := gq_11 db00f_74 eb_264
theorem d_X12_see_104 : decode prog_14_method_79_code 104 = .ok (.if_icmp .ne 6, 3) := gq_12 db00f_74 eb_40
theorem d_X12_see_107 : decode prog_14_method_79_code 107 = .ok (.goto 369, 3) := gq_13 db00f_74 eb_1139
theorem d_X12_see_110 : decode prog_14_method_79_code 110 = .ok (.iconst 0, 1) := gq_14 db00f_74 eb_21
theorem d_X12_see_111 : decode prog_14_method_79_code 111 = .ok (.istore 4, 2) := gq_15 db00f_74 eb_133
theorem d_X12_see_113 : decode prog_14_method_79_code 113 = .ok (.iconst 0, 1) := gq_16 db00f_74 eb_21
theorem d_X12_see_114 : decode prog_14_method_79_code 114 = .ok (.istore 5, 2) := gq_17 db00f_74 eb_134
theorem d_X12_see_116 : decode prog_14_method_79_code 116 = .ok (.iload 5, 2) := gq_18 db00f_74 eb_125
theorem d_X12_see_118 : decode prog_14_method_79_code 118 = .ok (.aload_n 0, 1) := gq_19 db00f_74 eb_0
theorem d_X12_see_119 : decode prog_14_method_79_code 119 = .ok (.getfield 516, 3) := gq_20 db00f_74 eb_1073
theorem d_X12_see_122 : decode prog_14_method_79_code 122 = .ok (.if_icmp .ge 30, 3) := gq_21 db00f_74 eb_247
theorem d_X12_see_125 : decode prog_14_method_79_code 125 = .ok (.iload 4, 2) := gq_22 db00f_74 eb_76
theorem d_X12_see_127 : decode prog_14_method_79_code 127 = .ok (.aload_n 0, 1) := gq_23 db00f_74 eb_0
theorem db00f_75 : Pf_ prog_14_method_79_code [(128, [0xb4, 0x00, 0xb5]), (131, [0x15, 0x05]), (133, [0x2e]), (134, [0x1d]), (135, [0xa0, 0x00, 0x07]), (138, [0x04]), (139, [0xa7, 0x00, 0x04]), (142, [0x03]), (143, [0x60]), (144, [0x36, 0x04]), (146, [0x84, 0x05, 0x01]), (149, [0xa7, 0xff, 0xdf]), (152, [0x2a]), (153, [0xb4, 0x02, 0x04]), (156, [0x36, 0x05]), (158, [0x2a]), (159, [0xb4, 0x00, 0xb2]), (162, [0x15, 0x05]), (164, [0x1b]), (165, [0x4f]), (166, [0x2a]), (167, [0xb4, 0x00, 0xb5]), (170, [0x15, 0x05]), (172, [0x1d])] := pf_ok prog_14_method_79_code _ 128 (by decide +kernel)
theorem d_X12_see_128 : decode prog_14_method_79_code 128 = .ok (.getfield 181, 3) := gq_0 db00f_75 eb_1140
theorem d_X12_see_131 : decode prog_14_method_79_code 131 = .ok (.iload 5, 2) := gq_1 db00f_75 eb_125
theorem d_X12_see_133 : decode prog_14_method_79_code 133 = .ok (.iaload, 1) := gq_2 db00f_75 eb_37
theorem d_X12_see_134 : decode prog_14_method_79_code 134 = .ok (.iload_n 3, 1) := gq_3 db00f_75 eb_29
theorem d_X12_see_135 : decode prog_14_method_79_code 135 = .ok (.if_icmp .ne 7, 3) := gq_4 db00f_75 eb_135
theorem d_X12_see_138 : decode prog_14_method_79_code 138 = .ok (.iconst 1, 1) := gq_5 db00f_75 eb_19
theorem d_X12_see_139 : decode prog_14_method_79_code 139 = .ok (.goto 4, 3) := gq_6 db00f_75 eb_20
theorem d_X12_see_142 : decode prog_14_method_79_code 142 = .ok (.iconst 0, 1) := gq_7 db00f_75 eb_21
theorem d_X12_see_143 : decode prog_14_method_79_code 143 = .ok (.iadd, 1) := gq_8 db00f_75 eb_35
theorem d_X12_see_144 : decode prog_14_method_79_code 144 = .ok (.istore 4, 2) := gq_9 db00f_75 eb_133
theorem d_X12_see_146 : decode prog_14_method_79_code 146 = .ok (.iinc 5 1, 3) := gq_10 db00f_75 eb_220
theorem d_X12_see_149 : decode prog_14_method_79_code 149 = .ok (.goto (-33), 3) := gq_11 db00f_75 eb_399
theorem d_X12_see_152 : decode prog_14_method_79_code 152 = .ok (.aload_n 0, 1) := gq_12 db00f_75 eb_0
theorem d_X12_see_153 : decode prog_14_method_79_code 153 = .ok (.getfield 516, 3) := gq_13 db00f_75 eb_1073
theorem d_X12_see_156 : decode prog_14_method_79_code 156 = .ok (.istore 5, 2) := gq_14 db00f_75 eb_134
theorem d_X12_see_158 : decode prog_14_method_79_code 158 = .ok (.aload_n 0, 1) := gq_15 db00f_75 eb_0
theorem d_X12_see_159 : decode prog_14_method_79_code 159 = .ok (.getfield 178, 3) := gq_16 db00f_75 eb_1074
theorem d_X12_see_162 : decode prog_14_method_79_code 162 = .ok (.iload 5, 2) := gq_17 db00f_75 eb_125
theorem d_X12_see_164 : decode prog_14_method_79_code 164 = .ok (.iload_n 1, 1) := gq_18 db00f_75 eb_9
theorem d_X12_see_165 : decode prog_14_method_79_code 165 = .ok (.iastore, 1) := gq_19 db00f_75 eb_38
theorem d_X12_see_166 : decode prog_14_method_79_code 166 = .ok (.aload_n 0, 1) := gq_20 db00f_75 eb_0
theorem d_X12_see_167 : decode prog_14_method_79_code 167 = .ok (.getfield 181, 3) := gq_21 db00f_75 eb_1140
theorem d_X12_see_170 : decode prog_14_method_79_code 170 = .ok (.iload 5, 2) := gq_22 db00f_75 eb_125
theorem d_X12_see_172 : decode prog_14_method_79_code 172 = .ok (.iload_n 3, 1) := gq_23 db00f_75 eb_29
theorem db00f_76 : Pf_ prog_14_method_79_code [(173, [0x4f]), (174, [0x2a]), (175, [0xb4, 0x00, 0xb8]), (178, [0x15, 0x05]), (180, [0x2a]), (181, [0xb4, 0x01, 0x56]), (184, [0x4f]), (185, [0x10, 0x09]), (187, [0x15, 0x05]), (189, [0x68]), (190, [0x36, 0x06]), (192, [0x2a]), (193, [0xb4, 0x00, 0xc4]), (196, [0x15, 0x06]), (198, [0x2a]), (199, [0xb4, 0x00, 0xa0]), (202, [0x1d]), (203, [0x2e]), (204, [0x4f]), (205, [0x2a]), (206, [0xb4, 0x00, 0xc4]), (209, [0x15, 0x06]), (211, [0x04]), (212, [0x60])] := pf_ok prog_14_method_79_code _ 173 (by decide +kernel)
theorem d_X12_see_173 : decode prog_14_method_79_code 173 = .ok (.iastore, 1) := gq_0 db00f_76 eb_38
theorem d_X12_see_174 : decode prog_14_method_79_code 174 = .ok (.aload_n 0, 1) := gq_1 db00f_76 eb_0
theorem d_X12_see_175 : decode prog_14_method_79_code 175 = .ok (.getfield 184, 3) := gq_2 db00f_76 eb_1141
theorem d_X12_see_178 : decode prog_14_method_79_code 178 = .ok (.iload 5, 2) := gq_3 db00f_76 eb_125
theorem d_X12_see_180 : decode prog_14_method_79_code 180 = .ok (.aload_n 0, 1) := gq_4 db00f_76 eb_0
theorem d_X12_see_181 : decode prog_14_method_79_code 181 = .ok (.getfield 342, 3) := gq_5 db00f_76 eb_928
theorem d_X12_see_184 : decode prog_14_method_79_code 184 = .ok (.iastore, 1) := gq_6 db00f_76 eb_38
theorem d_X12_see_185 : decode prog_14_method_79_code 185 = .ok (.bipush 9, 2) := gq_7 db00f_76 eb_287
theorem d_X12_see_187 : decode prog_14_method_79_code 187 = .ok (.iload 5, 2) := gq_8 db00f_76 eb_125
theorem d_X12_see_189 : decode prog_14_method_79_code 189 = .ok (.imul, 1) := gq_9 db00f_76 eb_34
theorem d_X12_see_190 : decode prog_14_method_79_code 190 = .ok (.istore 6, 2) := gq_10 db00f_76 eb_58
theorem d_X12_see_192 : decode prog_14_method_79_code 192 = .ok (.aload_n 0, 1) := gq_11 db00f_76 eb_0
theorem d_X12_see_193 : decode prog_14_method_79_code 193 = .ok (.getfield 196, 3) := gq_12 db00f_76 eb_1142
theorem d_X12_see_196 : decode prog_14_method_79_code 196 = .ok (.iload 6, 2) := gq_13 db00f_76 eb_75
theorem d_X12_see_198 : decode prog_14_method_79_code 198 = .ok (.aload_n 0, 1) := gq_14 db00f_76 eb_0
theorem d_X12_see_199 : decode prog_14_method_79_code 199 = .ok (.getfield 160, 3) := gq_15 db00f_76 eb_1126
theorem d_X12_see_202 : decode prog_14_method_79_code 202 = .ok (.iload_n 3, 1) := gq_16 db00f_76 eb_29
theorem d_X12_see_203 : decode prog_14_method_79_code 203 = .ok (.iaload, 1) := gq_17 db00f_76 eb_37
theorem d_X12_see_204 : decode prog_14_method_79_code 204 = .ok (.iastore, 1) := gq_18 db00f_76 eb_38
theorem d_X12_see_205 : decode prog_14_method_79_code 205 = .ok (.aload_n 0, 1) := gq_19 db00f_76 eb_0
theorem d_X12_see_206 : decode prog_14_method_79_code 206 = .ok (.getfield 196, 3) := gq_20 db00f_76 eb_1142
theorem d_X12_see_209 : decode prog_14_method_79_code 209 = .ok (.iload 6, 2) := gq_21 db00f_76 eb_75
theorem d_X12_see_211 : decode prog_14_method_79_code 211 = .ok (.iconst 1, 1) := gq_22 db00f_76 eb_19
theorem d_X12_see_212 : decode prog_14_method_79_code 212 = .ok (.iadd, 1) := gq_23 db00f_76 eb_35
theorem db00f_77 : Pf_ prog_14_method_79_code [(213, [0x2a]), (214, [0xb4, 0x00, 0xac]), (217, [0x1d]), (218, [0x2e]), (219, [0x4f]), (220, [0x2a]), (221, [0xb4, 0x00, 0xc4]), (224, [0x15, 0x06]), (226, [0x05]), (227, [0x60]), (228, [0x2a]), (229, [0xb4, 0x00, 0xa3]), (232, [0x1d]), (233, [0x2e]), (234, [0x4f]), (235, [0x2a]), (236, [0xb4, 0x00, 0xc4]), (239, [0x15, 0x06]), (241, [0x06]), (242, [0x60]), (243, [0x2a]), (244, [0xb4, 0x01, 0x56]), (247, [0x10, 0x3c]), (249, [0x6c])] := pf_ok prog_14_method_79_code _ 213 (by decide +kernel)
theorem d_X12_see_213 : decode prog_14_method_79_code 213 = .ok (.aload_n 0, 1) := gq_0 db00f_77 eb_0
theorem d_X12_see_214 : decode prog_14_method_79_code 214 = .ok (.getfield 172, 3) := gq_1 db00f_77 eb_1130
theorem d_X12_see_217 : decode prog_14_method_79_code 217 = .ok (.iload_n 3, 1) := gq_2 db00f_77 eb_29
theorem d_X12_see_218 : decode prog_14_method_79_code 218 = .ok (.iaload, 1) := gq_3 db00f_77 eb_37
theorem d_X12_see_219 : decode prog_14_method_79_code 219 = .ok (.iastore, 1) := gq_4 db00f_77 eb_38
theorem d_X12_see_220 : decode prog_14_method_79_code 220 = .ok (.aload_n 0, 1) := gq_5 db00f_77 eb_0
theorem d_X12_see_221 : decode prog_14_method_79_code 221 = .ok (.getfield 196, 3) := gq_6 db00f_77 eb_1142
theorem d_X12_see_224 : decode prog_14_method_79_code 224 = .ok (.iload 6, 2) := gq_7 db00f_77 eb_75
theorem d_X12_see_226 : decode prog_14_method_79_code 226 = .ok (.iconst 2, 1) := gq_8 db00f_77 eb_10
theorem d_X12_see_227 : decode prog_14_method_79_code 227 = .ok (.iadd, 1) := gq_9 db00f_77 eb_35
theorem d_X12_see_228 : decode prog_14_method_79_code 228 = .ok (.aload_n 0, 1) := gq_10 db00f_77 eb_0
theorem d_X12_see_229 : decode prog_14_method_79_code 229 = .ok (.getfield 163, 3) := gq_11 db00f_77 eb_1127
theorem d_X12_see_232 : decode prog_14_method_79_code 232 = .ok (.iload_n 3, 1) := gq_12 db00f_77 eb_29
theorem d_X12_see_233 : decode prog_14_method_79_code 233 = .ok (.iaload, 1) := gq_13 db00f_77 eb_37
theorem d_X12_see_234 : decode prog_14_method_79_code 234 = .ok (.iastore, 1) := gq_14 db00f_77 eb_38
theorem d_X12_see_235 : decode prog_14_method_79_code 235 = .ok (.aload_n 0, 1) := gq_15 db00f_77 eb_0
theorem d_X12_see_236 : decode prog_14_method_79_code 236 = .ok (.getfield 196, 3) := gq_16 db00f_77 eb_1142
theorem d_X12_see_239 : decode prog_14_method_79_code 239 = .ok (.iload 6, 2) := gq_17 db00f_77 eb_75
theorem d_X12_see_241 : decode prog_14_method_79_code 241 = .ok (.iconst 3, 1) := gq_18 db00f_77 eb_54
theorem d_X12_see_242 : decode prog_14_method_79_code 242 = .ok (.iadd, 1) := gq_19 db00f_77 eb_35
theorem d_X12_see_243 : decode prog_14_method_79_code 243 = .ok (.aload_n 0, 1) := gq_20 db00f_77 eb_0
theorem d_X12_see_244 : decode prog_14_method_79_code 244 = .ok (.getfield 342, 3) := gq_21 db00f_77 eb_928
theorem d_X12_see_247 : decode prog_14_method_79_code 247 = .ok (.bipush 60, 2) := gq_22 db00f_77 eb_290
theorem d_X12_see_249 : decode prog_14_method_79_code 249 = .ok (.idiv, 1) := gq_23 db00f_77 eb_219
theorem db00f_78 : Pf_ prog_14_method_79_code [(250, [0x10, 0x18]), (252, [0x70]), (253, [0x4f]), (254, [0x2a]), (255, [0xb4, 0x00, 0xc4]), (258, [0x15, 0x06]), (260, [0x07]), (261, [0x60]), (262, [0x2a]), (263, [0xb4, 0x01, 0x56]), (266, [0x11, 0x05, 0xa0]), (269, [0x6c]), (270, [0x4f]), (271, [0x2a]), (272, [0xb4, 0x00, 0xc4]), (275, [0x15, 0x06]), (277, [0x08]), (278, [0x60]), (279, [0x2a]), (280, [0x1b]), (281, [0x2a]), (282, [0xb4, 0x01, 0x56]), (285, [0x11, 0x05, 0xa0]), (288, [0x6c])] := pf_ok prog_14_method_79_code _ 250 (by decide +kernel)
theorem d_X12_see_250 : decode prog_14_method_79_code 250 = .ok (.bipush 24, 2) := gq_0 db00f_78 eb_441
theorem d_X12_see_252 : decode prog_14_method_79_code 252 = .ok (.irem, 1) := gq_1 db00f_78 eb_218
theorem d_X12_see_253 : decode prog_14_method_79_code 253 = .ok (.iastore, 1) := gq_2 db00f_78 eb_38
theorem d_X12_see_254 : decode prog_14_method_79_code 254 = .ok (.aload_n 0, 1) := gq_3 db00f_78 eb_0
theorem d_X12_see_255 : decode prog_14_method_79_code 255 = .ok (.getfield 196, 3) := gq_4 db00f_78 eb_1142
theorem d_X12_see_258 : decode prog_14_method_79_code 258 = .ok (.iload 6, 2) := gq_5 db00f_78 eb_75
theorem d_X12_see_260 : decode prog_14_method_79_code 260 = .ok (.iconst 4, 1) := gq_6 db00f_78 eb_291
theorem d_X12_see_261 : decode prog_14_method_79_code 261 = .ok (.iadd, 1) := gq_7 db00f_78 eb_35
theorem d_X12_see_262 : decode prog_14_method_79_code 262 = .ok (.aload_n 0, 1) := gq_8 db00f_78 eb_0
theorem d_X12_see_263 : decode prog_14_method_79_code 263 = .ok (.getfield 342, 3) := gq_9 db00f_78 eb_928
theorem d_X12_see_266 : decode prog_14_method_79_code 266 = .ok (.sipush 1440, 3) := gq_10 db00f_78 eb_289
theorem d_X12_see_269 : decode prog_14_method_79_code 269 = .ok (.idiv, 1) := gq_11 db00f_78 eb_219
theorem d_X12_see_270 : decode prog_14_method_79_code 270 = .ok (.iastore, 1) := gq_12 db00f_78 eb_38
theorem d_X12_see_271 : decode prog_14_method_79_code 271 = .ok (.aload_n 0, 1) := gq_13 db00f_78 eb_0
theorem d_X12_see_272 : decode prog_14_method_79_code 272 = .ok (.getfield 196, 3) := gq_14 db00f_78 eb_1142
theorem d_X12_see_275 : decode prog_14_method_79_code 275 = .ok (.iload 6, 2) := gq_15 db00f_78 eb_75
theorem d_X12_see_277 : decode prog_14_method_79_code 277 = .ok (.iconst 5, 1) := gq_16 db00f_78 eb_122
theorem d_X12_see_278 : decode prog_14_method_79_code 278 = .ok (.iadd, 1) := gq_17 db00f_78 eb_35
theorem d_X12_see_279 : decode prog_14_method_79_code 279 = .ok (.aload_n 0, 1) := gq_18 db00f_78 eb_0
theorem d_X12_see_280 : decode prog_14_method_79_code 280 = .ok (.iload_n 1, 1) := gq_19 db00f_78 eb_9
theorem d_X12_see_281 : decode prog_14_method_79_code 281 = .ok (.aload_n 0, 1) := gq_20 db00f_78 eb_0
theorem d_X12_see_282 : decode prog_14_method_79_code 282 = .ok (.getfield 342, 3) := gq_21 db00f_78 eb_928
theorem d_X12_see_285 : decode prog_14_method_79_code 285 = .ok (.sipush 1440, 3) := gq_22 db00f_78 eb_289
theorem d_X12_see_288 : decode prog_14_method_79_code 288 = .ok (.idiv, 1) := gq_23 db00f_78 eb_219
theorem db00f_79 : Pf_ prog_14_method_79_code [(289, [0x2a]), (290, [0xb4, 0x01, 0x56]), (293, [0xb6, 0x01, 0x62]), (296, [0x4f]), (297, [0x2a]), (298, [0xb4, 0x00, 0xc4]), (301, [0x15, 0x06]), (303, [0x10, 0x06]), (305, [0x60]), (306, [0x1c]), (307, [0x4f]), (308, [0x2a]), (309, [0xb4, 0x00, 0xc4]), (312, [0x15, 0x06]), (314, [0x10, 0x07]), (316, [0x60]), (317, [0x15, 0x04]), (319, [0x4f]), (320, [0x2a]), (321, [0xb4, 0x00, 0xc4]), (324, [0x15, 0x06]), (326, [0x10, 0x08]), (328, [0x60]), (329, [0x2a])] := pf_ok prog_14_method_79_code _ 289 (by decide +kernel)
theorem d_X12_see_289 : decode prog_14_method_79_code 289 = .ok (.aload_n 0, 1) := gq_0 db00f_79 eb_0
theorem d_X12_see_290 : decode prog_14_method_79_code 290 = .ok (.getfield 342, 3) := gq_1 db00f_79 eb_928
theorem d_X12_see_293 : decode prog_14_method_79_code 293 = .ok (.invokevirtual 354, 3) := gq_2 db00f_79 eb_939
theorem d_X12_see_296 : decode prog_14_method_79_code 296 = .ok (.iastore, 1) := gq_3 db00f_79 eb_38
theorem d_X12_see_297 : decode prog_14_method_79_code 297 = .ok (.aload_n 0, 1) := gq_4 db00f_79 eb_0
theorem d_X12_see_298 : decode prog_14_method_79_code 298 = .ok (.getfield 196, 3) := gq_5 db00f_79 eb_1142
theorem d_X12_see_301 : decode prog_14_method_79_code 301 = .ok (.iload 6, 2) := gq_6 db00f_79 eb_75
theorem d_X12_see_303 : decode prog_14_method_79_code 303 = .ok (.bipush 6, 2) := gq_7 db00f_79 eb_14
theorem d_X12_see_305 : decode prog_14_method_79_code 305 = .ok (.iadd, 1) := gq_8 db00f_79 eb_35
theorem d_X12_see_306 : decode prog_14_method_79_code 306 = .ok (.iload_n 2, 1) := gq_9 db00f_79 eb_13
theorem d_X12_see_307 : decode prog_14_method_79_code 307 = .ok (.iastore, 1) := gq_10 db00f_79 eb_38
theorem d_X12_see_308 : decode prog_14_method_79_code 308 = .ok (.aload_n 0, 1) := gq_11 db00f_79 eb_0
theorem d_X12_see_309 : decode prog_14_method_79_code 309 = .ok (.getfield 196, 3) := gq_12 db00f_79 eb_1142
theorem d_X12_see_312 : decode prog_14_method_79_code 312 = .ok (.iload 6, 2) := gq_13 db00f_79 eb_75
theorem d_X12_see_314 : decode prog_14_method_79_code 314 = .ok (.bipush 7, 2) := gq_14 db00f_79 eb_132
theorem d_X12_see_316 : decode prog_14_method_79_code 316 = .ok (.iadd, 1) := gq_15 db00f_79 eb_35
theorem d_X12_see_317 : decode prog_14_method_79_code 317 = .ok (.iload 4, 2) := gq_16 db00f_79 eb_76
theorem d_X12_see_319 : decode prog_14_method_79_code 319 = .ok (.iastore, 1) := gq_17 db00f_79 eb_38
theorem d_X12_see_320 : decode prog_14_method_79_code 320 = .ok (.aload_n 0, 1) := gq_18 db00f_79 eb_0
theorem d_X12_see_321 : decode prog_14_method_79_code 321 = .ok (.getfield 196, 3) := gq_19 db00f_79 eb_1142
theorem d_X12_see_324 : decode prog_14_method_79_code 324 = .ok (.iload 6, 2) := gq_20 db00f_79 eb_75
theorem d_X12_see_326 : decode prog_14_method_79_code 326 = .ok (.bipush 8, 2) := gq_21 db00f_79 eb_94
theorem d_X12_see_328 : decode prog_14_method_79_code 328 = .ok (.iadd, 1) := gq_22 db00f_79 eb_35
theorem d_X12_see_329 : decode prog_14_method_79_code 329 = .ok (.aload_n 0, 1) := gq_23 db00f_79 eb_0
theorem db00f_80 : Pf_ prog_14_method_79_code [(330, [0xb4, 0x01, 0x56]), (333, [0x2a]), (334, [0xb4, 0x00, 0xa6]), (337, [0x1d]), (338, [0x2e]), (339, [0x64]), (340, [0x4f]), (341, [0x2a]), (342, [0xb4, 0x00, 0xbb]), (345, [0x15, 0x05]), (347, [0x2a]), (348, [0x15, 0x05]), (350, [0x2a]), (351, [0xb4, 0x01, 0x56]), (354, [0xb6, 0x02, 0x3d]), (357, [0x4f]), (358, [0x2a]), (359, [0xb4, 0x00, 0xbe]), (362, [0x15, 0x05]), (364, [0x02]), (365, [0x4f]), (366, [0x2a]), (367, [0xb4, 0x00, 0xc1]), (370, [0x15, 0x05])] := pf_ok prog_14_method_79_code _ 330 (by decide +kernel)
theorem d_X12_see_330 : decode prog_14_method_79_code 330 = .ok (.getfield 342, 3) := gq_0 db00f_80 eb_928
theorem d_X12_see_333 : decode prog_14_method_79_code 333 = .ok (.aload_n 0, 1) := gq_1 db00f_80 eb_0
theorem d_X12_see_334 : decode prog_14_method_79_code 334 = .ok (.getfield 166, 3) := gq_2 db00f_80 eb_1128
theorem d_X12_see_337 : decode prog_14_method_79_code 337 = .ok (.iload_n 3, 1) := gq_3 db00f_80 eb_29
theorem d_X12_see_338 : decode prog_14_method_79_code 338 = .ok (.iaload, 1) := gq_4 db00f_80 eb_37
theorem d_X12_see_339 : decode prog_14_method_79_code 339 = .ok (.isub, 1) := gq_5 db00f_80 eb_48
theorem d_X12_see_340 : decode prog_14_method_79_code 340 = .ok (.iastore, 1) := gq_6 db00f_80 eb_38
theorem d_X12_see_341 : decode prog_14_method_79_code 341 = .ok (.aload_n 0, 1) := gq_7 db00f_80 eb_0
theorem d_X12_see_342 : decode prog_14_method_79_code 342 = .ok (.getfield 187, 3) := gq_8 db00f_80 eb_1075
theorem d_X12_see_345 : decode prog_14_method_79_code 345 = .ok (.iload 5, 2) := gq_9 db00f_80 eb_125
theorem d_X12_see_347 : decode prog_14_method_79_code 347 = .ok (.aload_n 0, 1) := gq_10 db00f_80 eb_0
theorem d_X12_see_348 : decode prog_14_method_79_code 348 = .ok (.iload 5, 2) := gq_11 db00f_80 eb_125
theorem d_X12_see_350 : decode prog_14_method_79_code 350 = .ok (.aload_n 0, 1) := gq_12 db00f_80 eb_0
theorem d_X12_see_351 : decode prog_14_method_79_code 351 = .ok (.getfield 342, 3) := gq_13 db00f_80 eb_928
theorem d_X12_see_354 : decode prog_14_method_79_code 354 = .ok (.invokevirtual 573, 3) := gq_14 db00f_80 eb_1143
theorem d_X12_see_357 : decode prog_14_method_79_code 357 = .ok (.iastore, 1) := gq_15 db00f_80 eb_38
theorem d_X12_see_358 : decode prog_14_method_79_code 358 = .ok (.aload_n 0, 1) := gq_16 db00f_80 eb_0
theorem d_X12_see_359 : decode prog_14_method_79_code 359 = .ok (.getfield 190, 3) := gq_17 db00f_80 eb_1144
theorem d_X12_see_362 : decode prog_14_method_79_code 362 = .ok (.iload 5, 2) := gq_18 db00f_80 eb_125
theorem d_X12_see_364 : decode prog_14_method_79_code 364 = .ok (.iconst (-1), 1) := gq_19 db00f_80 eb_26
theorem d_X12_see_365 : decode prog_14_method_79_code 365 = .ok (.iastore, 1) := gq_20 db00f_80 eb_38
theorem d_X12_see_366 : decode prog_14_method_79_code 366 = .ok (.aload_n 0, 1) := gq_21 db00f_80 eb_0
theorem d_X12_see_367 : decode prog_14_method_79_code 367 = .ok (.getfield 193, 3) := gq_22 db00f_80 eb_1076
theorem d_X12_see_370 : decode prog_14_method_79_code 370 = .ok (.iload 5, 2) := gq_23 db00f_80 eb_125
theorem db00f_81 : Pf_ prog_14_method_79_code [(372, [0x02]), (373, [0x4f]), (374, [0x2a]), (375, [0xb4, 0x00, 0xbb]), (378, [0x15, 0x05]), (380, [0x2e]), (381, [0x04]), (382, [0xa4, 0x00, 0x28]), (385, [0x2a]), (386, [0x2a]), (387, [0xb4, 0x00, 0x25]), (390, [0x1b]), (391, [0x2e]), (392, [0x03]), (393, [0xb6, 0x01, 0x4f]), (396, [0x36, 0x07]), (398, [0x2a]), (399, [0xb4, 0x00, 0xc1]), (402, [0x15, 0x05]), (404, [0x15, 0x07]), (406, [0x02]), (407, [0xa0, 0x00, 0x07]), (410, [0x02]), (411, [0xa7, 0x00, 0x0a])] := pf_ok prog_14_method_79_code _ 372 (by decide +kernel)
theorem d_X12_see_372 : decode prog_14_method_79_code 372 = .ok (.iconst (-1), 1) := gq_0 db00f_81 eb_26
theorem d_X12_see_373 : decode prog_14_method_79_code 373 = .ok (.iastore, 1) := gq_1 db00f_81 eb_38
theorem d_X12_see_374 : decode prog_14_method_79_code 374 = .ok (.aload_n 0, 1) := gq_2 db00f_81 eb_0
theorem d_X12_see_375 : decode prog_14_method_79_code 375 = .ok (.getfield 187, 3) := gq_3 db00f_81 eb_1075
theorem d_X12_see_378 : decode prog_14_method_79_code 378 = .ok (.iload 5, 2) := gq_4 db00f_81 eb_125
theorem d_X12_see_380 : decode prog_14_method_79_code 380 = .ok (.iaload, 1) := gq_5 db00f_81 eb_37
theorem d_X12_see_381 : decode prog_14_method_79_code 381 = .ok (.iconst 1, 1) := gq_6 db00f_81 eb_19
theorem d_X12_see_382 : decode prog_14_method_79_code 382 = .ok (.if_icmp .le 40, 3) := gq_7 db00f_81 eb_1145
theorem d_X12_see_385 : decode prog_14_method_79_code 385 = .ok (.aload_n 0, 1) := gq_8 db00f_81 eb_0
theorem d_X12_see_386 : decode prog_14_method_79_code 386 = .ok (.aload_n 0, 1) := gq_9 db00f_81 eb_0
theorem d_X12_see_387 : decode prog_14_method_79_code 387 = .ok (.getfield 37, 3) := gq_10 db00f_81 eb_281
theorem d_X12_see_390 : decode prog_14_method_79_code 390 = .ok (.iload_n 1, 1) := gq_11 db00f_81 eb_9
theorem d_X12_see_391 : decode prog_14_method_79_code 391 = .ok (.iaload, 1) := gq_12 db00f_81 eb_37
theorem d_X12_see_392 : decode prog_14_method_79_code 392 = .ok (.iconst 0, 1) := gq_13 db00f_81 eb_21
theorem d_X12_see_393 : decode prog_14_method_79_code 393 = .ok (.invokevirtual 335, 3) := gq_14 db00f_81 eb_925
theorem d_X12_see_396 : decode prog_14_method_79_code 396 = .ok (.istore 7, 2) := gq_15 db00f_81 eb_59
theorem d_X12_see_398 : decode prog_14_method_79_code 398 = .ok (.aload_n 0, 1) := gq_16 db00f_81 eb_0
theorem d_X12_see_399 : decode prog_14_method_79_code 399 = .ok (.getfield 193, 3) := gq_17 db00f_81 eb_1076
theorem d_X12_see_402 : decode prog_14_method_79_code 402 = .ok (.iload 5, 2) := gq_18 db00f_81 eb_125
theorem d_X12_see_404 : decode prog_14_method_79_code 404 = .ok (.iload 7, 2) := gq_19 db00f_81 eb_73
theorem d_X12_see_406 : decode prog_14_method_79_code 406 = .ok (.iconst (-1), 1) := gq_20 db00f_81 eb_26
theorem d_X12_see_407 : decode prog_14_method_79_code 407 = .ok (.if_icmp .ne 7, 3) := gq_21 db00f_81 eb_135
theorem d_X12_see_410 : decode prog_14_method_79_code 410 = .ok (.iconst (-1), 1) := gq_22 db00f_81 eb_26
theorem d_X12_see_411 : decode prog_14_method_79_code 411 = .ok (.goto 10, 3) := gq_23 db00f_81 eb_180
theorem db00f_82 : Pf_ prog_14_method_79_code [(414, [0x2a]), (415, [0xb4, 0x01, 0x56]), (418, [0x15, 0x07]), (420, [0x60]), (421, [0x4f]), (422, [0x2a]), (423, [0xb4, 0x00, 0xbb]), (426, [0x15, 0x05]), (428, [0x2e]), (429, [0x06]), (430, [0xa0, 0x00, 0x24]), (433, [0x2a]), (434, [0xb4, 0x00, 0xaf]), (437, [0x1d]), (438, [0x04]), (439, [0x54]), (440, [0x2a]), (441, [0xb4, 0x02, 0x40]), (444, [0x10, 0x1e]), (446, [0xa2, 0x00, 0x14]), (449, [0x2a]), (450, [0xb4, 0x00, 0xbe]), (453, [0x15, 0x05]), (455, [0x2a])] := pf_ok prog_14_method_79_code _ 414 (by decide +kernel)
theorem d_X12_see_414 : decode prog_14_method_79_code 414 = .ok (.aload_n 0, 1) := gq_0 db00f_82 eb_0
theorem d_X12_see_415 : decode prog_14_method_79_code 415 = .ok (.getfield 342, 3) := gq_1 db00f_82 eb_928
theorem d_X12_see_418 : decode prog_14_method_79_code 418 = .ok (.iload 7, 2) := gq_2 db00f_82 eb_73
theorem d_X12_see_420 : decode prog_14_method_79_code 420 = .ok (.iadd, 1) := gq_3 db00f_82 eb_35
theorem d_X12_see_421 : decode prog_14_method_79_code 421 = .ok (.iastore, 1) := gq_4 db00f_82 eb_38
theorem d_X12_see_422 : decode prog_14_method_79_code 422 = .ok (.aload_n 0, 1) := gq_5 db00f_82 eb_0
theorem d_X12_see_423 : decode prog_14_method_79_code 423 = .ok (.getfield 187, 3) := gq_6 db00f_82 eb_1075
theorem d_X12_see_426 : decode prog_14_method_79_code 426 = .ok (.iload 5, 2) := gq_7 db00f_82 eb_125
theorem d_X12_see_428 : decode prog_14_method_79_code 428 = .ok (.iaload, 1) := gq_8 db00f_82 eb_37
theorem d_X12_see_429 : decode prog_14_method_79_code 429 = .ok (.iconst 3, 1) := gq_9 db00f_82 eb_54
theorem d_X12_see_430 : decode prog_14_method_79_code 430 = .ok (.if_icmp .ne 36, 3) := gq_10 db00f_82 eb_254
theorem d_X12_see_433 : decode prog_14_method_79_code 433 = .ok (.aload_n 0, 1) := gq_11 db00f_82 eb_0
theorem d_X12_see_434 : decode prog_14_method_79_code 434 = .ok (.getfield 175, 3) := gq_12 db00f_82 eb_1137
theorem d_X12_see_437 : decode prog_14_method_79_code 437 = .ok (.iload_n 3, 1) := gq_13 db00f_82 eb_29
theorem d_X12_see_438 : decode prog_14_method_79_code 438 = .ok (.iconst 1, 1) := gq_14 db00f_82 eb_19
theorem d_X12_see_439 : decode prog_14_method_79_code 439 = .ok (.bastore, 1) := gq_15 db00f_82 eb_244
theorem d_X12_see_440 : decode prog_14_method_79_code 440 = .ok (.aload_n 0, 1) := gq_16 db00f_82 eb_0
theorem d_X12_see_441 : decode prog_14_method_79_code 441 = .ok (.getfield 576, 3) := gq_17 db00f_82 eb_1146
theorem d_X12_see_444 : decode prog_14_method_79_code 444 = .ok (.bipush 30, 2) := gq_18 db00f_82 eb_92
theorem d_X12_see_446 : decode prog_14_method_79_code 446 = .ok (.if_icmp .ge 20, 3) := gq_19 db00f_82 eb_482
theorem d_X12_see_449 : decode prog_14_method_79_code 449 = .ok (.aload_n 0, 1) := gq_20 db00f_82 eb_0
theorem d_X12_see_450 : decode prog_14_method_79_code 450 = .ok (.getfield 190, 3) := gq_21 db00f_82 eb_1144
theorem d_X12_see_453 : decode prog_14_method_79_code 453 = .ok (.iload 5, 2) := gq_22 db00f_82 eb_125
theorem d_X12_see_455 : decode prog_14_method_79_code 455 = .ok (.aload_n 0, 1) := gq_23 db00f_82 eb_0
theorem db00f_83 : Pf_ prog_14_method_79_code [(456, [0x2a]), (457, [0xb4, 0x00, 0xa0]), (460, [0x1d]), (461, [0x2e]), (462, [0xb6, 0x02, 0x43]), (465, [0x4f]), (466, [0x2a]), (467, [0x59]), (468, [0xb4, 0x02, 0x04]), (471, [0x04]), (472, [0x60]), (473, [0xb5, 0x02, 0x04]), (476, [0x84, 0x03, 0x01]), (479, [0xa7, 0xfe, 0x4c]), (482, [0xb1])] := pf_ok prog_14_method_79_code _ 456 (by decide +kernel)
theorem d_X12_see_456 : decode prog_14_method_79_code 456 = .ok (.aload_n 0, 1) := gq_0 db00f_83 eb_0
theorem d_X12_see_457 : decode prog_14_method_79_code 457 = .ok (.getfield 160, 3) := gq_1 db00f_83 eb_1126
theorem d_X12_see_460 : decode prog_14_method_79_code 460 = .ok (.iload_n 3, 1) := gq_2 db00f_83 eb_29
theorem d_X12_see_461 : decode prog_14_method_79_code 461 = .ok (.iaload, 1) := gq_3 db00f_83 eb_37
theorem d_X12_see_462 : decode prog_14_method_79_code 462 = .ok (.invokevirtual 579, 3) := gq_4 db00f_83 eb_1147
theorem d_X12_see_465 : decode prog_14_method_79_code 465 = .ok (.iastore, 1) := gq_5 db00f_83 eb_38
theorem d_X12_see_466 : decode prog_14_method_79_code 466 = .ok (.aload_n 0, 1) := gq_6 db00f_83 eb_0
theorem d_X12_see_467 : decode prog_14_method_79_code 467 = .ok (.dup, 1) := gq_7 db00f_83 eb_46
theorem d_X12_see_468 : decode prog_14_method_79_code 468 = .ok (.getfield 516, 3) := gq_8 db00f_83 eb_1073
theorem d_X12_see_471 : decode prog_14_method_79_code 471 = .ok (.iconst 1, 1) := gq_9 db00f_83 eb_19
theorem d_X12_see_472 : decode prog_14_method_79_code 472 = .ok (.iadd, 1) := gq_10 db00f_83 eb_35
theorem d_X12_see_473 : decode prog_14_method_79_code 473 = .ok (.putfield 516, 3) := gq_11 db00f_83 eb_1148
theorem d_X12_see_476 : decode prog_14_method_79_code 476 = .ok (.iinc 3 1, 3) := gq_12 db00f_83 eb_42
theorem d_X12_see_479 : decode prog_14_method_79_code 479 = .ok (.goto (-436), 3) := gq_13 db00f_83 eb_1149
theorem d_X12_see_482 : decode prog_14_method_79_code 482 = .ok (.return_, 1) := gq_14 db00f_83 eb_7
theorem db00f_84 : Pf_ prog_14_method_80_code [(0, [0x03]), (1, [0x3e]), (2, [0x1d]), (3, [0x10, 0x09]), (5, [0xa2, 0x00, 0x1d]), (8, [0x2a]), (9, [0xb4, 0x00, 0x78]), (12, [0x1d]), (13, [0xb8, 0x02, 0x46]), (16, [0x2a]), (17, [0xb4, 0x00, 0xc4]), (20, [0x10, 0x09]), (22, [0x1b]), (23, [0x68]), (24, [0x1d]), (25, [0x60]), (26, [0x2e]), (27, [0x4f]), (28, [0x84, 0x03, 0x01]), (31, [0xa7, 0xff, 0xe3]), (34, [0x2a]), (35, [0x03]), (36, [0x2a]), (37, [0x03])] := pf_ok prog_14_method_80_code _ 0 (by decide +kernel)
theorem d_X12_lets_0 : decode prog_14_method_80_code 0 = .ok (.iconst 0, 1) := gq_0 db00f_84 eb_21
theorem d_X12_lets_1 : decode prog_14_method_80_code 1 = .ok (.istore_n 3, 1) := gq_1 db00f_84 eb_28
theorem d_X12_lets_2 : decode prog_14_method_80_code 2 = .ok (.iload_n 3, 1) := gq_2 db00f_84 eb_29
theorem d_X12_lets_3 : decode prog_14_method_80_code 3 = .ok (.bipush 9, 2) := gq_3 db00f_84 eb_287
theorem d_X12_lets_5 : decode prog_14_method_80_code 5 = .ok (.if_icmp .ge 29, 3) := gq_4 db00f_84 eb_172
theorem d_X12_lets_8 : decode prog_14_method_80_code 8 = .ok (.aload_n 0, 1) := gq_5 db00f_84 eb_0
theorem d_X12_lets_9 : decode prog_14_method_80_code 9 = .ok (.getfield 120, 3) := gq_6 db00f_84 eb_1050
theorem d_X12_lets_12 : decode prog_14_method_80_code 12 = .ok (.iload_n 3, 1) := gq_7 db00f_84 eb_29
theorem d_X12_lets_13 : decode prog_14_method_80_code 13 = .ok (.invokestatic 582, 3) := gq_8 db00f_84 eb_1150
theorem d_X12_lets_16 : decode prog_14_method_80_code 16 = .ok (.aload_n 0, 1) := gq_9 db00f_84 eb_0
theorem d_X12_lets_17 : decode prog_14_method_80_code 17 = .ok (.getfield 196, 3) := gq_10 db00f_84 eb_1142
theorem d_X12_lets_20 : decode prog_14_method_80_code 20 = .ok (.bipush 9, 2) := gq_11 db00f_84 eb_287
theorem d_X12_lets_22 : decode prog_14_method_80_code 22 = .ok (.iload_n 1, 1) := gq_12 db00f_84 eb_9
theorem d_X12_lets_23 : decode prog_14_method_80_code 23 = .ok (.imul, 1) := gq_13 db00f_84 eb_34
theorem d_X12_lets_24 : decode prog_14_method_80_code 24 = .ok (.iload_n 3, 1) := gq_14 db00f_84 eb_29
theorem d_X12_lets_25 : decode prog_14_method_80_code 25 = .ok (.iadd, 1) := gq_15 db00f_84 eb_35
theorem d_X12_lets_26 : decode prog_14_method_80_code 26 = .ok (.iaload, 1) := gq_16 db00f_84 eb_37
theorem d_X12_lets_27 : decode prog_14_method_80_code 27 = .ok (.iastore, 1) := gq_17 db00f_84 eb_38
theorem d_X12_lets_28 : decode prog_14_method_80_code 28 = .ok (.iinc 3 1, 3) := gq_18 db00f_84 eb_42
theorem d_X12_lets_31 : decode prog_14_method_80_code 31 = .ok (.goto (-29), 3) := gq_19 db00f_84 eb_250
theorem d_X12_lets_34 : decode prog_14_method_80_code 34 = .ok (.aload_n 0, 1) := gq_20 db00f_84 eb_0
theorem d_X12_lets_35 : decode prog_14_method_80_code 35 = .ok (.iconst 0, 1) := gq_21 db00f_84 eb_21
theorem d_X12_lets_36 : decode prog_14_method_80_code 36 = .ok (.aload_n 0, 1) := gq_22 db00f_84 eb_0
theorem d_X12_lets_37 : decode prog_14_method_80_code 37 = .ok (.iconst 0, 1) := gq_23 db00f_84 eb_21
theorem db00f_85 : Pf_ prog_14_method_80_code [(38, [0x2a]), (39, [0xb4, 0x00, 0xb8]), (42, [0x1b]), (43, [0x2e]), (44, [0x11, 0x05, 0xa0]), (47, [0x6c]), (48, [0x1c]), (49, [0xb6, 0x01, 0xd7]), (52, [0xb6, 0x02, 0x49]), (55, [0xac])] := pf_ok prog_14_method_80_code _ 38 (by decide +kernel)
theorem d_X12_lets_38 : decode prog_14_method_80_code 38 = .ok (.aload_n 0, 1) := gq_0 db00f_85 eb_0
theorem d_X12_lets_39 : decode prog_14_method_80_code 39 = .ok (.getfield 184, 3) := gq_1 db00f_85 eb_1141
theorem d_X12_lets_42 : decode prog_14_method_80_code 42 = .ok (.iload_n 1, 1) := gq_2 db00f_85 eb_9
theorem d_X12_lets_43 : decode prog_14_method_80_code 43 = .ok (.iaload, 1) := gq_3 db00f_85 eb_37
theorem d_X12_lets_44 : decode prog_14_method_80_code 44 = .ok (.sipush 1440, 3) := gq_4 db00f_85 eb_289
theorem d_X12_lets_47 : decode prog_14_method_80_code 47 = .ok (.idiv, 1) := gq_5 db00f_85 eb_219
theorem d_X12_lets_48 : decode prog_14_method_80_code 48 = .ok (.iload_n 2, 1) := gq_6 db00f_85 eb_13
theorem d_X12_lets_49 : decode prog_14_method_80_code 49 = .ok (.invokevirtual 471, 3) := gq_7 db00f_85 eb_1040
theorem d_X12_lets_52 : decode prog_14_method_80_code 52 = .ok (.invokevirtual 585, 3) := gq_8 db00f_85 eb_1151
theorem d_X12_lets_55 : decode prog_14_method_80_code 55 = .ok (.ireturn, 1) := gq_9 db00f_85 eb_15
theorem d_X12_sighting_17 : decode prog_14_method_81_code 17 = .ok (.tableswitch 81 0 5 #[39, 46, 53, 60, 67, 74], 39) := by decide +kernel
theorem db00f_86 : Pf_ prog_14_method_81_code [(0, [0x1b]), (1, [0x03]), (2, [0x2a]), (3, [0xb4, 0x02, 0x04]), (6, [0x04]), (7, [0x64]), (8, [0xb8, 0x01, 0x43]), (11, [0x9a, 0x00, 0x05]), (14, [0x02]), (15, [0xac]), (16, [0x1c]), (56, [0x2a]), (57, [0xb4, 0x00, 0xb2]), (60, [0x1b]), (61, [0x2e]), (62, [0xac]), (63, [0x2a]), (64, [0xb4, 0x00, 0xb5]), (67, [0x1b]), (68, [0x2e]), (69, [0xac]), (70, [0x2a]), (71, [0xb4, 0x00, 0xb8]), (74, [0x1b])] := pf_ok prog_14_method_81_code _ 0 (by decide +kernel)
theorem d_X12_sighting_0 : decode prog_14_method_81_code 0 = .ok (.iload_n 1, 1) := gq_0 db00f_86 eb_9
theorem d_X12_sighting_1 : decode prog_14_method_81_code 1 = .ok (.iconst 0, 1) := gq_1 db00f_86 eb_21
theorem d_X12_sighting_2 : decode prog_14_method_81_code 2 = .ok (.aload_n 0, 1) := gq_2 db00f_86 eb_0
theorem d_X12_sighting_3 : decode prog_14_method_81_code 3 = .ok (.getfield 516, 3) := gq_3 db00f_86 eb_1073
theorem d_X12_sighting_6 : decode prog_14_method_81_code 6 = .ok (.iconst 1, 1) := gq_4 db00f_86 eb_19
theorem d_X12_sighting_7 : decode prog_14_method_81_code 7 = .ok (.isub, 1) := gq_5 db00f_86 eb_48
theorem d_X12_sighting_8 : decode prog_14_method_81_code 8 = .ok (.invokestatic 323, 3) := gq_6 db00f_86 eb_913
theorem d_X12_sighting_11 : decode prog_14_method_81_code 11 = .ok (.ifCond .ne 5, 3) := gq_7 db00f_86 eb_150
theorem d_X12_sighting_14 : decode prog_14_method_81_code 14 = .ok (.iconst (-1), 1) := gq_8 db00f_86 eb_26
theorem d_X12_sighting_15 : decode prog_14_method_81_code 15 = .ok (.ireturn, 1) := gq_9 db00f_86 eb_15
theorem d_X12_sighting_16 : decode prog_14_method_81_code 16 = .ok (.iload_n 2, 1) := gq_10 db00f_86 eb_13
theorem d_X12_sighting_56 : decode prog_14_method_81_code 56 = .ok (.aload_n 0, 1) := gq_11 db00f_86 eb_0
theorem d_X12_sighting_57 : decode prog_14_method_81_code 57 = .ok (.getfield 178, 3) := gq_12 db00f_86 eb_1074
theorem d_X12_sighting_60 : decode prog_14_method_81_code 60 = .ok (.iload_n 1, 1) := gq_13 db00f_86 eb_9
theorem d_X12_sighting_61 : decode prog_14_method_81_code 61 = .ok (.iaload, 1) := gq_14 db00f_86 eb_37
theorem d_X12_sighting_62 : decode prog_14_method_81_code 62 = .ok (.ireturn, 1) := gq_15 db00f_86 eb_15
theorem d_X12_sighting_63 : decode prog_14_method_81_code 63 = .ok (.aload_n 0, 1) := gq_16 db00f_86 eb_0
theorem d_X12_sighting_64 : decode prog_14_method_81_code 64 = .ok (.getfield 181, 3) := gq_17 db00f_86 eb_1140
theorem d_X12_sighting_67 : decode prog_14_method_81_code 67 = .ok (.iload_n 1, 1) := gq_18 db00f_86 eb_9
theorem d_X12_sighting_68 : decode prog_14_method_81_code 68 = .ok (.iaload, 1) := gq_19 db00f_86 eb_37
theorem d_X12_sighting_69 : decode prog_14_method_81_code 69 = .ok (.ireturn, 1) := gq_20 db00f_86 eb_15
theorem d_X12_sighting_70 : decode prog_14_method_81_code 70 = .ok (.aload_n 0, 1) := gq_21 db00f_86 eb_0
theorem d_X12_sighting_71 : decode prog_14_method_81_code 71 = .ok (.getfield 184, 3) := gq_22 db00f_86 eb_1141
theorem d_X12_sighting_74 : decode prog_14_method_81_code 74 = .ok (.iload_n 1, 1) := gq_23 db00f_86 eb_9
theorem db00f_87 : Pf_ prog_14_method_81_code [(75, [0x2e]), (76, [0xac]), (77, [0x2a]), (78, [0xb4, 0x00, 0xbb]), (81, [0x1b]), (82, [0x2e]), (83, [0xac]), (84, [0x2a]), (85, [0xb4, 0x00, 0xbe]), (88, [0x1b]), (89, [0x2e]), (90, [0xac]), (91, [0x2a]), (92, [0xb4, 0x00, 0xc1]), (95, [0x1b]), (96, [0x2e]), (97, [0xac]), (98, [0x02]), (99, [0xac])] := pf_ok prog_14_method_81_code _ 75 (by decide +kernel)
theorem d_X12_sighting_75 : decode prog_14_method_81_code 75 = .ok (.iaload, 1) := gq_0 db00f_87 eb_37
theorem d_X12_sighting_76 : decode prog_14_method_81_code 76 = .ok (.ireturn, 1) := gq_1 db00f_87 eb_15
theorem d_X12_sighting_77 : decode prog_14_method_81_code 77 = .ok (.aload_n 0, 1) := gq_2 db00f_87 eb_0
theorem d_X12_sighting_78 : decode prog_14_method_81_code 78 = .ok (.getfield 187, 3) := gq_3 db00f_87 eb_1075
theorem d_X12_sighting_81 : decode prog_14_method_81_code 81 = .ok (.iload_n 1, 1) := gq_4 db00f_87 eb_9
theorem d_X12_sighting_82 : decode prog_14_method_81_code 82 = .ok (.iaload, 1) := gq_5 db00f_87 eb_37
theorem d_X12_sighting_83 : decode prog_14_method_81_code 83 = .ok (.ireturn, 1) := gq_6 db00f_87 eb_15
theorem d_X12_sighting_84 : decode prog_14_method_81_code 84 = .ok (.aload_n 0, 1) := gq_7 db00f_87 eb_0
theorem d_X12_sighting_85 : decode prog_14_method_81_code 85 = .ok (.getfield 190, 3) := gq_8 db00f_87 eb_1144
theorem d_X12_sighting_88 : decode prog_14_method_81_code 88 = .ok (.iload_n 1, 1) := gq_9 db00f_87 eb_9
theorem d_X12_sighting_89 : decode prog_14_method_81_code 89 = .ok (.iaload, 1) := gq_10 db00f_87 eb_37
theorem d_X12_sighting_90 : decode prog_14_method_81_code 90 = .ok (.ireturn, 1) := gq_11 db00f_87 eb_15
theorem d_X12_sighting_91 : decode prog_14_method_81_code 91 = .ok (.aload_n 0, 1) := gq_12 db00f_87 eb_0
theorem d_X12_sighting_92 : decode prog_14_method_81_code 92 = .ok (.getfield 193, 3) := gq_13 db00f_87 eb_1076
theorem d_X12_sighting_95 : decode prog_14_method_81_code 95 = .ok (.iload_n 1, 1) := gq_14 db00f_87 eb_9
theorem d_X12_sighting_96 : decode prog_14_method_81_code 96 = .ok (.iaload, 1) := gq_15 db00f_87 eb_37
theorem d_X12_sighting_97 : decode prog_14_method_81_code 97 = .ok (.ireturn, 1) := gq_16 db00f_87 eb_15
theorem d_X12_sighting_98 : decode prog_14_method_81_code 98 = .ok (.iconst (-1), 1) := gq_17 db00f_87 eb_26
theorem d_X12_sighting_99 : decode prog_14_method_81_code 99 = .ok (.ireturn, 1) := gq_18 db00f_87 eb_15
theorem db00f_88 : Pf_ prog_14_method_82_code [(0, [0x1b]), (1, [0x03]), (2, [0x2a]), (3, [0xb4, 0x02, 0x04]), (6, [0x04]), (7, [0x64]), (8, [0xb8, 0x01, 0x43]), (11, [0x99, 0x00, 0x1d]), (14, [0x1c]), (15, [0x2a]), (16, [0xb4, 0x00, 0xb8]), (19, [0x1b]), (20, [0x2e]), (21, [0x2a]), (22, [0xb4, 0x01, 0x56]), (25, [0xb8, 0x01, 0x43]), (28, [0x99, 0x00, 0x0c]), (31, [0x2a]), (32, [0x1b]), (33, [0x1c]), (34, [0xb6, 0x02, 0x3d]), (37, [0xa7, 0x00, 0x04]), (40, [0x02]), (41, [0xac])] := pf_ok prog_14_method_82_code _ 0 (by decide +kernel)
theorem d_X12_should_0 : decode prog_14_method_82_code 0 = .ok (.iload_n 1, 1) := gq_0 db00f_88 eb_9
theorem d_X12_should_1 : decode prog_14_method_82_code 1 = .ok (.iconst 0, 1) := gq_1 db00f_88 eb_21
theorem d_X12_should_2 : decode prog_14_method_82_code 2 = .ok (.aload_n 0, 1) := gq_2 db00f_88 eb_0
theorem d_X12_should_3 : decode prog_14_method_82_code 3 = .ok (.getfield 516, 3) := gq_3 db00f_88 eb_1073
theorem d_X12_should_6 : decode prog_14_method_82_code 6 = .ok (.iconst 1, 1) := gq_4 db00f_88 eb_19
theorem d_X12_should_7 : decode prog_14_method_82_code 7 = .ok (.isub, 1) := gq_5 db00f_88 eb_48
theorem d_X12_should_8 : decode prog_14_method_82_code 8 = .ok (.invokestatic 323, 3) := gq_6 db00f_88 eb_913
theorem d_X12_should_11 : decode prog_14_method_82_code 11 = .ok (.ifCond .eq 29, 3) := gq_7 db00f_88 eb_927
theorem d_X12_should_14 : decode prog_14_method_82_code 14 = .ok (.iload_n 2, 1) := gq_8 db00f_88 eb_13
theorem d_X12_should_15 : decode prog_14_method_82_code 15 = .ok (.aload_n 0, 1) := gq_9 db00f_88 eb_0
theorem d_X12_should_16 : decode prog_14_method_82_code 16 = .ok (.getfield 184, 3) := gq_10 db00f_88 eb_1141
theorem d_X12_should_19 : decode prog_14_method_82_code 19 = .ok (.iload_n 1, 1) := gq_11 db00f_88 eb_9
theorem d_X12_should_20 : decode prog_14_method_82_code 20 = .ok (.iaload, 1) := gq_12 db00f_88 eb_37
theorem d_X12_should_21 : decode prog_14_method_82_code 21 = .ok (.aload_n 0, 1) := gq_13 db00f_88 eb_0
theorem d_X12_should_22 : decode prog_14_method_82_code 22 = .ok (.getfield 342, 3) := gq_14 db00f_88 eb_928
theorem d_X12_should_25 : decode prog_14_method_82_code 25 = .ok (.invokestatic 323, 3) := gq_15 db00f_88 eb_913
theorem d_X12_should_28 : decode prog_14_method_82_code 28 = .ok (.ifCond .eq 12, 3) := gq_16 db00f_88 eb_50
theorem d_X12_should_31 : decode prog_14_method_82_code 31 = .ok (.aload_n 0, 1) := gq_17 db00f_88 eb_0
theorem d_X12_should_32 : decode prog_14_method_82_code 32 = .ok (.iload_n 1, 1) := gq_18 db00f_88 eb_9
theorem d_X12_should_33 : decode prog_14_method_82_code 33 = .ok (.iload_n 2, 1) := gq_19 db00f_88 eb_13
theorem d_X12_should_34 : decode prog_14_method_82_code 34 = .ok (.invokevirtual 573, 3) := gq_20 db00f_88 eb_1143
theorem d_X12_should_37 : decode prog_14_method_82_code 37 = .ok (.goto 4, 3) := gq_21 db00f_88 eb_20
theorem d_X12_should_40 : decode prog_14_method_82_code 40 = .ok (.iconst (-1), 1) := gq_22 db00f_88 eb_26
theorem d_X12_should_41 : decode prog_14_method_82_code 41 = .ok (.ireturn, 1) := gq_23 db00f_88 eb_15
theorem db00f_89 : Pf_ prog_14_method_83_code [(0, [0x2a]), (1, [0x1b]), (2, [0xb6, 0x01, 0x5f]), (5, [0x9a, 0x00, 0x05]), (8, [0x02]), (9, [0xac]), (10, [0x03]), (11, [0x3d]), (12, [0x03]), (13, [0x3e]), (14, [0x1d]), (15, [0x2a]), (16, [0xb4, 0x02, 0x04]), (19, [0xa2, 0x00, 0x25]), (22, [0x1c]), (23, [0x2a]), (24, [0xb4, 0x00, 0xc1]), (27, [0x1d]), (28, [0x2e]), (29, [0x02]), (30, [0x9f, 0x00, 0x11]), (33, [0x2a]), (34, [0xb4, 0x00, 0xc1]), (37, [0x1d])] := pf_ok prog_14_method_83_code _ 0 (by decide +kernel)
theorem d_X12_heard_0 : decode prog_14_method_83_code 0 = .ok (.aload_n 0, 1) := gq_0 db00f_89 eb_0
theorem d_X12_heard_1 : decode prog_14_method_83_code 1 = .ok (.iload_n 1, 1) := gq_1 db00f_89 eb_9
theorem d_X12_heard_2 : decode prog_14_method_83_code 2 = .ok (.invokevirtual 351, 3) := gq_2 db00f_89 eb_938
theorem d_X12_heard_5 : decode prog_14_method_83_code 5 = .ok (.ifCond .ne 5, 3) := gq_3 db00f_89 eb_150
theorem d_X12_heard_8 : decode prog_14_method_83_code 8 = .ok (.iconst (-1), 1) := gq_4 db00f_89 eb_26
theorem d_X12_heard_9 : decode prog_14_method_83_code 9 = .ok (.ireturn, 1) := gq_5 db00f_89 eb_15
theorem d_X12_heard_10 : decode prog_14_method_83_code 10 = .ok (.iconst 0, 1) := gq_6 db00f_89 eb_21
theorem d_X12_heard_11 : decode prog_14_method_83_code 11 = .ok (.istore_n 2, 1) := gq_7 db00f_89 eb_27
theorem d_X12_heard_12 : decode prog_14_method_83_code 12 = .ok (.iconst 0, 1) := gq_8 db00f_89 eb_21
theorem d_X12_heard_13 : decode prog_14_method_83_code 13 = .ok (.istore_n 3, 1) := gq_9 db00f_89 eb_28
theorem d_X12_heard_14 : decode prog_14_method_83_code 14 = .ok (.iload_n 3, 1) := gq_10 db00f_89 eb_29
theorem d_X12_heard_15 : decode prog_14_method_83_code 15 = .ok (.aload_n 0, 1) := gq_11 db00f_89 eb_0
theorem d_X12_heard_16 : decode prog_14_method_83_code 16 = .ok (.getfield 516, 3) := gq_12 db00f_89 eb_1073
theorem d_X12_heard_19 : decode prog_14_method_83_code 19 = .ok (.if_icmp .ge 37, 3) := gq_13 db00f_89 eb_1152
theorem d_X12_heard_22 : decode prog_14_method_83_code 22 = .ok (.iload_n 2, 1) := gq_14 db00f_89 eb_13
theorem d_X12_heard_23 : decode prog_14_method_83_code 23 = .ok (.aload_n 0, 1) := gq_15 db00f_89 eb_0
theorem d_X12_heard_24 : decode prog_14_method_83_code 24 = .ok (.getfield 193, 3) := gq_16 db00f_89 eb_1076
theorem d_X12_heard_27 : decode prog_14_method_83_code 27 = .ok (.iload_n 3, 1) := gq_17 db00f_89 eb_29
theorem d_X12_heard_28 : decode prog_14_method_83_code 28 = .ok (.iaload, 1) := gq_18 db00f_89 eb_37
theorem d_X12_heard_29 : decode prog_14_method_83_code 29 = .ok (.iconst (-1), 1) := gq_19 db00f_89 eb_26
theorem d_X12_heard_30 : decode prog_14_method_83_code 30 = .ok (.if_icmp .eq 17, 3) := gq_20 db00f_89 eb_411
theorem d_X12_heard_33 : decode prog_14_method_83_code 33 = .ok (.aload_n 0, 1) := gq_21 db00f_89 eb_0
theorem d_X12_heard_34 : decode prog_14_method_83_code 34 = .ok (.getfield 193, 3) := gq_22 db00f_89 eb_1076
theorem d_X12_heard_37 : decode prog_14_method_83_code 37 = .ok (.iload_n 3, 1) := gq_23 db00f_89 eb_29
theorem db00f_90 : Pf_ prog_14_method_83_code [(38, [0x2e]), (39, [0x1b]), (40, [0xa3, 0x00, 0x07]), (43, [0x04]), (44, [0xa7, 0x00, 0x04]), (47, [0x03]), (48, [0x60]), (49, [0x3d]), (50, [0x84, 0x03, 0x01]), (53, [0xa7, 0xff, 0xd9]), (56, [0x1c]), (57, [0xac])] := pf_ok prog_14_method_83_code _ 38 (by decide +kernel)
theorem d_X12_heard_38 : decode prog_14_method_83_code 38 = .ok (.iaload, 1) := gq_0 db00f_90 eb_37
theorem d_X12_heard_39 : decode prog_14_method_83_code 39 = .ok (.iload_n 1, 1) := gq_1 db00f_90 eb_9
theorem d_X12_heard_40 : decode prog_14_method_83_code 40 = .ok (.if_icmp .gt 7, 3) := gq_2 db00f_90 eb_113
theorem d_X12_heard_43 : decode prog_14_method_83_code 43 = .ok (.iconst 1, 1) := gq_3 db00f_90 eb_19
theorem d_X12_heard_44 : decode prog_14_method_83_code 44 = .ok (.goto 4, 3) := gq_4 db00f_90 eb_20
theorem d_X12_heard_47 : decode prog_14_method_83_code 47 = .ok (.iconst 0, 1) := gq_5 db00f_90 eb_21
theorem d_X12_heard_48 : decode prog_14_method_83_code 48 = .ok (.iadd, 1) := gq_6 db00f_90 eb_35
theorem d_X12_heard_49 : decode prog_14_method_83_code 49 = .ok (.istore_n 2, 1) := gq_7 db00f_90 eb_27
theorem d_X12_heard_50 : decode prog_14_method_83_code 50 = .ok (.iinc 3 1, 3) := gq_8 db00f_90 eb_42
theorem d_X12_heard_53 : decode prog_14_method_83_code 53 = .ok (.goto (-39), 3) := gq_9 db00f_90 eb_332
theorem d_X12_heard_56 : decode prog_14_method_83_code 56 = .ok (.iload_n 2, 1) := gq_10 db00f_90 eb_13
theorem d_X12_heard_57 : decode prog_14_method_83_code 57 = .ok (.ireturn, 1) := gq_11 db00f_90 eb_15
theorem db00f_91 : Pf_ prog_14_method_84_code [(0, [0x2a]), (1, [0xb4, 0x00, 0xc7]), (4, [0x2a]), (5, [0xb4, 0x02, 0x40]), (8, [0x1b]), (9, [0x4f]), (10, [0x2a]), (11, [0xb4, 0x00, 0xca]), (14, [0x2a]), (15, [0xb4, 0x02, 0x40]), (18, [0x2a]), (19, [0xb4, 0x01, 0x56]), (22, [0x4f]), (23, [0x2a]), (24, [0x59]), (25, [0xb4, 0x02, 0x40]), (28, [0x04]), (29, [0x60]), (30, [0xb5, 0x02, 0x40]), (33, [0x2a]), (34, [0xb4, 0x02, 0x40]), (37, [0x04]), (38, [0x64]), (39, [0xac])] := pf_ok prog_14_method_84_code _ 0 (by decide +kernel)
theorem d_X12_opened_0 : decode prog_14_method_84_code 0 = .ok (.aload_n 0, 1) := gq_0 db00f_91 eb_0
theorem d_X12_opened_1 : decode prog_14_method_84_code 1 = .ok (.getfield 199, 3) := gq_1 db00f_91 eb_1153
theorem d_X12_opened_4 : decode prog_14_method_84_code 4 = .ok (.aload_n 0, 1) := gq_2 db00f_91 eb_0
theorem d_X12_opened_5 : decode prog_14_method_84_code 5 = .ok (.getfield 576, 3) := gq_3 db00f_91 eb_1146
theorem d_X12_opened_8 : decode prog_14_method_84_code 8 = .ok (.iload_n 1, 1) := gq_4 db00f_91 eb_9
theorem d_X12_opened_9 : decode prog_14_method_84_code 9 = .ok (.iastore, 1) := gq_5 db00f_91 eb_38
theorem d_X12_opened_10 : decode prog_14_method_84_code 10 = .ok (.aload_n 0, 1) := gq_6 db00f_91 eb_0
theorem d_X12_opened_11 : decode prog_14_method_84_code 11 = .ok (.getfield 202, 3) := gq_7 db00f_91 eb_1154
theorem d_X12_opened_14 : decode prog_14_method_84_code 14 = .ok (.aload_n 0, 1) := gq_8 db00f_91 eb_0
theorem d_X12_opened_15 : decode prog_14_method_84_code 15 = .ok (.getfield 576, 3) := gq_9 db00f_91 eb_1146
theorem d_X12_opened_18 : decode prog_14_method_84_code 18 = .ok (.aload_n 0, 1) := gq_10 db00f_91 eb_0
theorem d_X12_opened_19 : decode prog_14_method_84_code 19 = .ok (.getfield 342, 3) := gq_11 db00f_91 eb_928
theorem d_X12_opened_22 : decode prog_14_method_84_code 22 = .ok (.iastore, 1) := gq_12 db00f_91 eb_38
theorem d_X12_opened_23 : decode prog_14_method_84_code 23 = .ok (.aload_n 0, 1) := gq_13 db00f_91 eb_0
theorem d_X12_opened_24 : decode prog_14_method_84_code 24 = .ok (.dup, 1) := gq_14 db00f_91 eb_46
theorem d_X12_opened_25 : decode prog_14_method_84_code 25 = .ok (.getfield 576, 3) := gq_15 db00f_91 eb_1146
theorem d_X12_opened_28 : decode prog_14_method_84_code 28 = .ok (.iconst 1, 1) := gq_16 db00f_91 eb_19
theorem d_X12_opened_29 : decode prog_14_method_84_code 29 = .ok (.iadd, 1) := gq_17 db00f_91 eb_35
theorem d_X12_opened_30 : decode prog_14_method_84_code 30 = .ok (.putfield 576, 3) := gq_18 db00f_91 eb_1155
theorem d_X12_opened_33 : decode prog_14_method_84_code 33 = .ok (.aload_n 0, 1) := gq_19 db00f_91 eb_0
theorem d_X12_opened_34 : decode prog_14_method_84_code 34 = .ok (.getfield 576, 3) := gq_20 db00f_91 eb_1146
theorem d_X12_opened_37 : decode prog_14_method_84_code 37 = .ok (.iconst 1, 1) := gq_21 db00f_91 eb_19
theorem d_X12_opened_38 : decode prog_14_method_84_code 38 = .ok (.isub, 1) := gq_22 db00f_91 eb_48
theorem d_X12_opened_39 : decode prog_14_method_84_code 39 = .ok (.ireturn, 1) := gq_23 db00f_91 eb_15
theorem db00f_92 : Pf_ prog_14_method_85_code [(0, [0x1b]), (1, [0x03]), (2, [0x10, 0x09]), (4, [0xb8, 0x01, 0x43]), (7, [0x99, 0x00, 0x14]), (10, [0x2a]), (11, [0xb4, 0x02, 0x40]), (14, [0x10, 0x1e]), (16, [0xa2, 0x00, 0x0b]), (19, [0x2a]), (20, [0x1b]), (21, [0xb6, 0x02, 0x43]), (24, [0xa7, 0x00, 0x04]), (27, [0x02]), (28, [0xac])] := pf_ok prog_14_method_85_code _ 0 (by decide +kernel)
theorem d_X12_open_0 : decode prog_14_method_85_code 0 = .ok (.iload_n 1, 1) := gq_0 db00f_92 eb_9
theorem d_X12_open_1 : decode prog_14_method_85_code 1 = .ok (.iconst 0, 1) := gq_1 db00f_92 eb_21
theorem d_X12_open_2 : decode prog_14_method_85_code 2 = .ok (.bipush 9, 2) := gq_2 db00f_92 eb_287
theorem d_X12_open_4 : decode prog_14_method_85_code 4 = .ok (.invokestatic 323, 3) := gq_3 db00f_92 eb_913
theorem d_X12_open_7 : decode prog_14_method_85_code 7 = .ok (.ifCond .eq 20, 3) := gq_4 db00f_92 eb_210
theorem d_X12_open_10 : decode prog_14_method_85_code 10 = .ok (.aload_n 0, 1) := gq_5 db00f_92 eb_0
theorem d_X12_open_11 : decode prog_14_method_85_code 11 = .ok (.getfield 576, 3) := gq_6 db00f_92 eb_1146
theorem d_X12_open_14 : decode prog_14_method_85_code 14 = .ok (.bipush 30, 2) := gq_7 db00f_92 eb_92
theorem d_X12_open_16 : decode prog_14_method_85_code 16 = .ok (.if_icmp .ge 11, 3) := gq_8 db00f_92 eb_1156
theorem d_X12_open_19 : decode prog_14_method_85_code 19 = .ok (.aload_n 0, 1) := gq_9 db00f_92 eb_0
theorem d_X12_open_20 : decode prog_14_method_85_code 20 = .ok (.iload_n 1, 1) := gq_10 db00f_92 eb_9
theorem d_X12_open_21 : decode prog_14_method_85_code 21 = .ok (.invokevirtual 579, 3) := gq_11 db00f_92 eb_1147
theorem d_X12_open_24 : decode prog_14_method_85_code 24 = .ok (.goto 4, 3) := gq_12 db00f_92 eb_20
theorem d_X12_open_27 : decode prog_14_method_85_code 27 = .ok (.iconst (-1), 1) := gq_13 db00f_92 eb_26
theorem d_X12_open_28 : decode prog_14_method_85_code 28 = .ok (.ireturn, 1) := gq_14 db00f_92 eb_15
theorem db00f_93 : Pf_ prog_14_method_86_code [(0, [0x1b]), (1, [0x03]), (2, [0x10, 0x09]), (4, [0xb8, 0x01, 0x43]), (7, [0x99, 0x00, 0x0e]), (10, [0x1c]), (11, [0x03]), (12, [0x11, 0x00, 0xff]), (15, [0xb8, 0x01, 0x43]), (18, [0x9a, 0x00, 0x05]), (21, [0x03]), (22, [0xac]), (23, [0x2a]), (24, [0xb4, 0x00, 0xcd]), (27, [0x1b]), (28, [0x1c]), (29, [0x4f]), (30, [0x04]), (31, [0xac])] := pf_ok prog_14_method_86_code _ 0 (by decide +kernel)
theorem d_X12_need_0 : decode prog_14_method_86_code 0 = .ok (.iload_n 1, 1) := gq_0 db00f_93 eb_9
theorem d_X12_need_1 : decode prog_14_method_86_code 1 = .ok (.iconst 0, 1) := gq_1 db00f_93 eb_21
theorem d_X12_need_2 : decode prog_14_method_86_code 2 = .ok (.bipush 9, 2) := gq_2 db00f_93 eb_287
theorem d_X12_need_4 : decode prog_14_method_86_code 4 = .ok (.invokestatic 323, 3) := gq_3 db00f_93 eb_913
theorem d_X12_need_7 : decode prog_14_method_86_code 7 = .ok (.ifCond .eq 14, 3) := gq_4 db00f_93 eb_174
theorem d_X12_need_10 : decode prog_14_method_86_code 10 = .ok (.iload_n 2, 1) := gq_5 db00f_93 eb_13
theorem d_X12_need_11 : decode prog_14_method_86_code 11 = .ok (.iconst 0, 1) := gq_6 db00f_93 eb_21
theorem d_X12_need_12 : decode prog_14_method_86_code 12 = .ok (.sipush 255, 3) := gq_7 db00f_93 eb_443
theorem d_X12_need_15 : decode prog_14_method_86_code 15 = .ok (.invokestatic 323, 3) := gq_8 db00f_93 eb_913
theorem d_X12_need_18 : decode prog_14_method_86_code 18 = .ok (.ifCond .ne 5, 3) := gq_9 db00f_93 eb_150
theorem d_X12_need_21 : decode prog_14_method_86_code 21 = .ok (.iconst 0, 1) := gq_10 db00f_93 eb_21
theorem d_X12_need_22 : decode prog_14_method_86_code 22 = .ok (.ireturn, 1) := gq_11 db00f_93 eb_15
theorem d_X12_need_23 : decode prog_14_method_86_code 23 = .ok (.aload_n 0, 1) := gq_12 db00f_93 eb_0
theorem d_X12_need_24 : decode prog_14_method_86_code 24 = .ok (.getfield 205, 3) := gq_13 db00f_93 eb_1157
theorem d_X12_need_27 : decode prog_14_method_86_code 27 = .ok (.iload_n 1, 1) := gq_14 db00f_93 eb_9
theorem d_X12_need_28 : decode prog_14_method_86_code 28 = .ok (.iload_n 2, 1) := gq_15 db00f_93 eb_13
theorem d_X12_need_29 : decode prog_14_method_86_code 29 = .ok (.iastore, 1) := gq_16 db00f_93 eb_38
theorem d_X12_need_30 : decode prog_14_method_86_code 30 = .ok (.iconst 1, 1) := gq_17 db00f_93 eb_19
theorem d_X12_need_31 : decode prog_14_method_86_code 31 = .ok (.ireturn, 1) := gq_18 db00f_93 eb_15
theorem db00f_94 : Pf_ prog_14_method_87_code [(0, [0x1b]), (1, [0x03]), (2, [0x10, 0x07]), (4, [0xb8, 0x01, 0x43]), (7, [0x99, 0x00, 0x0c]), (10, [0x1c]), (11, [0x04]), (12, [0x06]), (13, [0xb8, 0x01, 0x43]), (16, [0x9a, 0x00, 0x05]), (19, [0x03]), (20, [0xac]), (21, [0x2a]), (22, [0xb4, 0x00, 0xd0]), (25, [0x1b]), (26, [0x1c]), (27, [0x4f]), (28, [0x04]), (29, [0xac])] := pf_ok prog_14_method_87_code _ 0 (by decide +kernel)
theorem d_X12_want_0 : decode prog_14_method_87_code 0 = .ok (.iload_n 1, 1) := gq_0 db00f_94 eb_9
theorem d_X12_want_1 : decode prog_14_method_87_code 1 = .ok (.iconst 0, 1) := gq_1 db00f_94 eb_21
theorem d_X12_want_2 : decode prog_14_method_87_code 2 = .ok (.bipush 7, 2) := gq_2 db00f_94 eb_132
theorem d_X12_want_4 : decode prog_14_method_87_code 4 = .ok (.invokestatic 323, 3) := gq_3 db00f_94 eb_913
theorem d_X12_want_7 : decode prog_14_method_87_code 7 = .ok (.ifCond .eq 12, 3) := gq_4 db00f_94 eb_50
theorem d_X12_want_10 : decode prog_14_method_87_code 10 = .ok (.iload_n 2, 1) := gq_5 db00f_94 eb_13
theorem d_X12_want_11 : decode prog_14_method_87_code 11 = .ok (.iconst 1, 1) := gq_6 db00f_94 eb_19
theorem d_X12_want_12 : decode prog_14_method_87_code 12 = .ok (.iconst 3, 1) := gq_7 db00f_94 eb_54
theorem d_X12_want_13 : decode prog_14_method_87_code 13 = .ok (.invokestatic 323, 3) := gq_8 db00f_94 eb_913
theorem d_X12_want_16 : decode prog_14_method_87_code 16 = .ok (.ifCond .ne 5, 3) := gq_9 db00f_94 eb_150
theorem d_X12_want_19 : decode prog_14_method_87_code 19 = .ok (.iconst 0, 1) := gq_10 db00f_94 eb_21
theorem d_X12_want_20 : decode prog_14_method_87_code 20 = .ok (.ireturn, 1) := gq_11 db00f_94 eb_15
theorem d_X12_want_21 : decode prog_14_method_87_code 21 = .ok (.aload_n 0, 1) := gq_12 db00f_94 eb_0
theorem d_X12_want_22 : decode prog_14_method_87_code 22 = .ok (.getfield 208, 3) := gq_13 db00f_94 eb_912
theorem d_X12_want_25 : decode prog_14_method_87_code 25 = .ok (.iload_n 1, 1) := gq_14 db00f_94 eb_9
theorem d_X12_want_26 : decode prog_14_method_87_code 26 = .ok (.iload_n 2, 1) := gq_15 db00f_94 eb_13
theorem d_X12_want_27 : decode prog_14_method_87_code 27 = .ok (.iastore, 1) := gq_16 db00f_94 eb_38
theorem d_X12_want_28 : decode prog_14_method_87_code 28 = .ok (.iconst 1, 1) := gq_17 db00f_94 eb_19
theorem d_X12_want_29 : decode prog_14_method_87_code 29 = .ok (.ireturn, 1) := gq_18 db00f_94 eb_15
theorem db00f_95 : Pf_ prog_14_method_88_code [(0, [0x1b]), (1, [0x03]), (2, [0x2a]), (3, [0xb4, 0x02, 0x40]), (6, [0x04]), (7, [0x64]), (8, [0xb8, 0x01, 0x43]), (11, [0xac])] := pf_ok prog_14_method_88_code _ 0 (by decide +kernel)
theorem d_X12_isCase_0 : decode prog_14_method_88_code 0 = .ok (.iload_n 1, 1) := gq_0 db00f_95 eb_9
theorem d_X12_isCase_1 : decode prog_14_method_88_code 1 = .ok (.iconst 0, 1) := gq_1 db00f_95 eb_21
theorem d_X12_isCase_2 : decode prog_14_method_88_code 2 = .ok (.aload_n 0, 1) := gq_2 db00f_95 eb_0
theorem d_X12_isCase_3 : decode prog_14_method_88_code 3 = .ok (.getfield 576, 3) := gq_3 db00f_95 eb_1146
theorem d_X12_isCase_6 : decode prog_14_method_88_code 6 = .ok (.iconst 1, 1) := gq_4 db00f_95 eb_19
theorem d_X12_isCase_7 : decode prog_14_method_88_code 7 = .ok (.isub, 1) := gq_5 db00f_95 eb_48
theorem d_X12_isCase_8 : decode prog_14_method_88_code 8 = .ok (.invokestatic 323, 3) := gq_6 db00f_95 eb_913
theorem d_X12_isCase_11 : decode prog_14_method_88_code 11 = .ok (.ireturn, 1) := gq_7 db00f_95 eb_15
theorem db00f_96 : Pf_ prog_14_method_89_code [(0, [0x2a]), (1, [0x1b]), (2, [0xb6, 0x02, 0x4c]), (5, [0x99, 0x00, 0x2a]), (8, [0x1c]), (9, [0x03]), (10, [0x10, 0x07]), (12, [0xb8, 0x01, 0x43]), (15, [0x99, 0x00, 0x20]), (18, [0x1d]), (19, [0x03]), (20, [0x10, 0x0f]), (22, [0xb8, 0x01, 0x43]), (25, [0x99, 0x00, 0x16]), (28, [0x2a]), (29, [0xb4, 0x00, 0xe5]), (32, [0x1d]), (33, [0x33]), (34, [0x9a, 0x00, 0x0d]), (37, [0x2a]), (38, [0xb4, 0x02, 0x4f]), (41, [0x11, 0x00, 0xc8]), (44, [0xa0, 0x00, 0x05]), (47, [0x02])] := pf_ok prog_14_method_89_code _ 0 (by decide +kernel)
theorem d_X12_state_0 : decode prog_14_method_89_code 0 = .ok (.aload_n 0, 1) := gq_0 db00f_96 eb_0
theorem d_X12_state_1 : decode prog_14_method_89_code 1 = .ok (.iload_n 1, 1) := gq_1 db00f_96 eb_9
theorem d_X12_state_2 : decode prog_14_method_89_code 2 = .ok (.invokevirtual 588, 3) := gq_2 db00f_96 eb_1158
theorem d_X12_state_5 : decode prog_14_method_89_code 5 = .ok (.ifCond .eq 42, 3) := gq_3 db00f_96 eb_516
theorem d_X12_state_8 : decode prog_14_method_89_code 8 = .ok (.iload_n 2, 1) := gq_4 db00f_96 eb_13
theorem d_X12_state_9 : decode prog_14_method_89_code 9 = .ok (.iconst 0, 1) := gq_5 db00f_96 eb_21
theorem d_X12_state_10 : decode prog_14_method_89_code 10 = .ok (.bipush 7, 2) := gq_6 db00f_96 eb_132
theorem d_X12_state_12 : decode prog_14_method_89_code 12 = .ok (.invokestatic 323, 3) := gq_7 db00f_96 eb_913
theorem d_X12_state_15 : decode prog_14_method_89_code 15 = .ok (.ifCond .eq 32, 3) := gq_8 db00f_96 eb_258
theorem d_X12_state_18 : decode prog_14_method_89_code 18 = .ok (.iload_n 3, 1) := gq_9 db00f_96 eb_29
theorem d_X12_state_19 : decode prog_14_method_89_code 19 = .ok (.iconst 0, 1) := gq_10 db00f_96 eb_21
theorem d_X12_state_20 : decode prog_14_method_89_code 20 = .ok (.bipush 15, 2) := gq_11 db00f_96 eb_57
theorem d_X12_state_22 : decode prog_14_method_89_code 22 = .ok (.invokestatic 323, 3) := gq_12 db00f_96 eb_913
theorem d_X12_state_25 : decode prog_14_method_89_code 25 = .ok (.ifCond .eq 22, 3) := gq_13 db00f_96 eb_416
theorem d_X12_state_28 : decode prog_14_method_89_code 28 = .ok (.aload_n 0, 1) := gq_14 db00f_96 eb_0
theorem d_X12_state_29 : decode prog_14_method_89_code 29 = .ok (.getfield 229, 3) := gq_15 db00f_96 eb_1159
theorem d_X12_state_32 : decode prog_14_method_89_code 32 = .ok (.iload_n 3, 1) := gq_16 db00f_96 eb_29
theorem d_X12_state_33 : decode prog_14_method_89_code 33 = .ok (.baload, 1) := gq_17 db00f_96 eb_248
theorem d_X12_state_34 : decode prog_14_method_89_code 34 = .ok (.ifCond .ne 13, 3) := gq_18 db00f_96 eb_464
theorem d_X12_state_37 : decode prog_14_method_89_code 37 = .ok (.aload_n 0, 1) := gq_19 db00f_96 eb_0
theorem d_X12_state_38 : decode prog_14_method_89_code 38 = .ok (.getfield 591, 3) := gq_20 db00f_96 eb_1160
theorem d_X12_state_41 : decode prog_14_method_89_code 41 = .ok (.sipush 200, 3) := gq_21 db00f_96 eb_96
theorem d_X12_state_44 : decode prog_14_method_89_code 44 = .ok (.if_icmp .ne 5, 3) := gq_22 db00f_96 eb_479
theorem d_X12_state_47 : decode prog_14_method_89_code 47 = .ok (.iconst (-1), 1) := gq_23 db00f_96 eb_26
theorem db00f_97 : Pf_ prog_14_method_89_code [(48, [0xac]), (49, [0x2a]), (50, [0xb4, 0x00, 0xd3]), (53, [0x2a]), (54, [0xb4, 0x02, 0x4f]), (57, [0x1b]), (58, [0x4f]), (59, [0x2a]), (60, [0xb4, 0x00, 0xd6]), (63, [0x2a]), (64, [0xb4, 0x02, 0x4f]), (67, [0x1c]), (68, [0x4f]), (69, [0x2a]), (70, [0xb4, 0x00, 0xd9]), (73, [0x2a]), (74, [0xb4, 0x02, 0x4f]), (77, [0x1d]), (78, [0x4f]), (79, [0x2a]), (80, [0xb4, 0x00, 0xdf]), (83, [0x2a]), (84, [0xb4, 0x02, 0x4f]), (87, [0x15, 0x04])] := pf_ok prog_14_method_89_code _ 48 (by decide +kernel)
theorem d_X12_state_48 : decode prog_14_method_89_code 48 = .ok (.ireturn, 1) := gq_0 db00f_97 eb_15
theorem d_X12_state_49 : decode prog_14_method_89_code 49 = .ok (.aload_n 0, 1) := gq_1 db00f_97 eb_0
theorem d_X12_state_50 : decode prog_14_method_89_code 50 = .ok (.getfield 211, 3) := gq_2 db00f_97 eb_1161
theorem d_X12_state_53 : decode prog_14_method_89_code 53 = .ok (.aload_n 0, 1) := gq_3 db00f_97 eb_0
theorem d_X12_state_54 : decode prog_14_method_89_code 54 = .ok (.getfield 591, 3) := gq_4 db00f_97 eb_1160
theorem d_X12_state_57 : decode prog_14_method_89_code 57 = .ok (.iload_n 1, 1) := gq_5 db00f_97 eb_9
theorem d_X12_state_58 : decode prog_14_method_89_code 58 = .ok (.iastore, 1) := gq_6 db00f_97 eb_38
theorem d_X12_state_59 : decode prog_14_method_89_code 59 = .ok (.aload_n 0, 1) := gq_7 db00f_97 eb_0
theorem d_X12_state_60 : decode prog_14_method_89_code 60 = .ok (.getfield 214, 3) := gq_8 db00f_97 eb_1162
theorem d_X12_state_63 : decode prog_14_method_89_code 63 = .ok (.aload_n 0, 1) := gq_9 db00f_97 eb_0
theorem d_X12_state_64 : decode prog_14_method_89_code 64 = .ok (.getfield 591, 3) := gq_10 db00f_97 eb_1160
theorem d_X12_state_67 : decode prog_14_method_89_code 67 = .ok (.iload_n 2, 1) := gq_11 db00f_97 eb_13
theorem d_X12_state_68 : decode prog_14_method_89_code 68 = .ok (.iastore, 1) := gq_12 db00f_97 eb_38
theorem d_X12_state_69 : decode prog_14_method_89_code 69 = .ok (.aload_n 0, 1) := gq_13 db00f_97 eb_0
theorem d_X12_state_70 : decode prog_14_method_89_code 70 = .ok (.getfield 217, 3) := gq_14 db00f_97 eb_1163
theorem d_X12_state_73 : decode prog_14_method_89_code 73 = .ok (.aload_n 0, 1) := gq_15 db00f_97 eb_0
theorem d_X12_state_74 : decode prog_14_method_89_code 74 = .ok (.getfield 591, 3) := gq_16 db00f_97 eb_1160
theorem d_X12_state_77 : decode prog_14_method_89_code 77 = .ok (.iload_n 3, 1) := gq_17 db00f_97 eb_29
theorem d_X12_state_78 : decode prog_14_method_89_code 78 = .ok (.iastore, 1) := gq_18 db00f_97 eb_38
theorem d_X12_state_79 : decode prog_14_method_89_code 79 = .ok (.aload_n 0, 1) := gq_19 db00f_97 eb_0
theorem d_X12_state_80 : decode prog_14_method_89_code 80 = .ok (.getfield 223, 3) := gq_20 db00f_97 eb_1164
theorem d_X12_state_83 : decode prog_14_method_89_code 83 = .ok (.aload_n 0, 1) := gq_21 db00f_97 eb_0
theorem d_X12_state_84 : decode prog_14_method_89_code 84 = .ok (.getfield 591, 3) := gq_22 db00f_97 eb_1160
theorem d_X12_state_87 : decode prog_14_method_89_code 87 = .ok (.iload 4, 2) := gq_23 db00f_97 eb_76
theorem db00f_98 : Pf_ prog_14_method_89_code [(89, [0x54]), (90, [0x2a]), (91, [0xb4, 0x00, 0xdc]), (94, [0x2a]), (95, [0xb4, 0x02, 0x4f]), (98, [0x2a]), (99, [0xb4, 0x01, 0x56]), (102, [0x4f]), (103, [0x2a]), (104, [0x59]), (105, [0xb4, 0x02, 0x4f]), (108, [0x04]), (109, [0x60]), (110, [0xb5, 0x02, 0x4f]), (113, [0x2a]), (114, [0xb4, 0x02, 0x4f]), (117, [0x04]), (118, [0x64]), (119, [0xac])] := pf_ok prog_14_method_89_code _ 89 (by decide +kernel)
theorem d_X12_state_89 : decode prog_14_method_89_code 89 = .ok (.bastore, 1) := gq_0 db00f_98 eb_244
theorem d_X12_state_90 : decode prog_14_method_89_code 90 = .ok (.aload_n 0, 1) := gq_1 db00f_98 eb_0
theorem d_X12_state_91 : decode prog_14_method_89_code 91 = .ok (.getfield 220, 3) := gq_2 db00f_98 eb_1165
theorem d_X12_state_94 : decode prog_14_method_89_code 94 = .ok (.aload_n 0, 1) := gq_3 db00f_98 eb_0
theorem d_X12_state_95 : decode prog_14_method_89_code 95 = .ok (.getfield 591, 3) := gq_4 db00f_98 eb_1160
theorem d_X12_state_98 : decode prog_14_method_89_code 98 = .ok (.aload_n 0, 1) := gq_5 db00f_98 eb_0
theorem d_X12_state_99 : decode prog_14_method_89_code 99 = .ok (.getfield 342, 3) := gq_6 db00f_98 eb_928
theorem d_X12_state_102 : decode prog_14_method_89_code 102 = .ok (.iastore, 1) := gq_7 db00f_98 eb_38
theorem d_X12_state_103 : decode prog_14_method_89_code 103 = .ok (.aload_n 0, 1) := gq_8 db00f_98 eb_0
theorem d_X12_state_104 : decode prog_14_method_89_code 104 = .ok (.dup, 1) := gq_9 db00f_98 eb_46
theorem d_X12_state_105 : decode prog_14_method_89_code 105 = .ok (.getfield 591, 3) := gq_10 db00f_98 eb_1160
theorem d_X12_state_108 : decode prog_14_method_89_code 108 = .ok (.iconst 1, 1) := gq_11 db00f_98 eb_19
theorem d_X12_state_109 : decode prog_14_method_89_code 109 = .ok (.iadd, 1) := gq_12 db00f_98 eb_35
theorem d_X12_state_110 : decode prog_14_method_89_code 110 = .ok (.putfield 591, 3) := gq_13 db00f_98 eb_1166
theorem d_X12_state_113 : decode prog_14_method_89_code 113 = .ok (.aload_n 0, 1) := gq_14 db00f_98 eb_0
theorem d_X12_state_114 : decode prog_14_method_89_code 114 = .ok (.getfield 591, 3) := gq_15 db00f_98 eb_1160
theorem d_X12_state_117 : decode prog_14_method_89_code 117 = .ok (.iconst 1, 1) := gq_16 db00f_98 eb_19
theorem d_X12_state_118 : decode prog_14_method_89_code 118 = .ok (.isub, 1) := gq_17 db00f_98 eb_48
theorem d_X12_state_119 : decode prog_14_method_89_code 119 = .ok (.ireturn, 1) := gq_18 db00f_98 eb_15
theorem db00f_99 : Pf_ prog_14_method_90_code [(0, [0x03]), (1, [0x36, 0x04]), (3, [0x03]), (4, [0x36, 0x05]), (6, [0x03]), (7, [0x36, 0x06]), (9, [0x15, 0x06]), (11, [0x10, 0x10]), (13, [0xa2, 0x00, 0x95]), (16, [0x02]), (17, [0x36, 0x07]), (19, [0x03]), (20, [0x36, 0x08]), (22, [0x15, 0x08]), (24, [0x2a]), (25, [0xb4, 0x02, 0x4f]), (28, [0xa2, 0x00, 0x3a]), (31, [0x2a]), (32, [0xb4, 0x00, 0xd9]), (35, [0x15, 0x08])] := pf_ok prog_14_method_90_code _ 0 (by decide +kernel)
theorem d_X12_factOf_0 : decode prog_14_method_90_code 0 = .ok (.iconst 0, 1) := gq_0 db00f_99 eb_21
theorem d_X12_factOf_1 : decode prog_14_method_90_code 1 = .ok (.istore 4, 2) := gq_1 db00f_99 eb_133
theorem d_X12_factOf_3 : decode prog_14_method_90_code 3 = .ok (.iconst 0, 1) := gq_2 db00f_99 eb_21
theorem d_X12_factOf_4 : decode prog_14_method_90_code 4 = .ok (.istore 5, 2) := gq_3 db00f_99 eb_134
theorem d_X12_factOf_6 : decode prog_14_method_90_code 6 = .ok (.iconst 0, 1) := gq_4 db00f_99 eb_21
theorem d_X12_factOf_7 : decode prog_14_method_90_code 7 = .ok (.istore 6, 2) := gq_5 db00f_99 eb_58
theorem d_X12_factOf_9 : decode prog_14_method_90_code 9 = .ok (.iload 6, 2) := gq_6 db00f_99 eb_75
theorem d_X12_factOf_11 : decode prog_14_method_90_code 11 = .ok (.bipush 16, 2) := gq_7 db00f_99 eb_99
theorem d_X12_factOf_13 : decode prog_14_method_90_code 13 = .ok (.if_icmp .ge 149, 3) := gq_8 db00f_99 eb_1167
theorem d_X12_factOf_16 : decode prog_14_method_90_code 16 = .ok (.iconst (-1), 1) := gq_9 db00f_99 eb_26
theorem d_X12_factOf_17 : decode prog_14_method_90_code 17 = .ok (.istore 7, 2) := gq_10 db00f_99 eb_59
theorem d_X12_factOf_19 : decode prog_14_method_90_code 19 = .ok (.iconst 0, 1) := gq_11 db00f_99 eb_21
theorem d_X12_factOf_20 : decode prog_14_method_90_code 20 = .ok (.istore 8, 2) := gq_12 db00f_99 eb_61
theorem d_X12_factOf_22 : decode prog_14_method_90_code 22 = .ok (.iload 8, 2) := gq_13 db00f_99 eb_64
theorem d_X12_factOf_24 : decode prog_14_method_90_code 24 = .ok (.aload_n 0, 1) := gq_14 db00f_99 eb_0
theorem d_X12_factOf_25 : decode prog_14_method_90_code 25 = .ok (.getfield 591, 3) := gq_15 db00f_99 eb_1160
theorem d_X12_factOf_28 : decode prog_14_method_90_code 28 = .ok (.if_icmp .ge 58, 3) := gq_16 db00f_99 eb_256
theorem d_X12_factOf_31 : decode prog_14_method_90_code 31 = .ok (.aload_n 0, 1) := gq_17 db00f_99 eb_0
theorem d_X12_factOf_32 : decode prog_14_method_90_code 32 = .ok (.getfield 217, 3) := gq_18 db00f_99 eb_1163
theorem d_X12_factOf_35 : decode prog_14_method_90_code 35 = .ok (.iload 8, 2) := gq_19 db00f_99 eb_64
