theorem db00f_0 : Ad_ prog_14_method_53_code [(11, .iaload, 1), (12, .if_icmp .ge 57, 3), (15, .aload_n 0, 1), (16, .getfield 135, 3), (19, .aload_n 0, 1), (20, .getfield 58, 3), (23, .iload_n 1, 1), (24, .iaload, 1), (25, .iaload, 1), (26, .iconst (-1), 1), (27, .if_icmp .ne 29, 3), (30, .aload_n 0, 1), (31, .getfield 138, 3), (34, .aload_n 0, 1), (35, .getfield 58, 3), (38, .iload_n 1, 1), (39, .iaload, 1), (40, .iaload, 1), (41, .iconst (-1), 1), (42, .if_icmp .ne 14, 3), (45, .aload_n 0, 1), (46, .aload_n 0, 1), (47, .getfield 58, 3), (50, .iload_n 1, 1)] := bch_ok prog_14_method_53_code _ 11 (by decide +kernel)
theorem d_X12_drop_11 : decode prog_14_method_53_code 11 = .ok (.iaload, 1) := gd_0 db00f_0
theorem d_X12_drop_12 : decode prog_14_method_53_code 12 = .ok (.if_icmp .ge 57, 3) := gd_1 db00f_0
theorem d_X12_drop_15 : decode prog_14_method_53_code 15 = .ok (.aload_n 0, 1) := gd_2 db00f_0
theorem d_X12_drop_16 : decode prog_14_method_53_code 16 = .ok (.getfield 135, 3) := gd_3 db00f_0
theorem d_X12_drop_19 : decode prog_14_method_53_code 19 = .ok (.aload_n 0, 1) := gd_4 db00f_0
theorem d_X12_drop_20 : decode prog_14_method_53_code 20 = .ok (.getfield 58, 3) := gd_5 db00f_0
theorem d_X12_drop_23 : decode prog_14_method_53_code 23 = .ok (.iload_n 1, 1) := gd_6 db00f_0
theorem d_X12_drop_24 : decode prog_14_method_53_code 24 = .ok (.iaload, 1) := gd_7 db00f_0
theorem d_X12_drop_25 : decode prog_14_method_53_code 25 = .ok (.iaload, 1) := gd_8 db00f_0
theorem d_X12_drop_26 : decode prog_14_method_53_code 26 = .ok (.iconst (-1), 1) := gd_9 db00f_0
theorem d_X12_drop_27 : decode prog_14_method_53_code 27 = .ok (.if_icmp .ne 29, 3) := gd_10 db00f_0
theorem d_X12_drop_30 : decode prog_14_method_53_code 30 = .ok (.aload_n 0, 1) := gd_11 db00f_0
theorem d_X12_drop_31 : decode prog_14_method_53_code 31 = .ok (.getfield 138, 3) := gd_12 db00f_0
theorem d_X12_drop_34 : decode prog_14_method_53_code 34 = .ok (.aload_n 0, 1) := gd_13 db00f_0
theorem d_X12_drop_35 : decode prog_14_method_53_code 35 = .ok (.getfield 58, 3) := gd_14 db00f_0
theorem d_X12_drop_38 : decode prog_14_method_53_code 38 = .ok (.iload_n 1, 1) := gd_15 db00f_0
theorem d_X12_drop_39 : decode prog_14_method_53_code 39 = .ok (.iaload, 1) := gd_16 db00f_0
theorem d_X12_drop_40 : decode prog_14_method_53_code 40 = .ok (.iaload, 1) := gd_17 db00f_0
theorem d_X12_drop_41 : decode prog_14_method_53_code 41 = .ok (.iconst (-1), 1) := gd_18 db00f_0
theorem d_X12_drop_42 : decode prog_14_method_53_code 42 = .ok (.if_icmp .ne 14, 3) := gd_19 db00f_0
theorem d_X12_drop_45 : decode prog_14_method_53_code 45 = .ok (.aload_n 0, 1) := gd_20 db00f_0
theorem d_X12_drop_46 : decode prog_14_method_53_code 46 = .ok (.aload_n 0, 1) := gd_21 db00f_0
theorem d_X12_drop_47 : decode prog_14_method_53_code 47 = .ok (.getfield 58, 3) := gd_22 db00f_0
theorem d_X12_drop_50 : decode prog_14_method_53_code 50 = .ok (.iload_n 1, 1) := gd_23 db00f_0
theorem db00f_1 : Ad_ prog_14_method_53_code [(51, .iaload, 1), (52, .iload_n 2, 1), (53, .invokevirtual 500, 3), (56, .aload_n 0, 1), (57, .getfield 58, 3), (60, .iload_n 1, 1), (61, .dup2, 1), (62, .iaload, 1), (63, .iconst 1, 1), (64, .iadd, 1), (65, .iastore, 1), (66, .goto (-66), 3), (69, .aload_n 0, 1), (70, .getfield 49, 3), (73, .iload_n 1, 1), (74, .iconst (-1), 1), (75, .iastore, 1), (76, .return_, 1)] := bch_ok prog_14_method_53_code _ 51 (by decide +kernel)
theorem d_X12_drop_51 : decode prog_14_method_53_code 51 = .ok (.iaload, 1) := gd_0 db00f_1
theorem d_X12_drop_52 : decode prog_14_method_53_code 52 = .ok (.iload_n 2, 1) := gd_1 db00f_1
theorem d_X12_drop_53 : decode prog_14_method_53_code 53 = .ok (.invokevirtual 500, 3) := gd_2 db00f_1
theorem d_X12_drop_56 : decode prog_14_method_53_code 56 = .ok (.aload_n 0, 1) := gd_3 db00f_1
theorem d_X12_drop_57 : decode prog_14_method_53_code 57 = .ok (.getfield 58, 3) := gd_4 db00f_1
theorem d_X12_drop_60 : decode prog_14_method_53_code 60 = .ok (.iload_n 1, 1) := gd_5 db00f_1
theorem d_X12_drop_61 : decode prog_14_method_53_code 61 = .ok (.dup2, 1) := gd_6 db00f_1
theorem d_X12_drop_62 : decode prog_14_method_53_code 62 = .ok (.iaload, 1) := gd_7 db00f_1
theorem d_X12_drop_63 : decode prog_14_method_53_code 63 = .ok (.iconst 1, 1) := gd_8 db00f_1
theorem d_X12_drop_64 : decode prog_14_method_53_code 64 = .ok (.iadd, 1) := gd_9 db00f_1
theorem d_X12_drop_65 : decode prog_14_method_53_code 65 = .ok (.iastore, 1) := gd_10 db00f_1
theorem d_X12_drop_66 : decode prog_14_method_53_code 66 = .ok (.goto (-66), 3) := gd_11 db00f_1
theorem d_X12_drop_69 : decode prog_14_method_53_code 69 = .ok (.aload_n 0, 1) := gd_12 db00f_1
theorem d_X12_drop_70 : decode prog_14_method_53_code 70 = .ok (.getfield 49, 3) := gd_13 db00f_1
theorem d_X12_drop_73 : decode prog_14_method_53_code 73 = .ok (.iload_n 1, 1) := gd_14 db00f_1
theorem d_X12_drop_74 : decode prog_14_method_53_code 74 = .ok (.iconst (-1), 1) := gd_15 db00f_1
theorem d_X12_drop_75 : decode prog_14_method_53_code 75 = .ok (.iastore, 1) := gd_16 db00f_1
theorem d_X12_drop_76 : decode prog_14_method_53_code 76 = .ok (.return_, 1) := gd_17 db00f_1
theorem db00f_2 : Ad_ prog_14_method_54_code [(0, .aload_n 0, 1), (1, .getfield 135, 3), (4, .iload_n 1, 1), (5, .iaload, 1), (6, .iconst (-1), 1), (7, .if_icmp .eq 15, 3), (10, .aload_n 0, 1), (11, .getfield 135, 3), (14, .iload_n 1, 1), (15, .iaload, 1), (16, .iload_n 2, 1), (17, .if_icmp .gt 5, 3), (20, .iconst 1, 1), (21, .ireturn, 1), (22, .aload_n 0, 1), (23, .getfield 138, 3), (26, .iload_n 1, 1), (27, .iaload, 1), (28, .iconst (-1), 1), (29, .if_icmp .eq 17, 3), (32, .aload_n 0, 1), (33, .getfield 138, 3), (36, .iload_n 1, 1), (37, .iaload, 1)] := bch_ok prog_14_method_54_code _ 0 (by decide +kernel)
theorem d_X12_stateOf_0 : decode prog_14_method_54_code 0 = .ok (.aload_n 0, 1) := gd_0 db00f_2
theorem d_X12_stateOf_1 : decode prog_14_method_54_code 1 = .ok (.getfield 135, 3) := gd_1 db00f_2
theorem d_X12_stateOf_4 : decode prog_14_method_54_code 4 = .ok (.iload_n 1, 1) := gd_2 db00f_2
theorem d_X12_stateOf_5 : decode prog_14_method_54_code 5 = .ok (.iaload, 1) := gd_3 db00f_2
theorem d_X12_stateOf_6 : decode prog_14_method_54_code 6 = .ok (.iconst (-1), 1) := gd_4 db00f_2
theorem d_X12_stateOf_7 : decode prog_14_method_54_code 7 = .ok (.if_icmp .eq 15, 3) := gd_5 db00f_2
theorem d_X12_stateOf_10 : decode prog_14_method_54_code 10 = .ok (.aload_n 0, 1) := gd_6 db00f_2
theorem d_X12_stateOf_11 : decode prog_14_method_54_code 11 = .ok (.getfield 135, 3) := gd_7 db00f_2
theorem d_X12_stateOf_14 : decode prog_14_method_54_code 14 = .ok (.iload_n 1, 1) := gd_8 db00f_2
theorem d_X12_stateOf_15 : decode prog_14_method_54_code 15 = .ok (.iaload, 1) := gd_9 db00f_2
theorem d_X12_stateOf_16 : decode prog_14_method_54_code 16 = .ok (.iload_n 2, 1) := gd_10 db00f_2
theorem d_X12_stateOf_17 : decode prog_14_method_54_code 17 = .ok (.if_icmp .gt 5, 3) := gd_11 db00f_2
theorem d_X12_stateOf_20 : decode prog_14_method_54_code 20 = .ok (.iconst 1, 1) := gd_12 db00f_2
theorem d_X12_stateOf_21 : decode prog_14_method_54_code 21 = .ok (.ireturn, 1) := gd_13 db00f_2
theorem d_X12_stateOf_22 : decode prog_14_method_54_code 22 = .ok (.aload_n 0, 1) := gd_14 db00f_2
theorem d_X12_stateOf_23 : decode prog_14_method_54_code 23 = .ok (.getfield 138, 3) := gd_15 db00f_2
theorem d_X12_stateOf_26 : decode prog_14_method_54_code 26 = .ok (.iload_n 1, 1) := gd_16 db00f_2
theorem d_X12_stateOf_27 : decode prog_14_method_54_code 27 = .ok (.iaload, 1) := gd_17 db00f_2
theorem d_X12_stateOf_28 : decode prog_14_method_54_code 28 = .ok (.iconst (-1), 1) := gd_18 db00f_2
theorem d_X12_stateOf_29 : decode prog_14_method_54_code 29 = .ok (.if_icmp .eq 17, 3) := gd_19 db00f_2
theorem d_X12_stateOf_32 : decode prog_14_method_54_code 32 = .ok (.aload_n 0, 1) := gd_20 db00f_2
theorem d_X12_stateOf_33 : decode prog_14_method_54_code 33 = .ok (.getfield 138, 3) := gd_21 db00f_2
theorem d_X12_stateOf_36 : decode prog_14_method_54_code 36 = .ok (.iload_n 1, 1) := gd_22 db00f_2
theorem d_X12_stateOf_37 : decode prog_14_method_54_code 37 = .ok (.iaload, 1) := gd_23 db00f_2
theorem db00f_3 : Ad_ prog_14_method_54_code [(38, .iload_n 2, 1), (39, .if_icmp .gt 7, 3), (42, .iconst 2, 1), (43, .goto 4, 3), (46, .iconst 0, 1), (47, .ireturn, 1)] := bch_ok prog_14_method_54_code _ 38 (by decide +kernel)
theorem d_X12_stateOf_38 : decode prog_14_method_54_code 38 = .ok (.iload_n 2, 1) := gd_0 db00f_3
theorem d_X12_stateOf_39 : decode prog_14_method_54_code 39 = .ok (.if_icmp .gt 7, 3) := gd_1 db00f_3
theorem d_X12_stateOf_42 : decode prog_14_method_54_code 42 = .ok (.iconst 2, 1) := gd_2 db00f_3
theorem d_X12_stateOf_43 : decode prog_14_method_54_code 43 = .ok (.goto 4, 3) := gd_3 db00f_3
theorem d_X12_stateOf_46 : decode prog_14_method_54_code 46 = .ok (.iconst 0, 1) := gd_4 db00f_3
theorem d_X12_stateOf_47 : decode prog_14_method_54_code 47 = .ok (.ireturn, 1) := gd_5 db00f_3
theorem db00f_4 : Ad_ prog_14_method_55_code [(0, .aload_n 0, 1), (1, .getfield 141, 3), (4, .iload_n 1, 1), (5, .iaload, 1), (6, .istore_n 3, 1), (7, .iconst 0, 1), (8, .istore 4, 2), (10, .iload 4, 2), (12, .aload_n 0, 1), (13, .getfield 504, 3), (16, .if_icmp .ge 39, 3), (19, .aload_n 0, 1), (20, .getfield 147, 3), (23, .iload 4, 2), (25, .iaload, 1), (26, .iload_n 1, 1), (27, .if_icmp .ne 22, 3), (30, .aload_n 0, 1), (31, .getfield 153, 3), (34, .iload 4, 2), (36, .iaload, 1), (37, .iload_n 2, 1), (38, .if_icmp .gt 11, 3), (41, .aload_n 0, 1)] := bch_ok prog_14_method_55_code _ 0 (by decide +kernel)
theorem d_X12_causeOf_0 : decode prog_14_method_55_code 0 = .ok (.aload_n 0, 1) := gd_0 db00f_4
theorem d_X12_causeOf_1 : decode prog_14_method_55_code 1 = .ok (.getfield 141, 3) := gd_1 db00f_4
theorem d_X12_causeOf_4 : decode prog_14_method_55_code 4 = .ok (.iload_n 1, 1) := gd_2 db00f_4
theorem d_X12_causeOf_5 : decode prog_14_method_55_code 5 = .ok (.iaload, 1) := gd_3 db00f_4
theorem d_X12_causeOf_6 : decode prog_14_method_55_code 6 = .ok (.istore_n 3, 1) := gd_4 db00f_4
theorem d_X12_causeOf_7 : decode prog_14_method_55_code 7 = .ok (.iconst 0, 1) := gd_5 db00f_4
theorem d_X12_causeOf_8 : decode prog_14_method_55_code 8 = .ok (.istore 4, 2) := gd_6 db00f_4
theorem d_X12_causeOf_10 : decode prog_14_method_55_code 10 = .ok (.iload 4, 2) := gd_7 db00f_4
theorem d_X12_causeOf_12 : decode prog_14_method_55_code 12 = .ok (.aload_n 0, 1) := gd_8 db00f_4
theorem d_X12_causeOf_13 : decode prog_14_method_55_code 13 = .ok (.getfield 504, 3) := gd_9 db00f_4
theorem d_X12_causeOf_16 : decode prog_14_method_55_code 16 = .ok (.if_icmp .ge 39, 3) := gd_10 db00f_4
theorem d_X12_causeOf_19 : decode prog_14_method_55_code 19 = .ok (.aload_n 0, 1) := gd_11 db00f_4
theorem d_X12_causeOf_20 : decode prog_14_method_55_code 20 = .ok (.getfield 147, 3) := gd_12 db00f_4
theorem d_X12_causeOf_23 : decode prog_14_method_55_code 23 = .ok (.iload 4, 2) := gd_13 db00f_4
theorem d_X12_causeOf_25 : decode prog_14_method_55_code 25 = .ok (.iaload, 1) := gd_14 db00f_4
theorem d_X12_causeOf_26 : decode prog_14_method_55_code 26 = .ok (.iload_n 1, 1) := gd_15 db00f_4
theorem d_X12_causeOf_27 : decode prog_14_method_55_code 27 = .ok (.if_icmp .ne 22, 3) := gd_16 db00f_4
theorem d_X12_causeOf_30 : decode prog_14_method_55_code 30 = .ok (.aload_n 0, 1) := gd_17 db00f_4
theorem d_X12_causeOf_31 : decode prog_14_method_55_code 31 = .ok (.getfield 153, 3) := gd_18 db00f_4
theorem d_X12_causeOf_34 : decode prog_14_method_55_code 34 = .ok (.iload 4, 2) := gd_19 db00f_4
theorem d_X12_causeOf_36 : decode prog_14_method_55_code 36 = .ok (.iaload, 1) := gd_20 db00f_4
theorem d_X12_causeOf_37 : decode prog_14_method_55_code 37 = .ok (.iload_n 2, 1) := gd_21 db00f_4
theorem d_X12_causeOf_38 : decode prog_14_method_55_code 38 = .ok (.if_icmp .gt 11, 3) := gd_22 db00f_4
theorem d_X12_causeOf_41 : decode prog_14_method_55_code 41 = .ok (.aload_n 0, 1) := gd_23 db00f_4
theorem db00f_5 : Ad_ prog_14_method_55_code [(42, .getfield 150, 3), (45, .iload 4, 2), (47, .iaload, 1), (48, .istore_n 3, 1), (49, .iinc 4 1, 3), (52, .goto (-42), 3), (55, .iload_n 3, 1), (56, .ireturn, 1)] := bch_ok prog_14_method_55_code _ 42 (by decide +kernel)
theorem d_X12_causeOf_42 : decode prog_14_method_55_code 42 = .ok (.getfield 150, 3) := gd_0 db00f_5
theorem d_X12_causeOf_45 : decode prog_14_method_55_code 45 = .ok (.iload 4, 2) := gd_1 db00f_5
theorem d_X12_causeOf_47 : decode prog_14_method_55_code 47 = .ok (.iaload, 1) := gd_2 db00f_5
theorem d_X12_causeOf_48 : decode prog_14_method_55_code 48 = .ok (.istore_n 3, 1) := gd_3 db00f_5
theorem d_X12_causeOf_49 : decode prog_14_method_55_code 49 = .ok (.iinc 4 1, 3) := gd_4 db00f_5
theorem d_X12_causeOf_52 : decode prog_14_method_55_code 52 = .ok (.goto (-42), 3) := gd_5 db00f_5
theorem d_X12_causeOf_55 : decode prog_14_method_55_code 55 = .ok (.iload_n 3, 1) := gd_6 db00f_5
theorem d_X12_causeOf_56 : decode prog_14_method_55_code 56 = .ok (.ireturn, 1) := gd_7 db00f_5
theorem d_X12_point_35 : decode prog_14_method_56_code 35 = .ok (.tableswitch 82 0 4 #[33, 40, 47, 54, 61], 33) := by decide +kernel
theorem db00f_6 : Ad_ prog_14_method_56_code [(0, .iload_n 1, 1), (1, .iconst 0, 1), (2, .aload_n 0, 1), (3, .getfield 507, 3), (6, .iconst 1, 1), (7, .isub, 1), (8, .invokestatic 323, 3), (11, .ifCond .eq 21, 3), (14, .aload_n 0, 1), (15, .iload_n 2, 1), (16, .invokevirtual 351, 3), (19, .ifCond .eq 13, 3), (22, .aload_n 0, 1), (23, .getfield 144, 3), (26, .iload_n 1, 1), (27, .iaload, 1), (28, .iload_n 2, 1), (29, .if_icmp .le 5, 3), (32, .iconst (-1), 1), (33, .ireturn, 1), (34, .iload_n 3, 1), (68, .aload_n 0, 1), (69, .getfield 126, 3), (72, .iload_n 1, 1)] := bch_ok prog_14_method_56_code _ 0 (by decide +kernel)
theorem d_X12_point_0 : decode prog_14_method_56_code 0 = .ok (.iload_n 1, 1) := gd_0 db00f_6
theorem d_X12_point_1 : decode prog_14_method_56_code 1 = .ok (.iconst 0, 1) := gd_1 db00f_6
theorem d_X12_point_2 : decode prog_14_method_56_code 2 = .ok (.aload_n 0, 1) := gd_2 db00f_6
theorem d_X12_point_3 : decode prog_14_method_56_code 3 = .ok (.getfield 507, 3) := gd_3 db00f_6
theorem d_X12_point_6 : decode prog_14_method_56_code 6 = .ok (.iconst 1, 1) := gd_4 db00f_6
theorem d_X12_point_7 : decode prog_14_method_56_code 7 = .ok (.isub, 1) := gd_5 db00f_6
theorem d_X12_point_8 : decode prog_14_method_56_code 8 = .ok (.invokestatic 323, 3) := gd_6 db00f_6
theorem d_X12_point_11 : decode prog_14_method_56_code 11 = .ok (.ifCond .eq 21, 3) := gd_7 db00f_6
theorem d_X12_point_14 : decode prog_14_method_56_code 14 = .ok (.aload_n 0, 1) := gd_8 db00f_6
theorem d_X12_point_15 : decode prog_14_method_56_code 15 = .ok (.iload_n 2, 1) := gd_9 db00f_6
theorem d_X12_point_16 : decode prog_14_method_56_code 16 = .ok (.invokevirtual 351, 3) := gd_10 db00f_6
theorem d_X12_point_19 : decode prog_14_method_56_code 19 = .ok (.ifCond .eq 13, 3) := gd_11 db00f_6
theorem d_X12_point_22 : decode prog_14_method_56_code 22 = .ok (.aload_n 0, 1) := gd_12 db00f_6
theorem d_X12_point_23 : decode prog_14_method_56_code 23 = .ok (.getfield 144, 3) := gd_13 db00f_6
theorem d_X12_point_26 : decode prog_14_method_56_code 26 = .ok (.iload_n 1, 1) := gd_14 db00f_6
theorem d_X12_point_27 : decode prog_14_method_56_code 27 = .ok (.iaload, 1) := gd_15 db00f_6
theorem d_X12_point_28 : decode prog_14_method_56_code 28 = .ok (.iload_n 2, 1) := gd_16 db00f_6
theorem d_X12_point_29 : decode prog_14_method_56_code 29 = .ok (.if_icmp .le 5, 3) := gd_17 db00f_6
theorem d_X12_point_32 : decode prog_14_method_56_code 32 = .ok (.iconst (-1), 1) := gd_18 db00f_6
theorem d_X12_point_33 : decode prog_14_method_56_code 33 = .ok (.ireturn, 1) := gd_19 db00f_6
theorem d_X12_point_34 : decode prog_14_method_56_code 34 = .ok (.iload_n 3, 1) := gd_20 db00f_6
theorem d_X12_point_68 : decode prog_14_method_56_code 68 = .ok (.aload_n 0, 1) := gd_21 db00f_6
theorem d_X12_point_69 : decode prog_14_method_56_code 69 = .ok (.getfield 126, 3) := gd_22 db00f_6
theorem d_X12_point_72 : decode prog_14_method_56_code 72 = .ok (.iload_n 1, 1) := gd_23 db00f_6
theorem db00f_7 : Ad_ prog_14_method_56_code [(73, .iaload, 1), (74, .ireturn, 1), (75, .aload_n 0, 1), (76, .getfield 129, 3), (79, .iload_n 1, 1), (80, .iaload, 1), (81, .ireturn, 1), (82, .aload_n 0, 1), (83, .getfield 132, 3), (86, .iload_n 1, 1), (87, .iaload, 1), (88, .ireturn, 1), (89, .aload_n 0, 1), (90, .iload_n 1, 1), (91, .iload_n 2, 1), (92, .invokevirtual 510, 3), (95, .ireturn, 1), (96, .aload_n 0, 1), (97, .iload_n 1, 1), (98, .iload_n 2, 1), (99, .invokevirtual 510, 3), (102, .iconst 2, 1), (103, .if_icmp .ne 12, 3), (106, .aload_n 0, 1)] := bch_ok prog_14_method_56_code _ 73 (by decide +kernel)
theorem d_X12_point_73 : decode prog_14_method_56_code 73 = .ok (.iaload, 1) := gd_0 db00f_7
theorem d_X12_point_74 : decode prog_14_method_56_code 74 = .ok (.ireturn, 1) := gd_1 db00f_7
theorem d_X12_point_75 : decode prog_14_method_56_code 75 = .ok (.aload_n 0, 1) := gd_2 db00f_7
theorem d_X12_point_76 : decode prog_14_method_56_code 76 = .ok (.getfield 129, 3) := gd_3 db00f_7
theorem d_X12_point_79 : decode prog_14_method_56_code 79 = .ok (.iload_n 1, 1) := gd_4 db00f_7
theorem d_X12_point_80 : decode prog_14_method_56_code 80 = .ok (.iaload, 1) := gd_5 db00f_7
theorem d_X12_point_81 : decode prog_14_method_56_code 81 = .ok (.ireturn, 1) := gd_6 db00f_7
theorem d_X12_point_82 : decode prog_14_method_56_code 82 = .ok (.aload_n 0, 1) := gd_7 db00f_7
theorem d_X12_point_83 : decode prog_14_method_56_code 83 = .ok (.getfield 132, 3) := gd_8 db00f_7
theorem d_X12_point_86 : decode prog_14_method_56_code 86 = .ok (.iload_n 1, 1) := gd_9 db00f_7
theorem d_X12_point_87 : decode prog_14_method_56_code 87 = .ok (.iaload, 1) := gd_10 db00f_7
theorem d_X12_point_88 : decode prog_14_method_56_code 88 = .ok (.ireturn, 1) := gd_11 db00f_7
theorem d_X12_point_89 : decode prog_14_method_56_code 89 = .ok (.aload_n 0, 1) := gd_12 db00f_7
theorem d_X12_point_90 : decode prog_14_method_56_code 90 = .ok (.iload_n 1, 1) := gd_13 db00f_7
theorem d_X12_point_91 : decode prog_14_method_56_code 91 = .ok (.iload_n 2, 1) := gd_14 db00f_7
theorem d_X12_point_92 : decode prog_14_method_56_code 92 = .ok (.invokevirtual 510, 3) := gd_15 db00f_7
theorem d_X12_point_95 : decode prog_14_method_56_code 95 = .ok (.ireturn, 1) := gd_16 db00f_7
theorem d_X12_point_96 : decode prog_14_method_56_code 96 = .ok (.aload_n 0, 1) := gd_17 db00f_7
theorem d_X12_point_97 : decode prog_14_method_56_code 97 = .ok (.iload_n 1, 1) := gd_18 db00f_7
theorem d_X12_point_98 : decode prog_14_method_56_code 98 = .ok (.iload_n 2, 1) := gd_19 db00f_7
theorem d_X12_point_99 : decode prog_14_method_56_code 99 = .ok (.invokevirtual 510, 3) := gd_20 db00f_7
theorem d_X12_point_102 : decode prog_14_method_56_code 102 = .ok (.iconst 2, 1) := gd_21 db00f_7
theorem d_X12_point_103 : decode prog_14_method_56_code 103 = .ok (.if_icmp .ne 12, 3) := gd_22 db00f_7
theorem d_X12_point_106 : decode prog_14_method_56_code 106 = .ok (.aload_n 0, 1) := gd_23 db00f_7
theorem db00f_8 : Ad_ prog_14_method_56_code [(107, .iload_n 1, 1), (108, .iload_n 2, 1), (109, .invokevirtual 513, 3), (112, .goto 4, 3), (115, .iconst (-1), 1), (116, .ireturn, 1), (117, .iconst (-1), 1), (118, .ireturn, 1)] := bch_ok prog_14_method_56_code _ 107 (by decide +kernel)
theorem d_X12_point_107 : decode prog_14_method_56_code 107 = .ok (.iload_n 1, 1) := gd_0 db00f_8
theorem d_X12_point_108 : decode prog_14_method_56_code 108 = .ok (.iload_n 2, 1) := gd_1 db00f_8
theorem d_X12_point_109 : decode prog_14_method_56_code 109 = .ok (.invokevirtual 513, 3) := gd_2 db00f_8
theorem d_X12_point_112 : decode prog_14_method_56_code 112 = .ok (.goto 4, 3) := gd_3 db00f_8
theorem d_X12_point_115 : decode prog_14_method_56_code 115 = .ok (.iconst (-1), 1) := gd_4 db00f_8
theorem d_X12_point_116 : decode prog_14_method_56_code 116 = .ok (.ireturn, 1) := gd_5 db00f_8
theorem d_X12_point_117 : decode prog_14_method_56_code 117 = .ok (.iconst (-1), 1) := gd_6 db00f_8
theorem d_X12_point_118 : decode prog_14_method_56_code 118 = .ok (.ireturn, 1) := gd_7 db00f_8
theorem db00f_9 : Ad_ prog_14_method_57_code [(0, .iload_n 1, 1), (1, .iconst 0, 1), (2, .aload_n 0, 1), (3, .getfield 507, 3), (6, .iconst 1, 1), (7, .isub, 1), (8, .invokestatic 323, 3), (11, .ifCond .eq 36, 3), (14, .aload_n 0, 1), (15, .iload_n 1, 1), (16, .aload_n 0, 1), (17, .getfield 342, 3), (20, .invokevirtual 510, 3), (23, .iconst 2, 1), (24, .if_icmp .ne 23, 3), (27, .iload_n 2, 1), (28, .iconst 1, 1), (29, .bipush 9, 2), (31, .invokestatic 323, 3), (34, .ifCond .eq 13, 3), (37, .aload_n 0, 1), (38, .getfield 504, 3), (41, .sipush 200, 3), (44, .if_icmp .ne 5, 3)] := bch_ok prog_14_method_57_code _ 0 (by decide +kernel)
theorem d_X12_cause_0 : decode prog_14_method_57_code 0 = .ok (.iload_n 1, 1) := gd_0 db00f_9
theorem d_X12_cause_1 : decode prog_14_method_57_code 1 = .ok (.iconst 0, 1) := gd_1 db00f_9
theorem d_X12_cause_2 : decode prog_14_method_57_code 2 = .ok (.aload_n 0, 1) := gd_2 db00f_9
theorem d_X12_cause_3 : decode prog_14_method_57_code 3 = .ok (.getfield 507, 3) := gd_3 db00f_9
theorem d_X12_cause_6 : decode prog_14_method_57_code 6 = .ok (.iconst 1, 1) := gd_4 db00f_9
theorem d_X12_cause_7 : decode prog_14_method_57_code 7 = .ok (.isub, 1) := gd_5 db00f_9
theorem d_X12_cause_8 : decode prog_14_method_57_code 8 = .ok (.invokestatic 323, 3) := gd_6 db00f_9
theorem d_X12_cause_11 : decode prog_14_method_57_code 11 = .ok (.ifCond .eq 36, 3) := gd_7 db00f_9
theorem d_X12_cause_14 : decode prog_14_method_57_code 14 = .ok (.aload_n 0, 1) := gd_8 db00f_9
theorem d_X12_cause_15 : decode prog_14_method_57_code 15 = .ok (.iload_n 1, 1) := gd_9 db00f_9
theorem d_X12_cause_16 : decode prog_14_method_57_code 16 = .ok (.aload_n 0, 1) := gd_10 db00f_9
theorem d_X12_cause_17 : decode prog_14_method_57_code 17 = .ok (.getfield 342, 3) := gd_11 db00f_9
theorem d_X12_cause_20 : decode prog_14_method_57_code 20 = .ok (.invokevirtual 510, 3) := gd_12 db00f_9
theorem d_X12_cause_23 : decode prog_14_method_57_code 23 = .ok (.iconst 2, 1) := gd_13 db00f_9
theorem d_X12_cause_24 : decode prog_14_method_57_code 24 = .ok (.if_icmp .ne 23, 3) := gd_14 db00f_9
theorem d_X12_cause_27 : decode prog_14_method_57_code 27 = .ok (.iload_n 2, 1) := gd_15 db00f_9
theorem d_X12_cause_28 : decode prog_14_method_57_code 28 = .ok (.iconst 1, 1) := gd_16 db00f_9
theorem d_X12_cause_29 : decode prog_14_method_57_code 29 = .ok (.bipush 9, 2) := gd_17 db00f_9
theorem d_X12_cause_31 : decode prog_14_method_57_code 31 = .ok (.invokestatic 323, 3) := gd_18 db00f_9
theorem d_X12_cause_34 : decode prog_14_method_57_code 34 = .ok (.ifCond .eq 13, 3) := gd_19 db00f_9
theorem d_X12_cause_37 : decode prog_14_method_57_code 37 = .ok (.aload_n 0, 1) := gd_20 db00f_9
theorem d_X12_cause_38 : decode prog_14_method_57_code 38 = .ok (.getfield 504, 3) := gd_21 db00f_9
theorem d_X12_cause_41 : decode prog_14_method_57_code 41 = .ok (.sipush 200, 3) := gd_22 db00f_9
theorem d_X12_cause_44 : decode prog_14_method_57_code 44 = .ok (.if_icmp .ne 5, 3) := gd_23 db00f_9
theorem db00f_10 : Ad_ prog_14_method_57_code [(47, .iconst 0, 1), (48, .ireturn, 1), (49, .aload_n 0, 1), (50, .getfield 147, 3), (53, .aload_n 0, 1), (54, .getfield 504, 3), (57, .iload_n 1, 1), (58, .iastore, 1), (59, .aload_n 0, 1), (60, .getfield 150, 3), (63, .aload_n 0, 1), (64, .getfield 504, 3), (67, .iload_n 2, 1), (68, .iastore, 1), (69, .aload_n 0, 1), (70, .getfield 153, 3), (73, .aload_n 0, 1), (74, .getfield 504, 3), (77, .aload_n 0, 1), (78, .getfield 342, 3), (81, .iastore, 1), (82, .aload_n 0, 1), (83, .dup, 1), (84, .getfield 504, 3)] := bch_ok prog_14_method_57_code _ 47 (by decide +kernel)
theorem d_X12_cause_47 : decode prog_14_method_57_code 47 = .ok (.iconst 0, 1) := gd_0 db00f_10
theorem d_X12_cause_48 : decode prog_14_method_57_code 48 = .ok (.ireturn, 1) := gd_1 db00f_10
theorem d_X12_cause_49 : decode prog_14_method_57_code 49 = .ok (.aload_n 0, 1) := gd_2 db00f_10
theorem d_X12_cause_50 : decode prog_14_method_57_code 50 = .ok (.getfield 147, 3) := gd_3 db00f_10
theorem d_X12_cause_53 : decode prog_14_method_57_code 53 = .ok (.aload_n 0, 1) := gd_4 db00f_10
theorem d_X12_cause_54 : decode prog_14_method_57_code 54 = .ok (.getfield 504, 3) := gd_5 db00f_10
theorem d_X12_cause_57 : decode prog_14_method_57_code 57 = .ok (.iload_n 1, 1) := gd_6 db00f_10
theorem d_X12_cause_58 : decode prog_14_method_57_code 58 = .ok (.iastore, 1) := gd_7 db00f_10
theorem d_X12_cause_59 : decode prog_14_method_57_code 59 = .ok (.aload_n 0, 1) := gd_8 db00f_10
theorem d_X12_cause_60 : decode prog_14_method_57_code 60 = .ok (.getfield 150, 3) := gd_9 db00f_10
theorem d_X12_cause_63 : decode prog_14_method_57_code 63 = .ok (.aload_n 0, 1) := gd_10 db00f_10
theorem d_X12_cause_64 : decode prog_14_method_57_code 64 = .ok (.getfield 504, 3) := gd_11 db00f_10
theorem d_X12_cause_67 : decode prog_14_method_57_code 67 = .ok (.iload_n 2, 1) := gd_12 db00f_10
theorem d_X12_cause_68 : decode prog_14_method_57_code 68 = .ok (.iastore, 1) := gd_13 db00f_10
theorem d_X12_cause_69 : decode prog_14_method_57_code 69 = .ok (.aload_n 0, 1) := gd_14 db00f_10
theorem d_X12_cause_70 : decode prog_14_method_57_code 70 = .ok (.getfield 153, 3) := gd_15 db00f_10
theorem d_X12_cause_73 : decode prog_14_method_57_code 73 = .ok (.aload_n 0, 1) := gd_16 db00f_10
theorem d_X12_cause_74 : decode prog_14_method_57_code 74 = .ok (.getfield 504, 3) := gd_17 db00f_10
theorem d_X12_cause_77 : decode prog_14_method_57_code 77 = .ok (.aload_n 0, 1) := gd_18 db00f_10
theorem d_X12_cause_78 : decode prog_14_method_57_code 78 = .ok (.getfield 342, 3) := gd_19 db00f_10
theorem d_X12_cause_81 : decode prog_14_method_57_code 81 = .ok (.iastore, 1) := gd_20 db00f_10
theorem d_X12_cause_82 : decode prog_14_method_57_code 82 = .ok (.aload_n 0, 1) := gd_21 db00f_10
theorem d_X12_cause_83 : decode prog_14_method_57_code 83 = .ok (.dup, 1) := gd_22 db00f_10
theorem d_X12_cause_84 : decode prog_14_method_57_code 84 = .ok (.getfield 504, 3) := gd_23 db00f_10
theorem db00f_11 : Ad_ prog_14_method_57_code [(87, .iconst 1, 1), (88, .iadd, 1), (89, .putfield 504, 3), (92, .iconst 1, 1), (93, .ireturn, 1)] := bch_ok prog_14_method_57_code _ 87 (by decide +kernel)
theorem d_X12_cause_87 : decode prog_14_method_57_code 87 = .ok (.iconst 1, 1) := gd_0 db00f_11
theorem d_X12_cause_88 : decode prog_14_method_57_code 88 = .ok (.iadd, 1) := gd_1 db00f_11
theorem d_X12_cause_89 : decode prog_14_method_57_code 89 = .ok (.putfield 504, 3) := gd_2 db00f_11
theorem d_X12_cause_92 : decode prog_14_method_57_code 92 = .ok (.iconst 1, 1) := gd_3 db00f_11
theorem d_X12_cause_93 : decode prog_14_method_57_code 93 = .ok (.ireturn, 1) := gd_4 db00f_11
theorem db00f_12 : Ad_ prog_14_method_58_code [(0, .iload_n 1, 1), (1, .iconst 1, 1), (2, .bipush 9, 2), (4, .invokestatic 323, 3), (7, .ifCond .eq 11, 3), (10, .aload_n 0, 1), (11, .iload_n 2, 1), (12, .invokevirtual 351, 3), (15, .ifCond .ne 5, 3), (18, .iconst (-1), 1), (19, .ireturn, 1), (20, .iconst 0, 1), (21, .istore_n 3, 1), (22, .iconst 0, 1), (23, .istore 4, 2), (25, .iload 4, 2), (27, .aload_n 0, 1), (28, .getfield 507, 3), (31, .if_icmp .ge 39, 3), (34, .iload_n 3, 1), (35, .aload_n 0, 1), (36, .iload 4, 2), (38, .iload_n 2, 1), (39, .invokevirtual 510, 3)] := bch_ok prog_14_method_58_code _ 0 (by decide +kernel)
theorem d_X12_causes_0 : decode prog_14_method_58_code 0 = .ok (.iload_n 1, 1) := gd_0 db00f_12
theorem d_X12_causes_1 : decode prog_14_method_58_code 1 = .ok (.iconst 1, 1) := gd_1 db00f_12
theorem d_X12_causes_2 : decode prog_14_method_58_code 2 = .ok (.bipush 9, 2) := gd_2 db00f_12
theorem d_X12_causes_4 : decode prog_14_method_58_code 4 = .ok (.invokestatic 323, 3) := gd_3 db00f_12
theorem d_X12_causes_7 : decode prog_14_method_58_code 7 = .ok (.ifCond .eq 11, 3) := gd_4 db00f_12
theorem d_X12_causes_10 : decode prog_14_method_58_code 10 = .ok (.aload_n 0, 1) := gd_5 db00f_12
theorem d_X12_causes_11 : decode prog_14_method_58_code 11 = .ok (.iload_n 2, 1) := gd_6 db00f_12
theorem d_X12_causes_12 : decode prog_14_method_58_code 12 = .ok (.invokevirtual 351, 3) := gd_7 db00f_12
theorem d_X12_causes_15 : decode prog_14_method_58_code 15 = .ok (.ifCond .ne 5, 3) := gd_8 db00f_12
theorem d_X12_causes_18 : decode prog_14_method_58_code 18 = .ok (.iconst (-1), 1) := gd_9 db00f_12
theorem d_X12_causes_19 : decode prog_14_method_58_code 19 = .ok (.ireturn, 1) := gd_10 db00f_12
theorem d_X12_causes_20 : decode prog_14_method_58_code 20 = .ok (.iconst 0, 1) := gd_11 db00f_12
theorem d_X12_causes_21 : decode prog_14_method_58_code 21 = .ok (.istore_n 3, 1) := gd_12 db00f_12
theorem d_X12_causes_22 : decode prog_14_method_58_code 22 = .ok (.iconst 0, 1) := gd_13 db00f_12
theorem d_X12_causes_23 : decode prog_14_method_58_code 23 = .ok (.istore 4, 2) := gd_14 db00f_12
theorem d_X12_causes_25 : decode prog_14_method_58_code 25 = .ok (.iload 4, 2) := gd_15 db00f_12
theorem d_X12_causes_27 : decode prog_14_method_58_code 27 = .ok (.aload_n 0, 1) := gd_16 db00f_12
theorem d_X12_causes_28 : decode prog_14_method_58_code 28 = .ok (.getfield 507, 3) := gd_17 db00f_12
theorem d_X12_causes_31 : decode prog_14_method_58_code 31 = .ok (.if_icmp .ge 39, 3) := gd_18 db00f_12
theorem d_X12_causes_34 : decode prog_14_method_58_code 34 = .ok (.iload_n 3, 1) := gd_19 db00f_12
theorem d_X12_causes_35 : decode prog_14_method_58_code 35 = .ok (.aload_n 0, 1) := gd_20 db00f_12
theorem d_X12_causes_36 : decode prog_14_method_58_code 36 = .ok (.iload 4, 2) := gd_21 db00f_12
theorem d_X12_causes_38 : decode prog_14_method_58_code 38 = .ok (.iload_n 2, 1) := gd_22 db00f_12
theorem d_X12_causes_39 : decode prog_14_method_58_code 39 = .ok (.invokevirtual 510, 3) := gd_23 db00f_12
theorem db00f_13 : Ad_ prog_14_method_58_code [(42, .iconst 2, 1), (43, .if_icmp .ne 18, 3), (46, .aload_n 0, 1), (47, .iload 4, 2), (49, .iload_n 2, 1), (50, .invokevirtual 513, 3), (53, .iload_n 1, 1), (54, .if_icmp .ne 7, 3), (57, .iconst 1, 1), (58, .goto 4, 3), (61, .iconst 0, 1), (62, .iadd, 1), (63, .istore_n 3, 1), (64, .iinc 4 1, 3), (67, .goto (-42), 3), (70, .iload_n 3, 1), (71, .ireturn, 1)] := bch_ok prog_14_method_58_code _ 42 (by decide +kernel)
theorem d_X12_causes_42 : decode prog_14_method_58_code 42 = .ok (.iconst 2, 1) := gd_0 db00f_13
theorem d_X12_causes_43 : decode prog_14_method_58_code 43 = .ok (.if_icmp .ne 18, 3) := gd_1 db00f_13
theorem d_X12_causes_46 : decode prog_14_method_58_code 46 = .ok (.aload_n 0, 1) := gd_2 db00f_13
theorem d_X12_causes_47 : decode prog_14_method_58_code 47 = .ok (.iload 4, 2) := gd_3 db00f_13
theorem d_X12_causes_49 : decode prog_14_method_58_code 49 = .ok (.iload_n 2, 1) := gd_4 db00f_13
theorem d_X12_causes_50 : decode prog_14_method_58_code 50 = .ok (.invokevirtual 513, 3) := gd_5 db00f_13
theorem d_X12_causes_53 : decode prog_14_method_58_code 53 = .ok (.iload_n 1, 1) := gd_6 db00f_13
theorem d_X12_causes_54 : decode prog_14_method_58_code 54 = .ok (.if_icmp .ne 7, 3) := gd_7 db00f_13
theorem d_X12_causes_57 : decode prog_14_method_58_code 57 = .ok (.iconst 1, 1) := gd_8 db00f_13
theorem d_X12_causes_58 : decode prog_14_method_58_code 58 = .ok (.goto 4, 3) := gd_9 db00f_13
theorem d_X12_causes_61 : decode prog_14_method_58_code 61 = .ok (.iconst 0, 1) := gd_10 db00f_13
theorem d_X12_causes_62 : decode prog_14_method_58_code 62 = .ok (.iadd, 1) := gd_11 db00f_13
theorem d_X12_causes_63 : decode prog_14_method_58_code 63 = .ok (.istore_n 3, 1) := gd_12 db00f_13
theorem d_X12_causes_64 : decode prog_14_method_58_code 64 = .ok (.iinc 4 1, 3) := gd_13 db00f_13
theorem d_X12_causes_67 : decode prog_14_method_58_code 67 = .ok (.goto (-42), 3) := gd_14 db00f_13
theorem d_X12_causes_70 : decode prog_14_method_58_code 70 = .ok (.iload_n 3, 1) := gd_15 db00f_13
theorem d_X12_causes_71 : decode prog_14_method_58_code 71 = .ok (.ireturn, 1) := gd_16 db00f_13
theorem db00f_14 : Ad_ prog_14_method_59_code [(0, .aload_n 0, 1), (1, .getfield 34, 3), (4, .iload_n 1, 1), (5, .iconst 0, 1), (6, .iastore, 1), (7, .aload_n 0, 1), (8, .getfield 37, 3), (11, .iload_n 1, 1), (12, .aload_n 0, 1), (13, .getfield 28, 3), (16, .iload_n 1, 1), (17, .iaload, 1), (18, .iastore, 1), (19, .aload_n 0, 1), (20, .getfield 40, 3), (23, .iload_n 1, 1), (24, .iconst (-1), 1), (25, .iastore, 1), (26, .aload_n 0, 1), (27, .getfield 43, 3), (30, .iload_n 1, 1), (31, .iconst (-1), 1), (32, .iastore, 1), (33, .aload_n 0, 1)] := bch_ok prog_14_method_59_code _ 0 (by decide +kernel)
theorem d_X12_free_0 : decode prog_14_method_59_code 0 = .ok (.aload_n 0, 1) := gd_0 db00f_14
theorem d_X12_free_1 : decode prog_14_method_59_code 1 = .ok (.getfield 34, 3) := gd_1 db00f_14
theorem d_X12_free_4 : decode prog_14_method_59_code 4 = .ok (.iload_n 1, 1) := gd_2 db00f_14
theorem d_X12_free_5 : decode prog_14_method_59_code 5 = .ok (.iconst 0, 1) := gd_3 db00f_14
theorem d_X12_free_6 : decode prog_14_method_59_code 6 = .ok (.iastore, 1) := gd_4 db00f_14
theorem d_X12_free_7 : decode prog_14_method_59_code 7 = .ok (.aload_n 0, 1) := gd_5 db00f_14
theorem d_X12_free_8 : decode prog_14_method_59_code 8 = .ok (.getfield 37, 3) := gd_6 db00f_14
theorem d_X12_free_11 : decode prog_14_method_59_code 11 = .ok (.iload_n 1, 1) := gd_7 db00f_14
theorem d_X12_free_12 : decode prog_14_method_59_code 12 = .ok (.aload_n 0, 1) := gd_8 db00f_14
theorem d_X12_free_13 : decode prog_14_method_59_code 13 = .ok (.getfield 28, 3) := gd_9 db00f_14
theorem d_X12_free_16 : decode prog_14_method_59_code 16 = .ok (.iload_n 1, 1) := gd_10 db00f_14
theorem d_X12_free_17 : decode prog_14_method_59_code 17 = .ok (.iaload, 1) := gd_11 db00f_14
theorem d_X12_free_18 : decode prog_14_method_59_code 18 = .ok (.iastore, 1) := gd_12 db00f_14
theorem d_X12_free_19 : decode prog_14_method_59_code 19 = .ok (.aload_n 0, 1) := gd_13 db00f_14
theorem d_X12_free_20 : decode prog_14_method_59_code 20 = .ok (.getfield 40, 3) := gd_14 db00f_14
theorem d_X12_free_23 : decode prog_14_method_59_code 23 = .ok (.iload_n 1, 1) := gd_15 db00f_14
theorem d_X12_free_24 : decode prog_14_method_59_code 24 = .ok (.iconst (-1), 1) := gd_16 db00f_14
theorem d_X12_free_25 : decode prog_14_method_59_code 25 = .ok (.iastore, 1) := gd_17 db00f_14
theorem d_X12_free_26 : decode prog_14_method_59_code 26 = .ok (.aload_n 0, 1) := gd_18 db00f_14
theorem d_X12_free_27 : decode prog_14_method_59_code 27 = .ok (.getfield 43, 3) := gd_19 db00f_14
theorem d_X12_free_30 : decode prog_14_method_59_code 30 = .ok (.iload_n 1, 1) := gd_20 db00f_14
theorem d_X12_free_31 : decode prog_14_method_59_code 31 = .ok (.iconst (-1), 1) := gd_21 db00f_14
theorem d_X12_free_32 : decode prog_14_method_59_code 32 = .ok (.iastore, 1) := gd_22 db00f_14
theorem d_X12_free_33 : decode prog_14_method_59_code 33 = .ok (.aload_n 0, 1) := gd_23 db00f_14
theorem db00f_15 : Ad_ prog_14_method_59_code [(34, .getfield 49, 3), (37, .iload_n 1, 1), (38, .iconst (-1), 1), (39, .iastore, 1), (40, .iconst 0, 1), (41, .istore_n 2, 1), (42, .iload_n 2, 1), (43, .aload_n 0, 1), (44, .getfield 516, 3), (47, .if_icmp .ge 49, 3), (50, .aload_n 0, 1), (51, .getfield 178, 3), (54, .iload_n 2, 1), (55, .iaload, 1), (56, .iload_n 1, 1), (57, .if_icmp .ne 33, 3), (60, .aload_n 0, 1), (61, .getfield 187, 3), (64, .iload_n 2, 1), (65, .iaload, 1), (66, .iconst 1, 1), (67, .if_icmp .ne 23, 3), (70, .aload_n 0, 1), (71, .getfield 193, 3)] := bch_ok prog_14_method_59_code _ 34 (by decide +kernel)
theorem d_X12_free_34 : decode prog_14_method_59_code 34 = .ok (.getfield 49, 3) := gd_0 db00f_15
theorem d_X12_free_37 : decode prog_14_method_59_code 37 = .ok (.iload_n 1, 1) := gd_1 db00f_15
theorem d_X12_free_38 : decode prog_14_method_59_code 38 = .ok (.iconst (-1), 1) := gd_2 db00f_15
theorem d_X12_free_39 : decode prog_14_method_59_code 39 = .ok (.iastore, 1) := gd_3 db00f_15
theorem d_X12_free_40 : decode prog_14_method_59_code 40 = .ok (.iconst 0, 1) := gd_4 db00f_15
theorem d_X12_free_41 : decode prog_14_method_59_code 41 = .ok (.istore_n 2, 1) := gd_5 db00f_15
theorem d_X12_free_42 : decode prog_14_method_59_code 42 = .ok (.iload_n 2, 1) := gd_6 db00f_15
theorem d_X12_free_43 : decode prog_14_method_59_code 43 = .ok (.aload_n 0, 1) := gd_7 db00f_15
theorem d_X12_free_44 : decode prog_14_method_59_code 44 = .ok (.getfield 516, 3) := gd_8 db00f_15
theorem d_X12_free_47 : decode prog_14_method_59_code 47 = .ok (.if_icmp .ge 49, 3) := gd_9 db00f_15
theorem d_X12_free_50 : decode prog_14_method_59_code 50 = .ok (.aload_n 0, 1) := gd_10 db00f_15
theorem d_X12_free_51 : decode prog_14_method_59_code 51 = .ok (.getfield 178, 3) := gd_11 db00f_15
theorem d_X12_free_54 : decode prog_14_method_59_code 54 = .ok (.iload_n 2, 1) := gd_12 db00f_15
theorem d_X12_free_55 : decode prog_14_method_59_code 55 = .ok (.iaload, 1) := gd_13 db00f_15
theorem d_X12_free_56 : decode prog_14_method_59_code 56 = .ok (.iload_n 1, 1) := gd_14 db00f_15
theorem d_X12_free_57 : decode prog_14_method_59_code 57 = .ok (.if_icmp .ne 33, 3) := gd_15 db00f_15
theorem d_X12_free_60 : decode prog_14_method_59_code 60 = .ok (.aload_n 0, 1) := gd_16 db00f_15
theorem d_X12_free_61 : decode prog_14_method_59_code 61 = .ok (.getfield 187, 3) := gd_17 db00f_15
theorem d_X12_free_64 : decode prog_14_method_59_code 64 = .ok (.iload_n 2, 1) := gd_18 db00f_15
theorem d_X12_free_65 : decode prog_14_method_59_code 65 = .ok (.iaload, 1) := gd_19 db00f_15
theorem d_X12_free_66 : decode prog_14_method_59_code 66 = .ok (.iconst 1, 1) := gd_20 db00f_15
theorem d_X12_free_67 : decode prog_14_method_59_code 67 = .ok (.if_icmp .ne 23, 3) := gd_21 db00f_15
theorem d_X12_free_70 : decode prog_14_method_59_code 70 = .ok (.aload_n 0, 1) := gd_22 db00f_15
theorem d_X12_free_71 : decode prog_14_method_59_code 71 = .ok (.getfield 193, 3) := gd_23 db00f_15
theorem db00f_16 : Ad_ prog_14_method_59_code [(74, .iload_n 2, 1), (75, .iaload, 1), (76, .iconst (-1), 1), (77, .if_icmp .ne 13, 3), (80, .aload_n 0, 1), (81, .getfield 193, 3), (84, .iload_n 2, 1), (85, .aload_n 0, 1), (86, .getfield 342, 3), (89, .iastore, 1), (90, .iinc 2 1, 3), (93, .goto (-51), 3), (96, .return_, 1)] := bch_ok prog_14_method_59_code _ 74 (by decide +kernel)
theorem d_X12_free_74 : decode prog_14_method_59_code 74 = .ok (.iload_n 2, 1) := gd_0 db00f_16
theorem d_X12_free_75 : decode prog_14_method_59_code 75 = .ok (.iaload, 1) := gd_1 db00f_16
theorem d_X12_free_76 : decode prog_14_method_59_code 76 = .ok (.iconst (-1), 1) := gd_2 db00f_16
theorem d_X12_free_77 : decode prog_14_method_59_code 77 = .ok (.if_icmp .ne 13, 3) := gd_3 db00f_16
theorem d_X12_free_80 : decode prog_14_method_59_code 80 = .ok (.aload_n 0, 1) := gd_4 db00f_16
theorem d_X12_free_81 : decode prog_14_method_59_code 81 = .ok (.getfield 193, 3) := gd_5 db00f_16
theorem d_X12_free_84 : decode prog_14_method_59_code 84 = .ok (.iload_n 2, 1) := gd_6 db00f_16
theorem d_X12_free_85 : decode prog_14_method_59_code 85 = .ok (.aload_n 0, 1) := gd_7 db00f_16
theorem d_X12_free_86 : decode prog_14_method_59_code 86 = .ok (.getfield 342, 3) := gd_8 db00f_16
theorem d_X12_free_89 : decode prog_14_method_59_code 89 = .ok (.iastore, 1) := gd_9 db00f_16
theorem d_X12_free_90 : decode prog_14_method_59_code 90 = .ok (.iinc 2 1, 3) := gd_10 db00f_16
theorem d_X12_free_93 : decode prog_14_method_59_code 93 = .ok (.goto (-51), 3) := gd_11 db00f_16
theorem d_X12_free_96 : decode prog_14_method_59_code 96 = .ok (.return_, 1) := gd_12 db00f_16
theorem db00f_17 : Ad_ prog_14_method_60_code [(0, .aload_n 0, 1), (1, .aload_n 0, 1), (2, .getfield 37, 3), (5, .iload_n 1, 1), (6, .iaload, 1), (7, .iload_n 2, 1), (8, .invokevirtual 335, 3), (11, .istore_n 3, 1), (12, .iload_n 3, 1), (13, .ifCond .ne 4, 3), (16, .return_, 1), (17, .aload_n 0, 1), (18, .getfield 37, 3), (21, .iload_n 1, 1), (22, .iconst (-1), 1), (23, .iastore, 1), (24, .aload_n 0, 1), (25, .getfield 40, 3), (28, .iload_n 1, 1), (29, .iload_n 2, 1), (30, .iastore, 1), (31, .aload_n 0, 1), (32, .getfield 43, 3), (35, .iload_n 1, 1)] := bch_ok prog_14_method_60_code _ 0 (by decide +kernel)
theorem d_X12_setOut_0 : decode prog_14_method_60_code 0 = .ok (.aload_n 0, 1) := gd_0 db00f_17
theorem d_X12_setOut_1 : decode prog_14_method_60_code 1 = .ok (.aload_n 0, 1) := gd_1 db00f_17
theorem d_X12_setOut_2 : decode prog_14_method_60_code 2 = .ok (.getfield 37, 3) := gd_2 db00f_17
theorem d_X12_setOut_5 : decode prog_14_method_60_code 5 = .ok (.iload_n 1, 1) := gd_3 db00f_17
theorem d_X12_setOut_6 : decode prog_14_method_60_code 6 = .ok (.iaload, 1) := gd_4 db00f_17
theorem d_X12_setOut_7 : decode prog_14_method_60_code 7 = .ok (.iload_n 2, 1) := gd_5 db00f_17
theorem d_X12_setOut_8 : decode prog_14_method_60_code 8 = .ok (.invokevirtual 335, 3) := gd_6 db00f_17
theorem d_X12_setOut_11 : decode prog_14_method_60_code 11 = .ok (.istore_n 3, 1) := gd_7 db00f_17
theorem d_X12_setOut_12 : decode prog_14_method_60_code 12 = .ok (.iload_n 3, 1) := gd_8 db00f_17
theorem d_X12_setOut_13 : decode prog_14_method_60_code 13 = .ok (.ifCond .ne 4, 3) := gd_9 db00f_17
theorem d_X12_setOut_16 : decode prog_14_method_60_code 16 = .ok (.return_, 1) := gd_10 db00f_17
theorem d_X12_setOut_17 : decode prog_14_method_60_code 17 = .ok (.aload_n 0, 1) := gd_11 db00f_17
theorem d_X12_setOut_18 : decode prog_14_method_60_code 18 = .ok (.getfield 37, 3) := gd_12 db00f_17
theorem d_X12_setOut_21 : decode prog_14_method_60_code 21 = .ok (.iload_n 1, 1) := gd_13 db00f_17
theorem d_X12_setOut_22 : decode prog_14_method_60_code 22 = .ok (.iconst (-1), 1) := gd_14 db00f_17
theorem d_X12_setOut_23 : decode prog_14_method_60_code 23 = .ok (.iastore, 1) := gd_15 db00f_17
theorem d_X12_setOut_24 : decode prog_14_method_60_code 24 = .ok (.aload_n 0, 1) := gd_16 db00f_17
theorem d_X12_setOut_25 : decode prog_14_method_60_code 25 = .ok (.getfield 40, 3) := gd_17 db00f_17
theorem d_X12_setOut_28 : decode prog_14_method_60_code 28 = .ok (.iload_n 1, 1) := gd_18 db00f_17
theorem d_X12_setOut_29 : decode prog_14_method_60_code 29 = .ok (.iload_n 2, 1) := gd_19 db00f_17
theorem d_X12_setOut_30 : decode prog_14_method_60_code 30 = .ok (.iastore, 1) := gd_20 db00f_17
theorem d_X12_setOut_31 : decode prog_14_method_60_code 31 = .ok (.aload_n 0, 1) := gd_21 db00f_17
theorem d_X12_setOut_32 : decode prog_14_method_60_code 32 = .ok (.getfield 43, 3) := gd_22 db00f_17
theorem d_X12_setOut_35 : decode prog_14_method_60_code 35 = .ok (.iload_n 1, 1) := gd_23 db00f_17
theorem db00f_18 : Ad_ prog_14_method_60_code [(36, .aload_n 0, 1), (37, .getfield 342, 3), (40, .iload_n 3, 1), (41, .iadd, 1), (42, .iastore, 1), (43, .return_, 1)] := bch_ok prog_14_method_60_code _ 36 (by decide +kernel)
theorem d_X12_setOut_36 : decode prog_14_method_60_code 36 = .ok (.aload_n 0, 1) := gd_0 db00f_18
theorem d_X12_setOut_37 : decode prog_14_method_60_code 37 = .ok (.getfield 342, 3) := gd_1 db00f_18
theorem d_X12_setOut_40 : decode prog_14_method_60_code 40 = .ok (.iload_n 3, 1) := gd_2 db00f_18
theorem d_X12_setOut_41 : decode prog_14_method_60_code 41 = .ok (.iadd, 1) := gd_3 db00f_18
theorem d_X12_setOut_42 : decode prog_14_method_60_code 42 = .ok (.iastore, 1) := gd_4 db00f_18
theorem d_X12_setOut_43 : decode prog_14_method_60_code 43 = .ok (.return_, 1) := gd_5 db00f_18
theorem db00f_19 : Ad_ prog_14_method_61_code [(0, .aload_n 0, 1), (1, .getfield 34, 3), (4, .iload_n 1, 1), (5, .iconst 2, 1), (6, .iastore, 1), (7, .aload_n 0, 1), (8, .getfield 49, 3), (11, .iload_n 1, 1), (12, .iconst (-1), 1), (13, .iastore, 1), (14, .aload_n 0, 1), (15, .getfield 43, 3), (18, .iload_n 1, 1), (19, .iconst (-1), 1), (20, .iastore, 1), (21, .aload_n 0, 1), (22, .aload_n 0, 1), (23, .getfield 37, 3), (26, .iload_n 1, 1), (27, .iaload, 1), (28, .aload_n 0, 1), (29, .getfield 28, 3), (32, .iload_n 1, 1), (33, .iaload, 1)] := bch_ok prog_14_method_61_code _ 0 (by decide +kernel)
theorem d_X12_goHome_0 : decode prog_14_method_61_code 0 = .ok (.aload_n 0, 1) := gd_0 db00f_19
theorem d_X12_goHome_1 : decode prog_14_method_61_code 1 = .ok (.getfield 34, 3) := gd_1 db00f_19
theorem d_X12_goHome_4 : decode prog_14_method_61_code 4 = .ok (.iload_n 1, 1) := gd_2 db00f_19
theorem d_X12_goHome_5 : decode prog_14_method_61_code 5 = .ok (.iconst 2, 1) := gd_3 db00f_19
theorem d_X12_goHome_6 : decode prog_14_method_61_code 6 = .ok (.iastore, 1) := gd_4 db00f_19
theorem d_X12_goHome_7 : decode prog_14_method_61_code 7 = .ok (.aload_n 0, 1) := gd_5 db00f_19
theorem d_X12_goHome_8 : decode prog_14_method_61_code 8 = .ok (.getfield 49, 3) := gd_6 db00f_19
theorem d_X12_goHome_11 : decode prog_14_method_61_code 11 = .ok (.iload_n 1, 1) := gd_7 db00f_19
theorem d_X12_goHome_12 : decode prog_14_method_61_code 12 = .ok (.iconst (-1), 1) := gd_8 db00f_19
theorem d_X12_goHome_13 : decode prog_14_method_61_code 13 = .ok (.iastore, 1) := gd_9 db00f_19
theorem d_X12_goHome_14 : decode prog_14_method_61_code 14 = .ok (.aload_n 0, 1) := gd_10 db00f_19
theorem d_X12_goHome_15 : decode prog_14_method_61_code 15 = .ok (.getfield 43, 3) := gd_11 db00f_19
theorem d_X12_goHome_18 : decode prog_14_method_61_code 18 = .ok (.iload_n 1, 1) := gd_12 db00f_19
theorem d_X12_goHome_19 : decode prog_14_method_61_code 19 = .ok (.iconst (-1), 1) := gd_13 db00f_19
theorem d_X12_goHome_20 : decode prog_14_method_61_code 20 = .ok (.iastore, 1) := gd_14 db00f_19
theorem d_X12_goHome_21 : decode prog_14_method_61_code 21 = .ok (.aload_n 0, 1) := gd_15 db00f_19
theorem d_X12_goHome_22 : decode prog_14_method_61_code 22 = .ok (.aload_n 0, 1) := gd_16 db00f_19
theorem d_X12_goHome_23 : decode prog_14_method_61_code 23 = .ok (.getfield 37, 3) := gd_17 db00f_19
theorem d_X12_goHome_26 : decode prog_14_method_61_code 26 = .ok (.iload_n 1, 1) := gd_18 db00f_19
theorem d_X12_goHome_27 : decode prog_14_method_61_code 27 = .ok (.iaload, 1) := gd_19 db00f_19
theorem d_X12_goHome_28 : decode prog_14_method_61_code 28 = .ok (.aload_n 0, 1) := gd_20 db00f_19
theorem d_X12_goHome_29 : decode prog_14_method_61_code 29 = .ok (.getfield 28, 3) := gd_21 db00f_19
theorem d_X12_goHome_32 : decode prog_14_method_61_code 32 = .ok (.iload_n 1, 1) := gd_22 db00f_19
theorem d_X12_goHome_33 : decode prog_14_method_61_code 33 = .ok (.iaload, 1) := gd_23 db00f_19
theorem db00f_20 : Ad_ prog_14_method_61_code [(34, .invokevirtual 335, 3), (37, .istore_n 2, 1), (38, .iload_n 2, 1), (39, .iconst (-1), 1), (40, .if_icmp .eq 7, 3), (43, .iload_n 2, 1), (44, .ifCond .ne 9, 3), (47, .aload_n 0, 1), (48, .iload_n 1, 1), (49, .invokevirtual 519, 3), (52, .return_, 1), (53, .aload_n 0, 1), (54, .iload_n 1, 1), (55, .aload_n 0, 1), (56, .getfield 28, 3), (59, .iload_n 1, 1), (60, .iaload, 1), (61, .invokevirtual 522, 3), (64, .return_, 1)] := bch_ok prog_14_method_61_code _ 34 (by decide +kernel)
theorem d_X12_goHome_34 : decode prog_14_method_61_code 34 = .ok (.invokevirtual 335, 3) := gd_0 db00f_20
theorem d_X12_goHome_37 : decode prog_14_method_61_code 37 = .ok (.istore_n 2, 1) := gd_1 db00f_20
theorem d_X12_goHome_38 : decode prog_14_method_61_code 38 = .ok (.iload_n 2, 1) := gd_2 db00f_20
theorem d_X12_goHome_39 : decode prog_14_method_61_code 39 = .ok (.iconst (-1), 1) := gd_3 db00f_20
theorem d_X12_goHome_40 : decode prog_14_method_61_code 40 = .ok (.if_icmp .eq 7, 3) := gd_4 db00f_20
theorem d_X12_goHome_43 : decode prog_14_method_61_code 43 = .ok (.iload_n 2, 1) := gd_5 db00f_20
theorem d_X12_goHome_44 : decode prog_14_method_61_code 44 = .ok (.ifCond .ne 9, 3) := gd_6 db00f_20
theorem d_X12_goHome_47 : decode prog_14_method_61_code 47 = .ok (.aload_n 0, 1) := gd_7 db00f_20
theorem d_X12_goHome_48 : decode prog_14_method_61_code 48 = .ok (.iload_n 1, 1) := gd_8 db00f_20
theorem d_X12_goHome_49 : decode prog_14_method_61_code 49 = .ok (.invokevirtual 519, 3) := gd_9 db00f_20
theorem d_X12_goHome_52 : decode prog_14_method_61_code 52 = .ok (.return_, 1) := gd_10 db00f_20
theorem d_X12_goHome_53 : decode prog_14_method_61_code 53 = .ok (.aload_n 0, 1) := gd_11 db00f_20
theorem d_X12_goHome_54 : decode prog_14_method_61_code 54 = .ok (.iload_n 1, 1) := gd_12 db00f_20
theorem d_X12_goHome_55 : decode prog_14_method_61_code 55 = .ok (.aload_n 0, 1) := gd_13 db00f_20
theorem d_X12_goHome_56 : decode prog_14_method_61_code 56 = .ok (.getfield 28, 3) := gd_14 db00f_20
theorem d_X12_goHome_59 : decode prog_14_method_61_code 59 = .ok (.iload_n 1, 1) := gd_15 db00f_20
theorem d_X12_goHome_60 : decode prog_14_method_61_code 60 = .ok (.iaload, 1) := gd_16 db00f_20
theorem d_X12_goHome_61 : decode prog_14_method_61_code 61 = .ok (.invokevirtual 522, 3) := gd_17 db00f_20
theorem d_X12_goHome_64 : decode prog_14_method_61_code 64 = .ok (.return_, 1) := gd_18 db00f_20
theorem db00f_21 : Ad_ prog_14_method_62_code [(0, .aload_n 0, 1), (1, .getfield 67, 3), (4, .iload_n 1, 1), (5, .iaload, 1), (6, .aload_n 0, 1), (7, .getfield 342, 3), (10, .if_icmp .gt 11, 3), (13, .aload_n 0, 1), (14, .iload_n 1, 1), (15, .invokevirtual 525, 3), (18, .goto 15, 3), (21, .aload_n 0, 1), (22, .getfield 43, 3), (25, .iload_n 1, 1), (26, .aload_n 0, 1), (27, .getfield 67, 3), (30, .iload_n 1, 1), (31, .iaload, 1), (32, .iastore, 1), (33, .return_, 1)] := bch_ok prog_14_method_62_code _ 0 (by decide +kernel)
theorem d_X12_stay_0 : decode prog_14_method_62_code 0 = .ok (.aload_n 0, 1) := gd_0 db00f_21
theorem d_X12_stay_1 : decode prog_14_method_62_code 1 = .ok (.getfield 67, 3) := gd_1 db00f_21
theorem d_X12_stay_4 : decode prog_14_method_62_code 4 = .ok (.iload_n 1, 1) := gd_2 db00f_21
theorem d_X12_stay_5 : decode prog_14_method_62_code 5 = .ok (.iaload, 1) := gd_3 db00f_21
theorem d_X12_stay_6 : decode prog_14_method_62_code 6 = .ok (.aload_n 0, 1) := gd_4 db00f_21
theorem d_X12_stay_7 : decode prog_14_method_62_code 7 = .ok (.getfield 342, 3) := gd_5 db00f_21
theorem d_X12_stay_10 : decode prog_14_method_62_code 10 = .ok (.if_icmp .gt 11, 3) := gd_6 db00f_21
theorem d_X12_stay_13 : decode prog_14_method_62_code 13 = .ok (.aload_n 0, 1) := gd_7 db00f_21
theorem d_X12_stay_14 : decode prog_14_method_62_code 14 = .ok (.iload_n 1, 1) := gd_8 db00f_21
theorem d_X12_stay_15 : decode prog_14_method_62_code 15 = .ok (.invokevirtual 525, 3) := gd_9 db00f_21
theorem d_X12_stay_18 : decode prog_14_method_62_code 18 = .ok (.goto 15, 3) := gd_10 db00f_21
theorem d_X12_stay_21 : decode prog_14_method_62_code 21 = .ok (.aload_n 0, 1) := gd_11 db00f_21
theorem d_X12_stay_22 : decode prog_14_method_62_code 22 = .ok (.getfield 43, 3) := gd_12 db00f_21
theorem d_X12_stay_25 : decode prog_14_method_62_code 25 = .ok (.iload_n 1, 1) := gd_13 db00f_21
theorem d_X12_stay_26 : decode prog_14_method_62_code 26 = .ok (.aload_n 0, 1) := gd_14 db00f_21
theorem d_X12_stay_27 : decode prog_14_method_62_code 27 = .ok (.getfield 67, 3) := gd_15 db00f_21
theorem d_X12_stay_30 : decode prog_14_method_62_code 30 = .ok (.iload_n 1, 1) := gd_16 db00f_21
theorem d_X12_stay_31 : decode prog_14_method_62_code 31 = .ok (.iaload, 1) := gd_17 db00f_21
theorem d_X12_stay_32 : decode prog_14_method_62_code 32 = .ok (.iastore, 1) := gd_18 db00f_21
theorem d_X12_stay_33 : decode prog_14_method_62_code 33 = .ok (.return_, 1) := gd_19 db00f_21
theorem db00f_22 : Ad_ prog_14_method_63_code [(0, .aload_n 0, 1), (1, .getfield 43, 3), (4, .iload_n 1, 1), (5, .iconst (-1), 1), (6, .iastore, 1), (7, .aload_n 0, 1), (8, .iload_n 1, 1), (9, .aload_n 0, 1), (10, .getfield 64, 3), (13, .iload_n 1, 1), (14, .iaload, 1), (15, .invokevirtual 522, 3), (18, .aload_n 0, 1), (19, .getfield 40, 3), (22, .iload_n 1, 1), (23, .iaload, 1), (24, .iconst (-1), 1), (25, .if_icmp .ne 8, 3), (28, .aload_n 0, 1), (29, .iload_n 1, 1), (30, .invokevirtual 528, 3), (33, .return_, 1)] := bch_ok prog_14_method_63_code _ 0 (by decide +kernel)
theorem d_X12_goDrawn_0 : decode prog_14_method_63_code 0 = .ok (.aload_n 0, 1) := gd_0 db00f_22
theorem d_X12_goDrawn_1 : decode prog_14_method_63_code 1 = .ok (.getfield 43, 3) := gd_1 db00f_22
theorem d_X12_goDrawn_4 : decode prog_14_method_63_code 4 = .ok (.iload_n 1, 1) := gd_2 db00f_22
theorem d_X12_goDrawn_5 : decode prog_14_method_63_code 5 = .ok (.iconst (-1), 1) := gd_3 db00f_22
theorem d_X12_goDrawn_6 : decode prog_14_method_63_code 6 = .ok (.iastore, 1) := gd_4 db00f_22
theorem d_X12_goDrawn_7 : decode prog_14_method_63_code 7 = .ok (.aload_n 0, 1) := gd_5 db00f_22
theorem d_X12_goDrawn_8 : decode prog_14_method_63_code 8 = .ok (.iload_n 1, 1) := gd_6 db00f_22
theorem d_X12_goDrawn_9 : decode prog_14_method_63_code 9 = .ok (.aload_n 0, 1) := gd_7 db00f_22
theorem d_X12_goDrawn_10 : decode prog_14_method_63_code 10 = .ok (.getfield 64, 3) := gd_8 db00f_22
theorem d_X12_goDrawn_13 : decode prog_14_method_63_code 13 = .ok (.iload_n 1, 1) := gd_9 db00f_22
theorem d_X12_goDrawn_14 : decode prog_14_method_63_code 14 = .ok (.iaload, 1) := gd_10 db00f_22
theorem d_X12_goDrawn_15 : decode prog_14_method_63_code 15 = .ok (.invokevirtual 522, 3) := gd_11 db00f_22
theorem d_X12_goDrawn_18 : decode prog_14_method_63_code 18 = .ok (.aload_n 0, 1) := gd_12 db00f_22
theorem d_X12_goDrawn_19 : decode prog_14_method_63_code 19 = .ok (.getfield 40, 3) := gd_13 db00f_22
theorem d_X12_goDrawn_22 : decode prog_14_method_63_code 22 = .ok (.iload_n 1, 1) := gd_14 db00f_22
theorem d_X12_goDrawn_23 : decode prog_14_method_63_code 23 = .ok (.iaload, 1) := gd_15 db00f_22
theorem d_X12_goDrawn_24 : decode prog_14_method_63_code 24 = .ok (.iconst (-1), 1) := gd_16 db00f_22
theorem d_X12_goDrawn_25 : decode prog_14_method_63_code 25 = .ok (.if_icmp .ne 8, 3) := gd_17 db00f_22
theorem d_X12_goDrawn_28 : decode prog_14_method_63_code 28 = .ok (.aload_n 0, 1) := gd_18 db00f_22
theorem d_X12_goDrawn_29 : decode prog_14_method_63_code 29 = .ok (.iload_n 1, 1) := gd_19 db00f_22
theorem d_X12_goDrawn_30 : decode prog_14_method_63_code 30 = .ok (.invokevirtual 528, 3) := gd_20 db00f_22
theorem d_X12_goDrawn_33 : decode prog_14_method_63_code 33 = .ok (.return_, 1) := gd_21 db00f_22
theorem db00f_23 : Ad_ prog_14_method_64_code [(0, .aload_n 0, 1), (1, .getfield 52, 3), (4, .iload_n 1, 1), (5, .iaload, 1), (6, .iload_n 2, 1), (7, .iadd, 1), (8, .istore_n 3, 1), (9, .aload_n 0, 1), (10, .getfield 58, 3), (13, .iload_n 1, 1), (14, .iaload, 1), (15, .istore 4, 2), (17, .aload_n 0, 1), (18, .getfield 58, 3), (21, .iload_n 1, 1), (22, .dup2, 1), (23, .iaload, 1), (24, .iconst 1, 1), (25, .iadd, 1), (26, .iastore, 1), (27, .aload_n 0, 1), (28, .getfield 342, 3), (31, .iload_n 3, 1), (32, .if_icmp .le 12, 3)] := bch_ok prog_14_method_64_code _ 0 (by decide +kernel)
theorem d_X12_comes_0 : decode prog_14_method_64_code 0 = .ok (.aload_n 0, 1) := gd_0 db00f_23
theorem d_X12_comes_1 : decode prog_14_method_64_code 1 = .ok (.getfield 52, 3) := gd_1 db00f_23
theorem d_X12_comes_4 : decode prog_14_method_64_code 4 = .ok (.iload_n 1, 1) := gd_2 db00f_23
theorem d_X12_comes_5 : decode prog_14_method_64_code 5 = .ok (.iaload, 1) := gd_3 db00f_23
theorem d_X12_comes_6 : decode prog_14_method_64_code 6 = .ok (.iload_n 2, 1) := gd_4 db00f_23
theorem d_X12_comes_7 : decode prog_14_method_64_code 7 = .ok (.iadd, 1) := gd_5 db00f_23
theorem d_X12_comes_8 : decode prog_14_method_64_code 8 = .ok (.istore_n 3, 1) := gd_6 db00f_23
theorem d_X12_comes_9 : decode prog_14_method_64_code 9 = .ok (.aload_n 0, 1) := gd_7 db00f_23
theorem d_X12_comes_10 : decode prog_14_method_64_code 10 = .ok (.getfield 58, 3) := gd_8 db00f_23
theorem d_X12_comes_13 : decode prog_14_method_64_code 13 = .ok (.iload_n 1, 1) := gd_9 db00f_23
theorem d_X12_comes_14 : decode prog_14_method_64_code 14 = .ok (.iaload, 1) := gd_10 db00f_23
theorem d_X12_comes_15 : decode prog_14_method_64_code 15 = .ok (.istore 4, 2) := gd_11 db00f_23
theorem d_X12_comes_17 : decode prog_14_method_64_code 17 = .ok (.aload_n 0, 1) := gd_12 db00f_23
theorem d_X12_comes_18 : decode prog_14_method_64_code 18 = .ok (.getfield 58, 3) := gd_13 db00f_23
theorem d_X12_comes_21 : decode prog_14_method_64_code 21 = .ok (.iload_n 1, 1) := gd_14 db00f_23
theorem d_X12_comes_22 : decode prog_14_method_64_code 22 = .ok (.dup2, 1) := gd_15 db00f_23
theorem d_X12_comes_23 : decode prog_14_method_64_code 23 = .ok (.iaload, 1) := gd_16 db00f_23
theorem d_X12_comes_24 : decode prog_14_method_64_code 24 = .ok (.iconst 1, 1) := gd_17 db00f_23
theorem d_X12_comes_25 : decode prog_14_method_64_code 25 = .ok (.iadd, 1) := gd_18 db00f_23
theorem d_X12_comes_26 : decode prog_14_method_64_code 26 = .ok (.iastore, 1) := gd_19 db00f_23
theorem d_X12_comes_27 : decode prog_14_method_64_code 27 = .ok (.aload_n 0, 1) := gd_20 db00f_23
theorem d_X12_comes_28 : decode prog_14_method_64_code 28 = .ok (.getfield 342, 3) := gd_21 db00f_23
theorem d_X12_comes_31 : decode prog_14_method_64_code 31 = .ok (.iload_n 3, 1) := gd_22 db00f_23
theorem d_X12_comes_32 : decode prog_14_method_64_code 32 = .ok (.if_icmp .le 12, 3) := gd_23 db00f_23
theorem db00f_24 : Ad_ prog_14_method_64_code [(35, .aload_n 0, 1), (36, .iload 4, 2), (38, .iconst 1, 1), (39, .invokevirtual 500, 3), (42, .iconst 0, 1), (43, .ireturn, 1), (44, .aload_n 0, 1), (45, .getfield 135, 3), (48, .iload 4, 2), (50, .aload_n 0, 1), (51, .getfield 342, 3), (54, .iastore, 1), (55, .aload_n 0, 1), (56, .getfield 342, 3), (59, .iload_n 3, 1), (60, .if_icmp .ge 12, 3), (63, .aload_n 0, 1), (64, .getfield 43, 3), (67, .iload_n 1, 1), (68, .iload_n 3, 1), (69, .iastore, 1), (70, .iconst 1, 1), (71, .ireturn, 1), (72, .iconst 0, 1)] := bch_ok prog_14_method_64_code _ 35 (by decide +kernel)
theorem d_X12_comes_35 : decode prog_14_method_64_code 35 = .ok (.aload_n 0, 1) := gd_0 db00f_24
theorem d_X12_comes_36 : decode prog_14_method_64_code 36 = .ok (.iload 4, 2) := gd_1 db00f_24
theorem d_X12_comes_38 : decode prog_14_method_64_code 38 = .ok (.iconst 1, 1) := gd_2 db00f_24
theorem d_X12_comes_39 : decode prog_14_method_64_code 39 = .ok (.invokevirtual 500, 3) := gd_3 db00f_24
theorem d_X12_comes_42 : decode prog_14_method_64_code 42 = .ok (.iconst 0, 1) := gd_4 db00f_24
theorem d_X12_comes_43 : decode prog_14_method_64_code 43 = .ok (.ireturn, 1) := gd_5 db00f_24
theorem d_X12_comes_44 : decode prog_14_method_64_code 44 = .ok (.aload_n 0, 1) := gd_6 db00f_24
theorem d_X12_comes_45 : decode prog_14_method_64_code 45 = .ok (.getfield 135, 3) := gd_7 db00f_24
theorem d_X12_comes_48 : decode prog_14_method_64_code 48 = .ok (.iload 4, 2) := gd_8 db00f_24
theorem d_X12_comes_50 : decode prog_14_method_64_code 50 = .ok (.aload_n 0, 1) := gd_9 db00f_24
theorem d_X12_comes_51 : decode prog_14_method_64_code 51 = .ok (.getfield 342, 3) := gd_10 db00f_24
theorem d_X12_comes_54 : decode prog_14_method_64_code 54 = .ok (.iastore, 1) := gd_11 db00f_24
theorem d_X12_comes_55 : decode prog_14_method_64_code 55 = .ok (.aload_n 0, 1) := gd_12 db00f_24
theorem d_X12_comes_56 : decode prog_14_method_64_code 56 = .ok (.getfield 342, 3) := gd_13 db00f_24
theorem d_X12_comes_59 : decode prog_14_method_64_code 59 = .ok (.iload_n 3, 1) := gd_14 db00f_24
theorem d_X12_comes_60 : decode prog_14_method_64_code 60 = .ok (.if_icmp .ge 12, 3) := gd_15 db00f_24
theorem d_X12_comes_63 : decode prog_14_method_64_code 63 = .ok (.aload_n 0, 1) := gd_16 db00f_24
theorem d_X12_comes_64 : decode prog_14_method_64_code 64 = .ok (.getfield 43, 3) := gd_17 db00f_24
theorem d_X12_comes_67 : decode prog_14_method_64_code 67 = .ok (.iload_n 1, 1) := gd_18 db00f_24
theorem d_X12_comes_68 : decode prog_14_method_64_code 68 = .ok (.iload_n 3, 1) := gd_19 db00f_24
theorem d_X12_comes_69 : decode prog_14_method_64_code 69 = .ok (.iastore, 1) := gd_20 db00f_24
theorem d_X12_comes_70 : decode prog_14_method_64_code 70 = .ok (.iconst 1, 1) := gd_21 db00f_24
theorem d_X12_comes_71 : decode prog_14_method_64_code 71 = .ok (.ireturn, 1) := gd_22 db00f_24
theorem d_X12_comes_72 : decode prog_14_method_64_code 72 = .ok (.iconst 0, 1) := gd_23 db00f_24
theorem d_X12_comes_73 : decode prog_14_method_64_code 73 = .ok (.ireturn, 1) := by decide +kernel
theorem db00f_25 : Ad_ prog_14_method_65_code [(0, .aload_n 0, 1), (1, .getfield 34, 3), (4, .iload_n 1, 1), (5, .iaload, 1), (6, .iconst 1, 1), (7, .if_icmp .ne 203, 3), (10, .aload_n 0, 1), (11, .getfield 49, 3), (14, .iload_n 1, 1), (15, .iaload, 1), (16, .aload_n 0, 1), (17, .getfield 93, 3), (20, .aload_n 0, 1), (21, .getfield 46, 3), (24, .iload_n 1, 1), (25, .iaload, 1), (26, .iaload, 1), (27, .if_icmp .ne 9, 3), (30, .aload_n 0, 1), (31, .iload_n 1, 1), (32, .invokevirtual 525, 3), (35, .return_, 1), (36, .sipush 150, 3), (39, .aload_n 0, 1)] := bch_ok prog_14_method_65_code _ 0 (by decide +kernel)
theorem d_X12_goOn_0 : decode prog_14_method_65_code 0 = .ok (.aload_n 0, 1) := gd_0 db00f_25
theorem d_X12_goOn_1 : decode prog_14_method_65_code 1 = .ok (.getfield 34, 3) := gd_1 db00f_25
theorem d_X12_goOn_4 : decode prog_14_method_65_code 4 = .ok (.iload_n 1, 1) := gd_2 db00f_25
theorem d_X12_goOn_5 : decode prog_14_method_65_code 5 = .ok (.iaload, 1) := gd_3 db00f_25
theorem d_X12_goOn_6 : decode prog_14_method_65_code 6 = .ok (.iconst 1, 1) := gd_4 db00f_25
theorem d_X12_goOn_7 : decode prog_14_method_65_code 7 = .ok (.if_icmp .ne 203, 3) := gd_5 db00f_25
theorem d_X12_goOn_10 : decode prog_14_method_65_code 10 = .ok (.aload_n 0, 1) := gd_6 db00f_25
theorem d_X12_goOn_11 : decode prog_14_method_65_code 11 = .ok (.getfield 49, 3) := gd_7 db00f_25
theorem d_X12_goOn_14 : decode prog_14_method_65_code 14 = .ok (.iload_n 1, 1) := gd_8 db00f_25
theorem d_X12_goOn_15 : decode prog_14_method_65_code 15 = .ok (.iaload, 1) := gd_9 db00f_25
theorem d_X12_goOn_16 : decode prog_14_method_65_code 16 = .ok (.aload_n 0, 1) := gd_10 db00f_25
theorem d_X12_goOn_17 : decode prog_14_method_65_code 17 = .ok (.getfield 93, 3) := gd_11 db00f_25
theorem d_X12_goOn_20 : decode prog_14_method_65_code 20 = .ok (.aload_n 0, 1) := gd_12 db00f_25
theorem d_X12_goOn_21 : decode prog_14_method_65_code 21 = .ok (.getfield 46, 3) := gd_13 db00f_25
theorem d_X12_goOn_24 : decode prog_14_method_65_code 24 = .ok (.iload_n 1, 1) := gd_14 db00f_25
theorem d_X12_goOn_25 : decode prog_14_method_65_code 25 = .ok (.iaload, 1) := gd_15 db00f_25
theorem d_X12_goOn_26 : decode prog_14_method_65_code 26 = .ok (.iaload, 1) := gd_16 db00f_25
theorem d_X12_goOn_27 : decode prog_14_method_65_code 27 = .ok (.if_icmp .ne 9, 3) := gd_17 db00f_25
theorem d_X12_goOn_30 : decode prog_14_method_65_code 30 = .ok (.aload_n 0, 1) := gd_18 db00f_25
theorem d_X12_goOn_31 : decode prog_14_method_65_code 31 = .ok (.iload_n 1, 1) := gd_19 db00f_25
theorem d_X12_goOn_32 : decode prog_14_method_65_code 32 = .ok (.invokevirtual 525, 3) := gd_20 db00f_25
theorem d_X12_goOn_35 : decode prog_14_method_65_code 35 = .ok (.return_, 1) := gd_21 db00f_25
theorem d_X12_goOn_36 : decode prog_14_method_65_code 36 = .ok (.sipush 150, 3) := gd_22 db00f_25
theorem d_X12_goOn_39 : decode prog_14_method_65_code 39 = .ok (.aload_n 0, 1) := gd_23 db00f_25
theorem db00f_26 : Ad_ prog_14_method_65_code [(40, .getfield 46, 3), (43, .iload_n 1, 1), (44, .iaload, 1), (45, .imul, 1), (46, .aload_n 0, 1), (47, .getfield 49, 3), (50, .iload_n 1, 1), (51, .iaload, 1), (52, .iadd, 1), (53, .istore_n 2, 1), (54, .aload_n 0, 1), (55, .getfield 96, 3), (58, .iload_n 2, 1), (59, .iaload, 1), (60, .istore_n 3, 1), (61, .aload_n 0, 1), (62, .getfield 43, 3), (65, .iload_n 1, 1), (66, .iconst (-1), 1), (67, .iastore, 1), (68, .iload_n 3, 1), (69, .ifCond .eq 8, 3), (72, .iload_n 3, 1), (73, .iconst 2, 1)] := bch_ok prog_14_method_65_code _ 40 (by decide +kernel)
theorem d_X12_goOn_40 : decode prog_14_method_65_code 40 = .ok (.getfield 46, 3) := gd_0 db00f_26
theorem d_X12_goOn_43 : decode prog_14_method_65_code 43 = .ok (.iload_n 1, 1) := gd_1 db00f_26
theorem d_X12_goOn_44 : decode prog_14_method_65_code 44 = .ok (.iaload, 1) := gd_2 db00f_26
theorem d_X12_goOn_45 : decode prog_14_method_65_code 45 = .ok (.imul, 1) := gd_3 db00f_26
theorem d_X12_goOn_46 : decode prog_14_method_65_code 46 = .ok (.aload_n 0, 1) := gd_4 db00f_26
theorem d_X12_goOn_47 : decode prog_14_method_65_code 47 = .ok (.getfield 49, 3) := gd_5 db00f_26
theorem d_X12_goOn_50 : decode prog_14_method_65_code 50 = .ok (.iload_n 1, 1) := gd_6 db00f_26
theorem d_X12_goOn_51 : decode prog_14_method_65_code 51 = .ok (.iaload, 1) := gd_7 db00f_26
theorem d_X12_goOn_52 : decode prog_14_method_65_code 52 = .ok (.iadd, 1) := gd_8 db00f_26
theorem d_X12_goOn_53 : decode prog_14_method_65_code 53 = .ok (.istore_n 2, 1) := gd_9 db00f_26
theorem d_X12_goOn_54 : decode prog_14_method_65_code 54 = .ok (.aload_n 0, 1) := gd_10 db00f_26
theorem d_X12_goOn_55 : decode prog_14_method_65_code 55 = .ok (.getfield 96, 3) := gd_11 db00f_26
theorem d_X12_goOn_58 : decode prog_14_method_65_code 58 = .ok (.iload_n 2, 1) := gd_12 db00f_26
theorem d_X12_goOn_59 : decode prog_14_method_65_code 59 = .ok (.iaload, 1) := gd_13 db00f_26
theorem d_X12_goOn_60 : decode prog_14_method_65_code 60 = .ok (.istore_n 3, 1) := gd_14 db00f_26
theorem d_X12_goOn_61 : decode prog_14_method_65_code 61 = .ok (.aload_n 0, 1) := gd_15 db00f_26
theorem d_X12_goOn_62 : decode prog_14_method_65_code 62 = .ok (.getfield 43, 3) := gd_16 db00f_26
theorem d_X12_goOn_65 : decode prog_14_method_65_code 65 = .ok (.iload_n 1, 1) := gd_17 db00f_26
theorem d_X12_goOn_66 : decode prog_14_method_65_code 66 = .ok (.iconst (-1), 1) := gd_18 db00f_26
theorem d_X12_goOn_67 : decode prog_14_method_65_code 67 = .ok (.iastore, 1) := gd_19 db00f_26
theorem d_X12_goOn_68 : decode prog_14_method_65_code 68 = .ok (.iload_n 3, 1) := gd_20 db00f_26
theorem d_X12_goOn_69 : decode prog_14_method_65_code 69 = .ok (.ifCond .eq 8, 3) := gd_21 db00f_26
theorem d_X12_goOn_72 : decode prog_14_method_65_code 72 = .ok (.iload_n 3, 1) := gd_22 db00f_26
theorem d_X12_goOn_73 : decode prog_14_method_65_code 73 = .ok (.iconst 2, 1) := gd_23 db00f_26
theorem db00f_27 : Ad_ prog_14_method_65_code [(74, .if_icmp .ne 96, 3), (77, .aload_n 0, 1), (78, .aload_n 0, 1), (79, .getfield 37, 3), (82, .iload_n 1, 1), (83, .iaload, 1), (84, .aload_n 0, 1), (85, .getfield 99, 3), (88, .iload_n 2, 1), (89, .iaload, 1), (90, .invokevirtual 335, 3), (93, .istore 4, 2), (95, .iload 4, 2), (97, .ifCond .le 15, 3), (100, .aload_n 0, 1), (101, .iload_n 1, 1), (102, .aload_n 0, 1), (103, .getfield 99, 3), (106, .iload_n 2, 1), (107, .iaload, 1), (108, .invokevirtual 522, 3), (111, .return_, 1), (112, .iload_n 3, 1), (113, .iconst 2, 1)] := bch_ok prog_14_method_65_code _ 74 (by decide +kernel)
theorem d_X12_goOn_74 : decode prog_14_method_65_code 74 = .ok (.if_icmp .ne 96, 3) := gd_0 db00f_27
theorem d_X12_goOn_77 : decode prog_14_method_65_code 77 = .ok (.aload_n 0, 1) := gd_1 db00f_27
theorem d_X12_goOn_78 : decode prog_14_method_65_code 78 = .ok (.aload_n 0, 1) := gd_2 db00f_27
theorem d_X12_goOn_79 : decode prog_14_method_65_code 79 = .ok (.getfield 37, 3) := gd_3 db00f_27
theorem d_X12_goOn_82 : decode prog_14_method_65_code 82 = .ok (.iload_n 1, 1) := gd_4 db00f_27
theorem d_X12_goOn_83 : decode prog_14_method_65_code 83 = .ok (.iaload, 1) := gd_5 db00f_27
theorem d_X12_goOn_84 : decode prog_14_method_65_code 84 = .ok (.aload_n 0, 1) := gd_6 db00f_27
theorem d_X12_goOn_85 : decode prog_14_method_65_code 85 = .ok (.getfield 99, 3) := gd_7 db00f_27
theorem d_X12_goOn_88 : decode prog_14_method_65_code 88 = .ok (.iload_n 2, 1) := gd_8 db00f_27
theorem d_X12_goOn_89 : decode prog_14_method_65_code 89 = .ok (.iaload, 1) := gd_9 db00f_27
theorem d_X12_goOn_90 : decode prog_14_method_65_code 90 = .ok (.invokevirtual 335, 3) := gd_10 db00f_27
theorem d_X12_goOn_93 : decode prog_14_method_65_code 93 = .ok (.istore 4, 2) := gd_11 db00f_27
theorem d_X12_goOn_95 : decode prog_14_method_65_code 95 = .ok (.iload 4, 2) := gd_12 db00f_27
theorem d_X12_goOn_97 : decode prog_14_method_65_code 97 = .ok (.ifCond .le 15, 3) := gd_13 db00f_27
theorem d_X12_goOn_100 : decode prog_14_method_65_code 100 = .ok (.aload_n 0, 1) := gd_14 db00f_27
theorem d_X12_goOn_101 : decode prog_14_method_65_code 101 = .ok (.iload_n 1, 1) := gd_15 db00f_27
theorem d_X12_goOn_102 : decode prog_14_method_65_code 102 = .ok (.aload_n 0, 1) := gd_16 db00f_27
theorem d_X12_goOn_103 : decode prog_14_method_65_code 103 = .ok (.getfield 99, 3) := gd_17 db00f_27
theorem d_X12_goOn_106 : decode prog_14_method_65_code 106 = .ok (.iload_n 2, 1) := gd_18 db00f_27
theorem d_X12_goOn_107 : decode prog_14_method_65_code 107 = .ok (.iaload, 1) := gd_19 db00f_27
theorem d_X12_goOn_108 : decode prog_14_method_65_code 108 = .ok (.invokevirtual 522, 3) := gd_20 db00f_27
theorem d_X12_goOn_111 : decode prog_14_method_65_code 111 = .ok (.return_, 1) := gd_21 db00f_27
theorem d_X12_goOn_112 : decode prog_14_method_65_code 112 = .ok (.iload_n 3, 1) := gd_22 db00f_27
theorem d_X12_goOn_113 : decode prog_14_method_65_code 113 = .ok (.iconst 2, 1) := gd_23 db00f_27
theorem db00f_28 : Ad_ prog_14_method_65_code [(114, .if_icmp .ne 33, 3), (117, .iload 4, 2), (119, .iconst (-1), 1), (120, .if_icmp .ne 27, 3), (123, .aload_n 0, 1), (124, .aload_n 0, 1), (125, .getfield 58, 3), (128, .iload_n 1, 1), (129, .iaload, 1), (130, .iconst 2, 1), (131, .invokevirtual 500, 3), (134, .aload_n 0, 1), (135, .getfield 58, 3), (138, .iload_n 1, 1), (139, .dup2, 1), (140, .iaload, 1), (141, .iconst 1, 1), (142, .iadd, 1), (143, .iastore, 1), (144, .goto 23, 3), (147, .iload_n 3, 1), (148, .iconst 2, 1), (149, .if_icmp .ne 18, 3), (152, .aload_n 0, 1)] := bch_ok prog_14_method_65_code _ 114 (by decide +kernel)
theorem d_X12_goOn_114 : decode prog_14_method_65_code 114 = .ok (.if_icmp .ne 33, 3) := gd_0 db00f_28
theorem d_X12_goOn_117 : decode prog_14_method_65_code 117 = .ok (.iload 4, 2) := gd_1 db00f_28
theorem d_X12_goOn_119 : decode prog_14_method_65_code 119 = .ok (.iconst (-1), 1) := gd_2 db00f_28
theorem d_X12_goOn_120 : decode prog_14_method_65_code 120 = .ok (.if_icmp .ne 27, 3) := gd_3 db00f_28
theorem d_X12_goOn_123 : decode prog_14_method_65_code 123 = .ok (.aload_n 0, 1) := gd_4 db00f_28
theorem d_X12_goOn_124 : decode prog_14_method_65_code 124 = .ok (.aload_n 0, 1) := gd_5 db00f_28
theorem d_X12_goOn_125 : decode prog_14_method_65_code 125 = .ok (.getfield 58, 3) := gd_6 db00f_28
theorem d_X12_goOn_128 : decode prog_14_method_65_code 128 = .ok (.iload_n 1, 1) := gd_7 db00f_28
theorem d_X12_goOn_129 : decode prog_14_method_65_code 129 = .ok (.iaload, 1) := gd_8 db00f_28
theorem d_X12_goOn_130 : decode prog_14_method_65_code 130 = .ok (.iconst 2, 1) := gd_9 db00f_28
theorem d_X12_goOn_131 : decode prog_14_method_65_code 131 = .ok (.invokevirtual 500, 3) := gd_10 db00f_28
theorem d_X12_goOn_134 : decode prog_14_method_65_code 134 = .ok (.aload_n 0, 1) := gd_11 db00f_28
theorem d_X12_goOn_135 : decode prog_14_method_65_code 135 = .ok (.getfield 58, 3) := gd_12 db00f_28
theorem d_X12_goOn_138 : decode prog_14_method_65_code 138 = .ok (.iload_n 1, 1) := gd_13 db00f_28
theorem d_X12_goOn_139 : decode prog_14_method_65_code 139 = .ok (.dup2, 1) := gd_14 db00f_28
theorem d_X12_goOn_140 : decode prog_14_method_65_code 140 = .ok (.iaload, 1) := gd_15 db00f_28
theorem d_X12_goOn_141 : decode prog_14_method_65_code 141 = .ok (.iconst 1, 1) := gd_16 db00f_28
theorem d_X12_goOn_142 : decode prog_14_method_65_code 142 = .ok (.iadd, 1) := gd_17 db00f_28
theorem d_X12_goOn_143 : decode prog_14_method_65_code 143 = .ok (.iastore, 1) := gd_18 db00f_28
theorem d_X12_goOn_144 : decode prog_14_method_65_code 144 = .ok (.goto 23, 3) := gd_19 db00f_28
theorem d_X12_goOn_147 : decode prog_14_method_65_code 147 = .ok (.iload_n 3, 1) := gd_20 db00f_28
theorem d_X12_goOn_148 : decode prog_14_method_65_code 148 = .ok (.iconst 2, 1) := gd_21 db00f_28
theorem d_X12_goOn_149 : decode prog_14_method_65_code 149 = .ok (.if_icmp .ne 18, 3) := gd_22 db00f_28
theorem d_X12_goOn_152 : decode prog_14_method_65_code 152 = .ok (.aload_n 0, 1) := gd_23 db00f_28
theorem db00f_29 : Ad_ prog_14_method_65_code [(153, .iload_n 1, 1), (154, .aload_n 0, 1), (155, .getfield 102, 3), (158, .iload_n 2, 1), (159, .iaload, 1), (160, .invokevirtual 531, 3), (163, .ifCond .eq 4, 3), (166, .return_, 1), (167, .goto 30, 3), (170, .aload_n 0, 1), (171, .getfield 43, 3), (174, .iload_n 1, 1), (175, .aload_n 0, 1), (176, .getfield 342, 3), (179, .iload_n 3, 1), (180, .iconst 1, 1), (181, .if_icmp .ne 12, 3), (184, .aload_n 0, 1), (185, .getfield 99, 3), (188, .iload_n 2, 1), (189, .iaload, 1), (190, .goto 4, 3), (193, .iconst 1, 1), (194, .iadd, 1)] := bch_ok prog_14_method_65_code _ 153 (by decide +kernel)
theorem d_X12_goOn_153 : decode prog_14_method_65_code 153 = .ok (.iload_n 1, 1) := gd_0 db00f_29
theorem d_X12_goOn_154 : decode prog_14_method_65_code 154 = .ok (.aload_n 0, 1) := gd_1 db00f_29
theorem d_X12_goOn_155 : decode prog_14_method_65_code 155 = .ok (.getfield 102, 3) := gd_2 db00f_29
theorem d_X12_goOn_158 : decode prog_14_method_65_code 158 = .ok (.iload_n 2, 1) := gd_3 db00f_29
theorem d_X12_goOn_159 : decode prog_14_method_65_code 159 = .ok (.iaload, 1) := gd_4 db00f_29
theorem d_X12_goOn_160 : decode prog_14_method_65_code 160 = .ok (.invokevirtual 531, 3) := gd_5 db00f_29
theorem d_X12_goOn_163 : decode prog_14_method_65_code 163 = .ok (.ifCond .eq 4, 3) := gd_6 db00f_29
theorem d_X12_goOn_166 : decode prog_14_method_65_code 166 = .ok (.return_, 1) := gd_7 db00f_29
theorem d_X12_goOn_167 : decode prog_14_method_65_code 167 = .ok (.goto 30, 3) := gd_8 db00f_29
theorem d_X12_goOn_170 : decode prog_14_method_65_code 170 = .ok (.aload_n 0, 1) := gd_9 db00f_29
theorem d_X12_goOn_171 : decode prog_14_method_65_code 171 = .ok (.getfield 43, 3) := gd_10 db00f_29
theorem d_X12_goOn_174 : decode prog_14_method_65_code 174 = .ok (.iload_n 1, 1) := gd_11 db00f_29
theorem d_X12_goOn_175 : decode prog_14_method_65_code 175 = .ok (.aload_n 0, 1) := gd_12 db00f_29
theorem d_X12_goOn_176 : decode prog_14_method_65_code 176 = .ok (.getfield 342, 3) := gd_13 db00f_29
theorem d_X12_goOn_179 : decode prog_14_method_65_code 179 = .ok (.iload_n 3, 1) := gd_14 db00f_29
theorem d_X12_goOn_180 : decode prog_14_method_65_code 180 = .ok (.iconst 1, 1) := gd_15 db00f_29
theorem d_X12_goOn_181 : decode prog_14_method_65_code 181 = .ok (.if_icmp .ne 12, 3) := gd_16 db00f_29
theorem d_X12_goOn_184 : decode prog_14_method_65_code 184 = .ok (.aload_n 0, 1) := gd_17 db00f_29
theorem d_X12_goOn_185 : decode prog_14_method_65_code 185 = .ok (.getfield 99, 3) := gd_18 db00f_29
theorem d_X12_goOn_188 : decode prog_14_method_65_code 188 = .ok (.iload_n 2, 1) := gd_19 db00f_29
theorem d_X12_goOn_189 : decode prog_14_method_65_code 189 = .ok (.iaload, 1) := gd_20 db00f_29
theorem d_X12_goOn_190 : decode prog_14_method_65_code 190 = .ok (.goto 4, 3) := gd_21 db00f_29
theorem d_X12_goOn_193 : decode prog_14_method_65_code 193 = .ok (.iconst 1, 1) := gd_22 db00f_29
theorem d_X12_goOn_194 : decode prog_14_method_65_code 194 = .ok (.iadd, 1) := gd_23 db00f_29
theorem db00f_30 : Ad_ prog_14_method_65_code [(195, .iastore, 1), (196, .return_, 1), (197, .aload_n 0, 1), (198, .getfield 49, 3), (201, .iload_n 1, 1), (202, .dup2, 1), (203, .iaload, 1), (204, .iconst 1, 1), (205, .iadd, 1), (206, .iastore, 1), (207, .goto (-207), 3), (210, .return_, 1)] := bch_ok prog_14_method_65_code _ 195 (by decide +kernel)
theorem d_X12_goOn_195 : decode prog_14_method_65_code 195 = .ok (.iastore, 1) := gd_0 db00f_30
theorem d_X12_goOn_196 : decode prog_14_method_65_code 196 = .ok (.return_, 1) := gd_1 db00f_30
theorem d_X12_goOn_197 : decode prog_14_method_65_code 197 = .ok (.aload_n 0, 1) := gd_2 db00f_30
theorem d_X12_goOn_198 : decode prog_14_method_65_code 198 = .ok (.getfield 49, 3) := gd_3 db00f_30
theorem d_X12_goOn_201 : decode prog_14_method_65_code 201 = .ok (.iload_n 1, 1) := gd_4 db00f_30
theorem d_X12_goOn_202 : decode prog_14_method_65_code 202 = .ok (.dup2, 1) := gd_5 db00f_30
theorem d_X12_goOn_203 : decode prog_14_method_65_code 203 = .ok (.iaload, 1) := gd_6 db00f_30
theorem d_X12_goOn_204 : decode prog_14_method_65_code 204 = .ok (.iconst 1, 1) := gd_7 db00f_30
theorem d_X12_goOn_205 : decode prog_14_method_65_code 205 = .ok (.iadd, 1) := gd_8 db00f_30
theorem d_X12_goOn_206 : decode prog_14_method_65_code 206 = .ok (.iastore, 1) := gd_9 db00f_30
theorem d_X12_goOn_207 : decode prog_14_method_65_code 207 = .ok (.goto (-207), 3) := gd_10 db00f_30
theorem d_X12_goOn_210 : decode prog_14_method_65_code 210 = .ok (.return_, 1) := gd_11 db00f_30
theorem db00f_31 : Ad_ prog_14_method_66_code [(0, .aload_n 0, 1), (1, .iload_n 1, 1), (2, .invokevirtual 345, 3), (5, .ifCond .eq 42, 3), (8, .iload_n 2, 1), (9, .iconst 0, 1), (10, .aload_n 0, 1), (11, .getfield 413, 3), (14, .iconst 1, 1), (15, .isub, 1), (16, .invokestatic 323, 3), (19, .ifCond .eq 28, 3), (22, .aload_n 0, 1), (23, .getfield 34, 3), (26, .iload_n 1, 1), (27, .iaload, 1), (28, .ifCond .ne 19, 3), (31, .aload_n 0, 1), (32, .getfield 507, 3), (35, .aload_n 0, 1), (36, .iload_n 2, 1), (37, .invokevirtual 420, 3), (40, .iadd, 1), (41, .sipush 400, 3)] := bch_ok prog_14_method_66_code _ 0 (by decide +kernel)
theorem d_X12_begin_0 : decode prog_14_method_66_code 0 = .ok (.aload_n 0, 1) := gd_0 db00f_31
theorem d_X12_begin_1 : decode prog_14_method_66_code 1 = .ok (.iload_n 1, 1) := gd_1 db00f_31
theorem d_X12_begin_2 : decode prog_14_method_66_code 2 = .ok (.invokevirtual 345, 3) := gd_2 db00f_31
theorem d_X12_begin_5 : decode prog_14_method_66_code 5 = .ok (.ifCond .eq 42, 3) := gd_3 db00f_31
theorem d_X12_begin_8 : decode prog_14_method_66_code 8 = .ok (.iload_n 2, 1) := gd_4 db00f_31
theorem d_X12_begin_9 : decode prog_14_method_66_code 9 = .ok (.iconst 0, 1) := gd_5 db00f_31
theorem d_X12_begin_10 : decode prog_14_method_66_code 10 = .ok (.aload_n 0, 1) := gd_6 db00f_31
theorem d_X12_begin_11 : decode prog_14_method_66_code 11 = .ok (.getfield 413, 3) := gd_7 db00f_31
theorem d_X12_begin_14 : decode prog_14_method_66_code 14 = .ok (.iconst 1, 1) := gd_8 db00f_31
theorem d_X12_begin_15 : decode prog_14_method_66_code 15 = .ok (.isub, 1) := gd_9 db00f_31
theorem d_X12_begin_16 : decode prog_14_method_66_code 16 = .ok (.invokestatic 323, 3) := gd_10 db00f_31
theorem d_X12_begin_19 : decode prog_14_method_66_code 19 = .ok (.ifCond .eq 28, 3) := gd_11 db00f_31
theorem d_X12_begin_22 : decode prog_14_method_66_code 22 = .ok (.aload_n 0, 1) := gd_12 db00f_31
theorem d_X12_begin_23 : decode prog_14_method_66_code 23 = .ok (.getfield 34, 3) := gd_13 db00f_31
theorem d_X12_begin_26 : decode prog_14_method_66_code 26 = .ok (.iload_n 1, 1) := gd_14 db00f_31
theorem d_X12_begin_27 : decode prog_14_method_66_code 27 = .ok (.iaload, 1) := gd_15 db00f_31
theorem d_X12_begin_28 : decode prog_14_method_66_code 28 = .ok (.ifCond .ne 19, 3) := gd_16 db00f_31
theorem d_X12_begin_31 : decode prog_14_method_66_code 31 = .ok (.aload_n 0, 1) := gd_17 db00f_31
theorem d_X12_begin_32 : decode prog_14_method_66_code 32 = .ok (.getfield 507, 3) := gd_18 db00f_31
theorem d_X12_begin_35 : decode prog_14_method_66_code 35 = .ok (.aload_n 0, 1) := gd_19 db00f_31
theorem d_X12_begin_36 : decode prog_14_method_66_code 36 = .ok (.iload_n 2, 1) := gd_20 db00f_31
theorem d_X12_begin_37 : decode prog_14_method_66_code 37 = .ok (.invokevirtual 420, 3) := gd_21 db00f_31
theorem d_X12_begin_40 : decode prog_14_method_66_code 40 = .ok (.iadd, 1) := gd_22 db00f_31
theorem d_X12_begin_41 : decode prog_14_method_66_code 41 = .ok (.sipush 400, 3) := gd_23 db00f_31
theorem db00f_32 : Ad_ prog_14_method_66_code [(44, .if_icmp .le 5, 3), (47, .iconst 0, 1), (48, .ireturn, 1), (49, .aload_n 0, 1), (50, .getfield 34, 3), (53, .iload_n 1, 1), (54, .iconst 1, 1), (55, .iastore, 1), (56, .aload_n 0, 1), (57, .getfield 46, 3), (60, .iload_n 1, 1), (61, .iload_n 2, 1), (62, .iastore, 1), (63, .aload_n 0, 1), (64, .getfield 49, 3), (67, .iload_n 1, 1), (68, .iconst 0, 1), (69, .iastore, 1), (70, .aload_n 0, 1), (71, .getfield 52, 3), (74, .iload_n 1, 1), (75, .aload_n 0, 1), (76, .getfield 342, 3), (79, .iastore, 1)] := bch_ok prog_14_method_66_code _ 44 (by decide +kernel)
theorem d_X12_begin_44 : decode prog_14_method_66_code 44 = .ok (.if_icmp .le 5, 3) := gd_0 db00f_32
theorem d_X12_begin_47 : decode prog_14_method_66_code 47 = .ok (.iconst 0, 1) := gd_1 db00f_32
theorem d_X12_begin_48 : decode prog_14_method_66_code 48 = .ok (.ireturn, 1) := gd_2 db00f_32
theorem d_X12_begin_49 : decode prog_14_method_66_code 49 = .ok (.aload_n 0, 1) := gd_3 db00f_32
theorem d_X12_begin_50 : decode prog_14_method_66_code 50 = .ok (.getfield 34, 3) := gd_4 db00f_32
theorem d_X12_begin_53 : decode prog_14_method_66_code 53 = .ok (.iload_n 1, 1) := gd_5 db00f_32
theorem d_X12_begin_54 : decode prog_14_method_66_code 54 = .ok (.iconst 1, 1) := gd_6 db00f_32
theorem d_X12_begin_55 : decode prog_14_method_66_code 55 = .ok (.iastore, 1) := gd_7 db00f_32
theorem d_X12_begin_56 : decode prog_14_method_66_code 56 = .ok (.aload_n 0, 1) := gd_8 db00f_32
theorem d_X12_begin_57 : decode prog_14_method_66_code 57 = .ok (.getfield 46, 3) := gd_9 db00f_32
theorem d_X12_begin_60 : decode prog_14_method_66_code 60 = .ok (.iload_n 1, 1) := gd_10 db00f_32
theorem d_X12_begin_61 : decode prog_14_method_66_code 61 = .ok (.iload_n 2, 1) := gd_11 db00f_32
theorem d_X12_begin_62 : decode prog_14_method_66_code 62 = .ok (.iastore, 1) := gd_12 db00f_32
theorem d_X12_begin_63 : decode prog_14_method_66_code 63 = .ok (.aload_n 0, 1) := gd_13 db00f_32
theorem d_X12_begin_64 : decode prog_14_method_66_code 64 = .ok (.getfield 49, 3) := gd_14 db00f_32
theorem d_X12_begin_67 : decode prog_14_method_66_code 67 = .ok (.iload_n 1, 1) := gd_15 db00f_32
theorem d_X12_begin_68 : decode prog_14_method_66_code 68 = .ok (.iconst 0, 1) := gd_16 db00f_32
theorem d_X12_begin_69 : decode prog_14_method_66_code 69 = .ok (.iastore, 1) := gd_17 db00f_32
theorem d_X12_begin_70 : decode prog_14_method_66_code 70 = .ok (.aload_n 0, 1) := gd_18 db00f_32
theorem d_X12_begin_71 : decode prog_14_method_66_code 71 = .ok (.getfield 52, 3) := gd_19 db00f_32
theorem d_X12_begin_74 : decode prog_14_method_66_code 74 = .ok (.iload_n 1, 1) := gd_20 db00f_32
theorem d_X12_begin_75 : decode prog_14_method_66_code 75 = .ok (.aload_n 0, 1) := gd_21 db00f_32
theorem d_X12_begin_76 : decode prog_14_method_66_code 76 = .ok (.getfield 342, 3) := gd_22 db00f_32
theorem d_X12_begin_79 : decode prog_14_method_66_code 79 = .ok (.iastore, 1) := gd_23 db00f_32
theorem db00f_33 : Ad_ prog_14_method_66_code [(80, .aload_n 0, 1), (81, .getfield 55, 3), (84, .iload_n 1, 1), (85, .aload_n 0, 1), (86, .getfield 507, 3), (89, .iastore, 1), (90, .aload_n 0, 1), (91, .getfield 58, 3), (94, .iload_n 1, 1), (95, .aload_n 0, 1), (96, .getfield 507, 3), (99, .iastore, 1), (100, .sipush 150, 3), (103, .iload_n 2, 1), (104, .imul, 1), (105, .istore_n 3, 1), (106, .iload_n 3, 1), (107, .sipush 150, 3), (110, .iload_n 2, 1), (111, .imul, 1), (112, .aload_n 0, 1), (113, .getfield 93, 3), (116, .iload_n 2, 1), (117, .iaload, 1)] := bch_ok prog_14_method_66_code _ 80 (by decide +kernel)
theorem d_X12_begin_80 : decode prog_14_method_66_code 80 = .ok (.aload_n 0, 1) := gd_0 db00f_33
theorem d_X12_begin_81 : decode prog_14_method_66_code 81 = .ok (.getfield 55, 3) := gd_1 db00f_33
theorem d_X12_begin_84 : decode prog_14_method_66_code 84 = .ok (.iload_n 1, 1) := gd_2 db00f_33
theorem d_X12_begin_85 : decode prog_14_method_66_code 85 = .ok (.aload_n 0, 1) := gd_3 db00f_33
theorem d_X12_begin_86 : decode prog_14_method_66_code 86 = .ok (.getfield 507, 3) := gd_4 db00f_33
theorem d_X12_begin_89 : decode prog_14_method_66_code 89 = .ok (.iastore, 1) := gd_5 db00f_33
theorem d_X12_begin_90 : decode prog_14_method_66_code 90 = .ok (.aload_n 0, 1) := gd_6 db00f_33
theorem d_X12_begin_91 : decode prog_14_method_66_code 91 = .ok (.getfield 58, 3) := gd_7 db00f_33
theorem d_X12_begin_94 : decode prog_14_method_66_code 94 = .ok (.iload_n 1, 1) := gd_8 db00f_33
theorem d_X12_begin_95 : decode prog_14_method_66_code 95 = .ok (.aload_n 0, 1) := gd_9 db00f_33
theorem d_X12_begin_96 : decode prog_14_method_66_code 96 = .ok (.getfield 507, 3) := gd_10 db00f_33
theorem d_X12_begin_99 : decode prog_14_method_66_code 99 = .ok (.iastore, 1) := gd_11 db00f_33
theorem d_X12_begin_100 : decode prog_14_method_66_code 100 = .ok (.sipush 150, 3) := gd_12 db00f_33
theorem d_X12_begin_103 : decode prog_14_method_66_code 103 = .ok (.iload_n 2, 1) := gd_13 db00f_33
theorem d_X12_begin_104 : decode prog_14_method_66_code 104 = .ok (.imul, 1) := gd_14 db00f_33
theorem d_X12_begin_105 : decode prog_14_method_66_code 105 = .ok (.istore_n 3, 1) := gd_15 db00f_33
theorem d_X12_begin_106 : decode prog_14_method_66_code 106 = .ok (.iload_n 3, 1) := gd_16 db00f_33
theorem d_X12_begin_107 : decode prog_14_method_66_code 107 = .ok (.sipush 150, 3) := gd_17 db00f_33
theorem d_X12_begin_110 : decode prog_14_method_66_code 110 = .ok (.iload_n 2, 1) := gd_18 db00f_33
theorem d_X12_begin_111 : decode prog_14_method_66_code 111 = .ok (.imul, 1) := gd_19 db00f_33
theorem d_X12_begin_112 : decode prog_14_method_66_code 112 = .ok (.aload_n 0, 1) := gd_20 db00f_33
theorem d_X12_begin_113 : decode prog_14_method_66_code 113 = .ok (.getfield 93, 3) := gd_21 db00f_33
theorem d_X12_begin_116 : decode prog_14_method_66_code 116 = .ok (.iload_n 2, 1) := gd_22 db00f_33
theorem d_X12_begin_117 : decode prog_14_method_66_code 117 = .ok (.iaload, 1) := gd_23 db00f_33
theorem db00f_34 : Ad_ prog_14_method_66_code [(118, .iadd, 1), (119, .if_icmp .ge 107, 3), (122, .aload_n 0, 1), (123, .getfield 96, 3), (126, .iload_n 3, 1), (127, .iaload, 1), (128, .iconst 2, 1), (129, .if_icmp .ne 91, 3), (132, .aload_n 0, 1), (133, .getfield 126, 3), (136, .aload_n 0, 1), (137, .getfield 507, 3), (140, .iload_n 1, 1), (141, .iastore, 1), (142, .aload_n 0, 1), (143, .getfield 129, 3), (146, .aload_n 0, 1), (147, .getfield 507, 3), (150, .aload_n 0, 1), (151, .getfield 99, 3), (154, .iload_n 3, 1), (155, .iaload, 1), (156, .iastore, 1), (157, .aload_n 0, 1)] := bch_ok prog_14_method_66_code _ 118 (by decide +kernel)
theorem d_X12_begin_118 : decode prog_14_method_66_code 118 = .ok (.iadd, 1) := gd_0 db00f_34
theorem d_X12_begin_119 : decode prog_14_method_66_code 119 = .ok (.if_icmp .ge 107, 3) := gd_1 db00f_34
theorem d_X12_begin_122 : decode prog_14_method_66_code 122 = .ok (.aload_n 0, 1) := gd_2 db00f_34
theorem d_X12_begin_123 : decode prog_14_method_66_code 123 = .ok (.getfield 96, 3) := gd_3 db00f_34
theorem d_X12_begin_126 : decode prog_14_method_66_code 126 = .ok (.iload_n 3, 1) := gd_4 db00f_34
theorem d_X12_begin_127 : decode prog_14_method_66_code 127 = .ok (.iaload, 1) := gd_5 db00f_34
theorem d_X12_begin_128 : decode prog_14_method_66_code 128 = .ok (.iconst 2, 1) := gd_6 db00f_34
theorem d_X12_begin_129 : decode prog_14_method_66_code 129 = .ok (.if_icmp .ne 91, 3) := gd_7 db00f_34
theorem d_X12_begin_132 : decode prog_14_method_66_code 132 = .ok (.aload_n 0, 1) := gd_8 db00f_34
theorem d_X12_begin_133 : decode prog_14_method_66_code 133 = .ok (.getfield 126, 3) := gd_9 db00f_34
theorem d_X12_begin_136 : decode prog_14_method_66_code 136 = .ok (.aload_n 0, 1) := gd_10 db00f_34
theorem d_X12_begin_137 : decode prog_14_method_66_code 137 = .ok (.getfield 507, 3) := gd_11 db00f_34
theorem d_X12_begin_140 : decode prog_14_method_66_code 140 = .ok (.iload_n 1, 1) := gd_12 db00f_34
theorem d_X12_begin_141 : decode prog_14_method_66_code 141 = .ok (.iastore, 1) := gd_13 db00f_34
theorem d_X12_begin_142 : decode prog_14_method_66_code 142 = .ok (.aload_n 0, 1) := gd_14 db00f_34
theorem d_X12_begin_143 : decode prog_14_method_66_code 143 = .ok (.getfield 129, 3) := gd_15 db00f_34
theorem d_X12_begin_146 : decode prog_14_method_66_code 146 = .ok (.aload_n 0, 1) := gd_16 db00f_34
theorem d_X12_begin_147 : decode prog_14_method_66_code 147 = .ok (.getfield 507, 3) := gd_17 db00f_34
theorem d_X12_begin_150 : decode prog_14_method_66_code 150 = .ok (.aload_n 0, 1) := gd_18 db00f_34
theorem d_X12_begin_151 : decode prog_14_method_66_code 151 = .ok (.getfield 99, 3) := gd_19 db00f_34
theorem d_X12_begin_154 : decode prog_14_method_66_code 154 = .ok (.iload_n 3, 1) := gd_20 db00f_34
theorem d_X12_begin_155 : decode prog_14_method_66_code 155 = .ok (.iaload, 1) := gd_21 db00f_34
theorem d_X12_begin_156 : decode prog_14_method_66_code 156 = .ok (.iastore, 1) := gd_22 db00f_34
theorem d_X12_begin_157 : decode prog_14_method_66_code 157 = .ok (.aload_n 0, 1) := gd_23 db00f_34
theorem db00f_35 : Ad_ prog_14_method_66_code [(158, .getfield 132, 3), (161, .aload_n 0, 1), (162, .getfield 507, 3), (165, .aload_n 0, 1), (166, .getfield 342, 3), (169, .aload_n 0, 1), (170, .getfield 102, 3), (173, .iload_n 3, 1), (174, .iaload, 1), (175, .iadd, 1), (176, .iastore, 1), (177, .aload_n 0, 1), (178, .getfield 135, 3), (181, .aload_n 0, 1), (182, .getfield 507, 3), (185, .iconst (-1), 1), (186, .iastore, 1), (187, .aload_n 0, 1), (188, .getfield 138, 3), (191, .aload_n 0, 1), (192, .getfield 507, 3), (195, .iconst (-1), 1), (196, .iastore, 1), (197, .aload_n 0, 1)] := bch_ok prog_14_method_66_code _ 158 (by decide +kernel)
theorem d_X12_begin_158 : decode prog_14_method_66_code 158 = .ok (.getfield 132, 3) := gd_0 db00f_35
theorem d_X12_begin_161 : decode prog_14_method_66_code 161 = .ok (.aload_n 0, 1) := gd_1 db00f_35
theorem d_X12_begin_162 : decode prog_14_method_66_code 162 = .ok (.getfield 507, 3) := gd_2 db00f_35
theorem d_X12_begin_165 : decode prog_14_method_66_code 165 = .ok (.aload_n 0, 1) := gd_3 db00f_35
theorem d_X12_begin_166 : decode prog_14_method_66_code 166 = .ok (.getfield 342, 3) := gd_4 db00f_35
theorem d_X12_begin_169 : decode prog_14_method_66_code 169 = .ok (.aload_n 0, 1) := gd_5 db00f_35
theorem d_X12_begin_170 : decode prog_14_method_66_code 170 = .ok (.getfield 102, 3) := gd_6 db00f_35
theorem d_X12_begin_173 : decode prog_14_method_66_code 173 = .ok (.iload_n 3, 1) := gd_7 db00f_35
theorem d_X12_begin_174 : decode prog_14_method_66_code 174 = .ok (.iaload, 1) := gd_8 db00f_35
theorem d_X12_begin_175 : decode prog_14_method_66_code 175 = .ok (.iadd, 1) := gd_9 db00f_35
theorem d_X12_begin_176 : decode prog_14_method_66_code 176 = .ok (.iastore, 1) := gd_10 db00f_35
theorem d_X12_begin_177 : decode prog_14_method_66_code 177 = .ok (.aload_n 0, 1) := gd_11 db00f_35
theorem d_X12_begin_178 : decode prog_14_method_66_code 178 = .ok (.getfield 135, 3) := gd_12 db00f_35
theorem d_X12_begin_181 : decode prog_14_method_66_code 181 = .ok (.aload_n 0, 1) := gd_13 db00f_35
theorem d_X12_begin_182 : decode prog_14_method_66_code 182 = .ok (.getfield 507, 3) := gd_14 db00f_35
theorem d_X12_begin_185 : decode prog_14_method_66_code 185 = .ok (.iconst (-1), 1) := gd_15 db00f_35
theorem d_X12_begin_186 : decode prog_14_method_66_code 186 = .ok (.iastore, 1) := gd_16 db00f_35
theorem d_X12_begin_187 : decode prog_14_method_66_code 187 = .ok (.aload_n 0, 1) := gd_17 db00f_35
theorem d_X12_begin_188 : decode prog_14_method_66_code 188 = .ok (.getfield 138, 3) := gd_18 db00f_35
theorem d_X12_begin_191 : decode prog_14_method_66_code 191 = .ok (.aload_n 0, 1) := gd_19 db00f_35
theorem d_X12_begin_192 : decode prog_14_method_66_code 192 = .ok (.getfield 507, 3) := gd_20 db00f_35
theorem d_X12_begin_195 : decode prog_14_method_66_code 195 = .ok (.iconst (-1), 1) := gd_21 db00f_35
theorem d_X12_begin_196 : decode prog_14_method_66_code 196 = .ok (.iastore, 1) := gd_22 db00f_35
theorem d_X12_begin_197 : decode prog_14_method_66_code 197 = .ok (.aload_n 0, 1) := gd_23 db00f_35
theorem db00f_36 : Ad_ prog_14_method_66_code [(198, .getfield 144, 3), (201, .aload_n 0, 1), (202, .getfield 507, 3), (205, .aload_n 0, 1), (206, .getfield 342, 3), (209, .iastore, 1), (210, .aload_n 0, 1), (211, .dup, 1), (212, .getfield 507, 3), (215, .iconst 1, 1), (216, .iadd, 1), (217, .putfield 507, 3), (220, .iinc 3 1, 3), (223, .goto (-117), 3), (226, .aload_n 0, 1), (227, .getfield 61, 3), (230, .iload_n 1, 1), (231, .aload_n 0, 1), (232, .getfield 507, 3), (235, .iastore, 1), (236, .aload_n 0, 1), (237, .iload_n 1, 1), (238, .invokevirtual 534, 3), (241, .iconst 1, 1)] := bch_ok prog_14_method_66_code _ 198 (by decide +kernel)
theorem d_X12_begin_198 : decode prog_14_method_66_code 198 = .ok (.getfield 144, 3) := gd_0 db00f_36
theorem d_X12_begin_201 : decode prog_14_method_66_code 201 = .ok (.aload_n 0, 1) := gd_1 db00f_36
theorem d_X12_begin_202 : decode prog_14_method_66_code 202 = .ok (.getfield 507, 3) := gd_2 db00f_36
theorem d_X12_begin_205 : decode prog_14_method_66_code 205 = .ok (.aload_n 0, 1) := gd_3 db00f_36
theorem d_X12_begin_206 : decode prog_14_method_66_code 206 = .ok (.getfield 342, 3) := gd_4 db00f_36
theorem d_X12_begin_209 : decode prog_14_method_66_code 209 = .ok (.iastore, 1) := gd_5 db00f_36
theorem d_X12_begin_210 : decode prog_14_method_66_code 210 = .ok (.aload_n 0, 1) := gd_6 db00f_36
theorem d_X12_begin_211 : decode prog_14_method_66_code 211 = .ok (.dup, 1) := gd_7 db00f_36
theorem d_X12_begin_212 : decode prog_14_method_66_code 212 = .ok (.getfield 507, 3) := gd_8 db00f_36
theorem d_X12_begin_215 : decode prog_14_method_66_code 215 = .ok (.iconst 1, 1) := gd_9 db00f_36
theorem d_X12_begin_216 : decode prog_14_method_66_code 216 = .ok (.iadd, 1) := gd_10 db00f_36
theorem d_X12_begin_217 : decode prog_14_method_66_code 217 = .ok (.putfield 507, 3) := gd_11 db00f_36
theorem d_X12_begin_220 : decode prog_14_method_66_code 220 = .ok (.iinc 3 1, 3) := gd_12 db00f_36
theorem d_X12_begin_223 : decode prog_14_method_66_code 223 = .ok (.goto (-117), 3) := gd_13 db00f_36
theorem d_X12_begin_226 : decode prog_14_method_66_code 226 = .ok (.aload_n 0, 1) := gd_14 db00f_36
theorem d_X12_begin_227 : decode prog_14_method_66_code 227 = .ok (.getfield 61, 3) := gd_15 db00f_36
theorem d_X12_begin_230 : decode prog_14_method_66_code 230 = .ok (.iload_n 1, 1) := gd_16 db00f_36
theorem d_X12_begin_231 : decode prog_14_method_66_code 231 = .ok (.aload_n 0, 1) := gd_17 db00f_36
theorem d_X12_begin_232 : decode prog_14_method_66_code 232 = .ok (.getfield 507, 3) := gd_18 db00f_36
theorem d_X12_begin_235 : decode prog_14_method_66_code 235 = .ok (.iastore, 1) := gd_19 db00f_36
theorem d_X12_begin_236 : decode prog_14_method_66_code 236 = .ok (.aload_n 0, 1) := gd_20 db00f_36
theorem d_X12_begin_237 : decode prog_14_method_66_code 237 = .ok (.iload_n 1, 1) := gd_21 db00f_36
theorem d_X12_begin_238 : decode prog_14_method_66_code 238 = .ok (.invokevirtual 534, 3) := gd_22 db00f_36
theorem d_X12_begin_241 : decode prog_14_method_66_code 241 = .ok (.iconst 1, 1) := gd_23 db00f_36
theorem d_X12_begin_242 : decode prog_14_method_66_code 242 = .ok (.ireturn, 1) := by decide +kernel
theorem db00f_37 : Ad_ prog_14_method_67_code [(0, .aload_n 0, 1), (1, .iload_n 1, 1), (2, .invokevirtual 345, 3), (5, .ifCond .eq 59, 3), (8, .iload_n 2, 1), (9, .invokestatic 327, 3), (12, .ifCond .eq 52, 3), (15, .iload_n 3, 1), (16, .aload_n 0, 1), (17, .getfield 342, 3), (20, .sipush 30000, 3), (23, .invokestatic 323, 3), (26, .ifCond .eq 38, 3), (29, .aload_n 0, 1), (30, .aload_n 0, 1), (31, .getfield 28, 3), (34, .iload_n 1, 1), (35, .iaload, 1), (36, .iload_n 2, 1), (37, .invokevirtual 335, 3), (40, .iconst (-1), 1), (41, .if_icmp .eq 23, 3), (44, .aload_n 0, 1), (45, .getfield 34, 3)] := bch_ok prog_14_method_67_code _ 0 (by decide +kernel)
theorem d_X12_draw_0 : decode prog_14_method_67_code 0 = .ok (.aload_n 0, 1) := gd_0 db00f_37
theorem d_X12_draw_1 : decode prog_14_method_67_code 1 = .ok (.iload_n 1, 1) := gd_1 db00f_37
theorem d_X12_draw_2 : decode prog_14_method_67_code 2 = .ok (.invokevirtual 345, 3) := gd_2 db00f_37
theorem d_X12_draw_5 : decode prog_14_method_67_code 5 = .ok (.ifCond .eq 59, 3) := gd_3 db00f_37
theorem d_X12_draw_8 : decode prog_14_method_67_code 8 = .ok (.iload_n 2, 1) := gd_4 db00f_37
theorem d_X12_draw_9 : decode prog_14_method_67_code 9 = .ok (.invokestatic 327, 3) := gd_5 db00f_37
theorem d_X12_draw_12 : decode prog_14_method_67_code 12 = .ok (.ifCond .eq 52, 3) := gd_6 db00f_37
theorem d_X12_draw_15 : decode prog_14_method_67_code 15 = .ok (.iload_n 3, 1) := gd_7 db00f_37
theorem d_X12_draw_16 : decode prog_14_method_67_code 16 = .ok (.aload_n 0, 1) := gd_8 db00f_37
theorem d_X12_draw_17 : decode prog_14_method_67_code 17 = .ok (.getfield 342, 3) := gd_9 db00f_37
theorem d_X12_draw_20 : decode prog_14_method_67_code 20 = .ok (.sipush 30000, 3) := gd_10 db00f_37
theorem d_X12_draw_23 : decode prog_14_method_67_code 23 = .ok (.invokestatic 323, 3) := gd_11 db00f_37
theorem d_X12_draw_26 : decode prog_14_method_67_code 26 = .ok (.ifCond .eq 38, 3) := gd_12 db00f_37
theorem d_X12_draw_29 : decode prog_14_method_67_code 29 = .ok (.aload_n 0, 1) := gd_13 db00f_37
theorem d_X12_draw_30 : decode prog_14_method_67_code 30 = .ok (.aload_n 0, 1) := gd_14 db00f_37
theorem d_X12_draw_31 : decode prog_14_method_67_code 31 = .ok (.getfield 28, 3) := gd_15 db00f_37
theorem d_X12_draw_34 : decode prog_14_method_67_code 34 = .ok (.iload_n 1, 1) := gd_16 db00f_37
theorem d_X12_draw_35 : decode prog_14_method_67_code 35 = .ok (.iaload, 1) := gd_17 db00f_37
theorem d_X12_draw_36 : decode prog_14_method_67_code 36 = .ok (.iload_n 2, 1) := gd_18 db00f_37
theorem d_X12_draw_37 : decode prog_14_method_67_code 37 = .ok (.invokevirtual 335, 3) := gd_19 db00f_37
theorem d_X12_draw_40 : decode prog_14_method_67_code 40 = .ok (.iconst (-1), 1) := gd_20 db00f_37
theorem d_X12_draw_41 : decode prog_14_method_67_code 41 = .ok (.if_icmp .eq 23, 3) := gd_21 db00f_37
theorem d_X12_draw_44 : decode prog_14_method_67_code 44 = .ok (.aload_n 0, 1) := gd_22 db00f_37
theorem d_X12_draw_45 : decode prog_14_method_67_code 45 = .ok (.getfield 34, 3) := gd_23 db00f_37
theorem db00f_38 : Ad_ prog_14_method_67_code [(48, .iload_n 1, 1), (49, .iaload, 1), (50, .iconst 3, 1), (51, .if_icmp .eq 13, 3), (54, .aload_n 0, 1), (55, .getfield 34, 3), (58, .iload_n 1, 1), (59, .iaload, 1), (60, .iconst 4, 1), (61, .if_icmp .ne 5, 3), (64, .iconst 0, 1), (65, .ireturn, 1), (66, .aload_n 0, 1), (67, .getfield 34, 3), (70, .iload_n 1, 1), (71, .iaload, 1), (72, .iconst 1, 1), (73, .if_icmp .ne 9, 3), (76, .aload_n 0, 1), (77, .iload_n 1, 1), (78, .iconst 3, 1), (79, .invokevirtual 537, 3), (82, .aload_n 0, 1), (83, .getfield 49, 3)] := bch_ok prog_14_method_67_code _ 48 (by decide +kernel)
theorem d_X12_draw_48 : decode prog_14_method_67_code 48 = .ok (.iload_n 1, 1) := gd_0 db00f_38
theorem d_X12_draw_49 : decode prog_14_method_67_code 49 = .ok (.iaload, 1) := gd_1 db00f_38
theorem d_X12_draw_50 : decode prog_14_method_67_code 50 = .ok (.iconst 3, 1) := gd_2 db00f_38
theorem d_X12_draw_51 : decode prog_14_method_67_code 51 = .ok (.if_icmp .eq 13, 3) := gd_3 db00f_38
theorem d_X12_draw_54 : decode prog_14_method_67_code 54 = .ok (.aload_n 0, 1) := gd_4 db00f_38
theorem d_X12_draw_55 : decode prog_14_method_67_code 55 = .ok (.getfield 34, 3) := gd_5 db00f_38
theorem d_X12_draw_58 : decode prog_14_method_67_code 58 = .ok (.iload_n 1, 1) := gd_6 db00f_38
theorem d_X12_draw_59 : decode prog_14_method_67_code 59 = .ok (.iaload, 1) := gd_7 db00f_38
theorem d_X12_draw_60 : decode prog_14_method_67_code 60 = .ok (.iconst 4, 1) := gd_8 db00f_38
theorem d_X12_draw_61 : decode prog_14_method_67_code 61 = .ok (.if_icmp .ne 5, 3) := gd_9 db00f_38
theorem d_X12_draw_64 : decode prog_14_method_67_code 64 = .ok (.iconst 0, 1) := gd_10 db00f_38
theorem d_X12_draw_65 : decode prog_14_method_67_code 65 = .ok (.ireturn, 1) := gd_11 db00f_38
theorem d_X12_draw_66 : decode prog_14_method_67_code 66 = .ok (.aload_n 0, 1) := gd_12 db00f_38
theorem d_X12_draw_67 : decode prog_14_method_67_code 67 = .ok (.getfield 34, 3) := gd_13 db00f_38
theorem d_X12_draw_70 : decode prog_14_method_67_code 70 = .ok (.iload_n 1, 1) := gd_14 db00f_38
theorem d_X12_draw_71 : decode prog_14_method_67_code 71 = .ok (.iaload, 1) := gd_15 db00f_38
theorem d_X12_draw_72 : decode prog_14_method_67_code 72 = .ok (.iconst 1, 1) := gd_16 db00f_38
theorem d_X12_draw_73 : decode prog_14_method_67_code 73 = .ok (.if_icmp .ne 9, 3) := gd_17 db00f_38
theorem d_X12_draw_76 : decode prog_14_method_67_code 76 = .ok (.aload_n 0, 1) := gd_18 db00f_38
theorem d_X12_draw_77 : decode prog_14_method_67_code 77 = .ok (.iload_n 1, 1) := gd_19 db00f_38
theorem d_X12_draw_78 : decode prog_14_method_67_code 78 = .ok (.iconst 3, 1) := gd_20 db00f_38
theorem d_X12_draw_79 : decode prog_14_method_67_code 79 = .ok (.invokevirtual 537, 3) := gd_21 db00f_38
theorem d_X12_draw_82 : decode prog_14_method_67_code 82 = .ok (.aload_n 0, 1) := gd_22 db00f_38
theorem d_X12_draw_83 : decode prog_14_method_67_code 83 = .ok (.getfield 49, 3) := gd_23 db00f_38
theorem db00f_39 : Ad_ prog_14_method_67_code [(86, .iload_n 1, 1), (87, .iconst (-1), 1), (88, .iastore, 1), (89, .aload_n 0, 1), (90, .getfield 34, 3), (93, .iload_n 1, 1), (94, .iconst 3, 1), (95, .iastore, 1), (96, .aload_n 0, 1), (97, .getfield 64, 3), (100, .iload_n 1, 1), (101, .iload_n 2, 1), (102, .iastore, 1), (103, .aload_n 0, 1), (104, .getfield 67, 3), (107, .iload_n 1, 1), (108, .iload_n 3, 1), (109, .iastore, 1), (110, .aload_n 0, 1), (111, .getfield 156, 3), (114, .iload_n 1, 1), (115, .aload_n 0, 1), (116, .getfield 40, 3), (119, .iload_n 1, 1)] := bch_ok prog_14_method_67_code _ 86 (by decide +kernel)
theorem d_X12_draw_86 : decode prog_14_method_67_code 86 = .ok (.iload_n 1, 1) := gd_0 db00f_39
theorem d_X12_draw_87 : decode prog_14_method_67_code 87 = .ok (.iconst (-1), 1) := gd_1 db00f_39
theorem d_X12_draw_88 : decode prog_14_method_67_code 88 = .ok (.iastore, 1) := gd_2 db00f_39
theorem d_X12_draw_89 : decode prog_14_method_67_code 89 = .ok (.aload_n 0, 1) := gd_3 db00f_39
theorem d_X12_draw_90 : decode prog_14_method_67_code 90 = .ok (.getfield 34, 3) := gd_4 db00f_39
theorem d_X12_draw_93 : decode prog_14_method_67_code 93 = .ok (.iload_n 1, 1) := gd_5 db00f_39
theorem d_X12_draw_94 : decode prog_14_method_67_code 94 = .ok (.iconst 3, 1) := gd_6 db00f_39
theorem d_X12_draw_95 : decode prog_14_method_67_code 95 = .ok (.iastore, 1) := gd_7 db00f_39
theorem d_X12_draw_96 : decode prog_14_method_67_code 96 = .ok (.aload_n 0, 1) := gd_8 db00f_39
theorem d_X12_draw_97 : decode prog_14_method_67_code 97 = .ok (.getfield 64, 3) := gd_9 db00f_39
theorem d_X12_draw_100 : decode prog_14_method_67_code 100 = .ok (.iload_n 1, 1) := gd_10 db00f_39
theorem d_X12_draw_101 : decode prog_14_method_67_code 101 = .ok (.iload_n 2, 1) := gd_11 db00f_39
theorem d_X12_draw_102 : decode prog_14_method_67_code 102 = .ok (.iastore, 1) := gd_12 db00f_39
theorem d_X12_draw_103 : decode prog_14_method_67_code 103 = .ok (.aload_n 0, 1) := gd_13 db00f_39
theorem d_X12_draw_104 : decode prog_14_method_67_code 104 = .ok (.getfield 67, 3) := gd_14 db00f_39
theorem d_X12_draw_107 : decode prog_14_method_67_code 107 = .ok (.iload_n 1, 1) := gd_15 db00f_39
theorem d_X12_draw_108 : decode prog_14_method_67_code 108 = .ok (.iload_n 3, 1) := gd_16 db00f_39
theorem d_X12_draw_109 : decode prog_14_method_67_code 109 = .ok (.iastore, 1) := gd_17 db00f_39
theorem d_X12_draw_110 : decode prog_14_method_67_code 110 = .ok (.aload_n 0, 1) := gd_18 db00f_39
theorem d_X12_draw_111 : decode prog_14_method_67_code 111 = .ok (.getfield 156, 3) := gd_19 db00f_39
theorem d_X12_draw_114 : decode prog_14_method_67_code 114 = .ok (.iload_n 1, 1) := gd_20 db00f_39
theorem d_X12_draw_115 : decode prog_14_method_67_code 115 = .ok (.aload_n 0, 1) := gd_21 db00f_39
theorem d_X12_draw_116 : decode prog_14_method_67_code 116 = .ok (.getfield 40, 3) := gd_22 db00f_39
theorem d_X12_draw_119 : decode prog_14_method_67_code 119 = .ok (.iload_n 1, 1) := gd_23 db00f_39
theorem db00f_40 : Ad_ prog_14_method_67_code [(120, .iaload, 1), (121, .iconst (-1), 1), (122, .if_icmp .ne 7, 3), (125, .iconst 1, 1), (126, .goto 4, 3), (129, .iconst 0, 1), (130, .bastore, 1), (131, .aload_n 0, 1), (132, .getfield 40, 3), (135, .iload_n 1, 1), (136, .iaload, 1), (137, .iconst (-1), 1), (138, .if_icmp .ne 8, 3), (141, .aload_n 0, 1), (142, .iload_n 1, 1), (143, .invokevirtual 540, 3), (146, .iconst 1, 1), (147, .ireturn, 1)] := bch_ok prog_14_method_67_code _ 120 (by decide +kernel)
theorem d_X12_draw_120 : decode prog_14_method_67_code 120 = .ok (.iaload, 1) := gd_0 db00f_40
theorem d_X12_draw_121 : decode prog_14_method_67_code 121 = .ok (.iconst (-1), 1) := gd_1 db00f_40
theorem d_X12_draw_122 : decode prog_14_method_67_code 122 = .ok (.if_icmp .ne 7, 3) := gd_2 db00f_40
theorem d_X12_draw_125 : decode prog_14_method_67_code 125 = .ok (.iconst 1, 1) := gd_3 db00f_40
theorem d_X12_draw_126 : decode prog_14_method_67_code 126 = .ok (.goto 4, 3) := gd_4 db00f_40
theorem d_X12_draw_129 : decode prog_14_method_67_code 129 = .ok (.iconst 0, 1) := gd_5 db00f_40
theorem d_X12_draw_130 : decode prog_14_method_67_code 130 = .ok (.bastore, 1) := gd_6 db00f_40
theorem d_X12_draw_131 : decode prog_14_method_67_code 131 = .ok (.aload_n 0, 1) := gd_7 db00f_40
theorem d_X12_draw_132 : decode prog_14_method_67_code 132 = .ok (.getfield 40, 3) := gd_8 db00f_40
theorem d_X12_draw_135 : decode prog_14_method_67_code 135 = .ok (.iload_n 1, 1) := gd_9 db00f_40
theorem d_X12_draw_136 : decode prog_14_method_67_code 136 = .ok (.iaload, 1) := gd_10 db00f_40
theorem d_X12_draw_137 : decode prog_14_method_67_code 137 = .ok (.iconst (-1), 1) := gd_11 db00f_40
theorem d_X12_draw_138 : decode prog_14_method_67_code 138 = .ok (.if_icmp .ne 8, 3) := gd_12 db00f_40
theorem d_X12_draw_141 : decode prog_14_method_67_code 141 = .ok (.aload_n 0, 1) := gd_13 db00f_40
theorem d_X12_draw_142 : decode prog_14_method_67_code 142 = .ok (.iload_n 1, 1) := gd_14 db00f_40
theorem d_X12_draw_143 : decode prog_14_method_67_code 143 = .ok (.invokevirtual 540, 3) := gd_15 db00f_40
theorem d_X12_draw_146 : decode prog_14_method_67_code 146 = .ok (.iconst 1, 1) := gd_16 db00f_40
theorem d_X12_draw_147 : decode prog_14_method_67_code 147 = .ok (.ireturn, 1) := gd_17 db00f_40
theorem db00f_41 : Ad_ prog_14_method_68_code [(0, .aload_n 0, 1), (1, .iload_n 1, 1), (2, .invokevirtual 345, 3), (5, .ifCond .eq 22, 3), (8, .aload_n 0, 1), (9, .getfield 34, 3), (12, .iload_n 1, 1), (13, .iaload, 1), (14, .iconst 4, 1), (15, .if_icmp .ne 7, 3), (18, .iconst 1, 1), (19, .goto 4, 3), (22, .iconst 0, 1), (23, .iload_n 2, 1), (24, .if_icmp .ne 5, 3), (27, .iconst 0, 1), (28, .ireturn, 1), (29, .iload_n 2, 1), (30, .ifCond .ne 10, 3), (33, .aload_n 0, 1), (34, .iload_n 1, 1), (35, .invokevirtual 519, 3), (38, .iconst 1, 1), (39, .ireturn, 1)] := bch_ok prog_14_method_68_code _ 0 (by decide +kernel)
theorem d_X12_ill_0 : decode prog_14_method_68_code 0 = .ok (.aload_n 0, 1) := gd_0 db00f_41
theorem d_X12_ill_1 : decode prog_14_method_68_code 1 = .ok (.iload_n 1, 1) := gd_1 db00f_41
theorem d_X12_ill_2 : decode prog_14_method_68_code 2 = .ok (.invokevirtual 345, 3) := gd_2 db00f_41
theorem d_X12_ill_5 : decode prog_14_method_68_code 5 = .ok (.ifCond .eq 22, 3) := gd_3 db00f_41
theorem d_X12_ill_8 : decode prog_14_method_68_code 8 = .ok (.aload_n 0, 1) := gd_4 db00f_41
theorem d_X12_ill_9 : decode prog_14_method_68_code 9 = .ok (.getfield 34, 3) := gd_5 db00f_41
theorem d_X12_ill_12 : decode prog_14_method_68_code 12 = .ok (.iload_n 1, 1) := gd_6 db00f_41
theorem d_X12_ill_13 : decode prog_14_method_68_code 13 = .ok (.iaload, 1) := gd_7 db00f_41
theorem d_X12_ill_14 : decode prog_14_method_68_code 14 = .ok (.iconst 4, 1) := gd_8 db00f_41
theorem d_X12_ill_15 : decode prog_14_method_68_code 15 = .ok (.if_icmp .ne 7, 3) := gd_9 db00f_41
theorem d_X12_ill_18 : decode prog_14_method_68_code 18 = .ok (.iconst 1, 1) := gd_10 db00f_41
theorem d_X12_ill_19 : decode prog_14_method_68_code 19 = .ok (.goto 4, 3) := gd_11 db00f_41
theorem d_X12_ill_22 : decode prog_14_method_68_code 22 = .ok (.iconst 0, 1) := gd_12 db00f_41
theorem d_X12_ill_23 : decode prog_14_method_68_code 23 = .ok (.iload_n 2, 1) := gd_13 db00f_41
theorem d_X12_ill_24 : decode prog_14_method_68_code 24 = .ok (.if_icmp .ne 5, 3) := gd_14 db00f_41
theorem d_X12_ill_27 : decode prog_14_method_68_code 27 = .ok (.iconst 0, 1) := gd_15 db00f_41
theorem d_X12_ill_28 : decode prog_14_method_68_code 28 = .ok (.ireturn, 1) := gd_16 db00f_41
theorem d_X12_ill_29 : decode prog_14_method_68_code 29 = .ok (.iload_n 2, 1) := gd_17 db00f_41
theorem d_X12_ill_30 : decode prog_14_method_68_code 30 = .ok (.ifCond .ne 10, 3) := gd_18 db00f_41
theorem d_X12_ill_33 : decode prog_14_method_68_code 33 = .ok (.aload_n 0, 1) := gd_19 db00f_41
theorem d_X12_ill_34 : decode prog_14_method_68_code 34 = .ok (.iload_n 1, 1) := gd_20 db00f_41
theorem d_X12_ill_35 : decode prog_14_method_68_code 35 = .ok (.invokevirtual 519, 3) := gd_21 db00f_41
theorem d_X12_ill_38 : decode prog_14_method_68_code 38 = .ok (.iconst 1, 1) := gd_22 db00f_41
theorem d_X12_ill_39 : decode prog_14_method_68_code 39 = .ok (.ireturn, 1) := gd_23 db00f_41
theorem db00f_42 : Ad_ prog_14_method_68_code [(40, .aload_n 0, 1), (41, .getfield 34, 3), (44, .iload_n 1, 1), (45, .iaload, 1), (46, .iconst 1, 1), (47, .if_icmp .ne 9, 3), (50, .aload_n 0, 1), (51, .iload_n 1, 1), (52, .iconst 4, 1), (53, .invokevirtual 537, 3), (56, .aload_n 0, 1), (57, .getfield 34, 3), (60, .iload_n 1, 1), (61, .iconst 4, 1), (62, .iastore, 1), (63, .aload_n 0, 1), (64, .getfield 37, 3), (67, .iload_n 1, 1), (68, .aload_n 0, 1), (69, .getfield 28, 3), (72, .iload_n 1, 1), (73, .iaload, 1), (74, .iastore, 1), (75, .aload_n 0, 1)] := bch_ok prog_14_method_68_code _ 40 (by decide +kernel)
theorem d_X12_ill_40 : decode prog_14_method_68_code 40 = .ok (.aload_n 0, 1) := gd_0 db00f_42
theorem d_X12_ill_41 : decode prog_14_method_68_code 41 = .ok (.getfield 34, 3) := gd_1 db00f_42
theorem d_X12_ill_44 : decode prog_14_method_68_code 44 = .ok (.iload_n 1, 1) := gd_2 db00f_42
theorem d_X12_ill_45 : decode prog_14_method_68_code 45 = .ok (.iaload, 1) := gd_3 db00f_42
theorem d_X12_ill_46 : decode prog_14_method_68_code 46 = .ok (.iconst 1, 1) := gd_4 db00f_42
theorem d_X12_ill_47 : decode prog_14_method_68_code 47 = .ok (.if_icmp .ne 9, 3) := gd_5 db00f_42
theorem d_X12_ill_50 : decode prog_14_method_68_code 50 = .ok (.aload_n 0, 1) := gd_6 db00f_42
theorem d_X12_ill_51 : decode prog_14_method_68_code 51 = .ok (.iload_n 1, 1) := gd_7 db00f_42
theorem d_X12_ill_52 : decode prog_14_method_68_code 52 = .ok (.iconst 4, 1) := gd_8 db00f_42
theorem d_X12_ill_53 : decode prog_14_method_68_code 53 = .ok (.invokevirtual 537, 3) := gd_9 db00f_42
theorem d_X12_ill_56 : decode prog_14_method_68_code 56 = .ok (.aload_n 0, 1) := gd_10 db00f_42
theorem d_X12_ill_57 : decode prog_14_method_68_code 57 = .ok (.getfield 34, 3) := gd_11 db00f_42
theorem d_X12_ill_60 : decode prog_14_method_68_code 60 = .ok (.iload_n 1, 1) := gd_12 db00f_42
theorem d_X12_ill_61 : decode prog_14_method_68_code 61 = .ok (.iconst 4, 1) := gd_13 db00f_42
theorem d_X12_ill_62 : decode prog_14_method_68_code 62 = .ok (.iastore, 1) := gd_14 db00f_42
theorem d_X12_ill_63 : decode prog_14_method_68_code 63 = .ok (.aload_n 0, 1) := gd_15 db00f_42
theorem d_X12_ill_64 : decode prog_14_method_68_code 64 = .ok (.getfield 37, 3) := gd_16 db00f_42
theorem d_X12_ill_67 : decode prog_14_method_68_code 67 = .ok (.iload_n 1, 1) := gd_17 db00f_42
theorem d_X12_ill_68 : decode prog_14_method_68_code 68 = .ok (.aload_n 0, 1) := gd_18 db00f_42
theorem d_X12_ill_69 : decode prog_14_method_68_code 69 = .ok (.getfield 28, 3) := gd_19 db00f_42
theorem d_X12_ill_72 : decode prog_14_method_68_code 72 = .ok (.iload_n 1, 1) := gd_20 db00f_42
theorem d_X12_ill_73 : decode prog_14_method_68_code 73 = .ok (.iaload, 1) := gd_21 db00f_42
theorem d_X12_ill_74 : decode prog_14_method_68_code 74 = .ok (.iastore, 1) := gd_22 db00f_42
theorem d_X12_ill_75 : decode prog_14_method_68_code 75 = .ok (.aload_n 0, 1) := gd_23 db00f_42
theorem db00f_43 : Ad_ prog_14_method_68_code [(76, .getfield 40, 3), (79, .iload_n 1, 1), (80, .iconst (-1), 1), (81, .iastore, 1), (82, .aload_n 0, 1), (83, .getfield 43, 3), (86, .iload_n 1, 1), (87, .iconst (-1), 1), (88, .iastore, 1), (89, .aload_n 0, 1), (90, .getfield 49, 3), (93, .iload_n 1, 1), (94, .iconst (-1), 1), (95, .iastore, 1), (96, .iconst 1, 1), (97, .ireturn, 1)] := bch_ok prog_14_method_68_code _ 76 (by decide +kernel)
theorem d_X12_ill_76 : decode prog_14_method_68_code 76 = .ok (.getfield 40, 3) := gd_0 db00f_43
theorem d_X12_ill_79 : decode prog_14_method_68_code 79 = .ok (.iload_n 1, 1) := gd_1 db00f_43
theorem d_X12_ill_80 : decode prog_14_method_68_code 80 = .ok (.iconst (-1), 1) := gd_2 db00f_43
theorem d_X12_ill_81 : decode prog_14_method_68_code 81 = .ok (.iastore, 1) := gd_3 db00f_43
theorem d_X12_ill_82 : decode prog_14_method_68_code 82 = .ok (.aload_n 0, 1) := gd_4 db00f_43
theorem d_X12_ill_83 : decode prog_14_method_68_code 83 = .ok (.getfield 43, 3) := gd_5 db00f_43
theorem d_X12_ill_86 : decode prog_14_method_68_code 86 = .ok (.iload_n 1, 1) := gd_6 db00f_43
theorem d_X12_ill_87 : decode prog_14_method_68_code 87 = .ok (.iconst (-1), 1) := gd_7 db00f_43
theorem d_X12_ill_88 : decode prog_14_method_68_code 88 = .ok (.iastore, 1) := gd_8 db00f_43
theorem d_X12_ill_89 : decode prog_14_method_68_code 89 = .ok (.aload_n 0, 1) := gd_9 db00f_43
theorem d_X12_ill_90 : decode prog_14_method_68_code 90 = .ok (.getfield 49, 3) := gd_10 db00f_43
theorem d_X12_ill_93 : decode prog_14_method_68_code 93 = .ok (.iload_n 1, 1) := gd_11 db00f_43
theorem d_X12_ill_94 : decode prog_14_method_68_code 94 = .ok (.iconst (-1), 1) := gd_12 db00f_43
theorem d_X12_ill_95 : decode prog_14_method_68_code 95 = .ok (.iastore, 1) := gd_13 db00f_43
theorem d_X12_ill_96 : decode prog_14_method_68_code 96 = .ok (.iconst 1, 1) := gd_14 db00f_43
theorem d_X12_ill_97 : decode prog_14_method_68_code 97 = .ok (.ireturn, 1) := gd_15 db00f_43
theorem db00f_44 : Ad_ prog_14_method_69_code [(0, .aload_n 0, 1), (1, .getfield 43, 3), (4, .iload_n 1, 1), (5, .iaload, 1), (6, .aload_n 0, 1), (7, .getfield 342, 3), (10, .if_icmp .eq 4, 3), (13, .return_, 1), (14, .aload_n 0, 1), (15, .getfield 40, 3), (18, .iload_n 1, 1), (19, .iaload, 1), (20, .iconst (-1), 1), (21, .if_icmp .eq 7, 3), (24, .iconst 1, 1), (25, .goto 4, 3), (28, .iconst 0, 1), (29, .istore_n 2, 1), (30, .iload_n 2, 1), (31, .ifCond .eq 22, 3), (34, .aload_n 0, 1), (35, .getfield 37, 3), (38, .iload_n 1, 1), (39, .aload_n 0, 1)] := bch_ok prog_14_method_69_code _ 0 (by decide +kernel)
theorem d_X12_wake_0 : decode prog_14_method_69_code 0 = .ok (.aload_n 0, 1) := gd_0 db00f_44
theorem d_X12_wake_1 : decode prog_14_method_69_code 1 = .ok (.getfield 43, 3) := gd_1 db00f_44
theorem d_X12_wake_4 : decode prog_14_method_69_code 4 = .ok (.iload_n 1, 1) := gd_2 db00f_44
theorem d_X12_wake_5 : decode prog_14_method_69_code 5 = .ok (.iaload, 1) := gd_3 db00f_44
theorem d_X12_wake_6 : decode prog_14_method_69_code 6 = .ok (.aload_n 0, 1) := gd_4 db00f_44
theorem d_X12_wake_7 : decode prog_14_method_69_code 7 = .ok (.getfield 342, 3) := gd_5 db00f_44
theorem d_X12_wake_10 : decode prog_14_method_69_code 10 = .ok (.if_icmp .eq 4, 3) := gd_6 db00f_44
theorem d_X12_wake_13 : decode prog_14_method_69_code 13 = .ok (.return_, 1) := gd_7 db00f_44
theorem d_X12_wake_14 : decode prog_14_method_69_code 14 = .ok (.aload_n 0, 1) := gd_8 db00f_44
theorem d_X12_wake_15 : decode prog_14_method_69_code 15 = .ok (.getfield 40, 3) := gd_9 db00f_44
theorem d_X12_wake_18 : decode prog_14_method_69_code 18 = .ok (.iload_n 1, 1) := gd_10 db00f_44
theorem d_X12_wake_19 : decode prog_14_method_69_code 19 = .ok (.iaload, 1) := gd_11 db00f_44
theorem d_X12_wake_20 : decode prog_14_method_69_code 20 = .ok (.iconst (-1), 1) := gd_12 db00f_44
theorem d_X12_wake_21 : decode prog_14_method_69_code 21 = .ok (.if_icmp .eq 7, 3) := gd_13 db00f_44
theorem d_X12_wake_24 : decode prog_14_method_69_code 24 = .ok (.iconst 1, 1) := gd_14 db00f_44
theorem d_X12_wake_25 : decode prog_14_method_69_code 25 = .ok (.goto 4, 3) := gd_15 db00f_44
theorem d_X12_wake_28 : decode prog_14_method_69_code 28 = .ok (.iconst 0, 1) := gd_16 db00f_44
theorem d_X12_wake_29 : decode prog_14_method_69_code 29 = .ok (.istore_n 2, 1) := gd_17 db00f_44
theorem d_X12_wake_30 : decode prog_14_method_69_code 30 = .ok (.iload_n 2, 1) := gd_18 db00f_44
theorem d_X12_wake_31 : decode prog_14_method_69_code 31 = .ok (.ifCond .eq 22, 3) := gd_19 db00f_44
theorem d_X12_wake_34 : decode prog_14_method_69_code 34 = .ok (.aload_n 0, 1) := gd_20 db00f_44
theorem d_X12_wake_35 : decode prog_14_method_69_code 35 = .ok (.getfield 37, 3) := gd_21 db00f_44
theorem d_X12_wake_38 : decode prog_14_method_69_code 38 = .ok (.iload_n 1, 1) := gd_22 db00f_44
theorem d_X12_wake_39 : decode prog_14_method_69_code 39 = .ok (.aload_n 0, 1) := gd_23 db00f_44
theorem db00f_45 : Ad_ prog_14_method_69_code [(40, .getfield 40, 3), (43, .iload_n 1, 1), (44, .iaload, 1), (45, .iastore, 1), (46, .aload_n 0, 1), (47, .getfield 40, 3), (50, .iload_n 1, 1), (51, .iconst (-1), 1), (52, .iastore, 1), (53, .aload_n 0, 1), (54, .getfield 43, 3), (57, .iload_n 1, 1), (58, .iconst (-1), 1), (59, .iastore, 1), (60, .aload_n 0, 1), (61, .getfield 34, 3), (64, .iload_n 1, 1), (65, .iaload, 1), (66, .iconst 2, 1), (67, .if_icmp .ne 11, 3), (70, .aload_n 0, 1), (71, .iload_n 1, 1), (72, .invokevirtual 519, 3), (75, .goto 88, 3)] := bch_ok prog_14_method_69_code _ 40 (by decide +kernel)
theorem d_X12_wake_40 : decode prog_14_method_69_code 40 = .ok (.getfield 40, 3) := gd_0 db00f_45
theorem d_X12_wake_43 : decode prog_14_method_69_code 43 = .ok (.iload_n 1, 1) := gd_1 db00f_45
theorem d_X12_wake_44 : decode prog_14_method_69_code 44 = .ok (.iaload, 1) := gd_2 db00f_45
theorem d_X12_wake_45 : decode prog_14_method_69_code 45 = .ok (.iastore, 1) := gd_3 db00f_45
theorem d_X12_wake_46 : decode prog_14_method_69_code 46 = .ok (.aload_n 0, 1) := gd_4 db00f_45
theorem d_X12_wake_47 : decode prog_14_method_69_code 47 = .ok (.getfield 40, 3) := gd_5 db00f_45
theorem d_X12_wake_50 : decode prog_14_method_69_code 50 = .ok (.iload_n 1, 1) := gd_6 db00f_45
theorem d_X12_wake_51 : decode prog_14_method_69_code 51 = .ok (.iconst (-1), 1) := gd_7 db00f_45
theorem d_X12_wake_52 : decode prog_14_method_69_code 52 = .ok (.iastore, 1) := gd_8 db00f_45
theorem d_X12_wake_53 : decode prog_14_method_69_code 53 = .ok (.aload_n 0, 1) := gd_9 db00f_45
theorem d_X12_wake_54 : decode prog_14_method_69_code 54 = .ok (.getfield 43, 3) := gd_10 db00f_45
theorem d_X12_wake_57 : decode prog_14_method_69_code 57 = .ok (.iload_n 1, 1) := gd_11 db00f_45
theorem d_X12_wake_58 : decode prog_14_method_69_code 58 = .ok (.iconst (-1), 1) := gd_12 db00f_45
theorem d_X12_wake_59 : decode prog_14_method_69_code 59 = .ok (.iastore, 1) := gd_13 db00f_45
theorem d_X12_wake_60 : decode prog_14_method_69_code 60 = .ok (.aload_n 0, 1) := gd_14 db00f_45
theorem d_X12_wake_61 : decode prog_14_method_69_code 61 = .ok (.getfield 34, 3) := gd_15 db00f_45
theorem d_X12_wake_64 : decode prog_14_method_69_code 64 = .ok (.iload_n 1, 1) := gd_16 db00f_45
theorem d_X12_wake_65 : decode prog_14_method_69_code 65 = .ok (.iaload, 1) := gd_17 db00f_45
theorem d_X12_wake_66 : decode prog_14_method_69_code 66 = .ok (.iconst 2, 1) := gd_18 db00f_45
theorem d_X12_wake_67 : decode prog_14_method_69_code 67 = .ok (.if_icmp .ne 11, 3) := gd_19 db00f_45
theorem d_X12_wake_70 : decode prog_14_method_69_code 70 = .ok (.aload_n 0, 1) := gd_20 db00f_45
theorem d_X12_wake_71 : decode prog_14_method_69_code 71 = .ok (.iload_n 1, 1) := gd_21 db00f_45
theorem d_X12_wake_72 : decode prog_14_method_69_code 72 = .ok (.invokevirtual 519, 3) := gd_22 db00f_45
theorem d_X12_wake_75 : decode prog_14_method_69_code 75 = .ok (.goto 88, 3) := gd_23 db00f_45
theorem db00f_46 : Ad_ prog_14_method_69_code [(78, .aload_n 0, 1), (79, .getfield 34, 3), (82, .iload_n 1, 1), (83, .iaload, 1), (84, .iconst 3, 1), (85, .if_icmp .ne 62, 3), (88, .iload_n 2, 1), (89, .ifCond .ne 11, 3), (92, .aload_n 0, 1), (93, .iload_n 1, 1), (94, .invokevirtual 525, 3), (97, .goto 66, 3), (100, .aload_n 0, 1), (101, .getfield 37, 3), (104, .iload_n 1, 1), (105, .iaload, 1), (106, .aload_n 0, 1), (107, .getfield 64, 3), (110, .iload_n 1, 1), (111, .iaload, 1), (112, .if_icmp .ne 20, 3), (115, .aload_n 0, 1), (116, .getfield 156, 3), (119, .iload_n 1, 1)] := bch_ok prog_14_method_69_code _ 78 (by decide +kernel)
theorem d_X12_wake_78 : decode prog_14_method_69_code 78 = .ok (.aload_n 0, 1) := gd_0 db00f_46
theorem d_X12_wake_79 : decode prog_14_method_69_code 79 = .ok (.getfield 34, 3) := gd_1 db00f_46
theorem d_X12_wake_82 : decode prog_14_method_69_code 82 = .ok (.iload_n 1, 1) := gd_2 db00f_46
theorem d_X12_wake_83 : decode prog_14_method_69_code 83 = .ok (.iaload, 1) := gd_3 db00f_46
theorem d_X12_wake_84 : decode prog_14_method_69_code 84 = .ok (.iconst 3, 1) := gd_4 db00f_46
theorem d_X12_wake_85 : decode prog_14_method_69_code 85 = .ok (.if_icmp .ne 62, 3) := gd_5 db00f_46
theorem d_X12_wake_88 : decode prog_14_method_69_code 88 = .ok (.iload_n 2, 1) := gd_6 db00f_46
theorem d_X12_wake_89 : decode prog_14_method_69_code 89 = .ok (.ifCond .ne 11, 3) := gd_7 db00f_46
theorem d_X12_wake_92 : decode prog_14_method_69_code 92 = .ok (.aload_n 0, 1) := gd_8 db00f_46
theorem d_X12_wake_93 : decode prog_14_method_69_code 93 = .ok (.iload_n 1, 1) := gd_9 db00f_46
theorem d_X12_wake_94 : decode prog_14_method_69_code 94 = .ok (.invokevirtual 525, 3) := gd_10 db00f_46
theorem d_X12_wake_97 : decode prog_14_method_69_code 97 = .ok (.goto 66, 3) := gd_11 db00f_46
theorem d_X12_wake_100 : decode prog_14_method_69_code 100 = .ok (.aload_n 0, 1) := gd_12 db00f_46
theorem d_X12_wake_101 : decode prog_14_method_69_code 101 = .ok (.getfield 37, 3) := gd_13 db00f_46
theorem d_X12_wake_104 : decode prog_14_method_69_code 104 = .ok (.iload_n 1, 1) := gd_14 db00f_46
theorem d_X12_wake_105 : decode prog_14_method_69_code 105 = .ok (.iaload, 1) := gd_15 db00f_46
theorem d_X12_wake_106 : decode prog_14_method_69_code 106 = .ok (.aload_n 0, 1) := gd_16 db00f_46
theorem d_X12_wake_107 : decode prog_14_method_69_code 107 = .ok (.getfield 64, 3) := gd_17 db00f_46
theorem d_X12_wake_110 : decode prog_14_method_69_code 110 = .ok (.iload_n 1, 1) := gd_18 db00f_46
theorem d_X12_wake_111 : decode prog_14_method_69_code 111 = .ok (.iaload, 1) := gd_19 db00f_46
theorem d_X12_wake_112 : decode prog_14_method_69_code 112 = .ok (.if_icmp .ne 20, 3) := gd_20 db00f_46
theorem d_X12_wake_115 : decode prog_14_method_69_code 115 = .ok (.aload_n 0, 1) := gd_21 db00f_46
theorem d_X12_wake_116 : decode prog_14_method_69_code 116 = .ok (.getfield 156, 3) := gd_22 db00f_46
theorem d_X12_wake_119 : decode prog_14_method_69_code 119 = .ok (.iload_n 1, 1) := gd_23 db00f_46
theorem db00f_47 : Ad_ prog_14_method_69_code [(120, .baload, 1), (121, .ifCond .eq 11, 3), (124, .aload_n 0, 1), (125, .iload_n 1, 1), (126, .invokevirtual 528, 3), (129, .goto 34, 3), (132, .aload_n 0, 1), (133, .getfield 156, 3), (136, .iload_n 1, 1), (137, .iconst 1, 1), (138, .bastore, 1), (139, .aload_n 0, 1), (140, .iload_n 1, 1), (141, .invokevirtual 540, 3), (144, .goto 19, 3), (147, .aload_n 0, 1), (148, .getfield 34, 3), (151, .iload_n 1, 1), (152, .iaload, 1), (153, .iconst 1, 1), (154, .if_icmp .ne 9, 3), (157, .aload_n 0, 1), (158, .iload_n 1, 1), (159, .iload_n 2, 1)] := bch_ok prog_14_method_69_code _ 120 (by decide +kernel)
theorem d_X12_wake_120 : decode prog_14_method_69_code 120 = .ok (.baload, 1) := gd_0 db00f_47
theorem d_X12_wake_121 : decode prog_14_method_69_code 121 = .ok (.ifCond .eq 11, 3) := gd_1 db00f_47
theorem d_X12_wake_124 : decode prog_14_method_69_code 124 = .ok (.aload_n 0, 1) := gd_2 db00f_47
theorem d_X12_wake_125 : decode prog_14_method_69_code 125 = .ok (.iload_n 1, 1) := gd_3 db00f_47
theorem d_X12_wake_126 : decode prog_14_method_69_code 126 = .ok (.invokevirtual 528, 3) := gd_4 db00f_47
theorem d_X12_wake_129 : decode prog_14_method_69_code 129 = .ok (.goto 34, 3) := gd_5 db00f_47
theorem d_X12_wake_132 : decode prog_14_method_69_code 132 = .ok (.aload_n 0, 1) := gd_6 db00f_47
theorem d_X12_wake_133 : decode prog_14_method_69_code 133 = .ok (.getfield 156, 3) := gd_7 db00f_47
theorem d_X12_wake_136 : decode prog_14_method_69_code 136 = .ok (.iload_n 1, 1) := gd_8 db00f_47
theorem d_X12_wake_137 : decode prog_14_method_69_code 137 = .ok (.iconst 1, 1) := gd_9 db00f_47
theorem d_X12_wake_138 : decode prog_14_method_69_code 138 = .ok (.bastore, 1) := gd_10 db00f_47
theorem d_X12_wake_139 : decode prog_14_method_69_code 139 = .ok (.aload_n 0, 1) := gd_11 db00f_47
theorem d_X12_wake_140 : decode prog_14_method_69_code 140 = .ok (.iload_n 1, 1) := gd_12 db00f_47
theorem d_X12_wake_141 : decode prog_14_method_69_code 141 = .ok (.invokevirtual 540, 3) := gd_13 db00f_47
theorem d_X12_wake_144 : decode prog_14_method_69_code 144 = .ok (.goto 19, 3) := gd_14 db00f_47
theorem d_X12_wake_147 : decode prog_14_method_69_code 147 = .ok (.aload_n 0, 1) := gd_15 db00f_47
theorem d_X12_wake_148 : decode prog_14_method_69_code 148 = .ok (.getfield 34, 3) := gd_16 db00f_47
theorem d_X12_wake_151 : decode prog_14_method_69_code 151 = .ok (.iload_n 1, 1) := gd_17 db00f_47
theorem d_X12_wake_152 : decode prog_14_method_69_code 152 = .ok (.iaload, 1) := gd_18 db00f_47
theorem d_X12_wake_153 : decode prog_14_method_69_code 153 = .ok (.iconst 1, 1) := gd_19 db00f_47
theorem d_X12_wake_154 : decode prog_14_method_69_code 154 = .ok (.if_icmp .ne 9, 3) := gd_20 db00f_47
theorem d_X12_wake_157 : decode prog_14_method_69_code 157 = .ok (.aload_n 0, 1) := gd_21 db00f_47
theorem d_X12_wake_158 : decode prog_14_method_69_code 158 = .ok (.iload_n 1, 1) := gd_22 db00f_47
theorem d_X12_wake_159 : decode prog_14_method_69_code 159 = .ok (.iload_n 2, 1) := gd_23 db00f_47
theorem d_X12_wake_160 : decode prog_14_method_69_code 160 = .ok (.invokevirtual 543, 3) := by decide +kernel
theorem d_X12_wake_163 : decode prog_14_method_69_code 163 = .ok (.return_, 1) := by decide +kernel
theorem db00f_48 : Ad_ prog_14_method_70_code [(0, .sipush 150, 3), (3, .aload_n 0, 1), (4, .getfield 46, 3), (7, .iload_n 1, 1), (8, .iaload, 1), (9, .imul, 1), (10, .aload_n 0, 1), (11, .getfield 49, 3), (14, .iload_n 1, 1), (15, .iaload, 1), (16, .iadd, 1), (17, .istore_n 3, 1), (18, .iload_n 2, 1), (19, .ifCond .eq 28, 3), (22, .aload_n 0, 1), (23, .getfield 96, 3), (26, .iload_n 3, 1), (27, .iaload, 1), (28, .iconst 2, 1), (29, .if_icmp .ne 33, 3), (32, .aload_n 0, 1), (33, .iload_n 1, 1), (34, .aload_n 0, 1), (35, .getfield 102, 3)] := bch_ok prog_14_method_70_code _ 0 (by decide +kernel)
theorem d_X12_wakeBeat_0 : decode prog_14_method_70_code 0 = .ok (.sipush 150, 3) := gd_0 db00f_48
theorem d_X12_wakeBeat_3 : decode prog_14_method_70_code 3 = .ok (.aload_n 0, 1) := gd_1 db00f_48
theorem d_X12_wakeBeat_4 : decode prog_14_method_70_code 4 = .ok (.getfield 46, 3) := gd_2 db00f_48
theorem d_X12_wakeBeat_7 : decode prog_14_method_70_code 7 = .ok (.iload_n 1, 1) := gd_3 db00f_48
theorem d_X12_wakeBeat_8 : decode prog_14_method_70_code 8 = .ok (.iaload, 1) := gd_4 db00f_48
theorem d_X12_wakeBeat_9 : decode prog_14_method_70_code 9 = .ok (.imul, 1) := gd_5 db00f_48
theorem d_X12_wakeBeat_10 : decode prog_14_method_70_code 10 = .ok (.aload_n 0, 1) := gd_6 db00f_48
theorem d_X12_wakeBeat_11 : decode prog_14_method_70_code 11 = .ok (.getfield 49, 3) := gd_7 db00f_48
theorem d_X12_wakeBeat_14 : decode prog_14_method_70_code 14 = .ok (.iload_n 1, 1) := gd_8 db00f_48
theorem d_X12_wakeBeat_15 : decode prog_14_method_70_code 15 = .ok (.iaload, 1) := gd_9 db00f_48
theorem d_X12_wakeBeat_16 : decode prog_14_method_70_code 16 = .ok (.iadd, 1) := gd_10 db00f_48
theorem d_X12_wakeBeat_17 : decode prog_14_method_70_code 17 = .ok (.istore_n 3, 1) := gd_11 db00f_48
theorem d_X12_wakeBeat_18 : decode prog_14_method_70_code 18 = .ok (.iload_n 2, 1) := gd_12 db00f_48
theorem d_X12_wakeBeat_19 : decode prog_14_method_70_code 19 = .ok (.ifCond .eq 28, 3) := gd_13 db00f_48
theorem d_X12_wakeBeat_22 : decode prog_14_method_70_code 22 = .ok (.aload_n 0, 1) := gd_14 db00f_48
theorem d_X12_wakeBeat_23 : decode prog_14_method_70_code 23 = .ok (.getfield 96, 3) := gd_15 db00f_48
theorem d_X12_wakeBeat_26 : decode prog_14_method_70_code 26 = .ok (.iload_n 3, 1) := gd_16 db00f_48
theorem d_X12_wakeBeat_27 : decode prog_14_method_70_code 27 = .ok (.iaload, 1) := gd_17 db00f_48
theorem d_X12_wakeBeat_28 : decode prog_14_method_70_code 28 = .ok (.iconst 2, 1) := gd_18 db00f_48
theorem d_X12_wakeBeat_29 : decode prog_14_method_70_code 29 = .ok (.if_icmp .ne 33, 3) := gd_19 db00f_48
theorem d_X12_wakeBeat_32 : decode prog_14_method_70_code 32 = .ok (.aload_n 0, 1) := gd_20 db00f_48
theorem d_X12_wakeBeat_33 : decode prog_14_method_70_code 33 = .ok (.iload_n 1, 1) := gd_21 db00f_48
theorem d_X12_wakeBeat_34 : decode prog_14_method_70_code 34 = .ok (.aload_n 0, 1) := gd_22 db00f_48
theorem d_X12_wakeBeat_35 : decode prog_14_method_70_code 35 = .ok (.getfield 102, 3) := gd_23 db00f_48
theorem db00f_49 : Ad_ prog_14_method_70_code [(38, .iload_n 3, 1), (39, .iaload, 1), (40, .invokevirtual 531, 3), (43, .ifCond .eq 19, 3), (46, .return_, 1), (47, .aload_n 0, 1), (48, .getfield 96, 3), (51, .iload_n 3, 1), (52, .iaload, 1), (53, .iconst 3, 1), (54, .if_icmp .ne 8, 3), (57, .aload_n 0, 1), (58, .iload_n 1, 1), (59, .invokevirtual 547, 3), (62, .aload_n 0, 1), (63, .getfield 49, 3), (66, .iload_n 1, 1), (67, .dup2, 1), (68, .iaload, 1), (69, .iconst 1, 1), (70, .iadd, 1), (71, .iastore, 1), (72, .aload_n 0, 1), (73, .iload_n 1, 1)] := bch_ok prog_14_method_70_code _ 38 (by decide +kernel)
theorem d_X12_wakeBeat_38 : decode prog_14_method_70_code 38 = .ok (.iload_n 3, 1) := gd_0 db00f_49
theorem d_X12_wakeBeat_39 : decode prog_14_method_70_code 39 = .ok (.iaload, 1) := gd_1 db00f_49
theorem d_X12_wakeBeat_40 : decode prog_14_method_70_code 40 = .ok (.invokevirtual 531, 3) := gd_2 db00f_49
theorem d_X12_wakeBeat_43 : decode prog_14_method_70_code 43 = .ok (.ifCond .eq 19, 3) := gd_3 db00f_49
theorem d_X12_wakeBeat_46 : decode prog_14_method_70_code 46 = .ok (.return_, 1) := gd_4 db00f_49
theorem d_X12_wakeBeat_47 : decode prog_14_method_70_code 47 = .ok (.aload_n 0, 1) := gd_5 db00f_49
theorem d_X12_wakeBeat_48 : decode prog_14_method_70_code 48 = .ok (.getfield 96, 3) := gd_6 db00f_49
theorem d_X12_wakeBeat_51 : decode prog_14_method_70_code 51 = .ok (.iload_n 3, 1) := gd_7 db00f_49
theorem d_X12_wakeBeat_52 : decode prog_14_method_70_code 52 = .ok (.iaload, 1) := gd_8 db00f_49
theorem d_X12_wakeBeat_53 : decode prog_14_method_70_code 53 = .ok (.iconst 3, 1) := gd_9 db00f_49
theorem d_X12_wakeBeat_54 : decode prog_14_method_70_code 54 = .ok (.if_icmp .ne 8, 3) := gd_10 db00f_49
theorem d_X12_wakeBeat_57 : decode prog_14_method_70_code 57 = .ok (.aload_n 0, 1) := gd_11 db00f_49
theorem d_X12_wakeBeat_58 : decode prog_14_method_70_code 58 = .ok (.iload_n 1, 1) := gd_12 db00f_49
theorem d_X12_wakeBeat_59 : decode prog_14_method_70_code 59 = .ok (.invokevirtual 547, 3) := gd_13 db00f_49
theorem d_X12_wakeBeat_62 : decode prog_14_method_70_code 62 = .ok (.aload_n 0, 1) := gd_14 db00f_49
theorem d_X12_wakeBeat_63 : decode prog_14_method_70_code 63 = .ok (.getfield 49, 3) := gd_15 db00f_49
theorem d_X12_wakeBeat_66 : decode prog_14_method_70_code 66 = .ok (.iload_n 1, 1) := gd_16 db00f_49
theorem d_X12_wakeBeat_67 : decode prog_14_method_70_code 67 = .ok (.dup2, 1) := gd_17 db00f_49
theorem d_X12_wakeBeat_68 : decode prog_14_method_70_code 68 = .ok (.iaload, 1) := gd_18 db00f_49
theorem d_X12_wakeBeat_69 : decode prog_14_method_70_code 69 = .ok (.iconst 1, 1) := gd_19 db00f_49
theorem d_X12_wakeBeat_70 : decode prog_14_method_70_code 70 = .ok (.iadd, 1) := gd_20 db00f_49
theorem d_X12_wakeBeat_71 : decode prog_14_method_70_code 71 = .ok (.iastore, 1) := gd_21 db00f_49
theorem d_X12_wakeBeat_72 : decode prog_14_method_70_code 72 = .ok (.aload_n 0, 1) := gd_22 db00f_49
theorem d_X12_wakeBeat_73 : decode prog_14_method_70_code 73 = .ok (.iload_n 1, 1) := gd_23 db00f_49
theorem d_X12_wakeBeat_74 : decode prog_14_method_70_code 74 = .ok (.invokevirtual 534, 3) := by decide +kernel
theorem d_X12_wakeBeat_77 : decode prog_14_method_70_code 77 = .ok (.return_, 1) := by decide +kernel
theorem db00f_50 : Ad_ prog_14_method_71_code [(0, .iload_n 1, 1), (1, .iconst 0, 1), (2, .sipush 1500, 3), (5, .invokestatic 323, 3), (8, .ifCond .eq 15, 3), (11, .aload_n 0, 1), (12, .getfield 342, 3), (15, .iload_n 1, 1), (16, .iadd, 1), (17, .sipush 20000, 3), (20, .if_icmp .le 5, 3), (23, .iconst (-1), 1), (24, .ireturn, 1), (25, .iconst 0, 1), (26, .istore_n 2, 1), (27, .iload_n 2, 1), (28, .iload_n 1, 1), (29, .if_icmp .ge 78, 3), (32, .iconst 0, 1), (33, .istore_n 3, 1), (34, .iload_n 3, 1), (35, .aload_n 0, 1), (36, .getfield 339, 3), (39, .if_icmp .ge 31, 3)] := bch_ok prog_14_method_71_code _ 0 (by decide +kernel)
theorem d_X12_tick_0 : decode prog_14_method_71_code 0 = .ok (.iload_n 1, 1) := gd_0 db00f_50
theorem d_X12_tick_1 : decode prog_14_method_71_code 1 = .ok (.iconst 0, 1) := gd_1 db00f_50
theorem d_X12_tick_2 : decode prog_14_method_71_code 2 = .ok (.sipush 1500, 3) := gd_2 db00f_50
theorem d_X12_tick_5 : decode prog_14_method_71_code 5 = .ok (.invokestatic 323, 3) := gd_3 db00f_50
theorem d_X12_tick_8 : decode prog_14_method_71_code 8 = .ok (.ifCond .eq 15, 3) := gd_4 db00f_50
theorem d_X12_tick_11 : decode prog_14_method_71_code 11 = .ok (.aload_n 0, 1) := gd_5 db00f_50
theorem d_X12_tick_12 : decode prog_14_method_71_code 12 = .ok (.getfield 342, 3) := gd_6 db00f_50
theorem d_X12_tick_15 : decode prog_14_method_71_code 15 = .ok (.iload_n 1, 1) := gd_7 db00f_50
theorem d_X12_tick_16 : decode prog_14_method_71_code 16 = .ok (.iadd, 1) := gd_8 db00f_50
theorem d_X12_tick_17 : decode prog_14_method_71_code 17 = .ok (.sipush 20000, 3) := gd_9 db00f_50
theorem d_X12_tick_20 : decode prog_14_method_71_code 20 = .ok (.if_icmp .le 5, 3) := gd_10 db00f_50
theorem d_X12_tick_23 : decode prog_14_method_71_code 23 = .ok (.iconst (-1), 1) := gd_11 db00f_50
theorem d_X12_tick_24 : decode prog_14_method_71_code 24 = .ok (.ireturn, 1) := gd_12 db00f_50
theorem d_X12_tick_25 : decode prog_14_method_71_code 25 = .ok (.iconst 0, 1) := gd_13 db00f_50
theorem d_X12_tick_26 : decode prog_14_method_71_code 26 = .ok (.istore_n 2, 1) := gd_14 db00f_50
theorem d_X12_tick_27 : decode prog_14_method_71_code 27 = .ok (.iload_n 2, 1) := gd_15 db00f_50
theorem d_X12_tick_28 : decode prog_14_method_71_code 28 = .ok (.iload_n 1, 1) := gd_16 db00f_50
theorem d_X12_tick_29 : decode prog_14_method_71_code 29 = .ok (.if_icmp .ge 78, 3) := gd_17 db00f_50
theorem d_X12_tick_32 : decode prog_14_method_71_code 32 = .ok (.iconst 0, 1) := gd_18 db00f_50
theorem d_X12_tick_33 : decode prog_14_method_71_code 33 = .ok (.istore_n 3, 1) := gd_19 db00f_50
theorem d_X12_tick_34 : decode prog_14_method_71_code 34 = .ok (.iload_n 3, 1) := gd_20 db00f_50
theorem d_X12_tick_35 : decode prog_14_method_71_code 35 = .ok (.aload_n 0, 1) := gd_21 db00f_50
theorem d_X12_tick_36 : decode prog_14_method_71_code 36 = .ok (.getfield 339, 3) := gd_22 db00f_50
theorem d_X12_tick_39 : decode prog_14_method_71_code 39 = .ok (.if_icmp .ge 31, 3) := gd_23 db00f_50
theorem d_X12_tick_62 : decode prog_14_method_71_code 62 = .ok (.i2b, 1) := by decide +kernel
theorem db00f_51 : Ad_ prog_14_method_71_code [(42, .aload_n 0, 1), (43, .getfield 71, 3), (46, .sipush 20001, 3), (49, .iload_n 3, 1), (50, .imul, 1), (51, .aload_n 0, 1), (52, .getfield 342, 3), (55, .iadd, 1), (56, .aload_n 0, 1), (57, .getfield 37, 3), (60, .iload_n 3, 1), (61, .iaload, 1), (63, .bastore, 1), (64, .iinc 3 1, 3), (67, .goto (-33), 3), (70, .aload_n 0, 1), (71, .dup, 1), (72, .getfield 342, 3), (75, .iconst 1, 1), (76, .iadd, 1), (77, .putfield 342, 3), (80, .iconst 0, 1), (81, .istore_n 3, 1), (82, .iload_n 3, 1)] := bch_ok prog_14_method_71_code _ 42 (by decide +kernel)
theorem d_X12_tick_42 : decode prog_14_method_71_code 42 = .ok (.aload_n 0, 1) := gd_0 db00f_51
theorem d_X12_tick_43 : decode prog_14_method_71_code 43 = .ok (.getfield 71, 3) := gd_1 db00f_51
theorem d_X12_tick_46 : decode prog_14_method_71_code 46 = .ok (.sipush 20001, 3) := gd_2 db00f_51
theorem d_X12_tick_49 : decode prog_14_method_71_code 49 = .ok (.iload_n 3, 1) := gd_3 db00f_51
theorem d_X12_tick_50 : decode prog_14_method_71_code 50 = .ok (.imul, 1) := gd_4 db00f_51
theorem d_X12_tick_51 : decode prog_14_method_71_code 51 = .ok (.aload_n 0, 1) := gd_5 db00f_51
theorem d_X12_tick_52 : decode prog_14_method_71_code 52 = .ok (.getfield 342, 3) := gd_6 db00f_51
theorem d_X12_tick_55 : decode prog_14_method_71_code 55 = .ok (.iadd, 1) := gd_7 db00f_51
theorem d_X12_tick_56 : decode prog_14_method_71_code 56 = .ok (.aload_n 0, 1) := gd_8 db00f_51
theorem d_X12_tick_57 : decode prog_14_method_71_code 57 = .ok (.getfield 37, 3) := gd_9 db00f_51
theorem d_X12_tick_60 : decode prog_14_method_71_code 60 = .ok (.iload_n 3, 1) := gd_10 db00f_51
theorem d_X12_tick_61 : decode prog_14_method_71_code 61 = .ok (.iaload, 1) := gd_11 db00f_51
theorem d_X12_tick_63 : decode prog_14_method_71_code 63 = .ok (.bastore, 1) := gd_12 db00f_51
theorem d_X12_tick_64 : decode prog_14_method_71_code 64 = .ok (.iinc 3 1, 3) := gd_13 db00f_51
theorem d_X12_tick_67 : decode prog_14_method_71_code 67 = .ok (.goto (-33), 3) := gd_14 db00f_51
theorem d_X12_tick_70 : decode prog_14_method_71_code 70 = .ok (.aload_n 0, 1) := gd_15 db00f_51
theorem d_X12_tick_71 : decode prog_14_method_71_code 71 = .ok (.dup, 1) := gd_16 db00f_51
theorem d_X12_tick_72 : decode prog_14_method_71_code 72 = .ok (.getfield 342, 3) := gd_17 db00f_51
theorem d_X12_tick_75 : decode prog_14_method_71_code 75 = .ok (.iconst 1, 1) := gd_18 db00f_51
theorem d_X12_tick_76 : decode prog_14_method_71_code 76 = .ok (.iadd, 1) := gd_19 db00f_51
theorem d_X12_tick_77 : decode prog_14_method_71_code 77 = .ok (.putfield 342, 3) := gd_20 db00f_51
theorem d_X12_tick_80 : decode prog_14_method_71_code 80 = .ok (.iconst 0, 1) := gd_21 db00f_51
theorem d_X12_tick_81 : decode prog_14_method_71_code 81 = .ok (.istore_n 3, 1) := gd_22 db00f_51
theorem d_X12_tick_82 : decode prog_14_method_71_code 82 = .ok (.iload_n 3, 1) := gd_23 db00f_51
theorem db00f_52 : Ad_ prog_14_method_71_code [(83, .aload_n 0, 1), (84, .getfield 339, 3), (87, .if_icmp .ge 14, 3), (90, .aload_n 0, 1), (91, .iload_n 3, 1), (92, .invokevirtual 550, 3), (95, .iinc 3 1, 3), (98, .goto (-16), 3), (101, .iinc 2 1, 3), (104, .goto (-77), 3), (107, .aload_n 0, 1), (108, .getfield 342, 3), (111, .ireturn, 1)] := bch_ok prog_14_method_71_code _ 83 (by decide +kernel)
theorem d_X12_tick_83 : decode prog_14_method_71_code 83 = .ok (.aload_n 0, 1) := gd_0 db00f_52
theorem d_X12_tick_84 : decode prog_14_method_71_code 84 = .ok (.getfield 339, 3) := gd_1 db00f_52
theorem d_X12_tick_87 : decode prog_14_method_71_code 87 = .ok (.if_icmp .ge 14, 3) := gd_2 db00f_52
theorem d_X12_tick_90 : decode prog_14_method_71_code 90 = .ok (.aload_n 0, 1) := gd_3 db00f_52
theorem d_X12_tick_91 : decode prog_14_method_71_code 91 = .ok (.iload_n 3, 1) := gd_4 db00f_52
theorem d_X12_tick_92 : decode prog_14_method_71_code 92 = .ok (.invokevirtual 550, 3) := gd_5 db00f_52
theorem d_X12_tick_95 : decode prog_14_method_71_code 95 = .ok (.iinc 3 1, 3) := gd_6 db00f_52
theorem d_X12_tick_98 : decode prog_14_method_71_code 98 = .ok (.goto (-16), 3) := gd_7 db00f_52
theorem d_X12_tick_101 : decode prog_14_method_71_code 101 = .ok (.iinc 2 1, 3) := gd_8 db00f_52
theorem d_X12_tick_104 : decode prog_14_method_71_code 104 = .ok (.goto (-77), 3) := gd_9 db00f_52
theorem d_X12_tick_107 : decode prog_14_method_71_code 107 = .ok (.aload_n 0, 1) := gd_10 db00f_52
theorem d_X12_tick_108 : decode prog_14_method_71_code 108 = .ok (.getfield 342, 3) := gd_11 db00f_52
theorem d_X12_tick_111 : decode prog_14_method_71_code 111 = .ok (.ireturn, 1) := gd_12 db00f_52
theorem db00f_53 : Ad_ prog_14_method_72_code [(0, .iconst 0, 1), (1, .istore_n 3, 1), (2, .iconst 0, 1), (3, .istore 4, 2), (5, .iload 4, 2), (7, .aload_n 0, 1), (8, .getfield 507, 3), (11, .if_icmp .ge 53, 3), (14, .iload_n 3, 1), (15, .aload_n 0, 1), (16, .getfield 126, 3), (19, .iload 4, 2), (21, .iaload, 1), (22, .iload_n 1, 1), (23, .if_icmp .ne 32, 3), (26, .iload_n 2, 1), (27, .ifCond .eq 13, 3), (30, .aload_n 0, 1), (31, .getfield 135, 3), (34, .iload 4, 2), (36, .iaload, 1), (37, .goto 10, 3), (40, .aload_n 0, 1), (41, .getfield 138, 3)] := bch_ok prog_14_method_72_code _ 0 (by decide +kernel)
theorem d_X12_pointsBy_0 : decode prog_14_method_72_code 0 = .ok (.iconst 0, 1) := gd_0 db00f_53
theorem d_X12_pointsBy_1 : decode prog_14_method_72_code 1 = .ok (.istore_n 3, 1) := gd_1 db00f_53
theorem d_X12_pointsBy_2 : decode prog_14_method_72_code 2 = .ok (.iconst 0, 1) := gd_2 db00f_53
theorem d_X12_pointsBy_3 : decode prog_14_method_72_code 3 = .ok (.istore 4, 2) := gd_3 db00f_53
theorem d_X12_pointsBy_5 : decode prog_14_method_72_code 5 = .ok (.iload 4, 2) := gd_4 db00f_53
theorem d_X12_pointsBy_7 : decode prog_14_method_72_code 7 = .ok (.aload_n 0, 1) := gd_5 db00f_53
theorem d_X12_pointsBy_8 : decode prog_14_method_72_code 8 = .ok (.getfield 507, 3) := gd_6 db00f_53
theorem d_X12_pointsBy_11 : decode prog_14_method_72_code 11 = .ok (.if_icmp .ge 53, 3) := gd_7 db00f_53
theorem d_X12_pointsBy_14 : decode prog_14_method_72_code 14 = .ok (.iload_n 3, 1) := gd_8 db00f_53
theorem d_X12_pointsBy_15 : decode prog_14_method_72_code 15 = .ok (.aload_n 0, 1) := gd_9 db00f_53
theorem d_X12_pointsBy_16 : decode prog_14_method_72_code 16 = .ok (.getfield 126, 3) := gd_10 db00f_53
theorem d_X12_pointsBy_19 : decode prog_14_method_72_code 19 = .ok (.iload 4, 2) := gd_11 db00f_53
theorem d_X12_pointsBy_21 : decode prog_14_method_72_code 21 = .ok (.iaload, 1) := gd_12 db00f_53
theorem d_X12_pointsBy_22 : decode prog_14_method_72_code 22 = .ok (.iload_n 1, 1) := gd_13 db00f_53
theorem d_X12_pointsBy_23 : decode prog_14_method_72_code 23 = .ok (.if_icmp .ne 32, 3) := gd_14 db00f_53
theorem d_X12_pointsBy_26 : decode prog_14_method_72_code 26 = .ok (.iload_n 2, 1) := gd_15 db00f_53
theorem d_X12_pointsBy_27 : decode prog_14_method_72_code 27 = .ok (.ifCond .eq 13, 3) := gd_16 db00f_53
theorem d_X12_pointsBy_30 : decode prog_14_method_72_code 30 = .ok (.aload_n 0, 1) := gd_17 db00f_53
theorem d_X12_pointsBy_31 : decode prog_14_method_72_code 31 = .ok (.getfield 135, 3) := gd_18 db00f_53
theorem d_X12_pointsBy_34 : decode prog_14_method_72_code 34 = .ok (.iload 4, 2) := gd_19 db00f_53
theorem d_X12_pointsBy_36 : decode prog_14_method_72_code 36 = .ok (.iaload, 1) := gd_20 db00f_53
theorem d_X12_pointsBy_37 : decode prog_14_method_72_code 37 = .ok (.goto 10, 3) := gd_21 db00f_53
theorem d_X12_pointsBy_40 : decode prog_14_method_72_code 40 = .ok (.aload_n 0, 1) := gd_22 db00f_53
theorem d_X12_pointsBy_41 : decode prog_14_method_72_code 41 = .ok (.getfield 138, 3) := gd_23 db00f_53
theorem db00f_54 : Ad_ prog_14_method_72_code [(44, .iload 4, 2), (46, .iaload, 1), (47, .iconst (-1), 1), (48, .if_icmp .eq 7, 3), (51, .iconst 1, 1), (52, .goto 4, 3), (55, .iconst 0, 1), (56, .iadd, 1), (57, .istore_n 3, 1), (58, .iinc 4 1, 3), (61, .goto (-56), 3), (64, .iload_n 3, 1), (65, .ireturn, 1)] := bch_ok prog_14_method_72_code _ 44 (by decide +kernel)
theorem d_X12_pointsBy_44 : decode prog_14_method_72_code 44 = .ok (.iload 4, 2) := gd_0 db00f_54
theorem d_X12_pointsBy_46 : decode prog_14_method_72_code 46 = .ok (.iaload, 1) := gd_1 db00f_54
theorem d_X12_pointsBy_47 : decode prog_14_method_72_code 47 = .ok (.iconst (-1), 1) := gd_2 db00f_54
theorem d_X12_pointsBy_48 : decode prog_14_method_72_code 48 = .ok (.if_icmp .eq 7, 3) := gd_3 db00f_54
theorem d_X12_pointsBy_51 : decode prog_14_method_72_code 51 = .ok (.iconst 1, 1) := gd_4 db00f_54
theorem d_X12_pointsBy_52 : decode prog_14_method_72_code 52 = .ok (.goto 4, 3) := gd_5 db00f_54
theorem d_X12_pointsBy_55 : decode prog_14_method_72_code 55 = .ok (.iconst 0, 1) := gd_6 db00f_54
theorem d_X12_pointsBy_56 : decode prog_14_method_72_code 56 = .ok (.iadd, 1) := gd_7 db00f_54
theorem d_X12_pointsBy_57 : decode prog_14_method_72_code 57 = .ok (.istore_n 3, 1) := gd_8 db00f_54
theorem d_X12_pointsBy_58 : decode prog_14_method_72_code 58 = .ok (.iinc 4 1, 3) := gd_9 db00f_54
theorem d_X12_pointsBy_61 : decode prog_14_method_72_code 61 = .ok (.goto (-56), 3) := gd_10 db00f_54
theorem d_X12_pointsBy_64 : decode prog_14_method_72_code 64 = .ok (.iload_n 3, 1) := gd_11 db00f_54
theorem d_X12_pointsBy_65 : decode prog_14_method_72_code 65 = .ok (.ireturn, 1) := gd_12 db00f_54
theorem d_X12_about_38 : decode prog_14_method_73_code 38 = .ok (.tableswitch 116 0 7 #[46, 53, 60, 67, 74, 95, 102, 109], 46) := by decide +kernel
theorem db00f_55 : Ad_ prog_14_method_73_code [(0, .aload_n 0, 1), (1, .aload_n 0, 1), (2, .iload_n 1, 1), (3, .invokevirtual 345, 3), (6, .ifCond .eq 17, 3), (9, .iload_n 2, 1), (10, .iconst 0, 1), (11, .bipush 8, 2), (13, .invokestatic 323, 3), (16, .ifCond .eq 7, 3), (19, .iconst 0, 1), (20, .goto 4, 3), (23, .iconst 1, 1), (24, .putfield 320, 3), (27, .aload_n 0, 1), (28, .getfield 320, 3), (31, .iconst 1, 1), (32, .if_icmp .ne 5, 3), (35, .iconst 0, 1), (36, .ireturn, 1), (37, .iload_n 2, 1), (84, .aload_n 0, 1), (85, .getfield 34, 3), (88, .iload_n 1, 1)] := bch_ok prog_14_method_73_code _ 0 (by decide +kernel)
theorem d_X12_about_0 : decode prog_14_method_73_code 0 = .ok (.aload_n 0, 1) := gd_0 db00f_55
theorem d_X12_about_1 : decode prog_14_method_73_code 1 = .ok (.aload_n 0, 1) := gd_1 db00f_55
theorem d_X12_about_2 : decode prog_14_method_73_code 2 = .ok (.iload_n 1, 1) := gd_2 db00f_55
theorem d_X12_about_3 : decode prog_14_method_73_code 3 = .ok (.invokevirtual 345, 3) := gd_3 db00f_55
theorem d_X12_about_6 : decode prog_14_method_73_code 6 = .ok (.ifCond .eq 17, 3) := gd_4 db00f_55
theorem d_X12_about_9 : decode prog_14_method_73_code 9 = .ok (.iload_n 2, 1) := gd_5 db00f_55
theorem d_X12_about_10 : decode prog_14_method_73_code 10 = .ok (.iconst 0, 1) := gd_6 db00f_55
theorem d_X12_about_11 : decode prog_14_method_73_code 11 = .ok (.bipush 8, 2) := gd_7 db00f_55
theorem d_X12_about_13 : decode prog_14_method_73_code 13 = .ok (.invokestatic 323, 3) := gd_8 db00f_55
theorem d_X12_about_16 : decode prog_14_method_73_code 16 = .ok (.ifCond .eq 7, 3) := gd_9 db00f_55
theorem d_X12_about_19 : decode prog_14_method_73_code 19 = .ok (.iconst 0, 1) := gd_10 db00f_55
theorem d_X12_about_20 : decode prog_14_method_73_code 20 = .ok (.goto 4, 3) := gd_11 db00f_55
theorem d_X12_about_23 : decode prog_14_method_73_code 23 = .ok (.iconst 1, 1) := gd_12 db00f_55
theorem d_X12_about_24 : decode prog_14_method_73_code 24 = .ok (.putfield 320, 3) := gd_13 db00f_55
theorem d_X12_about_27 : decode prog_14_method_73_code 27 = .ok (.aload_n 0, 1) := gd_14 db00f_55
theorem d_X12_about_28 : decode prog_14_method_73_code 28 = .ok (.getfield 320, 3) := gd_15 db00f_55
theorem d_X12_about_31 : decode prog_14_method_73_code 31 = .ok (.iconst 1, 1) := gd_16 db00f_55
theorem d_X12_about_32 : decode prog_14_method_73_code 32 = .ok (.if_icmp .ne 5, 3) := gd_17 db00f_55
theorem d_X12_about_35 : decode prog_14_method_73_code 35 = .ok (.iconst 0, 1) := gd_18 db00f_55
theorem d_X12_about_36 : decode prog_14_method_73_code 36 = .ok (.ireturn, 1) := gd_19 db00f_55
theorem d_X12_about_37 : decode prog_14_method_73_code 37 = .ok (.iload_n 2, 1) := gd_20 db00f_55
theorem d_X12_about_84 : decode prog_14_method_73_code 84 = .ok (.aload_n 0, 1) := gd_21 db00f_55
theorem d_X12_about_85 : decode prog_14_method_73_code 85 = .ok (.getfield 34, 3) := gd_22 db00f_55
theorem d_X12_about_88 : decode prog_14_method_73_code 88 = .ok (.iload_n 1, 1) := gd_23 db00f_55
theorem db00f_56 : Ad_ prog_14_method_73_code [(89, .iaload, 1), (90, .ireturn, 1), (91, .aload_n 0, 1), (92, .getfield 37, 3), (95, .iload_n 1, 1), (96, .iaload, 1), (97, .ireturn, 1), (98, .aload_n 0, 1), (99, .getfield 40, 3), (102, .iload_n 1, 1), (103, .iaload, 1), (104, .ireturn, 1), (105, .aload_n 0, 1), (106, .getfield 43, 3), (109, .iload_n 1, 1), (110, .iaload, 1), (111, .ireturn, 1), (112, .aload_n 0, 1), (113, .getfield 34, 3), (116, .iload_n 1, 1), (117, .iaload, 1), (118, .iconst 1, 1), (119, .if_icmp .ne 12, 3), (122, .aload_n 0, 1)] := bch_ok prog_14_method_73_code _ 89 (by decide +kernel)
theorem d_X12_about_89 : decode prog_14_method_73_code 89 = .ok (.iaload, 1) := gd_0 db00f_56
theorem d_X12_about_90 : decode prog_14_method_73_code 90 = .ok (.ireturn, 1) := gd_1 db00f_56
theorem d_X12_about_91 : decode prog_14_method_73_code 91 = .ok (.aload_n 0, 1) := gd_2 db00f_56
theorem d_X12_about_92 : decode prog_14_method_73_code 92 = .ok (.getfield 37, 3) := gd_3 db00f_56
theorem d_X12_about_95 : decode prog_14_method_73_code 95 = .ok (.iload_n 1, 1) := gd_4 db00f_56
theorem d_X12_about_96 : decode prog_14_method_73_code 96 = .ok (.iaload, 1) := gd_5 db00f_56
theorem d_X12_about_97 : decode prog_14_method_73_code 97 = .ok (.ireturn, 1) := gd_6 db00f_56
theorem d_X12_about_98 : decode prog_14_method_73_code 98 = .ok (.aload_n 0, 1) := gd_7 db00f_56
theorem d_X12_about_99 : decode prog_14_method_73_code 99 = .ok (.getfield 40, 3) := gd_8 db00f_56
theorem d_X12_about_102 : decode prog_14_method_73_code 102 = .ok (.iload_n 1, 1) := gd_9 db00f_56
theorem d_X12_about_103 : decode prog_14_method_73_code 103 = .ok (.iaload, 1) := gd_10 db00f_56
theorem d_X12_about_104 : decode prog_14_method_73_code 104 = .ok (.ireturn, 1) := gd_11 db00f_56
theorem d_X12_about_105 : decode prog_14_method_73_code 105 = .ok (.aload_n 0, 1) := gd_12 db00f_56
theorem d_X12_about_106 : decode prog_14_method_73_code 106 = .ok (.getfield 43, 3) := gd_13 db00f_56
theorem d_X12_about_109 : decode prog_14_method_73_code 109 = .ok (.iload_n 1, 1) := gd_14 db00f_56
theorem d_X12_about_110 : decode prog_14_method_73_code 110 = .ok (.iaload, 1) := gd_15 db00f_56
theorem d_X12_about_111 : decode prog_14_method_73_code 111 = .ok (.ireturn, 1) := gd_16 db00f_56
theorem d_X12_about_112 : decode prog_14_method_73_code 112 = .ok (.aload_n 0, 1) := gd_17 db00f_56
theorem d_X12_about_113 : decode prog_14_method_73_code 113 = .ok (.getfield 34, 3) := gd_18 db00f_56
theorem d_X12_about_116 : decode prog_14_method_73_code 116 = .ok (.iload_n 1, 1) := gd_19 db00f_56
theorem d_X12_about_117 : decode prog_14_method_73_code 117 = .ok (.iaload, 1) := gd_20 db00f_56
theorem d_X12_about_118 : decode prog_14_method_73_code 118 = .ok (.iconst 1, 1) := gd_21 db00f_56
theorem d_X12_about_119 : decode prog_14_method_73_code 119 = .ok (.if_icmp .ne 12, 3) := gd_22 db00f_56
theorem d_X12_about_122 : decode prog_14_method_73_code 122 = .ok (.aload_n 0, 1) := gd_23 db00f_56
theorem db00f_57 : Ad_ prog_14_method_73_code [(123, .getfield 49, 3), (126, .iload_n 1, 1), (127, .iaload, 1), (128, .goto 4, 3), (131, .iconst (-1), 1), (132, .ireturn, 1), (133, .aload_n 0, 1), (134, .iload_n 1, 1), (135, .iconst 1, 1), (136, .invokevirtual 553, 3), (139, .ireturn, 1), (140, .aload_n 0, 1), (141, .iload_n 1, 1), (142, .iconst 0, 1), (143, .invokevirtual 553, 3), (146, .ireturn, 1), (147, .aload_n 0, 1), (148, .getfield 25, 3), (151, .iload_n 1, 1), (152, .iaload, 1), (153, .ireturn, 1), (154, .aload_n 0, 1), (155, .getfield 28, 3), (158, .iload_n 1, 1)] := bch_ok prog_14_method_73_code _ 123 (by decide +kernel)
theorem d_X12_about_123 : decode prog_14_method_73_code 123 = .ok (.getfield 49, 3) := gd_0 db00f_57
theorem d_X12_about_126 : decode prog_14_method_73_code 126 = .ok (.iload_n 1, 1) := gd_1 db00f_57
theorem d_X12_about_127 : decode prog_14_method_73_code 127 = .ok (.iaload, 1) := gd_2 db00f_57
theorem d_X12_about_128 : decode prog_14_method_73_code 128 = .ok (.goto 4, 3) := gd_3 db00f_57
theorem d_X12_about_131 : decode prog_14_method_73_code 131 = .ok (.iconst (-1), 1) := gd_4 db00f_57
theorem d_X12_about_132 : decode prog_14_method_73_code 132 = .ok (.ireturn, 1) := gd_5 db00f_57
theorem d_X12_about_133 : decode prog_14_method_73_code 133 = .ok (.aload_n 0, 1) := gd_6 db00f_57
theorem d_X12_about_134 : decode prog_14_method_73_code 134 = .ok (.iload_n 1, 1) := gd_7 db00f_57
theorem d_X12_about_135 : decode prog_14_method_73_code 135 = .ok (.iconst 1, 1) := gd_8 db00f_57
theorem d_X12_about_136 : decode prog_14_method_73_code 136 = .ok (.invokevirtual 553, 3) := gd_9 db00f_57
theorem d_X12_about_139 : decode prog_14_method_73_code 139 = .ok (.ireturn, 1) := gd_10 db00f_57
theorem d_X12_about_140 : decode prog_14_method_73_code 140 = .ok (.aload_n 0, 1) := gd_11 db00f_57
theorem d_X12_about_141 : decode prog_14_method_73_code 141 = .ok (.iload_n 1, 1) := gd_12 db00f_57
theorem d_X12_about_142 : decode prog_14_method_73_code 142 = .ok (.iconst 0, 1) := gd_13 db00f_57
theorem d_X12_about_143 : decode prog_14_method_73_code 143 = .ok (.invokevirtual 553, 3) := gd_14 db00f_57
theorem d_X12_about_146 : decode prog_14_method_73_code 146 = .ok (.ireturn, 1) := gd_15 db00f_57
theorem d_X12_about_147 : decode prog_14_method_73_code 147 = .ok (.aload_n 0, 1) := gd_16 db00f_57
theorem d_X12_about_148 : decode prog_14_method_73_code 148 = .ok (.getfield 25, 3) := gd_17 db00f_57
theorem d_X12_about_151 : decode prog_14_method_73_code 151 = .ok (.iload_n 1, 1) := gd_18 db00f_57
theorem d_X12_about_152 : decode prog_14_method_73_code 152 = .ok (.iaload, 1) := gd_19 db00f_57
theorem d_X12_about_153 : decode prog_14_method_73_code 153 = .ok (.ireturn, 1) := gd_20 db00f_57
theorem d_X12_about_154 : decode prog_14_method_73_code 154 = .ok (.aload_n 0, 1) := gd_21 db00f_57
theorem d_X12_about_155 : decode prog_14_method_73_code 155 = .ok (.getfield 28, 3) := gd_22 db00f_57
theorem d_X12_about_158 : decode prog_14_method_73_code 158 = .ok (.iload_n 1, 1) := gd_23 db00f_57
theorem d_X12_about_159 : decode prog_14_method_73_code 159 = .ok (.iaload, 1) := by decide +kernel
theorem d_X12_about_160 : decode prog_14_method_73_code 160 = .ok (.ireturn, 1) := by decide +kernel
theorem db00f_58 : Ad_ prog_14_method_74_code [(0, .iload_n 2, 1), (1, .aload_n 0, 1), (2, .getfield 342, 3), (5, .if_icmp .ne 12, 3), (8, .aload_n 0, 1), (9, .getfield 37, 3), (12, .iload_n 1, 1), (13, .iaload, 1), (14, .goto 15, 3), (17, .aload_n 0, 1), (18, .getfield 71, 3), (21, .sipush 20001, 3), (24, .iload_n 1, 1), (25, .imul, 1), (26, .iload_n 2, 1), (27, .iadd, 1), (28, .baload, 1), (29, .ireturn, 1)] := bch_ok prog_14_method_74_code _ 0 (by decide +kernel)
theorem d_X12_wasAt_0 : decode prog_14_method_74_code 0 = .ok (.iload_n 2, 1) := gd_0 db00f_58
theorem d_X12_wasAt_1 : decode prog_14_method_74_code 1 = .ok (.aload_n 0, 1) := gd_1 db00f_58
theorem d_X12_wasAt_2 : decode prog_14_method_74_code 2 = .ok (.getfield 342, 3) := gd_2 db00f_58
theorem d_X12_wasAt_5 : decode prog_14_method_74_code 5 = .ok (.if_icmp .ne 12, 3) := gd_3 db00f_58
theorem d_X12_wasAt_8 : decode prog_14_method_74_code 8 = .ok (.aload_n 0, 1) := gd_4 db00f_58
theorem d_X12_wasAt_9 : decode prog_14_method_74_code 9 = .ok (.getfield 37, 3) := gd_5 db00f_58
theorem d_X12_wasAt_12 : decode prog_14_method_74_code 12 = .ok (.iload_n 1, 1) := gd_6 db00f_58
theorem d_X12_wasAt_13 : decode prog_14_method_74_code 13 = .ok (.iaload, 1) := gd_7 db00f_58
theorem d_X12_wasAt_14 : decode prog_14_method_74_code 14 = .ok (.goto 15, 3) := gd_8 db00f_58
theorem d_X12_wasAt_17 : decode prog_14_method_74_code 17 = .ok (.aload_n 0, 1) := gd_9 db00f_58
theorem d_X12_wasAt_18 : decode prog_14_method_74_code 18 = .ok (.getfield 71, 3) := gd_10 db00f_58
theorem d_X12_wasAt_21 : decode prog_14_method_74_code 21 = .ok (.sipush 20001, 3) := gd_11 db00f_58
theorem d_X12_wasAt_24 : decode prog_14_method_74_code 24 = .ok (.iload_n 1, 1) := gd_12 db00f_58
theorem d_X12_wasAt_25 : decode prog_14_method_74_code 25 = .ok (.imul, 1) := gd_13 db00f_58
theorem d_X12_wasAt_26 : decode prog_14_method_74_code 26 = .ok (.iload_n 2, 1) := gd_14 db00f_58
theorem d_X12_wasAt_27 : decode prog_14_method_74_code 27 = .ok (.iadd, 1) := gd_15 db00f_58
theorem d_X12_wasAt_28 : decode prog_14_method_74_code 28 = .ok (.baload, 1) := gd_16 db00f_58
theorem d_X12_wasAt_29 : decode prog_14_method_74_code 29 = .ok (.ireturn, 1) := gd_17 db00f_58
theorem db00f_59 : Ad_ prog_14_method_75_code [(0, .aload_n 0, 1), (1, .iload_n 1, 1), (2, .invokevirtual 345, 3), (5, .ifCond .eq 29, 3), (8, .iload_n 2, 1), (9, .aload_n 0, 1), (10, .getfield 31, 3), (13, .iload_n 1, 1), (14, .iaload, 1), (15, .aload_n 0, 1), (16, .getfield 342, 3), (19, .invokestatic 323, 3), (22, .ifCond .eq 12, 3), (25, .aload_n 0, 1), (26, .iload_n 1, 1), (27, .iload_n 2, 1), (28, .invokevirtual 557, 3), (31, .goto 4, 3), (34, .iconst (-1), 1), (35, .ireturn, 1)] := bch_ok prog_14_method_75_code _ 0 (by decide +kernel)
theorem d_X12_was_0 : decode prog_14_method_75_code 0 = .ok (.aload_n 0, 1) := gd_0 db00f_59
theorem d_X12_was_1 : decode prog_14_method_75_code 1 = .ok (.iload_n 1, 1) := gd_1 db00f_59
theorem d_X12_was_2 : decode prog_14_method_75_code 2 = .ok (.invokevirtual 345, 3) := gd_2 db00f_59
theorem d_X12_was_5 : decode prog_14_method_75_code 5 = .ok (.ifCond .eq 29, 3) := gd_3 db00f_59
theorem d_X12_was_8 : decode prog_14_method_75_code 8 = .ok (.iload_n 2, 1) := gd_4 db00f_59
theorem d_X12_was_9 : decode prog_14_method_75_code 9 = .ok (.aload_n 0, 1) := gd_5 db00f_59
theorem d_X12_was_10 : decode prog_14_method_75_code 10 = .ok (.getfield 31, 3) := gd_6 db00f_59
theorem d_X12_was_13 : decode prog_14_method_75_code 13 = .ok (.iload_n 1, 1) := gd_7 db00f_59
theorem d_X12_was_14 : decode prog_14_method_75_code 14 = .ok (.iaload, 1) := gd_8 db00f_59
theorem d_X12_was_15 : decode prog_14_method_75_code 15 = .ok (.aload_n 0, 1) := gd_9 db00f_59
theorem d_X12_was_16 : decode prog_14_method_75_code 16 = .ok (.getfield 342, 3) := gd_10 db00f_59
theorem d_X12_was_19 : decode prog_14_method_75_code 19 = .ok (.invokestatic 323, 3) := gd_11 db00f_59
theorem d_X12_was_22 : decode prog_14_method_75_code 22 = .ok (.ifCond .eq 12, 3) := gd_12 db00f_59
theorem d_X12_was_25 : decode prog_14_method_75_code 25 = .ok (.aload_n 0, 1) := gd_13 db00f_59
theorem d_X12_was_26 : decode prog_14_method_75_code 26 = .ok (.iload_n 1, 1) := gd_14 db00f_59
theorem d_X12_was_27 : decode prog_14_method_75_code 27 = .ok (.iload_n 2, 1) := gd_15 db00f_59
theorem d_X12_was_28 : decode prog_14_method_75_code 28 = .ok (.invokevirtual 557, 3) := gd_16 db00f_59
theorem d_X12_was_31 : decode prog_14_method_75_code 31 = .ok (.goto 4, 3) := gd_17 db00f_59
theorem d_X12_was_34 : decode prog_14_method_75_code 34 = .ok (.iconst (-1), 1) := gd_18 db00f_59
theorem d_X12_was_35 : decode prog_14_method_75_code 35 = .ok (.ireturn, 1) := gd_19 db00f_59
theorem db00f_60 : Ad_ prog_14_method_76_code [(0, .aload_n 0, 1), (1, .iload_n 1, 1), (2, .invokevirtual 345, 3), (5, .ifCond .eq 45, 3), (8, .iload_n 2, 1), (9, .invokestatic 327, 3), (12, .ifCond .eq 38, 3), (15, .iload_n 3, 1), (16, .iconst 0, 1), (17, .aload_n 0, 1), (18, .getfield 342, 3), (21, .invokestatic 323, 3), (24, .ifCond .eq 26, 3), (27, .iload 4, 2), (29, .iload_n 3, 1), (30, .aload_n 0, 1), (31, .getfield 342, 3), (34, .invokestatic 323, 3), (37, .ifCond .eq 13, 3), (40, .iload 4, 2), (42, .iload_n 3, 1), (43, .isub, 1), (44, .sipush 1440, 3), (47, .if_icmp .le 5, 3)] := bch_ok prog_14_method_76_code _ 0 (by decide +kernel)
theorem d_X12_complain_0 : decode prog_14_method_76_code 0 = .ok (.aload_n 0, 1) := gd_0 db00f_60
theorem d_X12_complain_1 : decode prog_14_method_76_code 1 = .ok (.iload_n 1, 1) := gd_1 db00f_60
theorem d_X12_complain_2 : decode prog_14_method_76_code 2 = .ok (.invokevirtual 345, 3) := gd_2 db00f_60
theorem d_X12_complain_5 : decode prog_14_method_76_code 5 = .ok (.ifCond .eq 45, 3) := gd_3 db00f_60
theorem d_X12_complain_8 : decode prog_14_method_76_code 8 = .ok (.iload_n 2, 1) := gd_4 db00f_60
theorem d_X12_complain_9 : decode prog_14_method_76_code 9 = .ok (.invokestatic 327, 3) := gd_5 db00f_60
theorem d_X12_complain_12 : decode prog_14_method_76_code 12 = .ok (.ifCond .eq 38, 3) := gd_6 db00f_60
theorem d_X12_complain_15 : decode prog_14_method_76_code 15 = .ok (.iload_n 3, 1) := gd_7 db00f_60
theorem d_X12_complain_16 : decode prog_14_method_76_code 16 = .ok (.iconst 0, 1) := gd_8 db00f_60
theorem d_X12_complain_17 : decode prog_14_method_76_code 17 = .ok (.aload_n 0, 1) := gd_9 db00f_60
theorem d_X12_complain_18 : decode prog_14_method_76_code 18 = .ok (.getfield 342, 3) := gd_10 db00f_60
theorem d_X12_complain_21 : decode prog_14_method_76_code 21 = .ok (.invokestatic 323, 3) := gd_11 db00f_60
theorem d_X12_complain_24 : decode prog_14_method_76_code 24 = .ok (.ifCond .eq 26, 3) := gd_12 db00f_60
theorem d_X12_complain_27 : decode prog_14_method_76_code 27 = .ok (.iload 4, 2) := gd_13 db00f_60
theorem d_X12_complain_29 : decode prog_14_method_76_code 29 = .ok (.iload_n 3, 1) := gd_14 db00f_60
theorem d_X12_complain_30 : decode prog_14_method_76_code 30 = .ok (.aload_n 0, 1) := gd_15 db00f_60
theorem d_X12_complain_31 : decode prog_14_method_76_code 31 = .ok (.getfield 342, 3) := gd_16 db00f_60
theorem d_X12_complain_34 : decode prog_14_method_76_code 34 = .ok (.invokestatic 323, 3) := gd_17 db00f_60
theorem d_X12_complain_37 : decode prog_14_method_76_code 37 = .ok (.ifCond .eq 13, 3) := gd_18 db00f_60
theorem d_X12_complain_40 : decode prog_14_method_76_code 40 = .ok (.iload 4, 2) := gd_19 db00f_60
theorem d_X12_complain_42 : decode prog_14_method_76_code 42 = .ok (.iload_n 3, 1) := gd_20 db00f_60
theorem d_X12_complain_43 : decode prog_14_method_76_code 43 = .ok (.isub, 1) := gd_21 db00f_60
theorem d_X12_complain_44 : decode prog_14_method_76_code 44 = .ok (.sipush 1440, 3) := gd_22 db00f_60
theorem d_X12_complain_47 : decode prog_14_method_76_code 47 = .ok (.if_icmp .le 5, 3) := gd_23 db00f_60
theorem db00f_61 : Ad_ prog_14_method_76_code [(50, .iconst (-1), 1), (51, .ireturn, 1), (52, .iconst 0, 1), (53, .istore 5, 2), (55, .iload_n 3, 1), (56, .aload_n 0, 1), (57, .getfield 31, 3), (60, .iload_n 1, 1), (61, .iaload, 1), (62, .invokestatic 560, 3), (65, .istore 6, 2), (67, .iload 6, 2), (69, .iload 4, 2), (71, .if_icmp .gt 45, 3), (74, .aload_n 0, 1), (75, .iload_n 1, 1), (76, .iload 6, 2), (78, .invokevirtual 557, 3), (81, .iload_n 2, 1), (82, .if_icmp .ne 5, 3), (85, .iconst 1, 1), (86, .ireturn, 1), (87, .iload 5, 2), (89, .ifCond .ne 14, 3)] := bch_ok prog_14_method_76_code _ 50 (by decide +kernel)
theorem d_X12_complain_50 : decode prog_14_method_76_code 50 = .ok (.iconst (-1), 1) := gd_0 db00f_61
theorem d_X12_complain_51 : decode prog_14_method_76_code 51 = .ok (.ireturn, 1) := gd_1 db00f_61
theorem d_X12_complain_52 : decode prog_14_method_76_code 52 = .ok (.iconst 0, 1) := gd_2 db00f_61
theorem d_X12_complain_53 : decode prog_14_method_76_code 53 = .ok (.istore 5, 2) := gd_3 db00f_61
theorem d_X12_complain_55 : decode prog_14_method_76_code 55 = .ok (.iload_n 3, 1) := gd_4 db00f_61
theorem d_X12_complain_56 : decode prog_14_method_76_code 56 = .ok (.aload_n 0, 1) := gd_5 db00f_61
theorem d_X12_complain_57 : decode prog_14_method_76_code 57 = .ok (.getfield 31, 3) := gd_6 db00f_61
theorem d_X12_complain_60 : decode prog_14_method_76_code 60 = .ok (.iload_n 1, 1) := gd_7 db00f_61
theorem d_X12_complain_61 : decode prog_14_method_76_code 61 = .ok (.iaload, 1) := gd_8 db00f_61
theorem d_X12_complain_62 : decode prog_14_method_76_code 62 = .ok (.invokestatic 560, 3) := gd_9 db00f_61
theorem d_X12_complain_65 : decode prog_14_method_76_code 65 = .ok (.istore 6, 2) := gd_10 db00f_61
theorem d_X12_complain_67 : decode prog_14_method_76_code 67 = .ok (.iload 6, 2) := gd_11 db00f_61
theorem d_X12_complain_69 : decode prog_14_method_76_code 69 = .ok (.iload 4, 2) := gd_12 db00f_61
theorem d_X12_complain_71 : decode prog_14_method_76_code 71 = .ok (.if_icmp .gt 45, 3) := gd_13 db00f_61
theorem d_X12_complain_74 : decode prog_14_method_76_code 74 = .ok (.aload_n 0, 1) := gd_14 db00f_61
theorem d_X12_complain_75 : decode prog_14_method_76_code 75 = .ok (.iload_n 1, 1) := gd_15 db00f_61
theorem d_X12_complain_76 : decode prog_14_method_76_code 76 = .ok (.iload 6, 2) := gd_16 db00f_61
theorem d_X12_complain_78 : decode prog_14_method_76_code 78 = .ok (.invokevirtual 557, 3) := gd_17 db00f_61
theorem d_X12_complain_81 : decode prog_14_method_76_code 81 = .ok (.iload_n 2, 1) := gd_18 db00f_61
theorem d_X12_complain_82 : decode prog_14_method_76_code 82 = .ok (.if_icmp .ne 5, 3) := gd_19 db00f_61
theorem d_X12_complain_85 : decode prog_14_method_76_code 85 = .ok (.iconst 1, 1) := gd_20 db00f_61
theorem d_X12_complain_86 : decode prog_14_method_76_code 86 = .ok (.ireturn, 1) := gd_21 db00f_61
theorem d_X12_complain_87 : decode prog_14_method_76_code 87 = .ok (.iload 5, 2) := gd_22 db00f_61
theorem d_X12_complain_89 : decode prog_14_method_76_code 89 = .ok (.ifCond .ne 14, 3) := gd_23 db00f_61
theorem db00f_62 : Ad_ prog_14_method_76_code [(92, .aload_n 0, 1), (93, .iload_n 1, 1), (94, .iload 6, 2), (96, .invokevirtual 557, 3), (99, .iconst (-1), 1), (100, .if_icmp .ne 7, 3), (103, .iconst 1, 1), (104, .goto 4, 3), (107, .iconst 0, 1), (108, .istore 5, 2), (110, .iinc 6 1, 3), (113, .goto (-46), 3), (116, .iload 5, 2), (118, .ifCond .eq 7, 3), (121, .iconst 2, 1), (122, .goto 4, 3), (125, .iconst 0, 1), (126, .ireturn, 1)] := bch_ok prog_14_method_76_code _ 92 (by decide +kernel)
theorem d_X12_complain_92 : decode prog_14_method_76_code 92 = .ok (.aload_n 0, 1) := gd_0 db00f_62
theorem d_X12_complain_93 : decode prog_14_method_76_code 93 = .ok (.iload_n 1, 1) := gd_1 db00f_62
theorem d_X12_complain_94 : decode prog_14_method_76_code 94 = .ok (.iload 6, 2) := gd_2 db00f_62
theorem d_X12_complain_96 : decode prog_14_method_76_code 96 = .ok (.invokevirtual 557, 3) := gd_3 db00f_62
theorem d_X12_complain_99 : decode prog_14_method_76_code 99 = .ok (.iconst (-1), 1) := gd_4 db00f_62
theorem d_X12_complain_100 : decode prog_14_method_76_code 100 = .ok (.if_icmp .ne 7, 3) := gd_5 db00f_62
theorem d_X12_complain_103 : decode prog_14_method_76_code 103 = .ok (.iconst 1, 1) := gd_6 db00f_62
theorem d_X12_complain_104 : decode prog_14_method_76_code 104 = .ok (.goto 4, 3) := gd_7 db00f_62
theorem d_X12_complain_107 : decode prog_14_method_76_code 107 = .ok (.iconst 0, 1) := gd_8 db00f_62
theorem d_X12_complain_108 : decode prog_14_method_76_code 108 = .ok (.istore 5, 2) := gd_9 db00f_62
theorem d_X12_complain_110 : decode prog_14_method_76_code 110 = .ok (.iinc 6 1, 3) := gd_10 db00f_62
theorem d_X12_complain_113 : decode prog_14_method_76_code 113 = .ok (.goto (-46), 3) := gd_11 db00f_62
theorem d_X12_complain_116 : decode prog_14_method_76_code 116 = .ok (.iload 5, 2) := gd_12 db00f_62
theorem d_X12_complain_118 : decode prog_14_method_76_code 118 = .ok (.ifCond .eq 7, 3) := gd_13 db00f_62
theorem d_X12_complain_121 : decode prog_14_method_76_code 121 = .ok (.iconst 2, 1) := gd_14 db00f_62
theorem d_X12_complain_122 : decode prog_14_method_76_code 122 = .ok (.goto 4, 3) := gd_15 db00f_62
theorem d_X12_complain_125 : decode prog_14_method_76_code 125 = .ok (.iconst 0, 1) := gd_16 db00f_62
theorem d_X12_complain_126 : decode prog_14_method_76_code 126 = .ok (.ireturn, 1) := gd_17 db00f_62
theorem db00f_63 : Ad_ prog_14_method_77_code [(0, .iload_n 1, 1), (1, .iconst 0, 1), (2, .bipush 9, 2), (4, .invokestatic 323, 3), (7, .ifCond .eq 53, 3), (10, .iload_n 2, 1), (11, .invokestatic 327, 3), (14, .ifCond .eq 46, 3), (17, .iload_n 3, 1), (18, .iconst 0, 1), (19, .sipush 20000, 3), (22, .invokestatic 323, 3), (25, .ifCond .eq 35, 3), (28, .iload 4, 2), (30, .iload_n 3, 1), (31, .sipush 20000, 3), (34, .invokestatic 323, 3), (37, .ifCond .eq 23, 3), (40, .iload 5, 2), (42, .iconst 1, 1), (43, .bipush 9, 2), (45, .invokestatic 323, 3), (48, .ifCond .eq 12, 3), (51, .aload_n 0, 1)] := bch_ok prog_14_method_77_code _ 0 (by decide +kernel)
theorem d_X12_find_0 : decode prog_14_method_77_code 0 = .ok (.iload_n 1, 1) := gd_0 db00f_63
theorem d_X12_find_1 : decode prog_14_method_77_code 1 = .ok (.iconst 0, 1) := gd_1 db00f_63
theorem d_X12_find_2 : decode prog_14_method_77_code 2 = .ok (.bipush 9, 2) := gd_2 db00f_63
theorem d_X12_find_4 : decode prog_14_method_77_code 4 = .ok (.invokestatic 323, 3) := gd_3 db00f_63
theorem d_X12_find_7 : decode prog_14_method_77_code 7 = .ok (.ifCond .eq 53, 3) := gd_4 db00f_63
theorem d_X12_find_10 : decode prog_14_method_77_code 10 = .ok (.iload_n 2, 1) := gd_5 db00f_63
theorem d_X12_find_11 : decode prog_14_method_77_code 11 = .ok (.invokestatic 327, 3) := gd_6 db00f_63
theorem d_X12_find_14 : decode prog_14_method_77_code 14 = .ok (.ifCond .eq 46, 3) := gd_7 db00f_63
theorem d_X12_find_17 : decode prog_14_method_77_code 17 = .ok (.iload_n 3, 1) := gd_8 db00f_63
theorem d_X12_find_18 : decode prog_14_method_77_code 18 = .ok (.iconst 0, 1) := gd_9 db00f_63
theorem d_X12_find_19 : decode prog_14_method_77_code 19 = .ok (.sipush 20000, 3) := gd_10 db00f_63
theorem d_X12_find_22 : decode prog_14_method_77_code 22 = .ok (.invokestatic 323, 3) := gd_11 db00f_63
theorem d_X12_find_25 : decode prog_14_method_77_code 25 = .ok (.ifCond .eq 35, 3) := gd_12 db00f_63
theorem d_X12_find_28 : decode prog_14_method_77_code 28 = .ok (.iload 4, 2) := gd_13 db00f_63
theorem d_X12_find_30 : decode prog_14_method_77_code 30 = .ok (.iload_n 3, 1) := gd_14 db00f_63
theorem d_X12_find_31 : decode prog_14_method_77_code 31 = .ok (.sipush 20000, 3) := gd_15 db00f_63
theorem d_X12_find_34 : decode prog_14_method_77_code 34 = .ok (.invokestatic 323, 3) := gd_16 db00f_63
theorem d_X12_find_37 : decode prog_14_method_77_code 37 = .ok (.ifCond .eq 23, 3) := gd_17 db00f_63
theorem d_X12_find_40 : decode prog_14_method_77_code 40 = .ok (.iload 5, 2) := gd_18 db00f_63
theorem d_X12_find_42 : decode prog_14_method_77_code 42 = .ok (.iconst 1, 1) := gd_19 db00f_63
theorem d_X12_find_43 : decode prog_14_method_77_code 43 = .ok (.bipush 9, 2) := gd_20 db00f_63
theorem d_X12_find_45 : decode prog_14_method_77_code 45 = .ok (.invokestatic 323, 3) := gd_21 db00f_63
theorem d_X12_find_48 : decode prog_14_method_77_code 48 = .ok (.ifCond .eq 12, 3) := gd_22 db00f_63
theorem d_X12_find_51 : decode prog_14_method_77_code 51 = .ok (.aload_n 0, 1) := gd_23 db00f_63
theorem db00f_64 : Ad_ prog_14_method_77_code [(52, .getfield 562, 3), (55, .bipush 80, 2), (57, .if_icmp .ne 5, 3), (60, .iconst (-1), 1), (61, .ireturn, 1), (62, .aload_n 0, 1), (63, .getfield 160, 3), (66, .aload_n 0, 1), (67, .getfield 562, 3), (70, .iload_n 1, 1), (71, .iastore, 1), (72, .aload_n 0, 1), (73, .getfield 163, 3), (76, .aload_n 0, 1), (77, .getfield 562, 3), (80, .iload_n 2, 1), (81, .iastore, 1), (82, .aload_n 0, 1), (83, .getfield 166, 3), (86, .aload_n 0, 1), (87, .getfield 562, 3), (90, .iload_n 3, 1), (91, .iastore, 1), (92, .aload_n 0, 1)] := bch_ok prog_14_method_77_code _ 52 (by decide +kernel)
theorem d_X12_find_52 : decode prog_14_method_77_code 52 = .ok (.getfield 562, 3) := gd_0 db00f_64
theorem d_X12_find_55 : decode prog_14_method_77_code 55 = .ok (.bipush 80, 2) := gd_1 db00f_64
theorem d_X12_find_57 : decode prog_14_method_77_code 57 = .ok (.if_icmp .ne 5, 3) := gd_2 db00f_64
theorem d_X12_find_60 : decode prog_14_method_77_code 60 = .ok (.iconst (-1), 1) := gd_3 db00f_64
theorem d_X12_find_61 : decode prog_14_method_77_code 61 = .ok (.ireturn, 1) := gd_4 db00f_64
theorem d_X12_find_62 : decode prog_14_method_77_code 62 = .ok (.aload_n 0, 1) := gd_5 db00f_64
theorem d_X12_find_63 : decode prog_14_method_77_code 63 = .ok (.getfield 160, 3) := gd_6 db00f_64
theorem d_X12_find_66 : decode prog_14_method_77_code 66 = .ok (.aload_n 0, 1) := gd_7 db00f_64
theorem d_X12_find_67 : decode prog_14_method_77_code 67 = .ok (.getfield 562, 3) := gd_8 db00f_64
theorem d_X12_find_70 : decode prog_14_method_77_code 70 = .ok (.iload_n 1, 1) := gd_9 db00f_64
theorem d_X12_find_71 : decode prog_14_method_77_code 71 = .ok (.iastore, 1) := gd_10 db00f_64
theorem d_X12_find_72 : decode prog_14_method_77_code 72 = .ok (.aload_n 0, 1) := gd_11 db00f_64
theorem d_X12_find_73 : decode prog_14_method_77_code 73 = .ok (.getfield 163, 3) := gd_12 db00f_64
theorem d_X12_find_76 : decode prog_14_method_77_code 76 = .ok (.aload_n 0, 1) := gd_13 db00f_64
theorem d_X12_find_77 : decode prog_14_method_77_code 77 = .ok (.getfield 562, 3) := gd_14 db00f_64
theorem d_X12_find_80 : decode prog_14_method_77_code 80 = .ok (.iload_n 2, 1) := gd_15 db00f_64
theorem d_X12_find_81 : decode prog_14_method_77_code 81 = .ok (.iastore, 1) := gd_16 db00f_64
theorem d_X12_find_82 : decode prog_14_method_77_code 82 = .ok (.aload_n 0, 1) := gd_17 db00f_64
theorem d_X12_find_83 : decode prog_14_method_77_code 83 = .ok (.getfield 166, 3) := gd_18 db00f_64
theorem d_X12_find_86 : decode prog_14_method_77_code 86 = .ok (.aload_n 0, 1) := gd_19 db00f_64
theorem d_X12_find_87 : decode prog_14_method_77_code 87 = .ok (.getfield 562, 3) := gd_20 db00f_64
theorem d_X12_find_90 : decode prog_14_method_77_code 90 = .ok (.iload_n 3, 1) := gd_21 db00f_64
theorem d_X12_find_91 : decode prog_14_method_77_code 91 = .ok (.iastore, 1) := gd_22 db00f_64
theorem d_X12_find_92 : decode prog_14_method_77_code 92 = .ok (.aload_n 0, 1) := gd_23 db00f_64
theorem db00f_65 : Ad_ prog_14_method_77_code [(93, .getfield 169, 3), (96, .aload_n 0, 1), (97, .getfield 562, 3), (100, .iload 4, 2), (102, .iastore, 1), (103, .aload_n 0, 1), (104, .getfield 172, 3), (107, .aload_n 0, 1), (108, .getfield 562, 3), (111, .iload 5, 2), (113, .iastore, 1), (114, .aload_n 0, 1), (115, .dup, 1), (116, .getfield 562, 3), (119, .iconst 1, 1), (120, .iadd, 1), (121, .putfield 562, 3), (124, .aload_n 0, 1), (125, .getfield 562, 3), (128, .iconst 1, 1), (129, .isub, 1), (130, .ireturn, 1)] := bch_ok prog_14_method_77_code _ 93 (by decide +kernel)
theorem d_X12_find_93 : decode prog_14_method_77_code 93 = .ok (.getfield 169, 3) := gd_0 db00f_65
theorem d_X12_find_96 : decode prog_14_method_77_code 96 = .ok (.aload_n 0, 1) := gd_1 db00f_65
theorem d_X12_find_97 : decode prog_14_method_77_code 97 = .ok (.getfield 562, 3) := gd_2 db00f_65
theorem d_X12_find_100 : decode prog_14_method_77_code 100 = .ok (.iload 4, 2) := gd_3 db00f_65
theorem d_X12_find_102 : decode prog_14_method_77_code 102 = .ok (.iastore, 1) := gd_4 db00f_65
theorem d_X12_find_103 : decode prog_14_method_77_code 103 = .ok (.aload_n 0, 1) := gd_5 db00f_65
theorem d_X12_find_104 : decode prog_14_method_77_code 104 = .ok (.getfield 172, 3) := gd_6 db00f_65
theorem d_X12_find_107 : decode prog_14_method_77_code 107 = .ok (.aload_n 0, 1) := gd_7 db00f_65
theorem d_X12_find_108 : decode prog_14_method_77_code 108 = .ok (.getfield 562, 3) := gd_8 db00f_65
theorem d_X12_find_111 : decode prog_14_method_77_code 111 = .ok (.iload 5, 2) := gd_9 db00f_65
theorem d_X12_find_113 : decode prog_14_method_77_code 113 = .ok (.iastore, 1) := gd_10 db00f_65
theorem d_X12_find_114 : decode prog_14_method_77_code 114 = .ok (.aload_n 0, 1) := gd_11 db00f_65
theorem d_X12_find_115 : decode prog_14_method_77_code 115 = .ok (.dup, 1) := gd_12 db00f_65
theorem d_X12_find_116 : decode prog_14_method_77_code 116 = .ok (.getfield 562, 3) := gd_13 db00f_65
theorem d_X12_find_119 : decode prog_14_method_77_code 119 = .ok (.iconst 1, 1) := gd_14 db00f_65
theorem d_X12_find_120 : decode prog_14_method_77_code 120 = .ok (.iadd, 1) := gd_15 db00f_65
theorem d_X12_find_121 : decode prog_14_method_77_code 121 = .ok (.putfield 562, 3) := gd_16 db00f_65
theorem d_X12_find_124 : decode prog_14_method_77_code 124 = .ok (.aload_n 0, 1) := gd_17 db00f_65
theorem d_X12_find_125 : decode prog_14_method_77_code 125 = .ok (.getfield 562, 3) := gd_18 db00f_65
theorem d_X12_find_128 : decode prog_14_method_77_code 128 = .ok (.iconst 1, 1) := gd_19 db00f_65
theorem d_X12_find_129 : decode prog_14_method_77_code 129 = .ok (.isub, 1) := gd_20 db00f_65
theorem d_X12_find_130 : decode prog_14_method_77_code 130 = .ok (.ireturn, 1) := gd_21 db00f_65
theorem db00f_66 : Ad_ prog_14_method_78_code [(0, .ldc_w 565, 3), (3, .iload_n 0, 1), (4, .invokevirtual 567, 3), (7, .ireturn, 1)] := bch_ok prog_14_method_78_code _ 0 (by decide +kernel)
theorem d_X12_letterFor_0 : decode prog_14_method_78_code 0 = .ok (.ldc_w 565, 3) := gd_0 db00f_66
theorem d_X12_letterFor_3 : decode prog_14_method_78_code 3 = .ok (.iload_n 0, 1) := gd_1 db00f_66
theorem d_X12_letterFor_4 : decode prog_14_method_78_code 4 = .ok (.invokevirtual 567, 3) := gd_2 db00f_66
theorem d_X12_letterFor_7 : decode prog_14_method_78_code 7 = .ok (.ireturn, 1) := gd_3 db00f_66
theorem db00f_67 : Ad_ prog_14_method_79_code [(0, .iconst 0, 1), (1, .istore_n 2, 1), (2, .iconst 0, 1), (3, .istore_n 3, 1), (4, .iload_n 3, 1), (5, .aload_n 0, 1), (6, .getfield 339, 3), (9, .if_icmp .ge 32, 3), (12, .iload_n 2, 1), (13, .aload_n 0, 1), (14, .getfield 37, 3), (17, .iload_n 3, 1), (18, .iaload, 1), (19, .aload_n 0, 1), (20, .getfield 37, 3), (23, .iload_n 1, 1), (24, .iaload, 1), (25, .if_icmp .ne 7, 3), (28, .iconst 1, 1), (29, .goto 4, 3), (32, .iconst 0, 1), (33, .iadd, 1), (34, .istore_n 2, 1), (35, .iinc 3 1, 3)] := bch_ok prog_14_method_79_code _ 0 (by decide +kernel)
theorem d_X12_see_0 : decode prog_14_method_79_code 0 = .ok (.iconst 0, 1) := gd_0 db00f_67
theorem d_X12_see_1 : decode prog_14_method_79_code 1 = .ok (.istore_n 2, 1) := gd_1 db00f_67
theorem d_X12_see_2 : decode prog_14_method_79_code 2 = .ok (.iconst 0, 1) := gd_2 db00f_67
theorem d_X12_see_3 : decode prog_14_method_79_code 3 = .ok (.istore_n 3, 1) := gd_3 db00f_67
theorem d_X12_see_4 : decode prog_14_method_79_code 4 = .ok (.iload_n 3, 1) := gd_4 db00f_67
theorem d_X12_see_5 : decode prog_14_method_79_code 5 = .ok (.aload_n 0, 1) := gd_5 db00f_67
theorem d_X12_see_6 : decode prog_14_method_79_code 6 = .ok (.getfield 339, 3) := gd_6 db00f_67
theorem d_X12_see_9 : decode prog_14_method_79_code 9 = .ok (.if_icmp .ge 32, 3) := gd_7 db00f_67
theorem d_X12_see_12 : decode prog_14_method_79_code 12 = .ok (.iload_n 2, 1) := gd_8 db00f_67
theorem d_X12_see_13 : decode prog_14_method_79_code 13 = .ok (.aload_n 0, 1) := gd_9 db00f_67
theorem d_X12_see_14 : decode prog_14_method_79_code 14 = .ok (.getfield 37, 3) := gd_10 db00f_67
theorem d_X12_see_17 : decode prog_14_method_79_code 17 = .ok (.iload_n 3, 1) := gd_11 db00f_67
theorem d_X12_see_18 : decode prog_14_method_79_code 18 = .ok (.iaload, 1) := gd_12 db00f_67
theorem d_X12_see_19 : decode prog_14_method_79_code 19 = .ok (.aload_n 0, 1) := gd_13 db00f_67
theorem d_X12_see_20 : decode prog_14_method_79_code 20 = .ok (.getfield 37, 3) := gd_14 db00f_67
theorem d_X12_see_23 : decode prog_14_method_79_code 23 = .ok (.iload_n 1, 1) := gd_15 db00f_67
theorem d_X12_see_24 : decode prog_14_method_79_code 24 = .ok (.iaload, 1) := gd_16 db00f_67
theorem d_X12_see_25 : decode prog_14_method_79_code 25 = .ok (.if_icmp .ne 7, 3) := gd_17 db00f_67
theorem d_X12_see_28 : decode prog_14_method_79_code 28 = .ok (.iconst 1, 1) := gd_18 db00f_67
theorem d_X12_see_29 : decode prog_14_method_79_code 29 = .ok (.goto 4, 3) := gd_19 db00f_67
theorem d_X12_see_32 : decode prog_14_method_79_code 32 = .ok (.iconst 0, 1) := gd_20 db00f_67
theorem d_X12_see_33 : decode prog_14_method_79_code 33 = .ok (.iadd, 1) := gd_21 db00f_67
theorem d_X12_see_34 : decode prog_14_method_79_code 34 = .ok (.istore_n 2, 1) := gd_22 db00f_67
theorem d_X12_see_35 : decode prog_14_method_79_code 35 = .ok (.iinc 3 1, 3) := gd_23 db00f_67
theorem db00f_68 : Ad_ prog_14_method_79_code [(38, .goto (-34), 3), (41, .iconst 0, 1), (42, .istore_n 3, 1), (43, .iload_n 3, 1), (44, .aload_n 0, 1), (45, .getfield 562, 3), (48, .if_icmp .ge 434, 3), (51, .aload_n 0, 1), (52, .getfield 163, 3), (55, .iload_n 3, 1), (56, .iaload, 1), (57, .aload_n 0, 1), (58, .getfield 37, 3), (61, .iload_n 1, 1), (62, .iaload, 1), (63, .if_icmp .ne 413, 3), (66, .aload_n 0, 1), (67, .getfield 342, 3), (70, .aload_n 0, 1), (71, .getfield 166, 3), (74, .iload_n 3, 1), (75, .iaload, 1), (76, .aload_n 0, 1), (77, .getfield 169, 3)] := bch_ok prog_14_method_79_code _ 38 (by decide +kernel)
theorem d_X12_see_38 : decode prog_14_method_79_code 38 = .ok (.goto (-34), 3) := gd_0 db00f_68
theorem d_X12_see_41 : decode prog_14_method_79_code 41 = .ok (.iconst 0, 1) := gd_1 db00f_68
theorem d_X12_see_42 : decode prog_14_method_79_code 42 = .ok (.istore_n 3, 1) := gd_2 db00f_68
theorem d_X12_see_43 : decode prog_14_method_79_code 43 = .ok (.iload_n 3, 1) := gd_3 db00f_68
theorem d_X12_see_44 : decode prog_14_method_79_code 44 = .ok (.aload_n 0, 1) := gd_4 db00f_68
theorem d_X12_see_45 : decode prog_14_method_79_code 45 = .ok (.getfield 562, 3) := gd_5 db00f_68
theorem d_X12_see_48 : decode prog_14_method_79_code 48 = .ok (.if_icmp .ge 434, 3) := gd_6 db00f_68
theorem d_X12_see_51 : decode prog_14_method_79_code 51 = .ok (.aload_n 0, 1) := gd_7 db00f_68
theorem d_X12_see_52 : decode prog_14_method_79_code 52 = .ok (.getfield 163, 3) := gd_8 db00f_68
theorem d_X12_see_55 : decode prog_14_method_79_code 55 = .ok (.iload_n 3, 1) := gd_9 db00f_68
theorem d_X12_see_56 : decode prog_14_method_79_code 56 = .ok (.iaload, 1) := gd_10 db00f_68
theorem d_X12_see_57 : decode prog_14_method_79_code 57 = .ok (.aload_n 0, 1) := gd_11 db00f_68
theorem d_X12_see_58 : decode prog_14_method_79_code 58 = .ok (.getfield 37, 3) := gd_12 db00f_68
theorem d_X12_see_61 : decode prog_14_method_79_code 61 = .ok (.iload_n 1, 1) := gd_13 db00f_68
theorem d_X12_see_62 : decode prog_14_method_79_code 62 = .ok (.iaload, 1) := gd_14 db00f_68
theorem d_X12_see_63 : decode prog_14_method_79_code 63 = .ok (.if_icmp .ne 413, 3) := gd_15 db00f_68
theorem d_X12_see_66 : decode prog_14_method_79_code 66 = .ok (.aload_n 0, 1) := gd_16 db00f_68
theorem d_X12_see_67 : decode prog_14_method_79_code 67 = .ok (.getfield 342, 3) := gd_17 db00f_68
theorem d_X12_see_70 : decode prog_14_method_79_code 70 = .ok (.aload_n 0, 1) := gd_18 db00f_68
theorem d_X12_see_71 : decode prog_14_method_79_code 71 = .ok (.getfield 166, 3) := gd_19 db00f_68
theorem d_X12_see_74 : decode prog_14_method_79_code 74 = .ok (.iload_n 3, 1) := gd_20 db00f_68
theorem d_X12_see_75 : decode prog_14_method_79_code 75 = .ok (.iaload, 1) := gd_21 db00f_68
theorem d_X12_see_76 : decode prog_14_method_79_code 76 = .ok (.aload_n 0, 1) := gd_22 db00f_68
theorem d_X12_see_77 : decode prog_14_method_79_code 77 = .ok (.getfield 169, 3) := gd_23 db00f_68
theorem db00f_69 : Ad_ prog_14_method_79_code [(80, .iload_n 3, 1), (81, .iaload, 1), (82, .invokestatic 323, 3), (85, .ifCond .eq 391, 3), (88, .aload_n 0, 1), (89, .getfield 175, 3), (92, .iload_n 3, 1), (93, .baload, 1), (94, .ifCond .ne 382, 3), (97, .aload_n 0, 1), (98, .getfield 516, 3), (101, .sipush 300, 3), (104, .if_icmp .ne 6, 3), (107, .goto 369, 3), (110, .iconst 0, 1), (111, .istore 4, 2), (113, .iconst 0, 1), (114, .istore 5, 2), (116, .iload 5, 2), (118, .aload_n 0, 1), (119, .getfield 516, 3), (122, .if_icmp .ge 30, 3), (125, .iload 4, 2), (127, .aload_n 0, 1)] := bch_ok prog_14_method_79_code _ 80 (by decide +kernel)
theorem d_X12_see_80 : decode prog_14_method_79_code 80 = .ok (.iload_n 3, 1) := gd_0 db00f_69
theorem d_X12_see_81 : decode prog_14_method_79_code 81 = .ok (.iaload, 1) := gd_1 db00f_69
theorem d_X12_see_82 : decode prog_14_method_79_code 82 = .ok (.invokestatic 323, 3) := gd_2 db00f_69
theorem d_X12_see_85 : decode prog_14_method_79_code 85 = .ok (.ifCond .eq 391, 3) := gd_3 db00f_69
theorem d_X12_see_88 : decode prog_14_method_79_code 88 = .ok (.aload_n 0, 1) := gd_4 db00f_69
theorem d_X12_see_89 : decode prog_14_method_79_code 89 = .ok (.getfield 175, 3) := gd_5 db00f_69
theorem d_X12_see_92 : decode prog_14_method_79_code 92 = .ok (.iload_n 3, 1) := gd_6 db00f_69
theorem d_X12_see_93 : decode prog_14_method_79_code 93 = .ok (.baload, 1) := gd_7 db00f_69
theorem d_X12_see_94 : decode prog_14_method_79_code 94 = .ok (.ifCond .ne 382, 3) := gd_8 db00f_69
theorem d_X12_see_97 : decode prog_14_method_79_code 97 = .ok (.aload_n 0, 1) := gd_9 db00f_69
theorem d_X12_see_98 : decode prog_14_method_79_code 98 = .ok (.getfield 516, 3) := gd_10 db00f_69
theorem d_X12_see_101 : decode prog_14_method_79_code 101 = .ok (.sipush 300, 3) := gd_11 db00f_69
theorem d_X12_see_104 : decode prog_14_method_79_code 104 = .ok (.if_icmp .ne 6, 3) := gd_12 db00f_69
theorem d_X12_see_107 : decode prog_14_method_79_code 107 = .ok (.goto 369, 3) := gd_13 db00f_69
theorem d_X12_see_110 : decode prog_14_method_79_code 110 = .ok (.iconst 0, 1) := gd_14 db00f_69
theorem d_X12_see_111 : decode prog_14_method_79_code 111 = .ok (.istore 4, 2) := gd_15 db00f_69
theorem d_X12_see_113 : decode prog_14_method_79_code 113 = .ok (.iconst 0, 1) := gd_16 db00f_69
theorem d_X12_see_114 : decode prog_14_method_79_code 114 = .ok (.istore 5, 2) := gd_17 db00f_69
theorem d_X12_see_116 : decode prog_14_method_79_code 116 = .ok (.iload 5, 2) := gd_18 db00f_69
theorem d_X12_see_118 : decode prog_14_method_79_code 118 = .ok (.aload_n 0, 1) := gd_19 db00f_69
theorem d_X12_see_119 : decode prog_14_method_79_code 119 = .ok (.getfield 516, 3) := gd_20 db00f_69
theorem d_X12_see_122 : decode prog_14_method_79_code 122 = .ok (.if_icmp .ge 30, 3) := gd_21 db00f_69
theorem d_X12_see_125 : decode prog_14_method_79_code 125 = .ok (.iload 4, 2) := gd_22 db00f_69
theorem d_X12_see_127 : decode prog_14_method_79_code 127 = .ok (.aload_n 0, 1) := gd_23 db00f_69
theorem db00f_70 : Ad_ prog_14_method_79_code [(128, .getfield 181, 3), (131, .iload 5, 2), (133, .iaload, 1), (134, .iload_n 3, 1), (135, .if_icmp .ne 7, 3), (138, .iconst 1, 1), (139, .goto 4, 3), (142, .iconst 0, 1), (143, .iadd, 1), (144, .istore 4, 2), (146, .iinc 5 1, 3), (149, .goto (-33), 3), (152, .aload_n 0, 1), (153, .getfield 516, 3), (156, .istore 5, 2), (158, .aload_n 0, 1), (159, .getfield 178, 3), (162, .iload 5, 2), (164, .iload_n 1, 1), (165, .iastore, 1), (166, .aload_n 0, 1), (167, .getfield 181, 3), (170, .iload 5, 2), (172, .iload_n 3, 1)] := bch_ok prog_14_method_79_code _ 128 (by decide +kernel)
theorem d_X12_see_128 : decode prog_14_method_79_code 128 = .ok (.getfield 181, 3) := gd_0 db00f_70
theorem d_X12_see_131 : decode prog_14_method_79_code 131 = .ok (.iload 5, 2) := gd_1 db00f_70
theorem d_X12_see_133 : decode prog_14_method_79_code 133 = .ok (.iaload, 1) := gd_2 db00f_70
theorem d_X12_see_134 : decode prog_14_method_79_code 134 = .ok (.iload_n 3, 1) := gd_3 db00f_70
theorem d_X12_see_135 : decode prog_14_method_79_code 135 = .ok (.if_icmp .ne 7, 3) := gd_4 db00f_70
theorem d_X12_see_138 : decode prog_14_method_79_code 138 = .ok (.iconst 1, 1) := gd_5 db00f_70
theorem d_X12_see_139 : decode prog_14_method_79_code 139 = .ok (.goto 4, 3) := gd_6 db00f_70
theorem d_X12_see_142 : decode prog_14_method_79_code 142 = .ok (.iconst 0, 1) := gd_7 db00f_70
theorem d_X12_see_143 : decode prog_14_method_79_code 143 = .ok (.iadd, 1) := gd_8 db00f_70
theorem d_X12_see_144 : decode prog_14_method_79_code 144 = .ok (.istore 4, 2) := gd_9 db00f_70
theorem d_X12_see_146 : decode prog_14_method_79_code 146 = .ok (.iinc 5 1, 3) := gd_10 db00f_70
theorem d_X12_see_149 : decode prog_14_method_79_code 149 = .ok (.goto (-33), 3) := gd_11 db00f_70
theorem d_X12_see_152 : decode prog_14_method_79_code 152 = .ok (.aload_n 0, 1) := gd_12 db00f_70
theorem d_X12_see_153 : decode prog_14_method_79_code 153 = .ok (.getfield 516, 3) := gd_13 db00f_70
theorem d_X12_see_156 : decode prog_14_method_79_code 156 = .ok (.istore 5, 2) := gd_14 db00f_70
theorem d_X12_see_158 : decode prog_14_method_79_code 158 = .ok (.aload_n 0, 1) := gd_15 db00f_70
theorem d_X12_see_159 : decode prog_14_method_79_code 159 = .ok (.getfield 178, 3) := gd_16 db00f_70
theorem d_X12_see_162 : decode prog_14_method_79_code 162 = .ok (.iload 5, 2) := gd_17 db00f_70
theorem d_X12_see_164 : decode prog_14_method_79_code 164 = .ok (.iload_n 1, 1) := gd_18 db00f_70
theorem d_X12_see_165 : decode prog_14_method_79_code 165 = .ok (.iastore, 1) := gd_19 db00f_70
theorem d_X12_see_166 : decode prog_14_method_79_code 166 = .ok (.aload_n 0, 1) := gd_20 db00f_70
theorem d_X12_see_167 : decode prog_14_method_79_code 167 = .ok (.getfield 181, 3) := gd_21 db00f_70
theorem d_X12_see_170 : decode prog_14_method_79_code 170 = .ok (.iload 5, 2) := gd_22 db00f_70
theorem d_X12_see_172 : decode prog_14_method_79_code 172 = .ok (.iload_n 3, 1) := gd_23 db00f_70
theorem db00f_71 : Ad_ prog_14_method_79_code [(173, .iastore, 1), (174, .aload_n 0, 1), (175, .getfield 184, 3), (178, .iload 5, 2), (180, .aload_n 0, 1), (181, .getfield 342, 3), (184, .iastore, 1), (185, .bipush 9, 2), (187, .iload 5, 2), (189, .imul, 1), (190, .istore 6, 2), (192, .aload_n 0, 1), (193, .getfield 196, 3), (196, .iload 6, 2), (198, .aload_n 0, 1), (199, .getfield 160, 3), (202, .iload_n 3, 1), (203, .iaload, 1), (204, .iastore, 1), (205, .aload_n 0, 1), (206, .getfield 196, 3), (209, .iload 6, 2), (211, .iconst 1, 1), (212, .iadd, 1)] := bch_ok prog_14_method_79_code _ 173 (by decide +kernel)
theorem d_X12_see_173 : decode prog_14_method_79_code 173 = .ok (.iastore, 1) := gd_0 db00f_71
theorem d_X12_see_174 : decode prog_14_method_79_code 174 = .ok (.aload_n 0, 1) := gd_1 db00f_71
theorem d_X12_see_175 : decode prog_14_method_79_code 175 = .ok (.getfield 184, 3) := gd_2 db00f_71
theorem d_X12_see_178 : decode prog_14_method_79_code 178 = .ok (.iload 5, 2) := gd_3 db00f_71
theorem d_X12_see_180 : decode prog_14_method_79_code 180 = .ok (.aload_n 0, 1) := gd_4 db00f_71
theorem d_X12_see_181 : decode prog_14_method_79_code 181 = .ok (.getfield 342, 3) := gd_5 db00f_71
theorem d_X12_see_184 : decode prog_14_method_79_code 184 = .ok (.iastore, 1) := gd_6 db00f_71
theorem d_X12_see_185 : decode prog_14_method_79_code 185 = .ok (.bipush 9, 2) := gd_7 db00f_71
theorem d_X12_see_187 : decode prog_14_method_79_code 187 = .ok (.iload 5, 2) := gd_8 db00f_71
theorem d_X12_see_189 : decode prog_14_method_79_code 189 = .ok (.imul, 1) := gd_9 db00f_71
theorem d_X12_see_190 : decode prog_14_method_79_code 190 = .ok (.istore 6, 2) := gd_10 db00f_71
theorem d_X12_see_192 : decode prog_14_method_79_code 192 = .ok (.aload_n 0, 1) := gd_11 db00f_71
theorem d_X12_see_193 : decode prog_14_method_79_code 193 = .ok (.getfield 196, 3) := gd_12 db00f_71
theorem d_X12_see_196 : decode prog_14_method_79_code 196 = .ok (.iload 6, 2) := gd_13 db00f_71
theorem d_X12_see_198 : decode prog_14_method_79_code 198 = .ok (.aload_n 0, 1) := gd_14 db00f_71
theorem d_X12_see_199 : decode prog_14_method_79_code 199 = .ok (.getfield 160, 3) := gd_15 db00f_71
theorem d_X12_see_202 : decode prog_14_method_79_code 202 = .ok (.iload_n 3, 1) := gd_16 db00f_71
theorem d_X12_see_203 : decode prog_14_method_79_code 203 = .ok (.iaload, 1) := gd_17 db00f_71
theorem d_X12_see_204 : decode prog_14_method_79_code 204 = .ok (.iastore, 1) := gd_18 db00f_71
theorem d_X12_see_205 : decode prog_14_method_79_code 205 = .ok (.aload_n 0, 1) := gd_19 db00f_71
theorem d_X12_see_206 : decode prog_14_method_79_code 206 = .ok (.getfield 196, 3) := gd_20 db00f_71
theorem d_X12_see_209 : decode prog_14_method_79_code 209 = .ok (.iload 6, 2) := gd_21 db00f_71
theorem d_X12_see_211 : decode prog_14_method_79_code 211 = .ok (.iconst 1, 1) := gd_22 db00f_71
theorem d_X12_see_212 : decode prog_14_method_79_code 212 = .ok (.iadd, 1) := gd_23 db00f_71
theorem db00f_72 : Ad_ prog_14_method_79_code [(213, .aload_n 0, 1), (214, .getfield 172, 3), (217, .iload_n 3, 1), (218, .iaload, 1), (219, .iastore, 1), (220, .aload_n 0, 1), (221, .getfield 196, 3), (224, .iload 6, 2), (226, .iconst 2, 1), (227, .iadd, 1), (228, .aload_n 0, 1), (229, .getfield 163, 3), (232, .iload_n 3, 1), (233, .iaload, 1), (234, .iastore, 1), (235, .aload_n 0, 1), (236, .getfield 196, 3), (239, .iload 6, 2), (241, .iconst 3, 1), (242, .iadd, 1), (243, .aload_n 0, 1), (244, .getfield 342, 3), (247, .bipush 60, 2), (249, .idiv, 1)] := bch_ok prog_14_method_79_code _ 213 (by decide +kernel)
theorem d_X12_see_213 : decode prog_14_method_79_code 213 = .ok (.aload_n 0, 1) := gd_0 db00f_72
theorem d_X12_see_214 : decode prog_14_method_79_code 214 = .ok (.getfield 172, 3) := gd_1 db00f_72
theorem d_X12_see_217 : decode prog_14_method_79_code 217 = .ok (.iload_n 3, 1) := gd_2 db00f_72
theorem d_X12_see_218 : decode prog_14_method_79_code 218 = .ok (.iaload, 1) := gd_3 db00f_72
theorem d_X12_see_219 : decode prog_14_method_79_code 219 = .ok (.iastore, 1) := gd_4 db00f_72
theorem d_X12_see_220 : decode prog_14_method_79_code 220 = .ok (.aload_n 0, 1) := gd_5 db00f_72
theorem d_X12_see_221 : decode prog_14_method_79_code 221 = .ok (.getfield 196, 3) := gd_6 db00f_72
theorem d_X12_see_224 : decode prog_14_method_79_code 224 = .ok (.iload 6, 2) := gd_7 db00f_72
theorem d_X12_see_226 : decode prog_14_method_79_code 226 = .ok (.iconst 2, 1) := gd_8 db00f_72
theorem d_X12_see_227 : decode prog_14_method_79_code 227 = .ok (.iadd, 1) := gd_9 db00f_72
theorem d_X12_see_228 : decode prog_14_method_79_code 228 = .ok (.aload_n 0, 1) := gd_10 db00f_72
theorem d_X12_see_229 : decode prog_14_method_79_code 229 = .ok (.getfield 163, 3) := gd_11 db00f_72
theorem d_X12_see_232 : decode prog_14_method_79_code 232 = .ok (.iload_n 3, 1) := gd_12 db00f_72
theorem d_X12_see_233 : decode prog_14_method_79_code 233 = .ok (.iaload, 1) := gd_13 db00f_72
theorem d_X12_see_234 : decode prog_14_method_79_code 234 = .ok (.iastore, 1) := gd_14 db00f_72
theorem d_X12_see_235 : decode prog_14_method_79_code 235 = .ok (.aload_n 0, 1) := gd_15 db00f_72
theorem d_X12_see_236 : decode prog_14_method_79_code 236 = .ok (.getfield 196, 3) := gd_16 db00f_72
theorem d_X12_see_239 : decode prog_14_method_79_code 239 = .ok (.iload 6, 2) := gd_17 db00f_72
theorem d_X12_see_241 : decode prog_14_method_79_code 241 = .ok (.iconst 3, 1) := gd_18 db00f_72
theorem d_X12_see_242 : decode prog_14_method_79_code 242 = .ok (.iadd, 1) := gd_19 db00f_72
theorem d_X12_see_243 : decode prog_14_method_79_code 243 = .ok (.aload_n 0, 1) := gd_20 db00f_72
theorem d_X12_see_244 : decode prog_14_method_79_code 244 = .ok (.getfield 342, 3) := gd_21 db00f_72
theorem d_X12_see_247 : decode prog_14_method_79_code 247 = .ok (.bipush 60, 2) := gd_22 db00f_72
theorem d_X12_see_249 : decode prog_14_method_79_code 249 = .ok (.idiv, 1) := gd_23 db00f_72
theorem db00f_73 : Ad_ prog_14_method_79_code [(250, .bipush 24, 2), (252, .irem, 1), (253, .iastore, 1), (254, .aload_n 0, 1), (255, .getfield 196, 3), (258, .iload 6, 2), (260, .iconst 4, 1), (261, .iadd, 1), (262, .aload_n 0, 1), (263, .getfield 342, 3), (266, .sipush 1440, 3), (269, .idiv, 1), (270, .iastore, 1), (271, .aload_n 0, 1), (272, .getfield 196, 3), (275, .iload 6, 2), (277, .iconst 5, 1), (278, .iadd, 1), (279, .aload_n 0, 1), (280, .iload_n 1, 1), (281, .aload_n 0, 1), (282, .getfield 342, 3), (285, .sipush 1440, 3), (288, .idiv, 1)] := bch_ok prog_14_method_79_code _ 250 (by decide +kernel)
theorem d_X12_see_250 : decode prog_14_method_79_code 250 = .ok (.bipush 24, 2) := gd_0 db00f_73
theorem d_X12_see_252 : decode prog_14_method_79_code 252 = .ok (.irem, 1) := gd_1 db00f_73
theorem d_X12_see_253 : decode prog_14_method_79_code 253 = .ok (.iastore, 1) := gd_2 db00f_73
theorem d_X12_see_254 : decode prog_14_method_79_code 254 = .ok (.aload_n 0, 1) := gd_3 db00f_73
theorem d_X12_see_255 : decode prog_14_method_79_code 255 = .ok (.getfield 196, 3) := gd_4 db00f_73
theorem d_X12_see_258 : decode prog_14_method_79_code 258 = .ok (.iload 6, 2) := gd_5 db00f_73
theorem d_X12_see_260 : decode prog_14_method_79_code 260 = .ok (.iconst 4, 1) := gd_6 db00f_73
theorem d_X12_see_261 : decode prog_14_method_79_code 261 = .ok (.iadd, 1) := gd_7 db00f_73
theorem d_X12_see_262 : decode prog_14_method_79_code 262 = .ok (.aload_n 0, 1) := gd_8 db00f_73
theorem d_X12_see_263 : decode prog_14_method_79_code 263 = .ok (.getfield 342, 3) := gd_9 db00f_73
theorem d_X12_see_266 : decode prog_14_method_79_code 266 = .ok (.sipush 1440, 3) := gd_10 db00f_73
theorem d_X12_see_269 : decode prog_14_method_79_code 269 = .ok (.idiv, 1) := gd_11 db00f_73
theorem d_X12_see_270 : decode prog_14_method_79_code 270 = .ok (.iastore, 1) := gd_12 db00f_73
theorem d_X12_see_271 : decode prog_14_method_79_code 271 = .ok (.aload_n 0, 1) := gd_13 db00f_73
theorem d_X12_see_272 : decode prog_14_method_79_code 272 = .ok (.getfield 196, 3) := gd_14 db00f_73
theorem d_X12_see_275 : decode prog_14_method_79_code 275 = .ok (.iload 6, 2) := gd_15 db00f_73
theorem d_X12_see_277 : decode prog_14_method_79_code 277 = .ok (.iconst 5, 1) := gd_16 db00f_73
theorem d_X12_see_278 : decode prog_14_method_79_code 278 = .ok (.iadd, 1) := gd_17 db00f_73
theorem d_X12_see_279 : decode prog_14_method_79_code 279 = .ok (.aload_n 0, 1) := gd_18 db00f_73
theorem d_X12_see_280 : decode prog_14_method_79_code 280 = .ok (.iload_n 1, 1) := gd_19 db00f_73
theorem d_X12_see_281 : decode prog_14_method_79_code 281 = .ok (.aload_n 0, 1) := gd_20 db00f_73
theorem d_X12_see_282 : decode prog_14_method_79_code 282 = .ok (.getfield 342, 3) := gd_21 db00f_73
theorem d_X12_see_285 : decode prog_14_method_79_code 285 = .ok (.sipush 1440, 3) := gd_22 db00f_73
theorem d_X12_see_288 : decode prog_14_method_79_code 288 = .ok (.idiv, 1) := gd_23 db00f_73
theorem db00f_74 : Ad_ prog_14_method_79_code [(289, .aload_n 0, 1), (290, .getfield 342, 3), (293, .invokevirtual 354, 3), (296, .iastore, 1), (297, .aload_n 0, 1), (298, .getfield 196, 3), (301, .iload 6, 2), (303, .bipush 6, 2), (305, .iadd, 1), (306, .iload_n 2, 1), (307, .iastore, 1), (308, .aload_n 0, 1), (309, .getfield 196, 3), (312, .iload 6, 2), (314, .bipush 7, 2), (316, .iadd, 1), (317, .iload 4, 2), (319, .iastore, 1), (320, .aload_n 0, 1), (321, .getfield 196, 3), (324, .iload 6, 2), (326, .bipush 8, 2), (328, .iadd, 1), (329, .aload_n 0, 1)] := bch_ok prog_14_method_79_code _ 289 (by decide +kernel)
theorem d_X12_see_289 : decode prog_14_method_79_code 289 = .ok (.aload_n 0, 1) := gd_0 db00f_74
theorem d_X12_see_290 : decode prog_14_method_79_code 290 = .ok (.getfield 342, 3) := gd_1 db00f_74
theorem d_X12_see_293 : decode prog_14_method_79_code 293 = .ok (.invokevirtual 354, 3) := gd_2 db00f_74
theorem d_X12_see_296 : decode prog_14_method_79_code 296 = .ok (.iastore, 1) := gd_3 db00f_74
theorem d_X12_see_297 : decode prog_14_method_79_code 297 = .ok (.aload_n 0, 1) := gd_4 db00f_74
theorem d_X12_see_298 : decode prog_14_method_79_code 298 = .ok (.getfield 196, 3) := gd_5 db00f_74
theorem d_X12_see_301 : decode prog_14_method_79_code 301 = .ok (.iload 6, 2) := gd_6 db00f_74
theorem d_X12_see_303 : decode prog_14_method_79_code 303 = .ok (.bipush 6, 2) := gd_7 db00f_74
theorem d_X12_see_305 : decode prog_14_method_79_code 305 = .ok (.iadd, 1) := gd_8 db00f_74
theorem d_X12_see_306 : decode prog_14_method_79_code 306 = .ok (.iload_n 2, 1) := gd_9 db00f_74
theorem d_X12_see_307 : decode prog_14_method_79_code 307 = .ok (.iastore, 1) := gd_10 db00f_74
theorem d_X12_see_308 : decode prog_14_method_79_code 308 = .ok (.aload_n 0, 1) := gd_11 db00f_74
theorem d_X12_see_309 : decode prog_14_method_79_code 309 = .ok (.getfield 196, 3) := gd_12 db00f_74
theorem d_X12_see_312 : decode prog_14_method_79_code 312 = .ok (.iload 6, 2) := gd_13 db00f_74
theorem d_X12_see_314 : decode prog_14_method_79_code 314 = .ok (.bipush 7, 2) := gd_14 db00f_74
theorem d_X12_see_316 : decode prog_14_method_79_code 316 = .ok (.iadd, 1) := gd_15 db00f_74
theorem d_X12_see_317 : decode prog_14_method_79_code 317 = .ok (.iload 4, 2) := gd_16 db00f_74
theorem d_X12_see_319 : decode prog_14_method_79_code 319 = .ok (.iastore, 1) := gd_17 db00f_74
theorem d_X12_see_320 : decode prog_14_method_79_code 320 = .ok (.aload_n 0, 1) := gd_18 db00f_74
theorem d_X12_see_321 : decode prog_14_method_79_code 321 = .ok (.getfield 196, 3) := gd_19 db00f_74
theorem d_X12_see_324 : decode prog_14_method_79_code 324 = .ok (.iload 6, 2) := gd_20 db00f_74
theorem d_X12_see_326 : decode prog_14_method_79_code 326 = .ok (.bipush 8, 2) := gd_21 db00f_74
theorem d_X12_see_328 : decode prog_14_method_79_code 328 = .ok (.iadd, 1) := gd_22 db00f_74
theorem d_X12_see_329 : decode prog_14_method_79_code 329 = .ok (.aload_n 0, 1) := gd_23 db00f_74
theorem db00f_75 : Ad_ prog_14_method_79_code [(330, .getfield 342, 3), (333, .aload_n 0, 1), (334, .getfield 166, 3), (337, .iload_n 3, 1), (338, .iaload, 1), (339, .isub, 1), (340, .iastore, 1), (341, .aload_n 0, 1), (342, .getfield 187, 3), (345, .iload 5, 2), (347, .aload_n 0, 1), (348, .iload 5, 2), (350, .aload_n 0, 1), (351, .getfield 342, 3), (354, .invokevirtual 573, 3), (357, .iastore, 1), (358, .aload_n 0, 1), (359, .getfield 190, 3), (362, .iload 5, 2), (364, .iconst (-1), 1), (365, .iastore, 1), (366, .aload_n 0, 1), (367, .getfield 193, 3), (370, .iload 5, 2)] := bch_ok prog_14_method_79_code _ 330 (by decide +kernel)
theorem d_X12_see_330 : decode prog_14_method_79_code 330 = .ok (.getfield 342, 3) := gd_0 db00f_75
theorem d_X12_see_333 : decode prog_14_method_79_code 333 = .ok (.aload_n 0, 1) := gd_1 db00f_75
theorem d_X12_see_334 : decode prog_14_method_79_code 334 = .ok (.getfield 166, 3) := gd_2 db00f_75
theorem d_X12_see_337 : decode prog_14_method_79_code 337 = .ok (.iload_n 3, 1) := gd_3 db00f_75
theorem d_X12_see_338 : decode prog_14_method_79_code 338 = .ok (.iaload, 1) := gd_4 db00f_75
theorem d_X12_see_339 : decode prog_14_method_79_code 339 = .ok (.isub, 1) := gd_5 db00f_75
theorem d_X12_see_340 : decode prog_14_method_79_code 340 = .ok (.iastore, 1) := gd_6 db00f_75
theorem d_X12_see_341 : decode prog_14_method_79_code 341 = .ok (.aload_n 0, 1) := gd_7 db00f_75
theorem d_X12_see_342 : decode prog_14_method_79_code 342 = .ok (.getfield 187, 3) := gd_8 db00f_75
theorem d_X12_see_345 : decode prog_14_method_79_code 345 = .ok (.iload 5, 2) := gd_9 db00f_75
theorem d_X12_see_347 : decode prog_14_method_79_code 347 = .ok (.aload_n 0, 1) := gd_10 db00f_75
theorem d_X12_see_348 : decode prog_14_method_79_code 348 = .ok (.iload 5, 2) := gd_11 db00f_75
theorem d_X12_see_350 : decode prog_14_method_79_code 350 = .ok (.aload_n 0, 1) := gd_12 db00f_75
theorem d_X12_see_351 : decode prog_14_method_79_code 351 = .ok (.getfield 342, 3) := gd_13 db00f_75
theorem d_X12_see_354 : decode prog_14_method_79_code 354 = .ok (.invokevirtual 573, 3) := gd_14 db00f_75
theorem d_X12_see_357 : decode prog_14_method_79_code 357 = .ok (.iastore, 1) := gd_15 db00f_75
theorem d_X12_see_358 : decode prog_14_method_79_code 358 = .ok (.aload_n 0, 1) := gd_16 db00f_75
theorem d_X12_see_359 : decode prog_14_method_79_code 359 = .ok (.getfield 190, 3) := gd_17 db00f_75
theorem d_X12_see_362 : decode prog_14_method_79_code 362 = .ok (.iload 5, 2) := gd_18 db00f_75
theorem d_X12_see_364 : decode prog_14_method_79_code 364 = .ok (.iconst (-1), 1) := gd_19 db00f_75
theorem d_X12_see_365 : decode prog_14_method_79_code 365 = .ok (.iastore, 1) := gd_20 db00f_75
theorem d_X12_see_366 : decode prog_14_method_79_code 366 = .ok (.aload_n 0, 1) := gd_21 db00f_75
theorem d_X12_see_367 : decode prog_14_method_79_code 367 = .ok (.getfield 193, 3) := gd_22 db00f_75
theorem d_X12_see_370 : decode prog_14_method_79_code 370 = .ok (.iload 5, 2) := gd_23 db00f_75
theorem db00f_76 : Ad_ prog_14_method_79_code [(372, .iconst (-1), 1), (373, .iastore, 1), (374, .aload_n 0, 1), (375, .getfield 187, 3), (378, .iload 5, 2), (380, .iaload, 1), (381, .iconst 1, 1), (382, .if_icmp .le 40, 3), (385, .aload_n 0, 1), (386, .aload_n 0, 1), (387, .getfield 37, 3), (390, .iload_n 1, 1), (391, .iaload, 1), (392, .iconst 0, 1), (393, .invokevirtual 335, 3), (396, .istore 7, 2), (398, .aload_n 0, 1), (399, .getfield 193, 3), (402, .iload 5, 2), (404, .iload 7, 2), (406, .iconst (-1), 1), (407, .if_icmp .ne 7, 3), (410, .iconst (-1), 1), (411, .goto 10, 3)] := bch_ok prog_14_method_79_code _ 372 (by decide +kernel)
theorem d_X12_see_372 : decode prog_14_method_79_code 372 = .ok (.iconst (-1), 1) := gd_0 db00f_76
theorem d_X12_see_373 : decode prog_14_method_79_code 373 = .ok (.iastore, 1) := gd_1 db00f_76
theorem d_X12_see_374 : decode prog_14_method_79_code 374 = .ok (.aload_n 0, 1) := gd_2 db00f_76
theorem d_X12_see_375 : decode prog_14_method_79_code 375 = .ok (.getfield 187, 3) := gd_3 db00f_76
theorem d_X12_see_378 : decode prog_14_method_79_code 378 = .ok (.iload 5, 2) := gd_4 db00f_76
theorem d_X12_see_380 : decode prog_14_method_79_code 380 = .ok (.iaload, 1) := gd_5 db00f_76
theorem d_X12_see_381 : decode prog_14_method_79_code 381 = .ok (.iconst 1, 1) := gd_6 db00f_76
theorem d_X12_see_382 : decode prog_14_method_79_code 382 = .ok (.if_icmp .le 40, 3) := gd_7 db00f_76
theorem d_X12_see_385 : decode prog_14_method_79_code 385 = .ok (.aload_n 0, 1) := gd_8 db00f_76
theorem d_X12_see_386 : decode prog_14_method_79_code 386 = .ok (.aload_n 0, 1) := gd_9 db00f_76
theorem d_X12_see_387 : decode prog_14_method_79_code 387 = .ok (.getfield 37, 3) := gd_10 db00f_76
theorem d_X12_see_390 : decode prog_14_method_79_code 390 = .ok (.iload_n 1, 1) := gd_11 db00f_76
theorem d_X12_see_391 : decode prog_14_method_79_code 391 = .ok (.iaload, 1) := gd_12 db00f_76
theorem d_X12_see_392 : decode prog_14_method_79_code 392 = .ok (.iconst 0, 1) := gd_13 db00f_76
theorem d_X12_see_393 : decode prog_14_method_79_code 393 = .ok (.invokevirtual 335, 3) := gd_14 db00f_76
theorem d_X12_see_396 : decode prog_14_method_79_code 396 = .ok (.istore 7, 2) := gd_15 db00f_76
theorem d_X12_see_398 : decode prog_14_method_79_code 398 = .ok (.aload_n 0, 1) := gd_16 db00f_76
theorem d_X12_see_399 : decode prog_14_method_79_code 399 = .ok (.getfield 193, 3) := gd_17 db00f_76
theorem d_X12_see_402 : decode prog_14_method_79_code 402 = .ok (.iload 5, 2) := gd_18 db00f_76
theorem d_X12_see_404 : decode prog_14_method_79_code 404 = .ok (.iload 7, 2) := gd_19 db00f_76
theorem d_X12_see_406 : decode prog_14_method_79_code 406 = .ok (.iconst (-1), 1) := gd_20 db00f_76
theorem d_X12_see_407 : decode prog_14_method_79_code 407 = .ok (.if_icmp .ne 7, 3) := gd_21 db00f_76
theorem d_X12_see_410 : decode prog_14_method_79_code 410 = .ok (.iconst (-1), 1) := gd_22 db00f_76
theorem d_X12_see_411 : decode prog_14_method_79_code 411 = .ok (.goto 10, 3) := gd_23 db00f_76
theorem db00f_77 : Ad_ prog_14_method_79_code [(414, .aload_n 0, 1), (415, .getfield 342, 3), (418, .iload 7, 2), (420, .iadd, 1), (421, .iastore, 1), (422, .aload_n 0, 1), (423, .getfield 187, 3), (426, .iload 5, 2), (428, .iaload, 1), (429, .iconst 3, 1), (430, .if_icmp .ne 36, 3), (433, .aload_n 0, 1), (434, .getfield 175, 3), (437, .iload_n 3, 1), (438, .iconst 1, 1), (439, .bastore, 1), (440, .aload_n 0, 1), (441, .getfield 576, 3), (444, .bipush 30, 2), (446, .if_icmp .ge 20, 3), (449, .aload_n 0, 1), (450, .getfield 190, 3), (453, .iload 5, 2), (455, .aload_n 0, 1)] := bch_ok prog_14_method_79_code _ 414 (by decide +kernel)
theorem d_X12_see_414 : decode prog_14_method_79_code 414 = .ok (.aload_n 0, 1) := gd_0 db00f_77
theorem d_X12_see_415 : decode prog_14_method_79_code 415 = .ok (.getfield 342, 3) := gd_1 db00f_77
theorem d_X12_see_418 : decode prog_14_method_79_code 418 = .ok (.iload 7, 2) := gd_2 db00f_77
theorem d_X12_see_420 : decode prog_14_method_79_code 420 = .ok (.iadd, 1) := gd_3 db00f_77
theorem d_X12_see_421 : decode prog_14_method_79_code 421 = .ok (.iastore, 1) := gd_4 db00f_77
theorem d_X12_see_422 : decode prog_14_method_79_code 422 = .ok (.aload_n 0, 1) := gd_5 db00f_77
theorem d_X12_see_423 : decode prog_14_method_79_code 423 = .ok (.getfield 187, 3) := gd_6 db00f_77
theorem d_X12_see_426 : decode prog_14_method_79_code 426 = .ok (.iload 5, 2) := gd_7 db00f_77
theorem d_X12_see_428 : decode prog_14_method_79_code 428 = .ok (.iaload, 1) := gd_8 db00f_77
theorem d_X12_see_429 : decode prog_14_method_79_code 429 = .ok (.iconst 3, 1) := gd_9 db00f_77
theorem d_X12_see_430 : decode prog_14_method_79_code 430 = .ok (.if_icmp .ne 36, 3) := gd_10 db00f_77
theorem d_X12_see_433 : decode prog_14_method_79_code 433 = .ok (.aload_n 0, 1) := gd_11 db00f_77
theorem d_X12_see_434 : decode prog_14_method_79_code 434 = .ok (.getfield 175, 3) := gd_12 db00f_77
theorem d_X12_see_437 : decode prog_14_method_79_code 437 = .ok (.iload_n 3, 1) := gd_13 db00f_77
theorem d_X12_see_438 : decode prog_14_method_79_code 438 = .ok (.iconst 1, 1) := gd_14 db00f_77
theorem d_X12_see_439 : decode prog_14_method_79_code 439 = .ok (.bastore, 1) := gd_15 db00f_77
theorem d_X12_see_440 : decode prog_14_method_79_code 440 = .ok (.aload_n 0, 1) := gd_16 db00f_77
theorem d_X12_see_441 : decode prog_14_method_79_code 441 = .ok (.getfield 576, 3) := gd_17 db00f_77
theorem d_X12_see_444 : decode prog_14_method_79_code 444 = .ok (.bipush 30, 2) := gd_18 db00f_77
theorem d_X12_see_446 : decode prog_14_method_79_code 446 = .ok (.if_icmp .ge 20, 3) := gd_19 db00f_77
theorem d_X12_see_449 : decode prog_14_method_79_code 449 = .ok (.aload_n 0, 1) := gd_20 db00f_77
theorem d_X12_see_450 : decode prog_14_method_79_code 450 = .ok (.getfield 190, 3) := gd_21 db00f_77
theorem d_X12_see_453 : decode prog_14_method_79_code 453 = .ok (.iload 5, 2) := gd_22 db00f_77
theorem d_X12_see_455 : decode prog_14_method_79_code 455 = .ok (.aload_n 0, 1) := gd_23 db00f_77
theorem db00f_78 : Ad_ prog_14_method_79_code [(456, .aload_n 0, 1), (457, .getfield 160, 3), (460, .iload_n 3, 1), (461, .iaload, 1), (462, .invokevirtual 579, 3), (465, .iastore, 1), (466, .aload_n 0, 1), (467, .dup, 1), (468, .getfield 516, 3), (471, .iconst 1, 1), (472, .iadd, 1), (473, .putfield 516, 3), (476, .iinc 3 1, 3), (479, .goto (-436), 3), (482, .return_, 1)] := bch_ok prog_14_method_79_code _ 456 (by decide +kernel)
theorem d_X12_see_456 : decode prog_14_method_79_code 456 = .ok (.aload_n 0, 1) := gd_0 db00f_78
theorem d_X12_see_457 : decode prog_14_method_79_code 457 = .ok (.getfield 160, 3) := gd_1 db00f_78
theorem d_X12_see_460 : decode prog_14_method_79_code 460 = .ok (.iload_n 3, 1) := gd_2 db00f_78
theorem d_X12_see_461 : decode prog_14_method_79_code 461 = .ok (.iaload, 1) := gd_3 db00f_78
theorem d_X12_see_462 : decode prog_14_method_79_code 462 = .ok (.invokevirtual 579, 3) := gd_4 db00f_78
theorem d_X12_see_465 : decode prog_14_method_79_code 465 = .ok (.iastore, 1) := gd_5 db00f_78
theorem d_X12_see_466 : decode prog_14_method_79_code 466 = .ok (.aload_n 0, 1) := gd_6 db00f_78
theorem d_X12_see_467 : decode prog_14_method_79_code 467 = .ok (.dup, 1) := gd_7 db00f_78
theorem d_X12_see_468 : decode prog_14_method_79_code 468 = .ok (.getfield 516, 3) := gd_8 db00f_78
theorem d_X12_see_471 : decode prog_14_method_79_code 471 = .ok (.iconst 1, 1) := gd_9 db00f_78
theorem d_X12_see_472 : decode prog_14_method_79_code 472 = .ok (.iadd, 1) := gd_10 db00f_78
theorem d_X12_see_473 : decode prog_14_method_79_code 473 = .ok (.putfield 516, 3) := gd_11 db00f_78
theorem d_X12_see_476 : decode prog_14_method_79_code 476 = .ok (.iinc 3 1, 3) := gd_12 db00f_78
theorem d_X12_see_479 : decode prog_14_method_79_code 479 = .ok (.goto (-436), 3) := gd_13 db00f_78
theorem d_X12_see_482 : decode prog_14_method_79_code 482 = .ok (.return_, 1) := gd_14 db00f_78
theorem db00f_79 : Ad_ prog_14_method_80_code [(0, .iconst 0, 1), (1, .istore_n 3, 1), (2, .iload_n 3, 1), (3, .bipush 9, 2), (5, .if_icmp .ge 29, 3), (8, .aload_n 0, 1), (9, .getfield 120, 3), (12, .iload_n 3, 1), (13, .invokestatic 582, 3), (16, .aload_n 0, 1), (17, .getfield 196, 3), (20, .bipush 9, 2), (22, .iload_n 1, 1), (23, .imul, 1), (24, .iload_n 3, 1), (25, .iadd, 1), (26, .iaload, 1), (27, .iastore, 1), (28, .iinc 3 1, 3), (31, .goto (-29), 3), (34, .aload_n 0, 1), (35, .iconst 0, 1), (36, .aload_n 0, 1), (37, .iconst 0, 1)] := bch_ok prog_14_method_80_code _ 0 (by decide +kernel)
theorem d_X12_lets_0 : decode prog_14_method_80_code 0 = .ok (.iconst 0, 1) := gd_0 db00f_79
theorem d_X12_lets_1 : decode prog_14_method_80_code 1 = .ok (.istore_n 3, 1) := gd_1 db00f_79
theorem d_X12_lets_2 : decode prog_14_method_80_code 2 = .ok (.iload_n 3, 1) := gd_2 db00f_79
theorem d_X12_lets_3 : decode prog_14_method_80_code 3 = .ok (.bipush 9, 2) := gd_3 db00f_79
theorem d_X12_lets_5 : decode prog_14_method_80_code 5 = .ok (.if_icmp .ge 29, 3) := gd_4 db00f_79
theorem d_X12_lets_8 : decode prog_14_method_80_code 8 = .ok (.aload_n 0, 1) := gd_5 db00f_79
theorem d_X12_lets_9 : decode prog_14_method_80_code 9 = .ok (.getfield 120, 3) := gd_6 db00f_79
theorem d_X12_lets_12 : decode prog_14_method_80_code 12 = .ok (.iload_n 3, 1) := gd_7 db00f_79
theorem d_X12_lets_13 : decode prog_14_method_80_code 13 = .ok (.invokestatic 582, 3) := gd_8 db00f_79
theorem d_X12_lets_16 : decode prog_14_method_80_code 16 = .ok (.aload_n 0, 1) := gd_9 db00f_79
theorem d_X12_lets_17 : decode prog_14_method_80_code 17 = .ok (.getfield 196, 3) := gd_10 db00f_79
theorem d_X12_lets_20 : decode prog_14_method_80_code 20 = .ok (.bipush 9, 2) := gd_11 db00f_79
theorem d_X12_lets_22 : decode prog_14_method_80_code 22 = .ok (.iload_n 1, 1) := gd_12 db00f_79
theorem d_X12_lets_23 : decode prog_14_method_80_code 23 = .ok (.imul, 1) := gd_13 db00f_79
theorem d_X12_lets_24 : decode prog_14_method_80_code 24 = .ok (.iload_n 3, 1) := gd_14 db00f_79
theorem d_X12_lets_25 : decode prog_14_method_80_code 25 = .ok (.iadd, 1) := gd_15 db00f_79
theorem d_X12_lets_26 : decode prog_14_method_80_code 26 = .ok (.iaload, 1) := gd_16 db00f_79
theorem d_X12_lets_27 : decode prog_14_method_80_code 27 = .ok (.iastore, 1) := gd_17 db00f_79
theorem d_X12_lets_28 : decode prog_14_method_80_code 28 = .ok (.iinc 3 1, 3) := gd_18 db00f_79
theorem d_X12_lets_31 : decode prog_14_method_80_code 31 = .ok (.goto (-29), 3) := gd_19 db00f_79
theorem d_X12_lets_34 : decode prog_14_method_80_code 34 = .ok (.aload_n 0, 1) := gd_20 db00f_79
theorem d_X12_lets_35 : decode prog_14_method_80_code 35 = .ok (.iconst 0, 1) := gd_21 db00f_79
theorem d_X12_lets_36 : decode prog_14_method_80_code 36 = .ok (.aload_n 0, 1) := gd_22 db00f_79
theorem d_X12_lets_37 : decode prog_14_method_80_code 37 = .ok (.iconst 0, 1) := gd_23 db00f_79
theorem db00f_80 : Ad_ prog_14_method_80_code [(38, .aload_n 0, 1), (39, .getfield 184, 3), (42, .iload_n 1, 1), (43, .iaload, 1), (44, .sipush 1440, 3), (47, .idiv, 1), (48, .iload_n 2, 1), (49, .invokevirtual 471, 3), (52, .invokevirtual 585, 3), (55, .ireturn, 1)] := bch_ok prog_14_method_80_code _ 38 (by decide +kernel)
theorem d_X12_lets_38 : decode prog_14_method_80_code 38 = .ok (.aload_n 0, 1) := gd_0 db00f_80
theorem d_X12_lets_39 : decode prog_14_method_80_code 39 = .ok (.getfield 184, 3) := gd_1 db00f_80
theorem d_X12_lets_42 : decode prog_14_method_80_code 42 = .ok (.iload_n 1, 1) := gd_2 db00f_80
theorem d_X12_lets_43 : decode prog_14_method_80_code 43 = .ok (.iaload, 1) := gd_3 db00f_80
theorem d_X12_lets_44 : decode prog_14_method_80_code 44 = .ok (.sipush 1440, 3) := gd_4 db00f_80
theorem d_X12_lets_47 : decode prog_14_method_80_code 47 = .ok (.idiv, 1) := gd_5 db00f_80
theorem d_X12_lets_48 : decode prog_14_method_80_code 48 = .ok (.iload_n 2, 1) := gd_6 db00f_80
theorem d_X12_lets_49 : decode prog_14_method_80_code 49 = .ok (.invokevirtual 471, 3) := gd_7 db00f_80
theorem d_X12_lets_52 : decode prog_14_method_80_code 52 = .ok (.invokevirtual 585, 3) := gd_8 db00f_80
theorem d_X12_lets_55 : decode prog_14_method_80_code 55 = .ok (.ireturn, 1) := gd_9 db00f_80
theorem d_X12_sighting_17 : decode prog_14_method_81_code 17 = .ok (.tableswitch 81 0 5 #[39, 46, 53, 60, 67, 74], 39) := by decide +kernel
theorem db00f_81 : Ad_ prog_14_method_81_code [(0, .iload_n 1, 1), (1, .iconst 0, 1), (2, .aload_n 0, 1), (3, .getfield 516, 3), (6, .iconst 1, 1), (7, .isub, 1), (8, .invokestatic 323, 3), (11, .ifCond .ne 5, 3), (14, .iconst (-1), 1), (15, .ireturn, 1), (16, .iload_n 2, 1), (56, .aload_n 0, 1), (57, .getfield 178, 3), (60, .iload_n 1, 1), (61, .iaload, 1), (62, .ireturn, 1), (63, .aload_n 0, 1), (64, .getfield 181, 3), (67, .iload_n 1, 1), (68, .iaload, 1), (69, .ireturn, 1), (70, .aload_n 0, 1), (71, .getfield 184, 3), (74, .iload_n 1, 1)] := bch_ok prog_14_method_81_code _ 0 (by decide +kernel)
theorem d_X12_sighting_0 : decode prog_14_method_81_code 0 = .ok (.iload_n 1, 1) := gd_0 db00f_81
theorem d_X12_sighting_1 : decode prog_14_method_81_code 1 = .ok (.iconst 0, 1) := gd_1 db00f_81
theorem d_X12_sighting_2 : decode prog_14_method_81_code 2 = .ok (.aload_n 0, 1) := gd_2 db00f_81
theorem d_X12_sighting_3 : decode prog_14_method_81_code 3 = .ok (.getfield 516, 3) := gd_3 db00f_81
theorem d_X12_sighting_6 : decode prog_14_method_81_code 6 = .ok (.iconst 1, 1) := gd_4 db00f_81
theorem d_X12_sighting_7 : decode prog_14_method_81_code 7 = .ok (.isub, 1) := gd_5 db00f_81
theorem d_X12_sighting_8 : decode prog_14_method_81_code 8 = .ok (.invokestatic 323, 3) := gd_6 db00f_81
theorem d_X12_sighting_11 : decode prog_14_method_81_code 11 = .ok (.ifCond .ne 5, 3) := gd_7 db00f_81
theorem d_X12_sighting_14 : decode prog_14_method_81_code 14 = .ok (.iconst (-1), 1) := gd_8 db00f_81
theorem d_X12_sighting_15 : decode prog_14_method_81_code 15 = .ok (.ireturn, 1) := gd_9 db00f_81
theorem d_X12_sighting_16 : decode prog_14_method_81_code 16 = .ok (.iload_n 2, 1) := gd_10 db00f_81
theorem d_X12_sighting_56 : decode prog_14_method_81_code 56 = .ok (.aload_n 0, 1) := gd_11 db00f_81
theorem d_X12_sighting_57 : decode prog_14_method_81_code 57 = .ok (.getfield 178, 3) := gd_12 db00f_81
theorem d_X12_sighting_60 : decode prog_14_method_81_code 60 = .ok (.iload_n 1, 1) := gd_13 db00f_81
theorem d_X12_sighting_61 : decode prog_14_method_81_code 61 = .ok (.iaload, 1) := gd_14 db00f_81
theorem d_X12_sighting_62 : decode prog_14_method_81_code 62 = .ok (.ireturn, 1) := gd_15 db00f_81
theorem d_X12_sighting_63 : decode prog_14_method_81_code 63 = .ok (.aload_n 0, 1) := gd_16 db00f_81
theorem d_X12_sighting_64 : decode prog_14_method_81_code 64 = .ok (.getfield 181, 3) := gd_17 db00f_81
theorem d_X12_sighting_67 : decode prog_14_method_81_code 67 = .ok (.iload_n 1, 1) := gd_18 db00f_81
theorem d_X12_sighting_68 : decode prog_14_method_81_code 68 = .ok (.iaload, 1) := gd_19 db00f_81
theorem d_X12_sighting_69 : decode prog_14_method_81_code 69 = .ok (.ireturn, 1) := gd_20 db00f_81
theorem d_X12_sighting_70 : decode prog_14_method_81_code 70 = .ok (.aload_n 0, 1) := gd_21 db00f_81
theorem d_X12_sighting_71 : decode prog_14_method_81_code 71 = .ok (.getfield 184, 3) := gd_22 db00f_81
theorem d_X12_sighting_74 : decode prog_14_method_81_code 74 = .ok (.iload_n 1, 1) := gd_23 db00f_81
theorem db00f_82 : Ad_ prog_14_method_81_code [(75, .iaload, 1), (76, .ireturn, 1), (77, .aload_n 0, 1), (78, .getfield 187, 3), (81, .iload_n 1, 1), (82, .iaload, 1), (83, .ireturn, 1), (84, .aload_n 0, 1), (85, .getfield 190, 3), (88, .iload_n 1, 1), (89, .iaload, 1), (90, .ireturn, 1), (91, .aload_n 0, 1), (92, .getfield 193, 3), (95, .iload_n 1, 1), (96, .iaload, 1), (97, .ireturn, 1), (98, .iconst (-1), 1), (99, .ireturn, 1)] := bch_ok prog_14_method_81_code _ 75 (by decide +kernel)
theorem d_X12_sighting_75 : decode prog_14_method_81_code 75 = .ok (.iaload, 1) := gd_0 db00f_82
theorem d_X12_sighting_76 : decode prog_14_method_81_code 76 = .ok (.ireturn, 1) := gd_1 db00f_82
theorem d_X12_sighting_77 : decode prog_14_method_81_code 77 = .ok (.aload_n 0, 1) := gd_2 db00f_82
theorem d_X12_sighting_78 : decode prog_14_method_81_code 78 = .ok (.getfield 187, 3) := gd_3 db00f_82
theorem d_X12_sighting_81 : decode prog_14_method_81_code 81 = .ok (.iload_n 1, 1) := gd_4 db00f_82
theorem d_X12_sighting_82 : decode prog_14_method_81_code 82 = .ok (.iaload, 1) := gd_5 db00f_82
theorem d_X12_sighting_83 : decode prog_14_method_81_code 83 = .ok (.ireturn, 1) := gd_6 db00f_82
theorem d_X12_sighting_84 : decode prog_14_method_81_code 84 = .ok (.aload_n 0, 1) := gd_7 db00f_82
theorem d_X12_sighting_85 : decode prog_14_method_81_code 85 = .ok (.getfield 190, 3) := gd_8 db00f_82
theorem d_X12_sighting_88 : decode prog_14_method_81_code 88 = .ok (.iload_n 1, 1) := gd_9 db00f_82
theorem d_X12_sighting_89 : decode prog_14_method_81_code 89 = .ok (.iaload, 1) := gd_10 db00f_82
theorem d_X12_sighting_90 : decode prog_14_method_81_code 90 = .ok (.ireturn, 1) := gd_11 db00f_82
theorem d_X12_sighting_91 : decode prog_14_method_81_code 91 = .ok (.aload_n 0, 1) := gd_12 db00f_82
theorem d_X12_sighting_92 : decode prog_14_method_81_code 92 = .ok (.getfield 193, 3) := gd_13 db00f_82
theorem d_X12_sighting_95 : decode prog_14_method_81_code 95 = .ok (.iload_n 1, 1) := gd_14 db00f_82
theorem d_X12_sighting_96 : decode prog_14_method_81_code 96 = .ok (.iaload, 1) := gd_15 db00f_82
theorem d_X12_sighting_97 : decode prog_14_method_81_code 97 = .ok (.ireturn, 1) := gd_16 db00f_82
theorem d_X12_sighting_98 : decode prog_14_method_81_code 98 = .ok (.iconst (-1), 1) := gd_17 db00f_82
theorem d_X12_sighting_99 : decode prog_14_method_81_code 99 = .ok (.ireturn, 1) := gd_18 db00f_82
theorem db00f_83 : Ad_ prog_14_method_82_code [(0, .iload_n 1, 1), (1, .iconst 0, 1), (2, .aload_n 0, 1), (3, .getfield 516, 3), (6, .iconst 1, 1), (7, .isub, 1), (8, .invokestatic 323, 3), (11, .ifCond .eq 29, 3), (14, .iload_n 2, 1), (15, .aload_n 0, 1), (16, .getfield 184, 3), (19, .iload_n 1, 1), (20, .iaload, 1), (21, .aload_n 0, 1), (22, .getfield 342, 3), (25, .invokestatic 323, 3), (28, .ifCond .eq 12, 3), (31, .aload_n 0, 1), (32, .iload_n 1, 1), (33, .iload_n 2, 1), (34, .invokevirtual 573, 3), (37, .goto 4, 3), (40, .iconst (-1), 1), (41, .ireturn, 1)] := bch_ok prog_14_method_82_code _ 0 (by decide +kernel)
theorem d_X12_should_0 : decode prog_14_method_82_code 0 = .ok (.iload_n 1, 1) := gd_0 db00f_83
theorem d_X12_should_1 : decode prog_14_method_82_code 1 = .ok (.iconst 0, 1) := gd_1 db00f_83
theorem d_X12_should_2 : decode prog_14_method_82_code 2 = .ok (.aload_n 0, 1) := gd_2 db00f_83
theorem d_X12_should_3 : decode prog_14_method_82_code 3 = .ok (.getfield 516, 3) := gd_3 db00f_83
theorem d_X12_should_6 : decode prog_14_method_82_code 6 = .ok (.iconst 1, 1) := gd_4 db00f_83
theorem d_X12_should_7 : decode prog_14_method_82_code 7 = .ok (.isub, 1) := gd_5 db00f_83
theorem d_X12_should_8 : decode prog_14_method_82_code 8 = .ok (.invokestatic 323, 3) := gd_6 db00f_83
theorem d_X12_should_11 : decode prog_14_method_82_code 11 = .ok (.ifCond .eq 29, 3) := gd_7 db00f_83
theorem d_X12_should_14 : decode prog_14_method_82_code 14 = .ok (.iload_n 2, 1) := gd_8 db00f_83
theorem d_X12_should_15 : decode prog_14_method_82_code 15 = .ok (.aload_n 0, 1) := gd_9 db00f_83
theorem d_X12_should_16 : decode prog_14_method_82_code 16 = .ok (.getfield 184, 3) := gd_10 db00f_83
theorem d_X12_should_19 : decode prog_14_method_82_code 19 = .ok (.iload_n 1, 1) := gd_11 db00f_83
theorem d_X12_should_20 : decode prog_14_method_82_code 20 = .ok (.iaload, 1) := gd_12 db00f_83
theorem d_X12_should_21 : decode prog_14_method_82_code 21 = .ok (.aload_n 0, 1) := gd_13 db00f_83
theorem d_X12_should_22 : decode prog_14_method_82_code 22 = .ok (.getfield 342, 3) := gd_14 db00f_83
theorem d_X12_should_25 : decode prog_14_method_82_code 25 = .ok (.invokestatic 323, 3) := gd_15 db00f_83
theorem d_X12_should_28 : decode prog_14_method_82_code 28 = .ok (.ifCond .eq 12, 3) := gd_16 db00f_83
theorem d_X12_should_31 : decode prog_14_method_82_code 31 = .ok (.aload_n 0, 1) := gd_17 db00f_83
theorem d_X12_should_32 : decode prog_14_method_82_code 32 = .ok (.iload_n 1, 1) := gd_18 db00f_83
theorem d_X12_should_33 : decode prog_14_method_82_code 33 = .ok (.iload_n 2, 1) := gd_19 db00f_83
theorem d_X12_should_34 : decode prog_14_method_82_code 34 = .ok (.invokevirtual 573, 3) := gd_20 db00f_83
theorem d_X12_should_37 : decode prog_14_method_82_code 37 = .ok (.goto 4, 3) := gd_21 db00f_83
theorem d_X12_should_40 : decode prog_14_method_82_code 40 = .ok (.iconst (-1), 1) := gd_22 db00f_83
theorem d_X12_should_41 : decode prog_14_method_82_code 41 = .ok (.ireturn, 1) := gd_23 db00f_83
theorem db00f_84 : Ad_ prog_14_method_83_code [(0, .aload_n 0, 1), (1, .iload_n 1, 1), (2, .invokevirtual 351, 3), (5, .ifCond .ne 5, 3), (8, .iconst (-1), 1), (9, .ireturn, 1), (10, .iconst 0, 1), (11, .istore_n 2, 1), (12, .iconst 0, 1), (13, .istore_n 3, 1), (14, .iload_n 3, 1), (15, .aload_n 0, 1), (16, .getfield 516, 3), (19, .if_icmp .ge 37, 3), (22, .iload_n 2, 1), (23, .aload_n 0, 1), (24, .getfield 193, 3), (27, .iload_n 3, 1), (28, .iaload, 1), (29, .iconst (-1), 1), (30, .if_icmp .eq 17, 3), (33, .aload_n 0, 1), (34, .getfield 193, 3), (37, .iload_n 3, 1)] := bch_ok prog_14_method_83_code _ 0 (by decide +kernel)
theorem d_X12_heard_0 : decode prog_14_method_83_code 0 = .ok (.aload_n 0, 1) := gd_0 db00f_84
theorem d_X12_heard_1 : decode prog_14_method_83_code 1 = .ok (.iload_n 1, 1) := gd_1 db00f_84
theorem d_X12_heard_2 : decode prog_14_method_83_code 2 = .ok (.invokevirtual 351, 3) := gd_2 db00f_84
theorem d_X12_heard_5 : decode prog_14_method_83_code 5 = .ok (.ifCond .ne 5, 3) := gd_3 db00f_84
theorem d_X12_heard_8 : decode prog_14_method_83_code 8 = .ok (.iconst (-1), 1) := gd_4 db00f_84
theorem d_X12_heard_9 : decode prog_14_method_83_code 9 = .ok (.ireturn, 1) := gd_5 db00f_84
theorem d_X12_heard_10 : decode prog_14_method_83_code 10 = .ok (.iconst 0, 1) := gd_6 db00f_84
theorem d_X12_heard_11 : decode prog_14_method_83_code 11 = .ok (.istore_n 2, 1) := gd_7 db00f_84
theorem d_X12_heard_12 : decode prog_14_method_83_code 12 = .ok (.iconst 0, 1) := gd_8 db00f_84
theorem d_X12_heard_13 : decode prog_14_method_83_code 13 = .ok (.istore_n 3, 1) := gd_9 db00f_84
theorem d_X12_heard_14 : decode prog_14_method_83_code 14 = .ok (.iload_n 3, 1) := gd_10 db00f_84
theorem d_X12_heard_15 : decode prog_14_method_83_code 15 = .ok (.aload_n 0, 1) := gd_11 db00f_84
theorem d_X12_heard_16 : decode prog_14_method_83_code 16 = .ok (.getfield 516, 3) := gd_12 db00f_84
theorem d_X12_heard_19 : decode prog_14_method_83_code 19 = .ok (.if_icmp .ge 37, 3) := gd_13 db00f_84
theorem d_X12_heard_22 : decode prog_14_method_83_code 22 = .ok (.iload_n 2, 1) := gd_14 db00f_84
theorem d_X12_heard_23 : decode prog_14_method_83_code 23 = .ok (.aload_n 0, 1) := gd_15 db00f_84
theorem d_X12_heard_24 : decode prog_14_method_83_code 24 = .ok (.getfield 193, 3) := gd_16 db00f_84
theorem d_X12_heard_27 : decode prog_14_method_83_code 27 = .ok (.iload_n 3, 1) := gd_17 db00f_84
theorem d_X12_heard_28 : decode prog_14_method_83_code 28 = .ok (.iaload, 1) := gd_18 db00f_84
theorem d_X12_heard_29 : decode prog_14_method_83_code 29 = .ok (.iconst (-1), 1) := gd_19 db00f_84
theorem d_X12_heard_30 : decode prog_14_method_83_code 30 = .ok (.if_icmp .eq 17, 3) := gd_20 db00f_84
theorem d_X12_heard_33 : decode prog_14_method_83_code 33 = .ok (.aload_n 0, 1) := gd_21 db00f_84
theorem d_X12_heard_34 : decode prog_14_method_83_code 34 = .ok (.getfield 193, 3) := gd_22 db00f_84
theorem d_X12_heard_37 : decode prog_14_method_83_code 37 = .ok (.iload_n 3, 1) := gd_23 db00f_84
theorem db00f_85 : Ad_ prog_14_method_83_code [(38, .iaload, 1), (39, .iload_n 1, 1), (40, .if_icmp .gt 7, 3), (43, .iconst 1, 1), (44, .goto 4, 3), (47, .iconst 0, 1), (48, .iadd, 1), (49, .istore_n 2, 1), (50, .iinc 3 1, 3), (53, .goto (-39), 3), (56, .iload_n 2, 1), (57, .ireturn, 1)] := bch_ok prog_14_method_83_code _ 38 (by decide +kernel)
theorem d_X12_heard_38 : decode prog_14_method_83_code 38 = .ok (.iaload, 1) := gd_0 db00f_85
theorem d_X12_heard_39 : decode prog_14_method_83_code 39 = .ok (.iload_n 1, 1) := gd_1 db00f_85
theorem d_X12_heard_40 : decode prog_14_method_83_code 40 = .ok (.if_icmp .gt 7, 3) := gd_2 db00f_85
theorem d_X12_heard_43 : decode prog_14_method_83_code 43 = .ok (.iconst 1, 1) := gd_3 db00f_85
theorem d_X12_heard_44 : decode prog_14_method_83_code 44 = .ok (.goto 4, 3) := gd_4 db00f_85
theorem d_X12_heard_47 : decode prog_14_method_83_code 47 = .ok (.iconst 0, 1) := gd_5 db00f_85
theorem d_X12_heard_48 : decode prog_14_method_83_code 48 = .ok (.iadd, 1) := gd_6 db00f_85
theorem d_X12_heard_49 : decode prog_14_method_83_code 49 = .ok (.istore_n 2, 1) := gd_7 db00f_85
theorem d_X12_heard_50 : decode prog_14_method_83_code 50 = .ok (.iinc 3 1, 3) := gd_8 db00f_85
theorem d_X12_heard_53 : decode prog_14_method_83_code 53 = .ok (.goto (-39), 3) := gd_9 db00f_85
theorem d_X12_heard_56 : decode prog_14_method_83_code 56 = .ok (.iload_n 2, 1) := gd_10 db00f_85
theorem d_X12_heard_57 : decode prog_14_method_83_code 57 = .ok (.ireturn, 1) := gd_11 db00f_85
theorem db00f_86 : Ad_ prog_14_method_84_code [(0, .aload_n 0, 1), (1, .getfield 199, 3), (4, .aload_n 0, 1), (5, .getfield 576, 3), (8, .iload_n 1, 1), (9, .iastore, 1), (10, .aload_n 0, 1), (11, .getfield 202, 3), (14, .aload_n 0, 1), (15, .getfield 576, 3), (18, .aload_n 0, 1), (19, .getfield 342, 3), (22, .iastore, 1), (23, .aload_n 0, 1), (24, .dup, 1), (25, .getfield 576, 3), (28, .iconst 1, 1), (29, .iadd, 1), (30, .putfield 576, 3), (33, .aload_n 0, 1), (34, .getfield 576, 3), (37, .iconst 1, 1), (38, .isub, 1), (39, .ireturn, 1)] := bch_ok prog_14_method_84_code _ 0 (by decide +kernel)
theorem d_X12_opened_0 : decode prog_14_method_84_code 0 = .ok (.aload_n 0, 1) := gd_0 db00f_86
theorem d_X12_opened_1 : decode prog_14_method_84_code 1 = .ok (.getfield 199, 3) := gd_1 db00f_86
theorem d_X12_opened_4 : decode prog_14_method_84_code 4 = .ok (.aload_n 0, 1) := gd_2 db00f_86
theorem d_X12_opened_5 : decode prog_14_method_84_code 5 = .ok (.getfield 576, 3) := gd_3 db00f_86
theorem d_X12_opened_8 : decode prog_14_method_84_code 8 = .ok (.iload_n 1, 1) := gd_4 db00f_86
theorem d_X12_opened_9 : decode prog_14_method_84_code 9 = .ok (.iastore, 1) := gd_5 db00f_86
theorem d_X12_opened_10 : decode prog_14_method_84_code 10 = .ok (.aload_n 0, 1) := gd_6 db00f_86
theorem d_X12_opened_11 : decode prog_14_method_84_code 11 = .ok (.getfield 202, 3) := gd_7 db00f_86
theorem d_X12_opened_14 : decode prog_14_method_84_code 14 = .ok (.aload_n 0, 1) := gd_8 db00f_86
theorem d_X12_opened_15 : decode prog_14_method_84_code 15 = .ok (.getfield 576, 3) := gd_9 db00f_86
theorem d_X12_opened_18 : decode prog_14_method_84_code 18 = .ok (.aload_n 0, 1) := gd_10 db00f_86
theorem d_X12_opened_19 : decode prog_14_method_84_code 19 = .ok (.getfield 342, 3) := gd_11 db00f_86
theorem d_X12_opened_22 : decode prog_14_method_84_code 22 = .ok (.iastore, 1) := gd_12 db00f_86
theorem d_X12_opened_23 : decode prog_14_method_84_code 23 = .ok (.aload_n 0, 1) := gd_13 db00f_86
theorem d_X12_opened_24 : decode prog_14_method_84_code 24 = .ok (.dup, 1) := gd_14 db00f_86
theorem d_X12_opened_25 : decode prog_14_method_84_code 25 = .ok (.getfield 576, 3) := gd_15 db00f_86
theorem d_X12_opened_28 : decode prog_14_method_84_code 28 = .ok (.iconst 1, 1) := gd_16 db00f_86
theorem d_X12_opened_29 : decode prog_14_method_84_code 29 = .ok (.iadd, 1) := gd_17 db00f_86
theorem d_X12_opened_30 : decode prog_14_method_84_code 30 = .ok (.putfield 576, 3) := gd_18 db00f_86
theorem d_X12_opened_33 : decode prog_14_method_84_code 33 = .ok (.aload_n 0, 1) := gd_19 db00f_86
theorem d_X12_opened_34 : decode prog_14_method_84_code 34 = .ok (.getfield 576, 3) := gd_20 db00f_86
theorem d_X12_opened_37 : decode prog_14_method_84_code 37 = .ok (.iconst 1, 1) := gd_21 db00f_86
theorem d_X12_opened_38 : decode prog_14_method_84_code 38 = .ok (.isub, 1) := gd_22 db00f_86
theorem d_X12_opened_39 : decode prog_14_method_84_code 39 = .ok (.ireturn, 1) := gd_23 db00f_86
theorem db00f_87 : Ad_ prog_14_method_85_code [(0, .iload_n 1, 1), (1, .iconst 0, 1), (2, .bipush 9, 2), (4, .invokestatic 323, 3), (7, .ifCond .eq 20, 3), (10, .aload_n 0, 1), (11, .getfield 576, 3), (14, .bipush 30, 2), (16, .if_icmp .ge 11, 3), (19, .aload_n 0, 1), (20, .iload_n 1, 1), (21, .invokevirtual 579, 3), (24, .goto 4, 3), (27, .iconst (-1), 1), (28, .ireturn, 1)] := bch_ok prog_14_method_85_code _ 0 (by decide +kernel)
theorem d_X12_open_0 : decode prog_14_method_85_code 0 = .ok (.iload_n 1, 1) := gd_0 db00f_87
theorem d_X12_open_1 : decode prog_14_method_85_code 1 = .ok (.iconst 0, 1) := gd_1 db00f_87
theorem d_X12_open_2 : decode prog_14_method_85_code 2 = .ok (.bipush 9, 2) := gd_2 db00f_87
theorem d_X12_open_4 : decode prog_14_method_85_code 4 = .ok (.invokestatic 323, 3) := gd_3 db00f_87
theorem d_X12_open_7 : decode prog_14_method_85_code 7 = .ok (.ifCond .eq 20, 3) := gd_4 db00f_87
theorem d_X12_open_10 : decode prog_14_method_85_code 10 = .ok (.aload_n 0, 1) := gd_5 db00f_87
theorem d_X12_open_11 : decode prog_14_method_85_code 11 = .ok (.getfield 576, 3) := gd_6 db00f_87
theorem d_X12_open_14 : decode prog_14_method_85_code 14 = .ok (.bipush 30, 2) := gd_7 db00f_87
theorem d_X12_open_16 : decode prog_14_method_85_code 16 = .ok (.if_icmp .ge 11, 3) := gd_8 db00f_87
theorem d_X12_open_19 : decode prog_14_method_85_code 19 = .ok (.aload_n 0, 1) := gd_9 db00f_87
theorem d_X12_open_20 : decode prog_14_method_85_code 20 = .ok (.iload_n 1, 1) := gd_10 db00f_87
theorem d_X12_open_21 : decode prog_14_method_85_code 21 = .ok (.invokevirtual 579, 3) := gd_11 db00f_87
theorem d_X12_open_24 : decode prog_14_method_85_code 24 = .ok (.goto 4, 3) := gd_12 db00f_87
theorem d_X12_open_27 : decode prog_14_method_85_code 27 = .ok (.iconst (-1), 1) := gd_13 db00f_87
theorem d_X12_open_28 : decode prog_14_method_85_code 28 = .ok (.ireturn, 1) := gd_14 db00f_87
theorem db00f_88 : Ad_ prog_14_method_86_code [(0, .iload_n 1, 1), (1, .iconst 0, 1), (2, .bipush 9, 2), (4, .invokestatic 323, 3), (7, .ifCond .eq 14, 3), (10, .iload_n 2, 1), (11, .iconst 0, 1), (12, .sipush 255, 3), (15, .invokestatic 323, 3), (18, .ifCond .ne 5, 3), (21, .iconst 0, 1), (22, .ireturn, 1), (23, .aload_n 0, 1), (24, .getfield 205, 3), (27, .iload_n 1, 1), (28, .iload_n 2, 1), (29, .iastore, 1), (30, .iconst 1, 1), (31, .ireturn, 1)] := bch_ok prog_14_method_86_code _ 0 (by decide +kernel)
theorem d_X12_need_0 : decode prog_14_method_86_code 0 = .ok (.iload_n 1, 1) := gd_0 db00f_88
theorem d_X12_need_1 : decode prog_14_method_86_code 1 = .ok (.iconst 0, 1) := gd_1 db00f_88
theorem d_X12_need_2 : decode prog_14_method_86_code 2 = .ok (.bipush 9, 2) := gd_2 db00f_88
theorem d_X12_need_4 : decode prog_14_method_86_code 4 = .ok (.invokestatic 323, 3) := gd_3 db00f_88
theorem d_X12_need_7 : decode prog_14_method_86_code 7 = .ok (.ifCond .eq 14, 3) := gd_4 db00f_88
theorem d_X12_need_10 : decode prog_14_method_86_code 10 = .ok (.iload_n 2, 1) := gd_5 db00f_88
theorem d_X12_need_11 : decode prog_14_method_86_code 11 = .ok (.iconst 0, 1) := gd_6 db00f_88
theorem d_X12_need_12 : decode prog_14_method_86_code 12 = .ok (.sipush 255, 3) := gd_7 db00f_88
theorem d_X12_need_15 : decode prog_14_method_86_code 15 = .ok (.invokestatic 323, 3) := gd_8 db00f_88
theorem d_X12_need_18 : decode prog_14_method_86_code 18 = .ok (.ifCond .ne 5, 3) := gd_9 db00f_88
theorem d_X12_need_21 : decode prog_14_method_86_code 21 = .ok (.iconst 0, 1) := gd_10 db00f_88
theorem d_X12_need_22 : decode prog_14_method_86_code 22 = .ok (.ireturn, 1) := gd_11 db00f_88
theorem d_X12_need_23 : decode prog_14_method_86_code 23 = .ok (.aload_n 0, 1) := gd_12 db00f_88
theorem d_X12_need_24 : decode prog_14_method_86_code 24 = .ok (.getfield 205, 3) := gd_13 db00f_88
theorem d_X12_need_27 : decode prog_14_method_86_code 27 = .ok (.iload_n 1, 1) := gd_14 db00f_88
theorem d_X12_need_28 : decode prog_14_method_86_code 28 = .ok (.iload_n 2, 1) := gd_15 db00f_88
theorem d_X12_need_29 : decode prog_14_method_86_code 29 = .ok (.iastore, 1) := gd_16 db00f_88
theorem d_X12_need_30 : decode prog_14_method_86_code 30 = .ok (.iconst 1, 1) := gd_17 db00f_88
theorem d_X12_need_31 : decode prog_14_method_86_code 31 = .ok (.ireturn, 1) := gd_18 db00f_88
theorem db00f_89 : Ad_ prog_14_method_87_code [(0, .iload_n 1, 1), (1, .iconst 0, 1), (2, .bipush 7, 2), (4, .invokestatic 323, 3), (7, .ifCond .eq 12, 3), (10, .iload_n 2, 1), (11, .iconst 1, 1), (12, .iconst 3, 1), (13, .invokestatic 323, 3), (16, .ifCond .ne 5, 3), (19, .iconst 0, 1), (20, .ireturn, 1), (21, .aload_n 0, 1), (22, .getfield 208, 3), (25, .iload_n 1, 1), (26, .iload_n 2, 1), (27, .iastore, 1), (28, .iconst 1, 1), (29, .ireturn, 1)] := bch_ok prog_14_method_87_code _ 0 (by decide +kernel)
theorem d_X12_want_0 : decode prog_14_method_87_code 0 = .ok (.iload_n 1, 1) := gd_0 db00f_89
theorem d_X12_want_1 : decode prog_14_method_87_code 1 = .ok (.iconst 0, 1) := gd_1 db00f_89
theorem d_X12_want_2 : decode prog_14_method_87_code 2 = .ok (.bipush 7, 2) := gd_2 db00f_89
theorem d_X12_want_4 : decode prog_14_method_87_code 4 = .ok (.invokestatic 323, 3) := gd_3 db00f_89
theorem d_X12_want_7 : decode prog_14_method_87_code 7 = .ok (.ifCond .eq 12, 3) := gd_4 db00f_89
theorem d_X12_want_10 : decode prog_14_method_87_code 10 = .ok (.iload_n 2, 1) := gd_5 db00f_89
theorem d_X12_want_11 : decode prog_14_method_87_code 11 = .ok (.iconst 1, 1) := gd_6 db00f_89
theorem d_X12_want_12 : decode prog_14_method_87_code 12 = .ok (.iconst 3, 1) := gd_7 db00f_89
theorem d_X12_want_13 : decode prog_14_method_87_code 13 = .ok (.invokestatic 323, 3) := gd_8 db00f_89
theorem d_X12_want_16 : decode prog_14_method_87_code 16 = .ok (.ifCond .ne 5, 3) := gd_9 db00f_89
theorem d_X12_want_19 : decode prog_14_method_87_code 19 = .ok (.iconst 0, 1) := gd_10 db00f_89
theorem d_X12_want_20 : decode prog_14_method_87_code 20 = .ok (.ireturn, 1) := gd_11 db00f_89
theorem d_X12_want_21 : decode prog_14_method_87_code 21 = .ok (.aload_n 0, 1) := gd_12 db00f_89
theorem d_X12_want_22 : decode prog_14_method_87_code 22 = .ok (.getfield 208, 3) := gd_13 db00f_89
theorem d_X12_want_25 : decode prog_14_method_87_code 25 = .ok (.iload_n 1, 1) := gd_14 db00f_89
theorem d_X12_want_26 : decode prog_14_method_87_code 26 = .ok (.iload_n 2, 1) := gd_15 db00f_89
theorem d_X12_want_27 : decode prog_14_method_87_code 27 = .ok (.iastore, 1) := gd_16 db00f_89
theorem d_X12_want_28 : decode prog_14_method_87_code 28 = .ok (.iconst 1, 1) := gd_17 db00f_89
theorem d_X12_want_29 : decode prog_14_method_87_code 29 = .ok (.ireturn, 1) := gd_18 db00f_89
theorem db00f_90 : Ad_ prog_14_method_88_code [(0, .iload_n 1, 1), (1, .iconst 0, 1), (2, .aload_n 0, 1), (3, .getfield 576, 3), (6, .iconst 1, 1), (7, .isub, 1), (8, .invokestatic 323, 3), (11, .ireturn, 1)] := bch_ok prog_14_method_88_code _ 0 (by decide +kernel)
theorem d_X12_isCase_0 : decode prog_14_method_88_code 0 = .ok (.iload_n 1, 1) := gd_0 db00f_90
theorem d_X12_isCase_1 : decode prog_14_method_88_code 1 = .ok (.iconst 0, 1) := gd_1 db00f_90
theorem d_X12_isCase_2 : decode prog_14_method_88_code 2 = .ok (.aload_n 0, 1) := gd_2 db00f_90
theorem d_X12_isCase_3 : decode prog_14_method_88_code 3 = .ok (.getfield 576, 3) := gd_3 db00f_90
theorem d_X12_isCase_6 : decode prog_14_method_88_code 6 = .ok (.iconst 1, 1) := gd_4 db00f_90
theorem d_X12_isCase_7 : decode prog_14_method_88_code 7 = .ok (.isub, 1) := gd_5 db00f_90
theorem d_X12_isCase_8 : decode prog_14_method_88_code 8 = .ok (.invokestatic 323, 3) := gd_6 db00f_90
theorem d_X12_isCase_11 : decode prog_14_method_88_code 11 = .ok (.ireturn, 1) := gd_7 db00f_90
theorem db00f_91 : Ad_ prog_14_method_89_code [(0, .aload_n 0, 1), (1, .iload_n 1, 1), (2, .invokevirtual 588, 3), (5, .ifCond .eq 42, 3), (8, .iload_n 2, 1), (9, .iconst 0, 1), (10, .bipush 7, 2), (12, .invokestatic 323, 3), (15, .ifCond .eq 32, 3), (18, .iload_n 3, 1), (19, .iconst 0, 1), (20, .bipush 15, 2), (22, .invokestatic 323, 3), (25, .ifCond .eq 22, 3), (28, .aload_n 0, 1), (29, .getfield 229, 3), (32, .iload_n 3, 1), (33, .baload, 1), (34, .ifCond .ne 13, 3), (37, .aload_n 0, 1), (38, .getfield 591, 3), (41, .sipush 200, 3), (44, .if_icmp .ne 5, 3), (47, .iconst (-1), 1)] := bch_ok prog_14_method_89_code _ 0 (by decide +kernel)
theorem d_X12_state_0 : decode prog_14_method_89_code 0 = .ok (.aload_n 0, 1) := gd_0 db00f_91
theorem d_X12_state_1 : decode prog_14_method_89_code 1 = .ok (.iload_n 1, 1) := gd_1 db00f_91
theorem d_X12_state_2 : decode prog_14_method_89_code 2 = .ok (.invokevirtual 588, 3) := gd_2 db00f_91
theorem d_X12_state_5 : decode prog_14_method_89_code 5 = .ok (.ifCond .eq 42, 3) := gd_3 db00f_91
theorem d_X12_state_8 : decode prog_14_method_89_code 8 = .ok (.iload_n 2, 1) := gd_4 db00f_91
theorem d_X12_state_9 : decode prog_14_method_89_code 9 = .ok (.iconst 0, 1) := gd_5 db00f_91
theorem d_X12_state_10 : decode prog_14_method_89_code 10 = .ok (.bipush 7, 2) := gd_6 db00f_91
theorem d_X12_state_12 : decode prog_14_method_89_code 12 = .ok (.invokestatic 323, 3) := gd_7 db00f_91
theorem d_X12_state_15 : decode prog_14_method_89_code 15 = .ok (.ifCond .eq 32, 3) := gd_8 db00f_91
theorem d_X12_state_18 : decode prog_14_method_89_code 18 = .ok (.iload_n 3, 1) := gd_9 db00f_91
theorem d_X12_state_19 : decode prog_14_method_89_code 19 = .ok (.iconst 0, 1) := gd_10 db00f_91
theorem d_X12_state_20 : decode prog_14_method_89_code 20 = .ok (.bipush 15, 2) := gd_11 db00f_91
theorem d_X12_state_22 : decode prog_14_method_89_code 22 = .ok (.invokestatic 323, 3) := gd_12 db00f_91
theorem d_X12_state_25 : decode prog_14_method_89_code 25 = .ok (.ifCond .eq 22, 3) := gd_13 db00f_91
theorem d_X12_state_28 : decode prog_14_method_89_code 28 = .ok (.aload_n 0, 1) := gd_14 db00f_91
theorem d_X12_state_29 : decode prog_14_method_89_code 29 = .ok (.getfield 229, 3) := gd_15 db00f_91
theorem d_X12_state_32 : decode prog_14_method_89_code 32 = .ok (.iload_n 3, 1) := gd_16 db00f_91
theorem d_X12_state_33 : decode prog_14_method_89_code 33 = .ok (.baload, 1) := gd_17 db00f_91
theorem d_X12_state_34 : decode prog_14_method_89_code 34 = .ok (.ifCond .ne 13, 3) := gd_18 db00f_91
theorem d_X12_state_37 : decode prog_14_method_89_code 37 = .ok (.aload_n 0, 1) := gd_19 db00f_91
theorem d_X12_state_38 : decode prog_14_method_89_code 38 = .ok (.getfield 591, 3) := gd_20 db00f_91
theorem d_X12_state_41 : decode prog_14_method_89_code 41 = .ok (.sipush 200, 3) := gd_21 db00f_91
theorem d_X12_state_44 : decode prog_14_method_89_code 44 = .ok (.if_icmp .ne 5, 3) := gd_22 db00f_91
theorem d_X12_state_47 : decode prog_14_method_89_code 47 = .ok (.iconst (-1), 1) := gd_23 db00f_91
theorem db00f_92 : Ad_ prog_14_method_89_code [(48, .ireturn, 1), (49, .aload_n 0, 1), (50, .getfield 211, 3), (53, .aload_n 0, 1), (54, .getfield 591, 3), (57, .iload_n 1, 1), (58, .iastore, 1), (59, .aload_n 0, 1), (60, .getfield 214, 3), (63, .aload_n 0, 1), (64, .getfield 591, 3), (67, .iload_n 2, 1), (68, .iastore, 1), (69, .aload_n 0, 1), (70, .getfield 217, 3), (73, .aload_n 0, 1), (74, .getfield 591, 3), (77, .iload_n 3, 1), (78, .iastore, 1), (79, .aload_n 0, 1), (80, .getfield 223, 3), (83, .aload_n 0, 1), (84, .getfield 591, 3), (87, .iload 4, 2)] := bch_ok prog_14_method_89_code _ 48 (by decide +kernel)
theorem d_X12_state_48 : decode prog_14_method_89_code 48 = .ok (.ireturn, 1) := gd_0 db00f_92
theorem d_X12_state_49 : decode prog_14_method_89_code 49 = .ok (.aload_n 0, 1) := gd_1 db00f_92
theorem d_X12_state_50 : decode prog_14_method_89_code 50 = .ok (.getfield 211, 3) := gd_2 db00f_92
theorem d_X12_state_53 : decode prog_14_method_89_code 53 = .ok (.aload_n 0, 1) := gd_3 db00f_92
theorem d_X12_state_54 : decode prog_14_method_89_code 54 = .ok (.getfield 591, 3) := gd_4 db00f_92
theorem d_X12_state_57 : decode prog_14_method_89_code 57 = .ok (.iload_n 1, 1) := gd_5 db00f_92
theorem d_X12_state_58 : decode prog_14_method_89_code 58 = .ok (.iastore, 1) := gd_6 db00f_92
theorem d_X12_state_59 : decode prog_14_method_89_code 59 = .ok (.aload_n 0, 1) := gd_7 db00f_92
theorem d_X12_state_60 : decode prog_14_method_89_code 60 = .ok (.getfield 214, 3) := gd_8 db00f_92
theorem d_X12_state_63 : decode prog_14_method_89_code 63 = .ok (.aload_n 0, 1) := gd_9 db00f_92
theorem d_X12_state_64 : decode prog_14_method_89_code 64 = .ok (.getfield 591, 3) := gd_10 db00f_92
theorem d_X12_state_67 : decode prog_14_method_89_code 67 = .ok (.iload_n 2, 1) := gd_11 db00f_92
theorem d_X12_state_68 : decode prog_14_method_89_code 68 = .ok (.iastore, 1) := gd_12 db00f_92
theorem d_X12_state_69 : decode prog_14_method_89_code 69 = .ok (.aload_n 0, 1) := gd_13 db00f_92
theorem d_X12_state_70 : decode prog_14_method_89_code 70 = .ok (.getfield 217, 3) := gd_14 db00f_92
theorem d_X12_state_73 : decode prog_14_method_89_code 73 = .ok (.aload_n 0, 1) := gd_15 db00f_92
theorem d_X12_state_74 : decode prog_14_method_89_code 74 = .ok (.getfield 591, 3) := gd_16 db00f_92
theorem d_X12_state_77 : decode prog_14_method_89_code 77 = .ok (.iload_n 3, 1) := gd_17 db00f_92
theorem d_X12_state_78 : decode prog_14_method_89_code 78 = .ok (.iastore, 1) := gd_18 db00f_92
theorem d_X12_state_79 : decode prog_14_method_89_code 79 = .ok (.aload_n 0, 1) := gd_19 db00f_92
theorem d_X12_state_80 : decode prog_14_method_89_code 80 = .ok (.getfield 223, 3) := gd_20 db00f_92
theorem d_X12_state_83 : decode prog_14_method_89_code 83 = .ok (.aload_n 0, 1) := gd_21 db00f_92
theorem d_X12_state_84 : decode prog_14_method_89_code 84 = .ok (.getfield 591, 3) := gd_22 db00f_92
theorem d_X12_state_87 : decode prog_14_method_89_code 87 = .ok (.iload 4, 2) := gd_23 db00f_92
theorem db00f_93 : Ad_ prog_14_method_89_code [(89, .bastore, 1), (90, .aload_n 0, 1), (91, .getfield 220, 3), (94, .aload_n 0, 1), (95, .getfield 591, 3), (98, .aload_n 0, 1), (99, .getfield 342, 3), (102, .iastore, 1), (103, .aload_n 0, 1), (104, .dup, 1), (105, .getfield 591, 3), (108, .iconst 1, 1), (109, .iadd, 1), (110, .putfield 591, 3), (113, .aload_n 0, 1), (114, .getfield 591, 3), (117, .iconst 1, 1), (118, .isub, 1), (119, .ireturn, 1)] := bch_ok prog_14_method_89_code _ 89 (by decide +kernel)
theorem d_X12_state_89 : decode prog_14_method_89_code 89 = .ok (.bastore, 1) := gd_0 db00f_93
theorem d_X12_state_90 : decode prog_14_method_89_code 90 = .ok (.aload_n 0, 1) := gd_1 db00f_93
theorem d_X12_state_91 : decode prog_14_method_89_code 91 = .ok (.getfield 220, 3) := gd_2 db00f_93
theorem d_X12_state_94 : decode prog_14_method_89_code 94 = .ok (.aload_n 0, 1) := gd_3 db00f_93
theorem d_X12_state_95 : decode prog_14_method_89_code 95 = .ok (.getfield 591, 3) := gd_4 db00f_93
theorem d_X12_state_98 : decode prog_14_method_89_code 98 = .ok (.aload_n 0, 1) := gd_5 db00f_93
theorem d_X12_state_99 : decode prog_14_method_89_code 99 = .ok (.getfield 342, 3) := gd_6 db00f_93
theorem d_X12_state_102 : decode prog_14_method_89_code 102 = .ok (.iastore, 1) := gd_7 db00f_93
theorem d_X12_state_103 : decode prog_14_method_89_code 103 = .ok (.aload_n 0, 1) := gd_8 db00f_93
theorem d_X12_state_104 : decode prog_14_method_89_code 104 = .ok (.dup, 1) := gd_9 db00f_93
theorem d_X12_state_105 : decode prog_14_method_89_code 105 = .ok (.getfield 591, 3) := gd_10 db00f_93
theorem d_X12_state_108 : decode prog_14_method_89_code 108 = .ok (.iconst 1, 1) := gd_11 db00f_93
theorem d_X12_state_109 : decode prog_14_method_89_code 109 = .ok (.iadd, 1) := gd_12 db00f_93
theorem d_X12_state_110 : decode prog_14_method_89_code 110 = .ok (.putfield 591, 3) := gd_13 db00f_93
theorem d_X12_state_113 : decode prog_14_method_89_code 113 = .ok (.aload_n 0, 1) := gd_14 db00f_93
theorem d_X12_state_114 : decode prog_14_method_89_code 114 = .ok (.getfield 591, 3) := gd_15 db00f_93
theorem d_X12_state_117 : decode prog_14_method_89_code 117 = .ok (.iconst 1, 1) := gd_16 db00f_93
theorem d_X12_state_118 : decode prog_14_method_89_code 118 = .ok (.isub, 1) := gd_17 db00f_93
theorem d_X12_state_119 : decode prog_14_method_89_code 119 = .ok (.ireturn, 1) := gd_18 db00f_93
theorem db00f_94 : Ad_ prog_14_method_90_code [(0, .iconst 0, 1), (1, .istore 4, 2), (3, .iconst 0, 1), (4, .istore 5, 2), (6, .iconst 0, 1), (7, .istore 6, 2), (9, .iload 6, 2), (11, .bipush 16, 2), (13, .if_icmp .ge 149, 3), (16, .iconst (-1), 1), (17, .istore 7, 2), (19, .iconst 0, 1), (20, .istore 8, 2), (22, .iload 8, 2), (24, .aload_n 0, 1), (25, .getfield 591, 3), (28, .if_icmp .ge 58, 3), (31, .aload_n 0, 1), (32, .getfield 217, 3), (35, .iload 8, 2)] := bch_ok prog_14_method_90_code _ 0 (by decide +kernel)
theorem d_X12_factOf_0 : decode prog_14_method_90_code 0 = .ok (.iconst 0, 1) := gd_0 db00f_94
theorem d_X12_factOf_1 : decode prog_14_method_90_code 1 = .ok (.istore 4, 2) := gd_1 db00f_94
theorem d_X12_factOf_3 : decode prog_14_method_90_code 3 = .ok (.iconst 0, 1) := gd_2 db00f_94
theorem d_X12_factOf_4 : decode prog_14_method_90_code 4 = .ok (.istore 5, 2) := gd_3 db00f_94
theorem d_X12_factOf_6 : decode prog_14_method_90_code 6 = .ok (.iconst 0, 1) := gd_4 db00f_94
theorem d_X12_factOf_7 : decode prog_14_method_90_code 7 = .ok (.istore 6, 2) := gd_5 db00f_94
theorem d_X12_factOf_9 : decode prog_14_method_90_code 9 = .ok (.iload 6, 2) := gd_6 db00f_94
theorem d_X12_factOf_11 : decode prog_14_method_90_code 11 = .ok (.bipush 16, 2) := gd_7 db00f_94
theorem d_X12_factOf_13 : decode prog_14_method_90_code 13 = .ok (.if_icmp .ge 149, 3) := gd_8 db00f_94
theorem d_X12_factOf_16 : decode prog_14_method_90_code 16 = .ok (.iconst (-1), 1) := gd_9 db00f_94
theorem d_X12_factOf_17 : decode prog_14_method_90_code 17 = .ok (.istore 7, 2) := gd_10 db00f_94
theorem d_X12_factOf_19 : decode prog_14_method_90_code 19 = .ok (.iconst 0, 1) := gd_11 db00f_94
theorem d_X12_factOf_20 : decode prog_14_method_90_code 20 = .ok (.istore 8, 2) := gd_12 db00f_94
theorem d_X12_factOf_22 : decode prog_14_method_90_code 22 = .ok (.iload 8, 2) := gd_13 db00f_94
theorem d_X12_factOf_24 : decode prog_14_method_90_code 24 = .ok (.aload_n 0, 1) := gd_14 db00f_94
theorem d_X12_factOf_25 : decode prog_14_method_90_code 25 = .ok (.getfield 591, 3) := gd_15 db00f_94
theorem d_X12_factOf_28 : decode prog_14_method_90_code 28 = .ok (.if_icmp .ge 58, 3) := gd_16 db00f_94
theorem d_X12_factOf_31 : decode prog_14_method_90_code 31 = .ok (.aload_n 0, 1) := gd_17 db00f_94
theorem d_X12_factOf_32 : decode prog_14_method_90_code 32 = .ok (.getfield 217, 3) := gd_18 db00f_94
theorem d_X12_factOf_35 : decode prog_14_method_90_code 35 = .ok (.iload 8, 2) := gd_19 db00f_94
