theorem db00d_0 : Ad_ prog_1_method_27_code [(13, .iload_n 3, 1), (14, .ifCond .gt 5, 3), (17, .iconst 0, 1), (18, .ireturn, 1), (19, .aload_n 1, 1), (20, .iload_n 2, 1), (21, .putfield 216, 3), (24, .aload_n 1, 1), (25, .aload_n 0, 1), (26, .getfield 92, 3), (29, .iload_n 3, 1), (30, .iadd, 1), (31, .putfield 219, 3), (34, .aload_n 0, 1), (35, .aload_n 1, 1), (36, .iconst (-1), 1), (37, .invokevirtual 122, 3), (40, .iconst 1, 1), (41, .ireturn, 1)] := bch_ok prog_1_method_27_code _ 13 (by decide +kernel)
theorem d_X11_setsOut_13 : decode prog_1_method_27_code 13 = .ok (.iload_n 3, 1) := gd_0 db00d_0
theorem d_X11_setsOut_14 : decode prog_1_method_27_code 14 = .ok (.ifCond .gt 5, 3) := gd_1 db00d_0
theorem d_X11_setsOut_17 : decode prog_1_method_27_code 17 = .ok (.iconst 0, 1) := gd_2 db00d_0
theorem d_X11_setsOut_18 : decode prog_1_method_27_code 18 = .ok (.ireturn, 1) := gd_3 db00d_0
theorem d_X11_setsOut_19 : decode prog_1_method_27_code 19 = .ok (.aload_n 1, 1) := gd_4 db00d_0
theorem d_X11_setsOut_20 : decode prog_1_method_27_code 20 = .ok (.iload_n 2, 1) := gd_5 db00d_0
theorem d_X11_setsOut_21 : decode prog_1_method_27_code 21 = .ok (.putfield 216, 3) := gd_6 db00d_0
theorem d_X11_setsOut_24 : decode prog_1_method_27_code 24 = .ok (.aload_n 1, 1) := gd_7 db00d_0
theorem d_X11_setsOut_25 : decode prog_1_method_27_code 25 = .ok (.aload_n 0, 1) := gd_8 db00d_0
theorem d_X11_setsOut_26 : decode prog_1_method_27_code 26 = .ok (.getfield 92, 3) := gd_9 db00d_0
theorem d_X11_setsOut_29 : decode prog_1_method_27_code 29 = .ok (.iload_n 3, 1) := gd_10 db00d_0
theorem d_X11_setsOut_30 : decode prog_1_method_27_code 30 = .ok (.iadd, 1) := gd_11 db00d_0
theorem d_X11_setsOut_31 : decode prog_1_method_27_code 31 = .ok (.putfield 219, 3) := gd_12 db00d_0
theorem d_X11_setsOut_34 : decode prog_1_method_27_code 34 = .ok (.aload_n 0, 1) := gd_13 db00d_0
theorem d_X11_setsOut_35 : decode prog_1_method_27_code 35 = .ok (.aload_n 1, 1) := gd_14 db00d_0
theorem d_X11_setsOut_36 : decode prog_1_method_27_code 36 = .ok (.iconst (-1), 1) := gd_15 db00d_0
theorem d_X11_setsOut_37 : decode prog_1_method_27_code 37 = .ok (.invokevirtual 122, 3) := gd_16 db00d_0
theorem d_X11_setsOut_40 : decode prog_1_method_27_code 40 = .ok (.iconst 1, 1) := gd_17 db00d_0
theorem d_X11_setsOut_41 : decode prog_1_method_27_code 41 = .ok (.ireturn, 1) := gd_18 db00d_0
theorem db00d_1 : Ad_ prog_1_method_28_code [(0, .aload_n 1, 1), (1, .getfield 176, 3), (4, .aload_n 1, 1), (5, .getfield 183, 3), (8, .if_icmp .ge 58, 3), (11, .aload_n 0, 1), (12, .getfield 49, 3), (15, .aload_n 1, 1), (16, .getfield 176, 3), (19, .iload_n 2, 1), (20, .iload_n 3, 1), (21, .aload_n 0, 1), (22, .getfield 92, 3), (25, .invokevirtual 284, 3), (28, .aload_n 1, 1), (29, .dup, 1), (30, .getfield 176, 3), (33, .iconst 1, 1), (34, .iadd, 1), (35, .putfield 176, 3), (38, .iload_n 2, 1), (39, .iconst 1, 1), (40, .if_icmp .ne 16, 3), (43, .aload_n 1, 1)] := bch_ok prog_1_method_28_code _ 0 (by decide +kernel)
theorem d_X11_settleRow_0 : decode prog_1_method_28_code 0 = .ok (.aload_n 1, 1) := gd_0 db00d_1
theorem d_X11_settleRow_1 : decode prog_1_method_28_code 1 = .ok (.getfield 176, 3) := gd_1 db00d_1
theorem d_X11_settleRow_4 : decode prog_1_method_28_code 4 = .ok (.aload_n 1, 1) := gd_2 db00d_1
theorem d_X11_settleRow_5 : decode prog_1_method_28_code 5 = .ok (.getfield 183, 3) := gd_3 db00d_1
theorem d_X11_settleRow_8 : decode prog_1_method_28_code 8 = .ok (.if_icmp .ge 58, 3) := gd_4 db00d_1
theorem d_X11_settleRow_11 : decode prog_1_method_28_code 11 = .ok (.aload_n 0, 1) := gd_5 db00d_1
theorem d_X11_settleRow_12 : decode prog_1_method_28_code 12 = .ok (.getfield 49, 3) := gd_6 db00d_1
theorem d_X11_settleRow_15 : decode prog_1_method_28_code 15 = .ok (.aload_n 1, 1) := gd_7 db00d_1
theorem d_X11_settleRow_16 : decode prog_1_method_28_code 16 = .ok (.getfield 176, 3) := gd_8 db00d_1
theorem d_X11_settleRow_19 : decode prog_1_method_28_code 19 = .ok (.iload_n 2, 1) := gd_9 db00d_1
theorem d_X11_settleRow_20 : decode prog_1_method_28_code 20 = .ok (.iload_n 3, 1) := gd_10 db00d_1
theorem d_X11_settleRow_21 : decode prog_1_method_28_code 21 = .ok (.aload_n 0, 1) := gd_11 db00d_1
theorem d_X11_settleRow_22 : decode prog_1_method_28_code 22 = .ok (.getfield 92, 3) := gd_12 db00d_1
theorem d_X11_settleRow_25 : decode prog_1_method_28_code 25 = .ok (.invokevirtual 284, 3) := gd_13 db00d_1
theorem d_X11_settleRow_28 : decode prog_1_method_28_code 28 = .ok (.aload_n 1, 1) := gd_14 db00d_1
theorem d_X11_settleRow_29 : decode prog_1_method_28_code 29 = .ok (.dup, 1) := gd_15 db00d_1
theorem d_X11_settleRow_30 : decode prog_1_method_28_code 30 = .ok (.getfield 176, 3) := gd_16 db00d_1
theorem d_X11_settleRow_33 : decode prog_1_method_28_code 33 = .ok (.iconst 1, 1) := gd_17 db00d_1
theorem d_X11_settleRow_34 : decode prog_1_method_28_code 34 = .ok (.iadd, 1) := gd_18 db00d_1
theorem d_X11_settleRow_35 : decode prog_1_method_28_code 35 = .ok (.putfield 176, 3) := gd_19 db00d_1
theorem d_X11_settleRow_38 : decode prog_1_method_28_code 38 = .ok (.iload_n 2, 1) := gd_20 db00d_1
theorem d_X11_settleRow_39 : decode prog_1_method_28_code 39 = .ok (.iconst 1, 1) := gd_21 db00d_1
theorem d_X11_settleRow_40 : decode prog_1_method_28_code 40 = .ok (.if_icmp .ne 16, 3) := gd_22 db00d_1
theorem d_X11_settleRow_43 : decode prog_1_method_28_code 43 = .ok (.aload_n 1, 1) := gd_23 db00d_1
theorem db00d_2 : Ad_ prog_1_method_28_code [(44, .dup, 1), (45, .getfield 287, 3), (48, .iconst 1, 1), (49, .iadd, 1), (50, .putfield 287, 3), (53, .goto 13, 3), (56, .aload_n 1, 1), (57, .dup, 1), (58, .getfield 290, 3), (61, .iconst 1, 1), (62, .iadd, 1), (63, .putfield 290, 3), (66, .return_, 1)] := bch_ok prog_1_method_28_code _ 44 (by decide +kernel)
theorem d_X11_settleRow_44 : decode prog_1_method_28_code 44 = .ok (.dup, 1) := gd_0 db00d_2
theorem d_X11_settleRow_45 : decode prog_1_method_28_code 45 = .ok (.getfield 287, 3) := gd_1 db00d_2
theorem d_X11_settleRow_48 : decode prog_1_method_28_code 48 = .ok (.iconst 1, 1) := gd_2 db00d_2
theorem d_X11_settleRow_49 : decode prog_1_method_28_code 49 = .ok (.iadd, 1) := gd_3 db00d_2
theorem d_X11_settleRow_50 : decode prog_1_method_28_code 50 = .ok (.putfield 287, 3) := gd_4 db00d_2
theorem d_X11_settleRow_53 : decode prog_1_method_28_code 53 = .ok (.goto 13, 3) := gd_5 db00d_2
theorem d_X11_settleRow_56 : decode prog_1_method_28_code 56 = .ok (.aload_n 1, 1) := gd_6 db00d_2
theorem d_X11_settleRow_57 : decode prog_1_method_28_code 57 = .ok (.dup, 1) := gd_7 db00d_2
theorem d_X11_settleRow_58 : decode prog_1_method_28_code 58 = .ok (.getfield 290, 3) := gd_8 db00d_2
theorem d_X11_settleRow_61 : decode prog_1_method_28_code 61 = .ok (.iconst 1, 1) := gd_9 db00d_2
theorem d_X11_settleRow_62 : decode prog_1_method_28_code 62 = .ok (.iadd, 1) := gd_10 db00d_2
theorem d_X11_settleRow_63 : decode prog_1_method_28_code 63 = .ok (.putfield 290, 3) := gd_11 db00d_2
theorem d_X11_settleRow_66 : decode prog_1_method_28_code 66 = .ok (.return_, 1) := gd_12 db00d_2
theorem db00d_3 : Ad_ prog_1_method_29_code [(0, .aload_n 1, 1), (1, .getfield 158, 3), (4, .iconst 1, 1), (5, .if_icmp .ne 30, 3), (8, .aload_n 1, 1), (9, .invokevirtual 293, 3), (12, .istore_n 3, 1), (13, .iconst 0, 1), (14, .istore 4, 2), (16, .iload 4, 2), (18, .iload_n 3, 1), (19, .if_icmp .ge 16, 3), (22, .aload_n 0, 1), (23, .aload_n 1, 1), (24, .iconst 2, 1), (25, .iload_n 2, 1), (26, .invokevirtual 280, 3), (29, .iinc 4 1, 3), (32, .goto (-16), 3), (35, .return_, 1)] := bch_ok prog_1_method_29_code _ 0 (by decide +kernel)
theorem d_X11_drop_0 : decode prog_1_method_29_code 0 = .ok (.aload_n 1, 1) := gd_0 db00d_3
theorem d_X11_drop_1 : decode prog_1_method_29_code 1 = .ok (.getfield 158, 3) := gd_1 db00d_3
theorem d_X11_drop_4 : decode prog_1_method_29_code 4 = .ok (.iconst 1, 1) := gd_2 db00d_3
theorem d_X11_drop_5 : decode prog_1_method_29_code 5 = .ok (.if_icmp .ne 30, 3) := gd_3 db00d_3
theorem d_X11_drop_8 : decode prog_1_method_29_code 8 = .ok (.aload_n 1, 1) := gd_4 db00d_3
theorem d_X11_drop_9 : decode prog_1_method_29_code 9 = .ok (.invokevirtual 293, 3) := gd_5 db00d_3
theorem d_X11_drop_12 : decode prog_1_method_29_code 12 = .ok (.istore_n 3, 1) := gd_6 db00d_3
theorem d_X11_drop_13 : decode prog_1_method_29_code 13 = .ok (.iconst 0, 1) := gd_7 db00d_3
theorem d_X11_drop_14 : decode prog_1_method_29_code 14 = .ok (.istore 4, 2) := gd_8 db00d_3
theorem d_X11_drop_16 : decode prog_1_method_29_code 16 = .ok (.iload 4, 2) := gd_9 db00d_3
theorem d_X11_drop_18 : decode prog_1_method_29_code 18 = .ok (.iload_n 3, 1) := gd_10 db00d_3
theorem d_X11_drop_19 : decode prog_1_method_29_code 19 = .ok (.if_icmp .ge 16, 3) := gd_11 db00d_3
theorem d_X11_drop_22 : decode prog_1_method_29_code 22 = .ok (.aload_n 0, 1) := gd_12 db00d_3
theorem d_X11_drop_23 : decode prog_1_method_29_code 23 = .ok (.aload_n 1, 1) := gd_13 db00d_3
theorem d_X11_drop_24 : decode prog_1_method_29_code 24 = .ok (.iconst 2, 1) := gd_14 db00d_3
theorem d_X11_drop_25 : decode prog_1_method_29_code 25 = .ok (.iload_n 2, 1) := gd_15 db00d_3
theorem d_X11_drop_26 : decode prog_1_method_29_code 26 = .ok (.invokevirtual 280, 3) := gd_16 db00d_3
theorem d_X11_drop_29 : decode prog_1_method_29_code 29 = .ok (.iinc 4 1, 3) := gd_17 db00d_3
theorem d_X11_drop_32 : decode prog_1_method_29_code 32 = .ok (.goto (-16), 3) := gd_18 db00d_3
theorem d_X11_drop_35 : decode prog_1_method_29_code 35 = .ok (.return_, 1) := gd_19 db00d_3
theorem db00d_4 : Ad_ prog_1_method_30_code [(0, .aload_n 1, 1), (1, .iconst 2, 1), (2, .putfield 158, 3), (5, .aload_n 0, 1), (6, .aload_n 1, 1), (7, .aload_n 1, 1), (8, .getfield 204, 3), (11, .invokevirtual 274, 3), (14, .ifCond .ne 17, 3), (17, .aload_n 0, 1), (18, .aload_n 1, 1), (19, .aload_n 1, 1), (20, .getfield 204, 3), (23, .invokevirtual 122, 3), (26, .aload_n 0, 1), (27, .aload_n 1, 1), (28, .invokevirtual 225, 3), (31, .return_, 1)] := bch_ok prog_1_method_30_code _ 0 (by decide +kernel)
theorem d_X11_goHome_0 : decode prog_1_method_30_code 0 = .ok (.aload_n 1, 1) := gd_0 db00d_4
theorem d_X11_goHome_1 : decode prog_1_method_30_code 1 = .ok (.iconst 2, 1) := gd_1 db00d_4
theorem d_X11_goHome_2 : decode prog_1_method_30_code 2 = .ok (.putfield 158, 3) := gd_2 db00d_4
theorem d_X11_goHome_5 : decode prog_1_method_30_code 5 = .ok (.aload_n 0, 1) := gd_3 db00d_4
theorem d_X11_goHome_6 : decode prog_1_method_30_code 6 = .ok (.aload_n 1, 1) := gd_4 db00d_4
theorem d_X11_goHome_7 : decode prog_1_method_30_code 7 = .ok (.aload_n 1, 1) := gd_5 db00d_4
theorem d_X11_goHome_8 : decode prog_1_method_30_code 8 = .ok (.getfield 204, 3) := gd_6 db00d_4
theorem d_X11_goHome_11 : decode prog_1_method_30_code 11 = .ok (.invokevirtual 274, 3) := gd_7 db00d_4
theorem d_X11_goHome_14 : decode prog_1_method_30_code 14 = .ok (.ifCond .ne 17, 3) := gd_8 db00d_4
theorem d_X11_goHome_17 : decode prog_1_method_30_code 17 = .ok (.aload_n 0, 1) := gd_9 db00d_4
theorem d_X11_goHome_18 : decode prog_1_method_30_code 18 = .ok (.aload_n 1, 1) := gd_10 db00d_4
theorem d_X11_goHome_19 : decode prog_1_method_30_code 19 = .ok (.aload_n 1, 1) := gd_11 db00d_4
theorem d_X11_goHome_20 : decode prog_1_method_30_code 20 = .ok (.getfield 204, 3) := gd_12 db00d_4
theorem d_X11_goHome_23 : decode prog_1_method_30_code 23 = .ok (.invokevirtual 122, 3) := gd_13 db00d_4
theorem d_X11_goHome_26 : decode prog_1_method_30_code 26 = .ok (.aload_n 0, 1) := gd_14 db00d_4
theorem d_X11_goHome_27 : decode prog_1_method_30_code 27 = .ok (.aload_n 1, 1) := gd_15 db00d_4
theorem d_X11_goHome_28 : decode prog_1_method_30_code 28 = .ok (.invokevirtual 225, 3) := gd_16 db00d_4
theorem d_X11_goHome_31 : decode prog_1_method_30_code 31 = .ok (.return_, 1) := gd_17 db00d_4
theorem db00d_5 : Ad_ prog_1_method_31_code [(0, .aload_n 1, 1), (1, .iconst 0, 1), (2, .putfield 158, 3), (5, .aload_n 1, 1), (6, .iconst (-1), 1), (7, .putfield 219, 3), (10, .aload_n 0, 1), (11, .getfield 56, 3), (14, .aload_n 1, 1), (15, .getfield 126, 3), (18, .aload_n 0, 1), (19, .getfield 92, 3), (22, .invokevirtual 296, 3), (25, .return_, 1)] := bch_ok prog_1_method_31_code _ 0 (by decide +kernel)
theorem d_X11_setFree_0 : decode prog_1_method_31_code 0 = .ok (.aload_n 1, 1) := gd_0 db00d_5
theorem d_X11_setFree_1 : decode prog_1_method_31_code 1 = .ok (.iconst 0, 1) := gd_1 db00d_5
theorem d_X11_setFree_2 : decode prog_1_method_31_code 2 = .ok (.putfield 158, 3) := gd_2 db00d_5
theorem d_X11_setFree_5 : decode prog_1_method_31_code 5 = .ok (.aload_n 1, 1) := gd_3 db00d_5
theorem d_X11_setFree_6 : decode prog_1_method_31_code 6 = .ok (.iconst (-1), 1) := gd_4 db00d_5
theorem d_X11_setFree_7 : decode prog_1_method_31_code 7 = .ok (.putfield 219, 3) := gd_5 db00d_5
theorem d_X11_setFree_10 : decode prog_1_method_31_code 10 = .ok (.aload_n 0, 1) := gd_6 db00d_5
theorem d_X11_setFree_11 : decode prog_1_method_31_code 11 = .ok (.getfield 56, 3) := gd_7 db00d_5
theorem d_X11_setFree_14 : decode prog_1_method_31_code 14 = .ok (.aload_n 1, 1) := gd_8 db00d_5
theorem d_X11_setFree_15 : decode prog_1_method_31_code 15 = .ok (.getfield 126, 3) := gd_9 db00d_5
theorem d_X11_setFree_18 : decode prog_1_method_31_code 18 = .ok (.aload_n 0, 1) := gd_10 db00d_5
theorem d_X11_setFree_19 : decode prog_1_method_31_code 19 = .ok (.getfield 92, 3) := gd_11 db00d_5
theorem d_X11_setFree_22 : decode prog_1_method_31_code 22 = .ok (.invokevirtual 296, 3) := gd_12 db00d_5
theorem d_X11_setFree_25 : decode prog_1_method_31_code 25 = .ok (.return_, 1) := gd_13 db00d_5
theorem db00d_6 : Ad_ prog_1_method_32_code [(0, .aload_n 0, 1), (1, .aload_n 1, 1), (2, .aload_n 1, 1), (3, .getfield 210, 3), (6, .invokevirtual 274, 3), (9, .ifCond .eq 4, 3), (12, .return_, 1), (13, .aload_n 1, 1), (14, .getfield 277, 3), (17, .aload_n 1, 1), (18, .getfield 210, 3), (21, .if_icmp .ne 25, 3), (24, .aload_n 1, 1), (25, .getfield 213, 3), (28, .aload_n 0, 1), (29, .getfield 92, 3), (32, .if_icmp .le 14, 3), (35, .aload_n 1, 1), (36, .aload_n 1, 1), (37, .getfield 213, 3), (40, .putfield 219, 3), (43, .goto 8, 3), (46, .aload_n 0, 1), (47, .aload_n 1, 1)] := bch_ok prog_1_method_32_code _ 0 (by decide +kernel)
theorem d_X11_serveDrawn_0 : decode prog_1_method_32_code 0 = .ok (.aload_n 0, 1) := gd_0 db00d_6
theorem d_X11_serveDrawn_1 : decode prog_1_method_32_code 1 = .ok (.aload_n 1, 1) := gd_1 db00d_6
theorem d_X11_serveDrawn_2 : decode prog_1_method_32_code 2 = .ok (.aload_n 1, 1) := gd_2 db00d_6
theorem d_X11_serveDrawn_3 : decode prog_1_method_32_code 3 = .ok (.getfield 210, 3) := gd_3 db00d_6
theorem d_X11_serveDrawn_6 : decode prog_1_method_32_code 6 = .ok (.invokevirtual 274, 3) := gd_4 db00d_6
theorem d_X11_serveDrawn_9 : decode prog_1_method_32_code 9 = .ok (.ifCond .eq 4, 3) := gd_5 db00d_6
theorem d_X11_serveDrawn_12 : decode prog_1_method_32_code 12 = .ok (.return_, 1) := gd_6 db00d_6
theorem d_X11_serveDrawn_13 : decode prog_1_method_32_code 13 = .ok (.aload_n 1, 1) := gd_7 db00d_6
theorem d_X11_serveDrawn_14 : decode prog_1_method_32_code 14 = .ok (.getfield 277, 3) := gd_8 db00d_6
theorem d_X11_serveDrawn_17 : decode prog_1_method_32_code 17 = .ok (.aload_n 1, 1) := gd_9 db00d_6
theorem d_X11_serveDrawn_18 : decode prog_1_method_32_code 18 = .ok (.getfield 210, 3) := gd_10 db00d_6
theorem d_X11_serveDrawn_21 : decode prog_1_method_32_code 21 = .ok (.if_icmp .ne 25, 3) := gd_11 db00d_6
theorem d_X11_serveDrawn_24 : decode prog_1_method_32_code 24 = .ok (.aload_n 1, 1) := gd_12 db00d_6
theorem d_X11_serveDrawn_25 : decode prog_1_method_32_code 25 = .ok (.getfield 213, 3) := gd_13 db00d_6
theorem d_X11_serveDrawn_28 : decode prog_1_method_32_code 28 = .ok (.aload_n 0, 1) := gd_14 db00d_6
theorem d_X11_serveDrawn_29 : decode prog_1_method_32_code 29 = .ok (.getfield 92, 3) := gd_15 db00d_6
theorem d_X11_serveDrawn_32 : decode prog_1_method_32_code 32 = .ok (.if_icmp .le 14, 3) := gd_16 db00d_6
theorem d_X11_serveDrawn_35 : decode prog_1_method_32_code 35 = .ok (.aload_n 1, 1) := gd_17 db00d_6
theorem d_X11_serveDrawn_36 : decode prog_1_method_32_code 36 = .ok (.aload_n 1, 1) := gd_18 db00d_6
theorem d_X11_serveDrawn_37 : decode prog_1_method_32_code 37 = .ok (.getfield 213, 3) := gd_19 db00d_6
theorem d_X11_serveDrawn_40 : decode prog_1_method_32_code 40 = .ok (.putfield 219, 3) := gd_20 db00d_6
theorem d_X11_serveDrawn_43 : decode prog_1_method_32_code 43 = .ok (.goto 8, 3) := gd_21 db00d_6
theorem d_X11_serveDrawn_46 : decode prog_1_method_32_code 46 = .ok (.aload_n 0, 1) := gd_22 db00d_6
theorem d_X11_serveDrawn_47 : decode prog_1_method_32_code 47 = .ok (.aload_n 1, 1) := gd_23 db00d_6
theorem d_X11_serveDrawn_48 : decode prog_1_method_32_code 48 = .ok (.invokevirtual 268, 3) := by decide +kernel
theorem d_X11_serveDrawn_51 : decode prog_1_method_32_code 51 = .ok (.return_, 1) := by decide +kernel
theorem d_X11_putAt_17 : decode prog_1_method_33_code 17 = .ok (.ldc2_w 300, 3) := by decide +kernel
theorem d_X11_putAt_27 : decode prog_1_method_33_code 27 = .ok (.lstore 4, 2) := by decide +kernel
theorem d_X11_putAt_34 : decode prog_1_method_33_code 34 = .ok (.ldc2_w 302, 3) := by decide +kernel
theorem d_X11_putAt_38 : decode prog_1_method_33_code 38 = .ok (.lshl, 1) := by decide +kernel
theorem d_X11_putAt_39 : decode prog_1_method_33_code 39 = .ok (.ldc2_w 304, 3) := by decide +kernel
theorem d_X11_putAt_42 : decode prog_1_method_33_code 42 = .ok (.lxor, 1) := by decide +kernel
theorem d_X11_putAt_43 : decode prog_1_method_33_code 43 = .ok (.land, 1) := by decide +kernel
theorem d_X11_putAt_44 : decode prog_1_method_33_code 44 = .ok (.lload 4, 2) := by decide +kernel
theorem d_X11_putAt_47 : decode prog_1_method_33_code 47 = .ok (.lshl, 1) := by decide +kernel
theorem d_X11_putAt_48 : decode prog_1_method_33_code 48 = .ok (.lor, 1) := by decide +kernel
theorem db00d_7 : Ad_ prog_1_method_33_code [(0, .aload_n 1, 1), (1, .iload_n 2, 1), (2, .putfield 277, 3), (5, .iconst 5, 1), (6, .aload_n 1, 1), (7, .getfield 126, 3), (10, .imul, 1), (11, .istore_n 3, 1), (12, .iload_n 2, 1), (13, .iconst (-1), 1), (14, .if_icmp .ne 9, 3), (20, .goto 7, 3), (23, .iload_n 2, 1), (24, .iconst 1, 1), (25, .iadd, 1), (26, .i2l, 1), (29, .aload_n 0, 1), (30, .aload_n 0, 1), (31, .getfield 232, 3), (37, .iload_n 3, 1), (46, .iload_n 3, 1), (49, .putfield 232, 3), (52, .return_, 1)] := bch_ok prog_1_method_33_code _ 0 (by decide +kernel)
theorem d_X11_putAt_0 : decode prog_1_method_33_code 0 = .ok (.aload_n 1, 1) := gd_0 db00d_7
theorem d_X11_putAt_1 : decode prog_1_method_33_code 1 = .ok (.iload_n 2, 1) := gd_1 db00d_7
theorem d_X11_putAt_2 : decode prog_1_method_33_code 2 = .ok (.putfield 277, 3) := gd_2 db00d_7
theorem d_X11_putAt_5 : decode prog_1_method_33_code 5 = .ok (.iconst 5, 1) := gd_3 db00d_7
theorem d_X11_putAt_6 : decode prog_1_method_33_code 6 = .ok (.aload_n 1, 1) := gd_4 db00d_7
theorem d_X11_putAt_7 : decode prog_1_method_33_code 7 = .ok (.getfield 126, 3) := gd_5 db00d_7
theorem d_X11_putAt_10 : decode prog_1_method_33_code 10 = .ok (.imul, 1) := gd_6 db00d_7
theorem d_X11_putAt_11 : decode prog_1_method_33_code 11 = .ok (.istore_n 3, 1) := gd_7 db00d_7
theorem d_X11_putAt_12 : decode prog_1_method_33_code 12 = .ok (.iload_n 2, 1) := gd_8 db00d_7
theorem d_X11_putAt_13 : decode prog_1_method_33_code 13 = .ok (.iconst (-1), 1) := gd_9 db00d_7
theorem d_X11_putAt_14 : decode prog_1_method_33_code 14 = .ok (.if_icmp .ne 9, 3) := gd_10 db00d_7
theorem d_X11_putAt_20 : decode prog_1_method_33_code 20 = .ok (.goto 7, 3) := gd_11 db00d_7
theorem d_X11_putAt_23 : decode prog_1_method_33_code 23 = .ok (.iload_n 2, 1) := gd_12 db00d_7
theorem d_X11_putAt_24 : decode prog_1_method_33_code 24 = .ok (.iconst 1, 1) := gd_13 db00d_7
theorem d_X11_putAt_25 : decode prog_1_method_33_code 25 = .ok (.iadd, 1) := gd_14 db00d_7
theorem d_X11_putAt_26 : decode prog_1_method_33_code 26 = .ok (.i2l, 1) := gd_15 db00d_7
theorem d_X11_putAt_29 : decode prog_1_method_33_code 29 = .ok (.aload_n 0, 1) := gd_16 db00d_7
theorem d_X11_putAt_30 : decode prog_1_method_33_code 30 = .ok (.aload_n 0, 1) := gd_17 db00d_7
theorem d_X11_putAt_31 : decode prog_1_method_33_code 31 = .ok (.getfield 232, 3) := gd_18 db00d_7
theorem d_X11_putAt_37 : decode prog_1_method_33_code 37 = .ok (.iload_n 3, 1) := gd_19 db00d_7
theorem d_X11_putAt_46 : decode prog_1_method_33_code 46 = .ok (.iload_n 3, 1) := gd_20 db00d_7
theorem d_X11_putAt_49 : decode prog_1_method_33_code 49 = .ok (.putfield 232, 3) := gd_21 db00d_7
theorem d_X11_putAt_52 : decode prog_1_method_33_code 52 = .ok (.return_, 1) := gd_22 db00d_7
theorem d_X11_placeSign_22 : decode prog_1_method_34_code 22 = .ok (.laload, 1) := by decide +kernel
theorem d_X11_placeSign_30 : decode prog_1_method_34_code 30 = .ok (.lstore_n 3, 1) := by decide +kernel
theorem d_X11_placeSign_35 : decode prog_1_method_34_code 35 = .ok (.lshr, 1) := by decide +kernel
theorem d_X11_placeSign_36 : decode prog_1_method_34_code 36 = .ok (.l2i, 1) := by decide +kernel
theorem db00d_8 : Ad_ prog_1_method_34_code [(0, .iload_n 2, 1), (1, .aload_n 0, 1), (2, .getfield 92, 3), (5, .if_icmp .ge 21, 3), (8, .iload_n 2, 1), (9, .aload_n 0, 1), (10, .getfield 88, 3), (13, .arraylength, 1), (14, .if_icmp .ge 12, 3), (17, .aload_n 0, 1), (18, .getfield 88, 3), (21, .iload_n 2, 1), (23, .goto 7, 3), (26, .aload_n 0, 1), (27, .getfield 232, 3), (31, .lload_n 3, 1), (32, .iconst 5, 1), (33, .iload_n 1, 1), (34, .imul, 1), (37, .bipush 31, 2), (39, .iand, 1), (40, .ireturn, 1)] := bch_ok prog_1_method_34_code _ 0 (by decide +kernel)
theorem d_X11_placeSign_0 : decode prog_1_method_34_code 0 = .ok (.iload_n 2, 1) := gd_0 db00d_8
theorem d_X11_placeSign_1 : decode prog_1_method_34_code 1 = .ok (.aload_n 0, 1) := gd_1 db00d_8
theorem d_X11_placeSign_2 : decode prog_1_method_34_code 2 = .ok (.getfield 92, 3) := gd_2 db00d_8
theorem d_X11_placeSign_5 : decode prog_1_method_34_code 5 = .ok (.if_icmp .ge 21, 3) := gd_3 db00d_8
theorem d_X11_placeSign_8 : decode prog_1_method_34_code 8 = .ok (.iload_n 2, 1) := gd_4 db00d_8
theorem d_X11_placeSign_9 : decode prog_1_method_34_code 9 = .ok (.aload_n 0, 1) := gd_5 db00d_8
theorem d_X11_placeSign_10 : decode prog_1_method_34_code 10 = .ok (.getfield 88, 3) := gd_6 db00d_8
theorem d_X11_placeSign_13 : decode prog_1_method_34_code 13 = .ok (.arraylength, 1) := gd_7 db00d_8
theorem d_X11_placeSign_14 : decode prog_1_method_34_code 14 = .ok (.if_icmp .ge 12, 3) := gd_8 db00d_8
theorem d_X11_placeSign_17 : decode prog_1_method_34_code 17 = .ok (.aload_n 0, 1) := gd_9 db00d_8
theorem d_X11_placeSign_18 : decode prog_1_method_34_code 18 = .ok (.getfield 88, 3) := gd_10 db00d_8
theorem d_X11_placeSign_21 : decode prog_1_method_34_code 21 = .ok (.iload_n 2, 1) := gd_11 db00d_8
theorem d_X11_placeSign_23 : decode prog_1_method_34_code 23 = .ok (.goto 7, 3) := gd_12 db00d_8
theorem d_X11_placeSign_26 : decode prog_1_method_34_code 26 = .ok (.aload_n 0, 1) := gd_13 db00d_8
theorem d_X11_placeSign_27 : decode prog_1_method_34_code 27 = .ok (.getfield 232, 3) := gd_14 db00d_8
theorem d_X11_placeSign_31 : decode prog_1_method_34_code 31 = .ok (.lload_n 3, 1) := gd_15 db00d_8
theorem d_X11_placeSign_32 : decode prog_1_method_34_code 32 = .ok (.iconst 5, 1) := gd_16 db00d_8
theorem d_X11_placeSign_33 : decode prog_1_method_34_code 33 = .ok (.iload_n 1, 1) := gd_17 db00d_8
theorem d_X11_placeSign_34 : decode prog_1_method_34_code 34 = .ok (.imul, 1) := gd_18 db00d_8
theorem d_X11_placeSign_37 : decode prog_1_method_34_code 37 = .ok (.bipush 31, 2) := gd_19 db00d_8
theorem d_X11_placeSign_39 : decode prog_1_method_34_code 39 = .ok (.iand, 1) := gd_20 db00d_8
theorem d_X11_placeSign_40 : decode prog_1_method_34_code 40 = .ok (.ireturn, 1) := gd_21 db00d_8
theorem d_X11_about_5 : decode prog_1_method_35_code 5 = .ok (.astore_n 3, 1) := by decide +kernel
theorem d_X11_about_20 : decode prog_1_method_35_code 20 = .ok (.athrow, 1) := by decide +kernel
theorem d_X11_about_22 : decode prog_1_method_35_code 22 = .ok (.tableswitch 107 0 8 #[50, 55, 60, 65, 70, 87, 92, 97, 102], 50) := by decide +kernel
theorem db00d_9 : Ad_ prog_1_method_35_code [(0, .aload_n 0, 1), (1, .iload_n 1, 1), (2, .invokevirtual 100, 3), (6, .aload_n 3, 1), (7, .ifnonnull 14, 3), (10, .new 306, 3), (13, .dup, 1), (14, .ldc_w 308, 3), (17, .invokespecial 310, 3), (21, .iload_n 2, 1), (72, .aload_n 3, 1), (73, .getfield 158, 3), (76, .ireturn, 1), (77, .aload_n 3, 1), (78, .getfield 277, 3), (81, .ireturn, 1), (82, .aload_n 3, 1), (83, .getfield 216, 3), (86, .ireturn, 1), (87, .aload_n 3, 1), (88, .getfield 219, 3), (91, .ireturn, 1), (92, .aload_n 3, 1), (93, .getfield 158, 3)] := bch_ok prog_1_method_35_code _ 0 (by decide +kernel)
theorem d_X11_about_0 : decode prog_1_method_35_code 0 = .ok (.aload_n 0, 1) := gd_0 db00d_9
theorem d_X11_about_1 : decode prog_1_method_35_code 1 = .ok (.iload_n 1, 1) := gd_1 db00d_9
theorem d_X11_about_2 : decode prog_1_method_35_code 2 = .ok (.invokevirtual 100, 3) := gd_2 db00d_9
theorem d_X11_about_6 : decode prog_1_method_35_code 6 = .ok (.aload_n 3, 1) := gd_3 db00d_9
theorem d_X11_about_7 : decode prog_1_method_35_code 7 = .ok (.ifnonnull 14, 3) := gd_4 db00d_9
theorem d_X11_about_10 : decode prog_1_method_35_code 10 = .ok (.new 306, 3) := gd_5 db00d_9
theorem d_X11_about_13 : decode prog_1_method_35_code 13 = .ok (.dup, 1) := gd_6 db00d_9
theorem d_X11_about_14 : decode prog_1_method_35_code 14 = .ok (.ldc_w 308, 3) := gd_7 db00d_9
theorem d_X11_about_17 : decode prog_1_method_35_code 17 = .ok (.invokespecial 310, 3) := gd_8 db00d_9
theorem d_X11_about_21 : decode prog_1_method_35_code 21 = .ok (.iload_n 2, 1) := gd_9 db00d_9
theorem d_X11_about_72 : decode prog_1_method_35_code 72 = .ok (.aload_n 3, 1) := gd_10 db00d_9
theorem d_X11_about_73 : decode prog_1_method_35_code 73 = .ok (.getfield 158, 3) := gd_11 db00d_9
theorem d_X11_about_76 : decode prog_1_method_35_code 76 = .ok (.ireturn, 1) := gd_12 db00d_9
theorem d_X11_about_77 : decode prog_1_method_35_code 77 = .ok (.aload_n 3, 1) := gd_13 db00d_9
theorem d_X11_about_78 : decode prog_1_method_35_code 78 = .ok (.getfield 277, 3) := gd_14 db00d_9
theorem d_X11_about_81 : decode prog_1_method_35_code 81 = .ok (.ireturn, 1) := gd_15 db00d_9
theorem d_X11_about_82 : decode prog_1_method_35_code 82 = .ok (.aload_n 3, 1) := gd_16 db00d_9
theorem d_X11_about_83 : decode prog_1_method_35_code 83 = .ok (.getfield 216, 3) := gd_17 db00d_9
theorem d_X11_about_86 : decode prog_1_method_35_code 86 = .ok (.ireturn, 1) := gd_18 db00d_9
theorem d_X11_about_87 : decode prog_1_method_35_code 87 = .ok (.aload_n 3, 1) := gd_19 db00d_9
theorem d_X11_about_88 : decode prog_1_method_35_code 88 = .ok (.getfield 219, 3) := gd_20 db00d_9
theorem d_X11_about_91 : decode prog_1_method_35_code 91 = .ok (.ireturn, 1) := gd_21 db00d_9
theorem d_X11_about_92 : decode prog_1_method_35_code 92 = .ok (.aload_n 3, 1) := gd_22 db00d_9
theorem d_X11_about_93 : decode prog_1_method_35_code 93 = .ok (.getfield 158, 3) := gd_23 db00d_9
theorem d_X11_about_139 : decode prog_1_method_35_code 139 = .ok (.athrow, 1) := by decide +kernel
theorem db00d_10 : Ad_ prog_1_method_35_code [(96, .iconst 1, 1), (97, .if_icmp .ne 10, 3), (100, .aload_n 3, 1), (101, .getfield 167, 3), (104, .goto 4, 3), (107, .iconst (-1), 1), (108, .ireturn, 1), (109, .aload_n 3, 1), (110, .getfield 287, 3), (113, .ireturn, 1), (114, .aload_n 3, 1), (115, .getfield 290, 3), (118, .ireturn, 1), (119, .aload_n 3, 1), (120, .getfield 313, 3), (123, .ireturn, 1), (124, .aload_n 3, 1), (125, .getfield 204, 3), (128, .ireturn, 1), (129, .new 306, 3), (132, .dup, 1), (133, .ldc_w 316, 3), (136, .invokespecial 310, 3)] := bch_ok prog_1_method_35_code _ 96 (by decide +kernel)
theorem d_X11_about_96 : decode prog_1_method_35_code 96 = .ok (.iconst 1, 1) := gd_0 db00d_10
theorem d_X11_about_97 : decode prog_1_method_35_code 97 = .ok (.if_icmp .ne 10, 3) := gd_1 db00d_10
theorem d_X11_about_100 : decode prog_1_method_35_code 100 = .ok (.aload_n 3, 1) := gd_2 db00d_10
theorem d_X11_about_101 : decode prog_1_method_35_code 101 = .ok (.getfield 167, 3) := gd_3 db00d_10
theorem d_X11_about_104 : decode prog_1_method_35_code 104 = .ok (.goto 4, 3) := gd_4 db00d_10
theorem d_X11_about_107 : decode prog_1_method_35_code 107 = .ok (.iconst (-1), 1) := gd_5 db00d_10
theorem d_X11_about_108 : decode prog_1_method_35_code 108 = .ok (.ireturn, 1) := gd_6 db00d_10
theorem d_X11_about_109 : decode prog_1_method_35_code 109 = .ok (.aload_n 3, 1) := gd_7 db00d_10
theorem d_X11_about_110 : decode prog_1_method_35_code 110 = .ok (.getfield 287, 3) := gd_8 db00d_10
theorem d_X11_about_113 : decode prog_1_method_35_code 113 = .ok (.ireturn, 1) := gd_9 db00d_10
theorem d_X11_about_114 : decode prog_1_method_35_code 114 = .ok (.aload_n 3, 1) := gd_10 db00d_10
theorem d_X11_about_115 : decode prog_1_method_35_code 115 = .ok (.getfield 290, 3) := gd_11 db00d_10
theorem d_X11_about_118 : decode prog_1_method_35_code 118 = .ok (.ireturn, 1) := gd_12 db00d_10
theorem d_X11_about_119 : decode prog_1_method_35_code 119 = .ok (.aload_n 3, 1) := gd_13 db00d_10
theorem d_X11_about_120 : decode prog_1_method_35_code 120 = .ok (.getfield 313, 3) := gd_14 db00d_10
theorem d_X11_about_123 : decode prog_1_method_35_code 123 = .ok (.ireturn, 1) := gd_15 db00d_10
theorem d_X11_about_124 : decode prog_1_method_35_code 124 = .ok (.aload_n 3, 1) := gd_16 db00d_10
theorem d_X11_about_125 : decode prog_1_method_35_code 125 = .ok (.getfield 204, 3) := gd_17 db00d_10
theorem d_X11_about_128 : decode prog_1_method_35_code 128 = .ok (.ireturn, 1) := gd_18 db00d_10
theorem d_X11_about_129 : decode prog_1_method_35_code 129 = .ok (.new 306, 3) := gd_19 db00d_10
theorem d_X11_about_132 : decode prog_1_method_35_code 132 = .ok (.dup, 1) := gd_20 db00d_10
theorem d_X11_about_133 : decode prog_1_method_35_code 133 = .ok (.ldc_w 316, 3) := gd_21 db00d_10
theorem d_X11_about_136 : decode prog_1_method_35_code 136 = .ok (.invokespecial 310, 3) := gd_22 db00d_10
theorem db00d_11 : Ad_ prog_1_method_36_code [(0, .aload_n 0, 1), (1, .iload_n 1, 1), (2, .invokevirtual 318, 3), (5, .ifCond .eq 11, 3), (8, .aload_n 0, 1), (9, .iload_n 2, 1), (10, .invokevirtual 321, 3), (13, .ifCond .ne 5, 3), (16, .iconst (-1), 1), (17, .ireturn, 1), (18, .aload_n 0, 1), (19, .iload_n 1, 1), (20, .iload_n 2, 1), (21, .invokevirtual 324, 3), (24, .istore_n 3, 1), (25, .iload_n 3, 1), (26, .ifCond .eq 9, 3), (29, .iload_n 3, 1), (30, .bipush 17, 2), (32, .if_icmp .ne 7, 3), (35, .iconst (-1), 1), (36, .goto 6, 3), (39, .iload_n 3, 1), (40, .iconst 1, 1)] := bch_ok prog_1_method_36_code _ 0 (by decide +kernel)
theorem d_X11_was_0 : decode prog_1_method_36_code 0 = .ok (.aload_n 0, 1) := gd_0 db00d_11
theorem d_X11_was_1 : decode prog_1_method_36_code 1 = .ok (.iload_n 1, 1) := gd_1 db00d_11
theorem d_X11_was_2 : decode prog_1_method_36_code 2 = .ok (.invokevirtual 318, 3) := gd_2 db00d_11
theorem d_X11_was_5 : decode prog_1_method_36_code 5 = .ok (.ifCond .eq 11, 3) := gd_3 db00d_11
theorem d_X11_was_8 : decode prog_1_method_36_code 8 = .ok (.aload_n 0, 1) := gd_4 db00d_11
theorem d_X11_was_9 : decode prog_1_method_36_code 9 = .ok (.iload_n 2, 1) := gd_5 db00d_11
theorem d_X11_was_10 : decode prog_1_method_36_code 10 = .ok (.invokevirtual 321, 3) := gd_6 db00d_11
theorem d_X11_was_13 : decode prog_1_method_36_code 13 = .ok (.ifCond .ne 5, 3) := gd_7 db00d_11
theorem d_X11_was_16 : decode prog_1_method_36_code 16 = .ok (.iconst (-1), 1) := gd_8 db00d_11
theorem d_X11_was_17 : decode prog_1_method_36_code 17 = .ok (.ireturn, 1) := gd_9 db00d_11
theorem d_X11_was_18 : decode prog_1_method_36_code 18 = .ok (.aload_n 0, 1) := gd_10 db00d_11
theorem d_X11_was_19 : decode prog_1_method_36_code 19 = .ok (.iload_n 1, 1) := gd_11 db00d_11
theorem d_X11_was_20 : decode prog_1_method_36_code 20 = .ok (.iload_n 2, 1) := gd_12 db00d_11
theorem d_X11_was_21 : decode prog_1_method_36_code 21 = .ok (.invokevirtual 324, 3) := gd_13 db00d_11
theorem d_X11_was_24 : decode prog_1_method_36_code 24 = .ok (.istore_n 3, 1) := gd_14 db00d_11
theorem d_X11_was_25 : decode prog_1_method_36_code 25 = .ok (.iload_n 3, 1) := gd_15 db00d_11
theorem d_X11_was_26 : decode prog_1_method_36_code 26 = .ok (.ifCond .eq 9, 3) := gd_16 db00d_11
theorem d_X11_was_29 : decode prog_1_method_36_code 29 = .ok (.iload_n 3, 1) := gd_17 db00d_11
theorem d_X11_was_30 : decode prog_1_method_36_code 30 = .ok (.bipush 17, 2) := gd_18 db00d_11
theorem d_X11_was_32 : decode prog_1_method_36_code 32 = .ok (.if_icmp .ne 7, 3) := gd_19 db00d_11
theorem d_X11_was_35 : decode prog_1_method_36_code 35 = .ok (.iconst (-1), 1) := gd_20 db00d_11
theorem d_X11_was_36 : decode prog_1_method_36_code 36 = .ok (.goto 6, 3) := gd_21 db00d_11
theorem d_X11_was_39 : decode prog_1_method_36_code 39 = .ok (.iload_n 3, 1) := gd_22 db00d_11
theorem d_X11_was_40 : decode prog_1_method_36_code 40 = .ok (.iconst 1, 1) := gd_23 db00d_11
theorem d_X11_was_41 : decode prog_1_method_36_code 41 = .ok (.isub, 1) := by decide +kernel
theorem d_X11_was_42 : decode prog_1_method_36_code 42 = .ok (.ireturn, 1) := by decide +kernel
theorem db00d_12 : Ad_ prog_1_method_37_code [(0, .aload_n 0, 1), (1, .iload_n 2, 1), (2, .invokevirtual 321, 3), (5, .ifCond .eq 27, 3), (8, .aload_n 0, 1), (9, .getfield 49, 3), (12, .iload_n 1, 1), (13, .invokevirtual 327, 3), (16, .ifCond .eq 16, 3), (19, .aload_n 0, 1), (20, .getfield 49, 3), (23, .iload_n 1, 1), (24, .iload_n 2, 1), (25, .iload_n 3, 1), (26, .invokevirtual 328, 3), (29, .goto 4, 3), (32, .iconst (-1), 1), (33, .ireturn, 1)] := bch_ok prog_1_method_37_code _ 0 (by decide +kernel)
theorem d_X11_point_0 : decode prog_1_method_37_code 0 = .ok (.aload_n 0, 1) := gd_0 db00d_12
theorem d_X11_point_1 : decode prog_1_method_37_code 1 = .ok (.iload_n 2, 1) := gd_1 db00d_12
theorem d_X11_point_2 : decode prog_1_method_37_code 2 = .ok (.invokevirtual 321, 3) := gd_2 db00d_12
theorem d_X11_point_5 : decode prog_1_method_37_code 5 = .ok (.ifCond .eq 27, 3) := gd_3 db00d_12
theorem d_X11_point_8 : decode prog_1_method_37_code 8 = .ok (.aload_n 0, 1) := gd_4 db00d_12
theorem d_X11_point_9 : decode prog_1_method_37_code 9 = .ok (.getfield 49, 3) := gd_5 db00d_12
theorem d_X11_point_12 : decode prog_1_method_37_code 12 = .ok (.iload_n 1, 1) := gd_6 db00d_12
theorem d_X11_point_13 : decode prog_1_method_37_code 13 = .ok (.invokevirtual 327, 3) := gd_7 db00d_12
theorem d_X11_point_16 : decode prog_1_method_37_code 16 = .ok (.ifCond .eq 16, 3) := gd_8 db00d_12
theorem d_X11_point_19 : decode prog_1_method_37_code 19 = .ok (.aload_n 0, 1) := gd_9 db00d_12
theorem d_X11_point_20 : decode prog_1_method_37_code 20 = .ok (.getfield 49, 3) := gd_10 db00d_12
theorem d_X11_point_23 : decode prog_1_method_37_code 23 = .ok (.iload_n 1, 1) := gd_11 db00d_12
theorem d_X11_point_24 : decode prog_1_method_37_code 24 = .ok (.iload_n 2, 1) := gd_12 db00d_12
theorem d_X11_point_25 : decode prog_1_method_37_code 25 = .ok (.iload_n 3, 1) := gd_13 db00d_12
theorem d_X11_point_26 : decode prog_1_method_37_code 26 = .ok (.invokevirtual 328, 3) := gd_14 db00d_12
theorem d_X11_point_29 : decode prog_1_method_37_code 29 = .ok (.goto 4, 3) := gd_15 db00d_12
theorem d_X11_point_32 : decode prog_1_method_37_code 32 = .ok (.iconst (-1), 1) := gd_16 db00d_12
theorem d_X11_point_33 : decode prog_1_method_37_code 33 = .ok (.ireturn, 1) := gd_17 db00d_12
theorem db00d_13 : Ad_ prog_1_method_38_code [(0, .aload_n 0, 1), (1, .getfield 49, 3), (4, .iload_n 1, 1), (5, .invokevirtual 327, 3), (8, .ifCond .eq 33, 3), (11, .iload_n 2, 1), (12, .iconst 1, 1), (13, .bipush 9, 2), (15, .invokestatic 96, 3), (18, .ifCond .eq 23, 3), (21, .aload_n 0, 1), (22, .getfield 49, 3), (25, .iload_n 1, 1), (26, .iload_n 2, 1), (27, .aload_n 0, 1), (28, .getfield 92, 3), (31, .invokevirtual 331, 3), (34, .ifCond .eq 7, 3), (37, .iconst 1, 1), (38, .goto 4, 3), (41, .iconst 0, 1), (42, .ireturn, 1)] := bch_ok prog_1_method_38_code _ 0 (by decide +kernel)
theorem d_X11_cause_0 : decode prog_1_method_38_code 0 = .ok (.aload_n 0, 1) := gd_0 db00d_13
theorem d_X11_cause_1 : decode prog_1_method_38_code 1 = .ok (.getfield 49, 3) := gd_1 db00d_13
theorem d_X11_cause_4 : decode prog_1_method_38_code 4 = .ok (.iload_n 1, 1) := gd_2 db00d_13
theorem d_X11_cause_5 : decode prog_1_method_38_code 5 = .ok (.invokevirtual 327, 3) := gd_3 db00d_13
theorem d_X11_cause_8 : decode prog_1_method_38_code 8 = .ok (.ifCond .eq 33, 3) := gd_4 db00d_13
theorem d_X11_cause_11 : decode prog_1_method_38_code 11 = .ok (.iload_n 2, 1) := gd_5 db00d_13
theorem d_X11_cause_12 : decode prog_1_method_38_code 12 = .ok (.iconst 1, 1) := gd_6 db00d_13
theorem d_X11_cause_13 : decode prog_1_method_38_code 13 = .ok (.bipush 9, 2) := gd_7 db00d_13
theorem d_X11_cause_15 : decode prog_1_method_38_code 15 = .ok (.invokestatic 96, 3) := gd_8 db00d_13
theorem d_X11_cause_18 : decode prog_1_method_38_code 18 = .ok (.ifCond .eq 23, 3) := gd_9 db00d_13
theorem d_X11_cause_21 : decode prog_1_method_38_code 21 = .ok (.aload_n 0, 1) := gd_10 db00d_13
theorem d_X11_cause_22 : decode prog_1_method_38_code 22 = .ok (.getfield 49, 3) := gd_11 db00d_13
theorem d_X11_cause_25 : decode prog_1_method_38_code 25 = .ok (.iload_n 1, 1) := gd_12 db00d_13
theorem d_X11_cause_26 : decode prog_1_method_38_code 26 = .ok (.iload_n 2, 1) := gd_13 db00d_13
theorem d_X11_cause_27 : decode prog_1_method_38_code 27 = .ok (.aload_n 0, 1) := gd_14 db00d_13
theorem d_X11_cause_28 : decode prog_1_method_38_code 28 = .ok (.getfield 92, 3) := gd_15 db00d_13
theorem d_X11_cause_31 : decode prog_1_method_38_code 31 = .ok (.invokevirtual 331, 3) := gd_16 db00d_13
theorem d_X11_cause_34 : decode prog_1_method_38_code 34 = .ok (.ifCond .eq 7, 3) := gd_17 db00d_13
theorem d_X11_cause_37 : decode prog_1_method_38_code 37 = .ok (.iconst 1, 1) := gd_18 db00d_13
theorem d_X11_cause_38 : decode prog_1_method_38_code 38 = .ok (.goto 4, 3) := gd_19 db00d_13
theorem d_X11_cause_41 : decode prog_1_method_38_code 41 = .ok (.iconst 0, 1) := gd_20 db00d_13
theorem d_X11_cause_42 : decode prog_1_method_38_code 42 = .ok (.ireturn, 1) := gd_21 db00d_13
theorem db00d_14 : Ad_ prog_1_method_39_code [(0, .iload_n 1, 1), (1, .iconst 1, 1), (2, .bipush 9, 2), (4, .invokestatic 96, 3), (7, .ifCond .eq 23, 3), (10, .aload_n 0, 1), (11, .iload_n 2, 1), (12, .invokevirtual 321, 3), (15, .ifCond .eq 15, 3), (18, .aload_n 0, 1), (19, .getfield 49, 3), (22, .iload_n 1, 1), (23, .iload_n 2, 1), (24, .invokevirtual 334, 3), (27, .goto 4, 3), (30, .iconst (-1), 1), (31, .ireturn, 1)] := bch_ok prog_1_method_39_code _ 0 (by decide +kernel)
theorem d_X11_causes_0 : decode prog_1_method_39_code 0 = .ok (.iload_n 1, 1) := gd_0 db00d_14
theorem d_X11_causes_1 : decode prog_1_method_39_code 1 = .ok (.iconst 1, 1) := gd_1 db00d_14
theorem d_X11_causes_2 : decode prog_1_method_39_code 2 = .ok (.bipush 9, 2) := gd_2 db00d_14
theorem d_X11_causes_4 : decode prog_1_method_39_code 4 = .ok (.invokestatic 96, 3) := gd_3 db00d_14
theorem d_X11_causes_7 : decode prog_1_method_39_code 7 = .ok (.ifCond .eq 23, 3) := gd_4 db00d_14
theorem d_X11_causes_10 : decode prog_1_method_39_code 10 = .ok (.aload_n 0, 1) := gd_5 db00d_14
theorem d_X11_causes_11 : decode prog_1_method_39_code 11 = .ok (.iload_n 2, 1) := gd_6 db00d_14
theorem d_X11_causes_12 : decode prog_1_method_39_code 12 = .ok (.invokevirtual 321, 3) := gd_7 db00d_14
theorem d_X11_causes_15 : decode prog_1_method_39_code 15 = .ok (.ifCond .eq 15, 3) := gd_8 db00d_14
theorem d_X11_causes_18 : decode prog_1_method_39_code 18 = .ok (.aload_n 0, 1) := gd_9 db00d_14
theorem d_X11_causes_19 : decode prog_1_method_39_code 19 = .ok (.getfield 49, 3) := gd_10 db00d_14
theorem d_X11_causes_22 : decode prog_1_method_39_code 22 = .ok (.iload_n 1, 1) := gd_11 db00d_14
theorem d_X11_causes_23 : decode prog_1_method_39_code 23 = .ok (.iload_n 2, 1) := gd_12 db00d_14
theorem d_X11_causes_24 : decode prog_1_method_39_code 24 = .ok (.invokevirtual 334, 3) := gd_13 db00d_14
theorem d_X11_causes_27 : decode prog_1_method_39_code 27 = .ok (.goto 4, 3) := gd_14 db00d_14
theorem d_X11_causes_30 : decode prog_1_method_39_code 30 = .ok (.iconst (-1), 1) := gd_15 db00d_14
theorem d_X11_causes_31 : decode prog_1_method_39_code 31 = .ok (.ireturn, 1) := gd_16 db00d_14
theorem db00d_15 : Ad_ prog_1_method_40_code [(0, .iload_n 1, 1), (1, .iconst 0, 1), (2, .bipush 9, 2), (4, .invokestatic 96, 3), (7, .ifCond .eq 21, 3), (10, .iload_n 2, 1), (11, .invokestatic 107, 3), (14, .ifCond .eq 14, 3), (17, .iload 5, 2), (19, .iconst 1, 1), (20, .bipush 9, 2), (22, .invokestatic 96, 3), (25, .ifCond .ne 5, 3), (28, .iconst (-1), 1), (29, .ireturn, 1), (30, .iload_n 3, 1), (31, .iconst 0, 1), (32, .sipush 20000, 3), (35, .invokestatic 96, 3), (38, .ifCond .eq 15, 3), (41, .iload 4, 2), (43, .iload_n 3, 1), (44, .sipush 20000, 3), (47, .invokestatic 96, 3)] := bch_ok prog_1_method_40_code _ 0 (by decide +kernel)
theorem d_X11_find_0 : decode prog_1_method_40_code 0 = .ok (.iload_n 1, 1) := gd_0 db00d_15
theorem d_X11_find_1 : decode prog_1_method_40_code 1 = .ok (.iconst 0, 1) := gd_1 db00d_15
theorem d_X11_find_2 : decode prog_1_method_40_code 2 = .ok (.bipush 9, 2) := gd_2 db00d_15
theorem d_X11_find_4 : decode prog_1_method_40_code 4 = .ok (.invokestatic 96, 3) := gd_3 db00d_15
theorem d_X11_find_7 : decode prog_1_method_40_code 7 = .ok (.ifCond .eq 21, 3) := gd_4 db00d_15
theorem d_X11_find_10 : decode prog_1_method_40_code 10 = .ok (.iload_n 2, 1) := gd_5 db00d_15
theorem d_X11_find_11 : decode prog_1_method_40_code 11 = .ok (.invokestatic 107, 3) := gd_6 db00d_15
theorem d_X11_find_14 : decode prog_1_method_40_code 14 = .ok (.ifCond .eq 14, 3) := gd_7 db00d_15
theorem d_X11_find_17 : decode prog_1_method_40_code 17 = .ok (.iload 5, 2) := gd_8 db00d_15
theorem d_X11_find_19 : decode prog_1_method_40_code 19 = .ok (.iconst 1, 1) := gd_9 db00d_15
theorem d_X11_find_20 : decode prog_1_method_40_code 20 = .ok (.bipush 9, 2) := gd_10 db00d_15
theorem d_X11_find_22 : decode prog_1_method_40_code 22 = .ok (.invokestatic 96, 3) := gd_11 db00d_15
theorem d_X11_find_25 : decode prog_1_method_40_code 25 = .ok (.ifCond .ne 5, 3) := gd_12 db00d_15
theorem d_X11_find_28 : decode prog_1_method_40_code 28 = .ok (.iconst (-1), 1) := gd_13 db00d_15
theorem d_X11_find_29 : decode prog_1_method_40_code 29 = .ok (.ireturn, 1) := gd_14 db00d_15
theorem d_X11_find_30 : decode prog_1_method_40_code 30 = .ok (.iload_n 3, 1) := gd_15 db00d_15
theorem d_X11_find_31 : decode prog_1_method_40_code 31 = .ok (.iconst 0, 1) := gd_16 db00d_15
theorem d_X11_find_32 : decode prog_1_method_40_code 32 = .ok (.sipush 20000, 3) := gd_17 db00d_15
theorem d_X11_find_35 : decode prog_1_method_40_code 35 = .ok (.invokestatic 96, 3) := gd_18 db00d_15
theorem d_X11_find_38 : decode prog_1_method_40_code 38 = .ok (.ifCond .eq 15, 3) := gd_19 db00d_15
theorem d_X11_find_41 : decode prog_1_method_40_code 41 = .ok (.iload 4, 2) := gd_20 db00d_15
theorem d_X11_find_43 : decode prog_1_method_40_code 43 = .ok (.iload_n 3, 1) := gd_21 db00d_15
theorem d_X11_find_44 : decode prog_1_method_40_code 44 = .ok (.sipush 20000, 3) := gd_22 db00d_15
theorem d_X11_find_47 : decode prog_1_method_40_code 47 = .ok (.invokestatic 96, 3) := gd_23 db00d_15
theorem db00d_16 : Ad_ prog_1_method_40_code [(50, .ifCond .ne 5, 3), (53, .iconst (-1), 1), (54, .ireturn, 1), (55, .aload_n 0, 1), (56, .getfield 56, 3), (59, .iload_n 1, 1), (60, .iload_n 2, 1), (61, .iload_n 3, 1), (62, .iload 4, 2), (64, .iload 5, 2), (66, .invokevirtual 337, 3), (69, .ireturn, 1)] := bch_ok prog_1_method_40_code _ 50 (by decide +kernel)
theorem d_X11_find_50 : decode prog_1_method_40_code 50 = .ok (.ifCond .ne 5, 3) := gd_0 db00d_16
theorem d_X11_find_53 : decode prog_1_method_40_code 53 = .ok (.iconst (-1), 1) := gd_1 db00d_16
theorem d_X11_find_54 : decode prog_1_method_40_code 54 = .ok (.ireturn, 1) := gd_2 db00d_16
theorem d_X11_find_55 : decode prog_1_method_40_code 55 = .ok (.aload_n 0, 1) := gd_3 db00d_16
theorem d_X11_find_56 : decode prog_1_method_40_code 56 = .ok (.getfield 56, 3) := gd_4 db00d_16
theorem d_X11_find_59 : decode prog_1_method_40_code 59 = .ok (.iload_n 1, 1) := gd_5 db00d_16
theorem d_X11_find_60 : decode prog_1_method_40_code 60 = .ok (.iload_n 2, 1) := gd_6 db00d_16
theorem d_X11_find_61 : decode prog_1_method_40_code 61 = .ok (.iload_n 3, 1) := gd_7 db00d_16
theorem d_X11_find_62 : decode prog_1_method_40_code 62 = .ok (.iload 4, 2) := gd_8 db00d_16
theorem d_X11_find_64 : decode prog_1_method_40_code 64 = .ok (.iload 5, 2) := gd_9 db00d_16
theorem d_X11_find_66 : decode prog_1_method_40_code 66 = .ok (.invokevirtual 337, 3) := gd_10 db00d_16
theorem d_X11_find_69 : decode prog_1_method_40_code 69 = .ok (.ireturn, 1) := gd_11 db00d_16
theorem db00d_17 : Ad_ prog_1_method_41_code [(0, .iload_n 1, 1), (1, .iconst 0, 1), (2, .bipush 30, 2), (4, .invokestatic 96, 3), (7, .ifCond .eq 15, 3), (10, .aload_n 0, 1), (11, .getfield 19, 3), (14, .iconst 1, 1), (15, .invokevirtual 140, 3), (18, .iconst (-1), 1), (19, .if_icmp .eq 5, 3), (22, .iconst (-1), 1), (23, .ireturn, 1), (24, .aload_n 0, 1), (25, .aload_n 0, 1), (26, .getfield 33, 3), (29, .iload_n 1, 1), (30, .invokevirtual 340, 3), (33, .ireturn, 1)] := bch_ok prog_1_method_41_code _ 0 (by decide +kernel)
theorem d_X11_act_0 : decode prog_1_method_41_code 0 = .ok (.iload_n 1, 1) := gd_0 db00d_17
theorem d_X11_act_1 : decode prog_1_method_41_code 1 = .ok (.iconst 0, 1) := gd_1 db00d_17
theorem d_X11_act_2 : decode prog_1_method_41_code 2 = .ok (.bipush 30, 2) := gd_2 db00d_17
theorem d_X11_act_4 : decode prog_1_method_41_code 4 = .ok (.invokestatic 96, 3) := gd_3 db00d_17
theorem d_X11_act_7 : decode prog_1_method_41_code 7 = .ok (.ifCond .eq 15, 3) := gd_4 db00d_17
theorem d_X11_act_10 : decode prog_1_method_41_code 10 = .ok (.aload_n 0, 1) := gd_5 db00d_17
theorem d_X11_act_11 : decode prog_1_method_41_code 11 = .ok (.getfield 19, 3) := gd_6 db00d_17
theorem d_X11_act_14 : decode prog_1_method_41_code 14 = .ok (.iconst 1, 1) := gd_7 db00d_17
theorem d_X11_act_15 : decode prog_1_method_41_code 15 = .ok (.invokevirtual 140, 3) := gd_8 db00d_17
theorem d_X11_act_18 : decode prog_1_method_41_code 18 = .ok (.iconst (-1), 1) := gd_9 db00d_17
theorem d_X11_act_19 : decode prog_1_method_41_code 19 = .ok (.if_icmp .eq 5, 3) := gd_10 db00d_17
theorem d_X11_act_22 : decode prog_1_method_41_code 22 = .ok (.iconst (-1), 1) := gd_11 db00d_17
theorem d_X11_act_23 : decode prog_1_method_41_code 23 = .ok (.ireturn, 1) := gd_12 db00d_17
theorem d_X11_act_24 : decode prog_1_method_41_code 24 = .ok (.aload_n 0, 1) := gd_13 db00d_17
theorem d_X11_act_25 : decode prog_1_method_41_code 25 = .ok (.aload_n 0, 1) := gd_14 db00d_17
theorem d_X11_act_26 : decode prog_1_method_41_code 26 = .ok (.getfield 33, 3) := gd_15 db00d_17
theorem d_X11_act_29 : decode prog_1_method_41_code 29 = .ok (.iload_n 1, 1) := gd_16 db00d_17
theorem d_X11_act_30 : decode prog_1_method_41_code 30 = .ok (.invokevirtual 340, 3) := gd_17 db00d_17
theorem d_X11_act_33 : decode prog_1_method_41_code 33 = .ok (.ireturn, 1) := gd_18 db00d_17
theorem db00d_18 : Ad_ prog_1_method_42_code [(0, .aload_n 1, 1), (1, .iload_n 2, 1), (2, .aload_n 0, 1), (3, .getfield 92, 3), (6, .aload_n 0, 1), (7, .getfield 19, 3), (10, .invokevirtual 344, 3), (13, .istore_n 3, 1), (14, .iload_n 3, 1), (15, .iconst (-1), 1), (16, .if_icmp .eq 12, 3), (19, .aload_n 0, 1), (20, .getfield 19, 3), (23, .iconst 0, 1), (24, .invokevirtual 133, 3), (27, .pop, 1), (28, .iload_n 3, 1), (29, .ireturn, 1)] := bch_ok prog_1_method_42_code _ 0 (by decide +kernel)
theorem d_X11_keepRule_0 : decode prog_1_method_42_code 0 = .ok (.aload_n 1, 1) := gd_0 db00d_18
theorem d_X11_keepRule_1 : decode prog_1_method_42_code 1 = .ok (.iload_n 2, 1) := gd_1 db00d_18
theorem d_X11_keepRule_2 : decode prog_1_method_42_code 2 = .ok (.aload_n 0, 1) := gd_2 db00d_18
theorem d_X11_keepRule_3 : decode prog_1_method_42_code 3 = .ok (.getfield 92, 3) := gd_3 db00d_18
theorem d_X11_keepRule_6 : decode prog_1_method_42_code 6 = .ok (.aload_n 0, 1) := gd_4 db00d_18
theorem d_X11_keepRule_7 : decode prog_1_method_42_code 7 = .ok (.getfield 19, 3) := gd_5 db00d_18
theorem d_X11_keepRule_10 : decode prog_1_method_42_code 10 = .ok (.invokevirtual 344, 3) := gd_6 db00d_18
theorem d_X11_keepRule_13 : decode prog_1_method_42_code 13 = .ok (.istore_n 3, 1) := gd_7 db00d_18
theorem d_X11_keepRule_14 : decode prog_1_method_42_code 14 = .ok (.iload_n 3, 1) := gd_8 db00d_18
theorem d_X11_keepRule_15 : decode prog_1_method_42_code 15 = .ok (.iconst (-1), 1) := gd_9 db00d_18
theorem d_X11_keepRule_16 : decode prog_1_method_42_code 16 = .ok (.if_icmp .eq 12, 3) := gd_10 db00d_18
theorem d_X11_keepRule_19 : decode prog_1_method_42_code 19 = .ok (.aload_n 0, 1) := gd_11 db00d_18
theorem d_X11_keepRule_20 : decode prog_1_method_42_code 20 = .ok (.getfield 19, 3) := gd_12 db00d_18
theorem d_X11_keepRule_23 : decode prog_1_method_42_code 23 = .ok (.iconst 0, 1) := gd_13 db00d_18
theorem d_X11_keepRule_24 : decode prog_1_method_42_code 24 = .ok (.invokevirtual 133, 3) := gd_14 db00d_18
theorem d_X11_keepRule_27 : decode prog_1_method_42_code 27 = .ok (.pop, 1) := gd_15 db00d_18
theorem d_X11_keepRule_28 : decode prog_1_method_42_code 28 = .ok (.iload_n 3, 1) := gd_16 db00d_18
theorem d_X11_keepRule_29 : decode prog_1_method_42_code 29 = .ok (.ireturn, 1) := gd_17 db00d_18
theorem db00d_19 : Ad_ prog_1_method_43_code [(0, .iload_n 1, 1), (1, .iconst 0, 1), (2, .bipush 30, 2), (4, .invokestatic 96, 3), (7, .ifCond .eq 23, 3), (10, .aload_n 0, 1), (11, .iload_n 2, 1), (12, .invokevirtual 321, 3), (15, .ifCond .eq 15, 3), (18, .aload_n 0, 1), (19, .getfield 33, 3), (22, .iload_n 1, 1), (23, .iload_n 2, 1), (24, .invokevirtual 347, 3), (27, .goto 4, 3), (30, .iconst (-1), 1), (31, .ireturn, 1)] := bch_ok prog_1_method_43_code _ 0 (by decide +kernel)
theorem d_X11_force_0 : decode prog_1_method_43_code 0 = .ok (.iload_n 1, 1) := gd_0 db00d_19
theorem d_X11_force_1 : decode prog_1_method_43_code 1 = .ok (.iconst 0, 1) := gd_1 db00d_19
theorem d_X11_force_2 : decode prog_1_method_43_code 2 = .ok (.bipush 30, 2) := gd_2 db00d_19
theorem d_X11_force_4 : decode prog_1_method_43_code 4 = .ok (.invokestatic 96, 3) := gd_3 db00d_19
theorem d_X11_force_7 : decode prog_1_method_43_code 7 = .ok (.ifCond .eq 23, 3) := gd_4 db00d_19
theorem d_X11_force_10 : decode prog_1_method_43_code 10 = .ok (.aload_n 0, 1) := gd_5 db00d_19
theorem d_X11_force_11 : decode prog_1_method_43_code 11 = .ok (.iload_n 2, 1) := gd_6 db00d_19
theorem d_X11_force_12 : decode prog_1_method_43_code 12 = .ok (.invokevirtual 321, 3) := gd_7 db00d_19
theorem d_X11_force_15 : decode prog_1_method_43_code 15 = .ok (.ifCond .eq 15, 3) := gd_8 db00d_19
theorem d_X11_force_18 : decode prog_1_method_43_code 18 = .ok (.aload_n 0, 1) := gd_9 db00d_19
theorem d_X11_force_19 : decode prog_1_method_43_code 19 = .ok (.getfield 33, 3) := gd_10 db00d_19
theorem d_X11_force_22 : decode prog_1_method_43_code 22 = .ok (.iload_n 1, 1) := gd_11 db00d_19
theorem d_X11_force_23 : decode prog_1_method_43_code 23 = .ok (.iload_n 2, 1) := gd_12 db00d_19
theorem d_X11_force_24 : decode prog_1_method_43_code 24 = .ok (.invokevirtual 347, 3) := gd_13 db00d_19
theorem d_X11_force_27 : decode prog_1_method_43_code 27 = .ok (.goto 4, 3) := gd_14 db00d_19
theorem d_X11_force_30 : decode prog_1_method_43_code 30 = .ok (.iconst (-1), 1) := gd_15 db00d_19
theorem d_X11_force_31 : decode prog_1_method_43_code 31 = .ok (.ireturn, 1) := gd_16 db00d_19
theorem db00d_20 : Ad_ prog_1_method_44_code [(0, .iconst 0, 1), (1, .istore_n 2, 1), (2, .iload_n 2, 1), (3, .aload_n 0, 1), (4, .getfield 56, 3), (7, .getfield 350, 3), (10, .if_icmp .ge 34, 3), (13, .aload_n 0, 1), (14, .getfield 56, 3), (17, .iload_n 2, 1), (18, .aload_n 1, 1), (19, .getfield 277, 3), (22, .aload_n 0, 1), (23, .getfield 92, 3), (26, .invokevirtual 353, 3), (29, .ifCond .eq 9, 3), (32, .aload_n 0, 1), (33, .aload_n 1, 1), (34, .iload_n 2, 1), (35, .invokevirtual 356, 3), (38, .iinc 2 1, 3), (41, .goto (-39), 3), (44, .return_, 1)] := bch_ok prog_1_method_44_code _ 0 (by decide +kernel)
theorem d_X11_look_0 : decode prog_1_method_44_code 0 = .ok (.iconst 0, 1) := gd_0 db00d_20
theorem d_X11_look_1 : decode prog_1_method_44_code 1 = .ok (.istore_n 2, 1) := gd_1 db00d_20
theorem d_X11_look_2 : decode prog_1_method_44_code 2 = .ok (.iload_n 2, 1) := gd_2 db00d_20
theorem d_X11_look_3 : decode prog_1_method_44_code 3 = .ok (.aload_n 0, 1) := gd_3 db00d_20
theorem d_X11_look_4 : decode prog_1_method_44_code 4 = .ok (.getfield 56, 3) := gd_4 db00d_20
theorem d_X11_look_7 : decode prog_1_method_44_code 7 = .ok (.getfield 350, 3) := gd_5 db00d_20
theorem d_X11_look_10 : decode prog_1_method_44_code 10 = .ok (.if_icmp .ge 34, 3) := gd_6 db00d_20
theorem d_X11_look_13 : decode prog_1_method_44_code 13 = .ok (.aload_n 0, 1) := gd_7 db00d_20
theorem d_X11_look_14 : decode prog_1_method_44_code 14 = .ok (.getfield 56, 3) := gd_8 db00d_20
theorem d_X11_look_17 : decode prog_1_method_44_code 17 = .ok (.iload_n 2, 1) := gd_9 db00d_20
theorem d_X11_look_18 : decode prog_1_method_44_code 18 = .ok (.aload_n 1, 1) := gd_10 db00d_20
theorem d_X11_look_19 : decode prog_1_method_44_code 19 = .ok (.getfield 277, 3) := gd_11 db00d_20
theorem d_X11_look_22 : decode prog_1_method_44_code 22 = .ok (.aload_n 0, 1) := gd_12 db00d_20
theorem d_X11_look_23 : decode prog_1_method_44_code 23 = .ok (.getfield 92, 3) := gd_13 db00d_20
theorem d_X11_look_26 : decode prog_1_method_44_code 26 = .ok (.invokevirtual 353, 3) := gd_14 db00d_20
theorem d_X11_look_29 : decode prog_1_method_44_code 29 = .ok (.ifCond .eq 9, 3) := gd_15 db00d_20
theorem d_X11_look_32 : decode prog_1_method_44_code 32 = .ok (.aload_n 0, 1) := gd_16 db00d_20
theorem d_X11_look_33 : decode prog_1_method_44_code 33 = .ok (.aload_n 1, 1) := gd_17 db00d_20
theorem d_X11_look_34 : decode prog_1_method_44_code 34 = .ok (.iload_n 2, 1) := gd_18 db00d_20
theorem d_X11_look_35 : decode prog_1_method_44_code 35 = .ok (.invokevirtual 356, 3) := gd_19 db00d_20
theorem d_X11_look_38 : decode prog_1_method_44_code 38 = .ok (.iinc 2 1, 3) := gd_20 db00d_20
theorem d_X11_look_41 : decode prog_1_method_44_code 41 = .ok (.goto (-39), 3) := gd_21 db00d_20
theorem d_X11_look_44 : decode prog_1_method_44_code 44 = .ok (.return_, 1) := gd_22 db00d_20
theorem db00d_21 : Ad_ prog_1_method_45_code [(0, .aload_n 0, 1), (1, .getfield 92, 3), (4, .sipush 1440, 3), (7, .idiv, 1), (8, .istore_n 3, 1), (9, .aload_n 0, 1), (10, .getfield 56, 3), (13, .aload_n 1, 1), (14, .getfield 126, 3), (17, .iload_n 2, 1), (18, .aload_n 0, 1), (19, .getfield 92, 3), (22, .invokevirtual 359, 3), (25, .istore 4, 2), (27, .aload_n 0, 1), (28, .getfield 56, 3), (31, .iload 4, 2), (33, .iconst 5, 1), (34, .aload_n 0, 1), (35, .getfield 84, 3), (38, .aload_n 1, 1), (39, .iload_n 3, 1), (40, .aload_n 0, 1), (41, .getfield 92, 3)] := bch_ok prog_1_method_45_code _ 0 (by decide +kernel)
theorem d_X11_see_0 : decode prog_1_method_45_code 0 = .ok (.aload_n 0, 1) := gd_0 db00d_21
theorem d_X11_see_1 : decode prog_1_method_45_code 1 = .ok (.getfield 92, 3) := gd_1 db00d_21
theorem d_X11_see_4 : decode prog_1_method_45_code 4 = .ok (.sipush 1440, 3) := gd_2 db00d_21
theorem d_X11_see_7 : decode prog_1_method_45_code 7 = .ok (.idiv, 1) := gd_3 db00d_21
theorem d_X11_see_8 : decode prog_1_method_45_code 8 = .ok (.istore_n 3, 1) := gd_4 db00d_21
theorem d_X11_see_9 : decode prog_1_method_45_code 9 = .ok (.aload_n 0, 1) := gd_5 db00d_21
theorem d_X11_see_10 : decode prog_1_method_45_code 10 = .ok (.getfield 56, 3) := gd_6 db00d_21
theorem d_X11_see_13 : decode prog_1_method_45_code 13 = .ok (.aload_n 1, 1) := gd_7 db00d_21
theorem d_X11_see_14 : decode prog_1_method_45_code 14 = .ok (.getfield 126, 3) := gd_8 db00d_21
theorem d_X11_see_17 : decode prog_1_method_45_code 17 = .ok (.iload_n 2, 1) := gd_9 db00d_21
theorem d_X11_see_18 : decode prog_1_method_45_code 18 = .ok (.aload_n 0, 1) := gd_10 db00d_21
theorem d_X11_see_19 : decode prog_1_method_45_code 19 = .ok (.getfield 92, 3) := gd_11 db00d_21
theorem d_X11_see_22 : decode prog_1_method_45_code 22 = .ok (.invokevirtual 359, 3) := gd_12 db00d_21
theorem d_X11_see_25 : decode prog_1_method_45_code 25 = .ok (.istore 4, 2) := gd_13 db00d_21
theorem d_X11_see_27 : decode prog_1_method_45_code 27 = .ok (.aload_n 0, 1) := gd_14 db00d_21
theorem d_X11_see_28 : decode prog_1_method_45_code 28 = .ok (.getfield 56, 3) := gd_15 db00d_21
theorem d_X11_see_31 : decode prog_1_method_45_code 31 = .ok (.iload 4, 2) := gd_16 db00d_21
theorem d_X11_see_33 : decode prog_1_method_45_code 33 = .ok (.iconst 5, 1) := gd_17 db00d_21
theorem d_X11_see_34 : decode prog_1_method_45_code 34 = .ok (.aload_n 0, 1) := gd_18 db00d_21
theorem d_X11_see_35 : decode prog_1_method_45_code 35 = .ok (.getfield 84, 3) := gd_19 db00d_21
theorem d_X11_see_38 : decode prog_1_method_45_code 38 = .ok (.aload_n 1, 1) := gd_20 db00d_21
theorem d_X11_see_39 : decode prog_1_method_45_code 39 = .ok (.iload_n 3, 1) := gd_21 db00d_21
theorem d_X11_see_40 : decode prog_1_method_45_code 40 = .ok (.aload_n 0, 1) := gd_22 db00d_21
theorem d_X11_see_41 : decode prog_1_method_45_code 41 = .ok (.getfield 92, 3) := gd_23 db00d_21
theorem db00d_22 : Ad_ prog_1_method_45_code [(44, .invokevirtual 361, 3), (47, .invokevirtual 365, 3), (50, .aload_n 0, 1), (51, .getfield 56, 3), (54, .iload 4, 2), (56, .bipush 6, 2), (58, .aload_n 0, 1), (59, .aload_n 1, 1), (60, .getfield 277, 3), (63, .invokevirtual 369, 3), (66, .invokevirtual 365, 3), (69, .aload_n 0, 1), (70, .getfield 33, 3), (73, .aload_n 0, 1), (74, .getfield 33, 3), (77, .iload_n 3, 1), (78, .aload_n 0, 1), (79, .getfield 92, 3), (82, .invokevirtual 347, 3), (85, .aload_n 0, 1), (86, .getfield 56, 3), (89, .getfield 372, 3), (92, .iload 4, 2), (94, .ldc_w 376, 3)] := bch_ok prog_1_method_45_code _ 44 (by decide +kernel)
theorem d_X11_see_44 : decode prog_1_method_45_code 44 = .ok (.invokevirtual 361, 3) := gd_0 db00d_22
theorem d_X11_see_47 : decode prog_1_method_45_code 47 = .ok (.invokevirtual 365, 3) := gd_1 db00d_22
theorem d_X11_see_50 : decode prog_1_method_45_code 50 = .ok (.aload_n 0, 1) := gd_2 db00d_22
theorem d_X11_see_51 : decode prog_1_method_45_code 51 = .ok (.getfield 56, 3) := gd_3 db00d_22
theorem d_X11_see_54 : decode prog_1_method_45_code 54 = .ok (.iload 4, 2) := gd_4 db00d_22
theorem d_X11_see_56 : decode prog_1_method_45_code 56 = .ok (.bipush 6, 2) := gd_5 db00d_22
theorem d_X11_see_58 : decode prog_1_method_45_code 58 = .ok (.aload_n 0, 1) := gd_6 db00d_22
theorem d_X11_see_59 : decode prog_1_method_45_code 59 = .ok (.aload_n 1, 1) := gd_7 db00d_22
theorem d_X11_see_60 : decode prog_1_method_45_code 60 = .ok (.getfield 277, 3) := gd_8 db00d_22
theorem d_X11_see_63 : decode prog_1_method_45_code 63 = .ok (.invokevirtual 369, 3) := gd_9 db00d_22
theorem d_X11_see_66 : decode prog_1_method_45_code 66 = .ok (.invokevirtual 365, 3) := gd_10 db00d_22
theorem d_X11_see_69 : decode prog_1_method_45_code 69 = .ok (.aload_n 0, 1) := gd_11 db00d_22
theorem d_X11_see_70 : decode prog_1_method_45_code 70 = .ok (.getfield 33, 3) := gd_12 db00d_22
theorem d_X11_see_73 : decode prog_1_method_45_code 73 = .ok (.aload_n 0, 1) := gd_13 db00d_22
theorem d_X11_see_74 : decode prog_1_method_45_code 74 = .ok (.getfield 33, 3) := gd_14 db00d_22
theorem d_X11_see_77 : decode prog_1_method_45_code 77 = .ok (.iload_n 3, 1) := gd_15 db00d_22
theorem d_X11_see_78 : decode prog_1_method_45_code 78 = .ok (.aload_n 0, 1) := gd_16 db00d_22
theorem d_X11_see_79 : decode prog_1_method_45_code 79 = .ok (.getfield 92, 3) := gd_17 db00d_22
theorem d_X11_see_82 : decode prog_1_method_45_code 82 = .ok (.invokevirtual 347, 3) := gd_18 db00d_22
theorem d_X11_see_85 : decode prog_1_method_45_code 85 = .ok (.aload_n 0, 1) := gd_19 db00d_22
theorem d_X11_see_86 : decode prog_1_method_45_code 86 = .ok (.getfield 56, 3) := gd_20 db00d_22
theorem d_X11_see_89 : decode prog_1_method_45_code 89 = .ok (.getfield 372, 3) := gd_21 db00d_22
theorem d_X11_see_92 : decode prog_1_method_45_code 92 = .ok (.iload 4, 2) := gd_22 db00d_22
theorem d_X11_see_94 : decode prog_1_method_45_code 94 = .ok (.ldc_w 376, 3) := gd_23 db00d_22
theorem db00d_23 : Ad_ prog_1_method_45_code [(97, .invokevirtual 378, 3), (100, .imul, 1), (101, .invokevirtual 383, 3), (104, .istore 5, 2), (106, .iload 5, 2), (108, .iconst 3, 1), (109, .if_icmp .ne 25, 3), (112, .aload_n 0, 1), (113, .getfield 63, 3), (116, .aload_n 0, 1), (117, .getfield 56, 3), (120, .iload_n 2, 1), (121, .invokevirtual 387, 3), (124, .aload_n 0, 1), (125, .getfield 92, 3), (128, .invokevirtual 388, 3), (131, .goto 4, 3), (134, .iconst (-1), 1), (135, .istore 6, 2), (137, .aload_n 0, 1), (138, .getfield 56, 3), (141, .iload 4, 2), (143, .iload 5, 2), (145, .iload 6, 2)] := bch_ok prog_1_method_45_code _ 97 (by decide +kernel)
theorem d_X11_see_97 : decode prog_1_method_45_code 97 = .ok (.invokevirtual 378, 3) := gd_0 db00d_23
theorem d_X11_see_100 : decode prog_1_method_45_code 100 = .ok (.imul, 1) := gd_1 db00d_23
theorem d_X11_see_101 : decode prog_1_method_45_code 101 = .ok (.invokevirtual 383, 3) := gd_2 db00d_23
theorem d_X11_see_104 : decode prog_1_method_45_code 104 = .ok (.istore 5, 2) := gd_3 db00d_23
theorem d_X11_see_106 : decode prog_1_method_45_code 106 = .ok (.iload 5, 2) := gd_4 db00d_23
theorem d_X11_see_108 : decode prog_1_method_45_code 108 = .ok (.iconst 3, 1) := gd_5 db00d_23
theorem d_X11_see_109 : decode prog_1_method_45_code 109 = .ok (.if_icmp .ne 25, 3) := gd_6 db00d_23
theorem d_X11_see_112 : decode prog_1_method_45_code 112 = .ok (.aload_n 0, 1) := gd_7 db00d_23
theorem d_X11_see_113 : decode prog_1_method_45_code 113 = .ok (.getfield 63, 3) := gd_8 db00d_23
theorem d_X11_see_116 : decode prog_1_method_45_code 116 = .ok (.aload_n 0, 1) := gd_9 db00d_23
theorem d_X11_see_117 : decode prog_1_method_45_code 117 = .ok (.getfield 56, 3) := gd_10 db00d_23
theorem d_X11_see_120 : decode prog_1_method_45_code 120 = .ok (.iload_n 2, 1) := gd_11 db00d_23
theorem d_X11_see_121 : decode prog_1_method_45_code 121 = .ok (.invokevirtual 387, 3) := gd_12 db00d_23
theorem d_X11_see_124 : decode prog_1_method_45_code 124 = .ok (.aload_n 0, 1) := gd_13 db00d_23
theorem d_X11_see_125 : decode prog_1_method_45_code 125 = .ok (.getfield 92, 3) := gd_14 db00d_23
theorem d_X11_see_128 : decode prog_1_method_45_code 128 = .ok (.invokevirtual 388, 3) := gd_15 db00d_23
theorem d_X11_see_131 : decode prog_1_method_45_code 131 = .ok (.goto 4, 3) := gd_16 db00d_23
theorem d_X11_see_134 : decode prog_1_method_45_code 134 = .ok (.iconst (-1), 1) := gd_17 db00d_23
theorem d_X11_see_135 : decode prog_1_method_45_code 135 = .ok (.istore 6, 2) := gd_18 db00d_23
theorem d_X11_see_137 : decode prog_1_method_45_code 137 = .ok (.aload_n 0, 1) := gd_19 db00d_23
theorem d_X11_see_138 : decode prog_1_method_45_code 138 = .ok (.getfield 56, 3) := gd_20 db00d_23
theorem d_X11_see_141 : decode prog_1_method_45_code 141 = .ok (.iload 4, 2) := gd_21 db00d_23
theorem d_X11_see_143 : decode prog_1_method_45_code 143 = .ok (.iload 5, 2) := gd_22 db00d_23
theorem d_X11_see_145 : decode prog_1_method_45_code 145 = .ok (.iload 6, 2) := gd_23 db00d_23
theorem db00d_24 : Ad_ prog_1_method_45_code [(147, .aload_n 0, 1), (148, .getfield 10, 3), (151, .aload_n 1, 1), (152, .getfield 277, 3), (155, .iconst 0, 1), (156, .invokevirtual 115, 3), (159, .invokevirtual 391, 3), (162, .return_, 1)] := bch_ok prog_1_method_45_code _ 147 (by decide +kernel)
theorem d_X11_see_147 : decode prog_1_method_45_code 147 = .ok (.aload_n 0, 1) := gd_0 db00d_24
theorem d_X11_see_148 : decode prog_1_method_45_code 148 = .ok (.getfield 10, 3) := gd_1 db00d_24
theorem d_X11_see_151 : decode prog_1_method_45_code 151 = .ok (.aload_n 1, 1) := gd_2 db00d_24
theorem d_X11_see_152 : decode prog_1_method_45_code 152 = .ok (.getfield 277, 3) := gd_3 db00d_24
theorem d_X11_see_155 : decode prog_1_method_45_code 155 = .ok (.iconst 0, 1) := gd_4 db00d_24
theorem d_X11_see_156 : decode prog_1_method_45_code 156 = .ok (.invokevirtual 115, 3) := gd_5 db00d_24
theorem d_X11_see_159 : decode prog_1_method_45_code 159 = .ok (.invokevirtual 391, 3) := gd_6 db00d_24
theorem d_X11_see_162 : decode prog_1_method_45_code 162 = .ok (.return_, 1) := gd_7 db00d_24
theorem d_X11_countMenAt_17 : decode prog_1_method_46_code 17 = .ok (.aaload, 1) := by decide +kernel
theorem d_X11_countMenAt_26 : decode prog_1_method_46_code 26 = .ok (.aaload, 1) := by decide +kernel
theorem db00d_25 : Ad_ prog_1_method_46_code [(0, .iconst 0, 1), (1, .istore_n 2, 1), (2, .iconst 0, 1), (3, .istore_n 3, 1), (4, .iload_n 3, 1), (5, .aload_n 0, 1), (6, .getfield 104, 3), (9, .if_icmp .ge 34, 3), (12, .aload_n 0, 1), (13, .getfield 42, 3), (16, .iload_n 3, 1), (18, .ifnull 19, 3), (21, .aload_n 0, 1), (22, .getfield 42, 3), (25, .iload_n 3, 1), (27, .getfield 277, 3), (30, .iload_n 1, 1), (31, .if_icmp .ne 6, 3), (34, .iinc 2 1, 3), (37, .iinc 3 1, 3), (40, .goto (-36), 3), (43, .iload_n 2, 1), (44, .ireturn, 1)] := bch_ok prog_1_method_46_code _ 0 (by decide +kernel)
theorem d_X11_countMenAt_0 : decode prog_1_method_46_code 0 = .ok (.iconst 0, 1) := gd_0 db00d_25
theorem d_X11_countMenAt_1 : decode prog_1_method_46_code 1 = .ok (.istore_n 2, 1) := gd_1 db00d_25
theorem d_X11_countMenAt_2 : decode prog_1_method_46_code 2 = .ok (.iconst 0, 1) := gd_2 db00d_25
theorem d_X11_countMenAt_3 : decode prog_1_method_46_code 3 = .ok (.istore_n 3, 1) := gd_3 db00d_25
theorem d_X11_countMenAt_4 : decode prog_1_method_46_code 4 = .ok (.iload_n 3, 1) := gd_4 db00d_25
theorem d_X11_countMenAt_5 : decode prog_1_method_46_code 5 = .ok (.aload_n 0, 1) := gd_5 db00d_25
theorem d_X11_countMenAt_6 : decode prog_1_method_46_code 6 = .ok (.getfield 104, 3) := gd_6 db00d_25
theorem d_X11_countMenAt_9 : decode prog_1_method_46_code 9 = .ok (.if_icmp .ge 34, 3) := gd_7 db00d_25
theorem d_X11_countMenAt_12 : decode prog_1_method_46_code 12 = .ok (.aload_n 0, 1) := gd_8 db00d_25
theorem d_X11_countMenAt_13 : decode prog_1_method_46_code 13 = .ok (.getfield 42, 3) := gd_9 db00d_25
theorem d_X11_countMenAt_16 : decode prog_1_method_46_code 16 = .ok (.iload_n 3, 1) := gd_10 db00d_25
theorem d_X11_countMenAt_18 : decode prog_1_method_46_code 18 = .ok (.ifnull 19, 3) := gd_11 db00d_25
theorem d_X11_countMenAt_21 : decode prog_1_method_46_code 21 = .ok (.aload_n 0, 1) := gd_12 db00d_25
theorem d_X11_countMenAt_22 : decode prog_1_method_46_code 22 = .ok (.getfield 42, 3) := gd_13 db00d_25
theorem d_X11_countMenAt_25 : decode prog_1_method_46_code 25 = .ok (.iload_n 3, 1) := gd_14 db00d_25
theorem d_X11_countMenAt_27 : decode prog_1_method_46_code 27 = .ok (.getfield 277, 3) := gd_15 db00d_25
theorem d_X11_countMenAt_30 : decode prog_1_method_46_code 30 = .ok (.iload_n 1, 1) := gd_16 db00d_25
theorem d_X11_countMenAt_31 : decode prog_1_method_46_code 31 = .ok (.if_icmp .ne 6, 3) := gd_17 db00d_25
theorem d_X11_countMenAt_34 : decode prog_1_method_46_code 34 = .ok (.iinc 2 1, 3) := gd_18 db00d_25
theorem d_X11_countMenAt_37 : decode prog_1_method_46_code 37 = .ok (.iinc 3 1, 3) := gd_19 db00d_25
theorem d_X11_countMenAt_40 : decode prog_1_method_46_code 40 = .ok (.goto (-36), 3) := gd_20 db00d_25
theorem d_X11_countMenAt_43 : decode prog_1_method_46_code 43 = .ok (.iload_n 2, 1) := gd_21 db00d_25
theorem d_X11_countMenAt_44 : decode prog_1_method_46_code 44 = .ok (.ireturn, 1) := gd_22 db00d_25
theorem db00d_26 : Ad_ prog_1_method_47_code [(0, .aload_n 0, 1), (1, .getfield 56, 3), (4, .iload_n 1, 1), (5, .invokevirtual 392, 3), (8, .ifCond .eq 15, 3), (11, .aload_n 0, 1), (12, .getfield 56, 3), (15, .iload_n 1, 1), (16, .iload_n 2, 1), (17, .invokevirtual 393, 3), (20, .goto 4, 3), (23, .iconst (-1), 1), (24, .ireturn, 1)] := bch_ok prog_1_method_47_code _ 0 (by decide +kernel)
theorem d_X11_sighting_0 : decode prog_1_method_47_code 0 = .ok (.aload_n 0, 1) := gd_0 db00d_26
theorem d_X11_sighting_1 : decode prog_1_method_47_code 1 = .ok (.getfield 56, 3) := gd_1 db00d_26
theorem d_X11_sighting_4 : decode prog_1_method_47_code 4 = .ok (.iload_n 1, 1) := gd_2 db00d_26
theorem d_X11_sighting_5 : decode prog_1_method_47_code 5 = .ok (.invokevirtual 392, 3) := gd_3 db00d_26
theorem d_X11_sighting_8 : decode prog_1_method_47_code 8 = .ok (.ifCond .eq 15, 3) := gd_4 db00d_26
theorem d_X11_sighting_11 : decode prog_1_method_47_code 11 = .ok (.aload_n 0, 1) := gd_5 db00d_26
theorem d_X11_sighting_12 : decode prog_1_method_47_code 12 = .ok (.getfield 56, 3) := gd_6 db00d_26
theorem d_X11_sighting_15 : decode prog_1_method_47_code 15 = .ok (.iload_n 1, 1) := gd_7 db00d_26
theorem d_X11_sighting_16 : decode prog_1_method_47_code 16 = .ok (.iload_n 2, 1) := gd_8 db00d_26
theorem d_X11_sighting_17 : decode prog_1_method_47_code 17 = .ok (.invokevirtual 393, 3) := gd_9 db00d_26
theorem d_X11_sighting_20 : decode prog_1_method_47_code 20 = .ok (.goto 4, 3) := gd_10 db00d_26
theorem d_X11_sighting_23 : decode prog_1_method_47_code 23 = .ok (.iconst (-1), 1) := gd_11 db00d_26
theorem d_X11_sighting_24 : decode prog_1_method_47_code 24 = .ok (.ireturn, 1) := gd_12 db00d_26
theorem db00d_27 : Ad_ prog_1_method_48_code [(0, .aload_n 0, 1), (1, .getfield 56, 3), (4, .iload_n 1, 1), (5, .invokevirtual 392, 3), (8, .ifCond .eq 22, 3), (11, .iload_n 2, 1), (12, .aload_n 0, 1), (13, .getfield 56, 3), (16, .iload_n 1, 1), (17, .invokevirtual 395, 3), (20, .aload_n 0, 1), (21, .getfield 92, 3), (24, .invokestatic 96, 3), (27, .ifCond .ne 5, 3), (30, .iconst (-1), 1), (31, .ireturn, 1), (32, .aload_n 0, 1), (33, .getfield 56, 3), (36, .iload_n 1, 1), (37, .aload_n 0, 1), (38, .getfield 33, 3), (41, .iload_n 2, 1), (42, .invokevirtual 398, 3), (45, .ireturn, 1)] := bch_ok prog_1_method_48_code _ 0 (by decide +kernel)
theorem d_X11_should_0 : decode prog_1_method_48_code 0 = .ok (.aload_n 0, 1) := gd_0 db00d_27
theorem d_X11_should_1 : decode prog_1_method_48_code 1 = .ok (.getfield 56, 3) := gd_1 db00d_27
theorem d_X11_should_4 : decode prog_1_method_48_code 4 = .ok (.iload_n 1, 1) := gd_2 db00d_27
theorem d_X11_should_5 : decode prog_1_method_48_code 5 = .ok (.invokevirtual 392, 3) := gd_3 db00d_27
theorem d_X11_should_8 : decode prog_1_method_48_code 8 = .ok (.ifCond .eq 22, 3) := gd_4 db00d_27
theorem d_X11_should_11 : decode prog_1_method_48_code 11 = .ok (.iload_n 2, 1) := gd_5 db00d_27
theorem d_X11_should_12 : decode prog_1_method_48_code 12 = .ok (.aload_n 0, 1) := gd_6 db00d_27
theorem d_X11_should_13 : decode prog_1_method_48_code 13 = .ok (.getfield 56, 3) := gd_7 db00d_27
theorem d_X11_should_16 : decode prog_1_method_48_code 16 = .ok (.iload_n 1, 1) := gd_8 db00d_27
theorem d_X11_should_17 : decode prog_1_method_48_code 17 = .ok (.invokevirtual 395, 3) := gd_9 db00d_27
theorem d_X11_should_20 : decode prog_1_method_48_code 20 = .ok (.aload_n 0, 1) := gd_10 db00d_27
theorem d_X11_should_21 : decode prog_1_method_48_code 21 = .ok (.getfield 92, 3) := gd_11 db00d_27
theorem d_X11_should_24 : decode prog_1_method_48_code 24 = .ok (.invokestatic 96, 3) := gd_12 db00d_27
theorem d_X11_should_27 : decode prog_1_method_48_code 27 = .ok (.ifCond .ne 5, 3) := gd_13 db00d_27
theorem d_X11_should_30 : decode prog_1_method_48_code 30 = .ok (.iconst (-1), 1) := gd_14 db00d_27
theorem d_X11_should_31 : decode prog_1_method_48_code 31 = .ok (.ireturn, 1) := gd_15 db00d_27
theorem d_X11_should_32 : decode prog_1_method_48_code 32 = .ok (.aload_n 0, 1) := gd_16 db00d_27
theorem d_X11_should_33 : decode prog_1_method_48_code 33 = .ok (.getfield 56, 3) := gd_17 db00d_27
theorem d_X11_should_36 : decode prog_1_method_48_code 36 = .ok (.iload_n 1, 1) := gd_18 db00d_27
theorem d_X11_should_37 : decode prog_1_method_48_code 37 = .ok (.aload_n 0, 1) := gd_19 db00d_27
theorem d_X11_should_38 : decode prog_1_method_48_code 38 = .ok (.getfield 33, 3) := gd_20 db00d_27
theorem d_X11_should_41 : decode prog_1_method_48_code 41 = .ok (.iload_n 2, 1) := gd_21 db00d_27
theorem d_X11_should_42 : decode prog_1_method_48_code 42 = .ok (.invokevirtual 398, 3) := gd_22 db00d_27
theorem d_X11_should_45 : decode prog_1_method_48_code 45 = .ok (.ireturn, 1) := gd_23 db00d_27
theorem db00d_28 : Ad_ prog_1_method_49_code [(0, .aload_n 0, 1), (1, .iload_n 1, 1), (2, .invokevirtual 321, 3), (5, .ifCond .eq 14, 3), (8, .aload_n 0, 1), (9, .getfield 56, 3), (12, .iload_n 1, 1), (13, .invokevirtual 402, 3), (16, .goto 4, 3), (19, .iconst (-1), 1), (20, .ireturn, 1)] := bch_ok prog_1_method_49_code _ 0 (by decide +kernel)
theorem d_X11_heard_0 : decode prog_1_method_49_code 0 = .ok (.aload_n 0, 1) := gd_0 db00d_28
theorem d_X11_heard_1 : decode prog_1_method_49_code 1 = .ok (.iload_n 1, 1) := gd_1 db00d_28
theorem d_X11_heard_2 : decode prog_1_method_49_code 2 = .ok (.invokevirtual 321, 3) := gd_2 db00d_28
theorem d_X11_heard_5 : decode prog_1_method_49_code 5 = .ok (.ifCond .eq 14, 3) := gd_3 db00d_28
theorem d_X11_heard_8 : decode prog_1_method_49_code 8 = .ok (.aload_n 0, 1) := gd_4 db00d_28
theorem d_X11_heard_9 : decode prog_1_method_49_code 9 = .ok (.getfield 56, 3) := gd_5 db00d_28
theorem d_X11_heard_12 : decode prog_1_method_49_code 12 = .ok (.iload_n 1, 1) := gd_6 db00d_28
theorem d_X11_heard_13 : decode prog_1_method_49_code 13 = .ok (.invokevirtual 402, 3) := gd_7 db00d_28
theorem d_X11_heard_16 : decode prog_1_method_49_code 16 = .ok (.goto 4, 3) := gd_8 db00d_28
theorem d_X11_heard_19 : decode prog_1_method_49_code 19 = .ok (.iconst (-1), 1) := gd_9 db00d_28
theorem d_X11_heard_20 : decode prog_1_method_49_code 20 = .ok (.ireturn, 1) := gd_10 db00d_28
theorem db00d_29 : Ad_ prog_1_method_50_code [(0, .iload_n 1, 1), (1, .iconst 0, 1), (2, .bipush 9, 2), (4, .invokestatic 96, 3), (7, .ifCond .eq 18, 3), (10, .aload_n 0, 1), (11, .getfield 63, 3), (14, .iload_n 1, 1), (15, .aload_n 0, 1), (16, .getfield 92, 3), (19, .invokevirtual 388, 3), (22, .goto 4, 3), (25, .iconst (-1), 1), (26, .ireturn, 1)] := bch_ok prog_1_method_50_code _ 0 (by decide +kernel)
theorem d_X11_open_0 : decode prog_1_method_50_code 0 = .ok (.iload_n 1, 1) := gd_0 db00d_29
theorem d_X11_open_1 : decode prog_1_method_50_code 1 = .ok (.iconst 0, 1) := gd_1 db00d_29
theorem d_X11_open_2 : decode prog_1_method_50_code 2 = .ok (.bipush 9, 2) := gd_2 db00d_29
theorem d_X11_open_4 : decode prog_1_method_50_code 4 = .ok (.invokestatic 96, 3) := gd_3 db00d_29
theorem d_X11_open_7 : decode prog_1_method_50_code 7 = .ok (.ifCond .eq 18, 3) := gd_4 db00d_29
theorem d_X11_open_10 : decode prog_1_method_50_code 10 = .ok (.aload_n 0, 1) := gd_5 db00d_29
theorem d_X11_open_11 : decode prog_1_method_50_code 11 = .ok (.getfield 63, 3) := gd_6 db00d_29
theorem d_X11_open_14 : decode prog_1_method_50_code 14 = .ok (.iload_n 1, 1) := gd_7 db00d_29
theorem d_X11_open_15 : decode prog_1_method_50_code 15 = .ok (.aload_n 0, 1) := gd_8 db00d_29
theorem d_X11_open_16 : decode prog_1_method_50_code 16 = .ok (.getfield 92, 3) := gd_9 db00d_29
theorem d_X11_open_19 : decode prog_1_method_50_code 19 = .ok (.invokevirtual 388, 3) := gd_10 db00d_29
theorem d_X11_open_22 : decode prog_1_method_50_code 22 = .ok (.goto 4, 3) := gd_11 db00d_29
theorem d_X11_open_25 : decode prog_1_method_50_code 25 = .ok (.iconst (-1), 1) := gd_12 db00d_29
theorem d_X11_open_26 : decode prog_1_method_50_code 26 = .ok (.ireturn, 1) := gd_13 db00d_29
theorem db00d_30 : Ad_ prog_1_method_51_code [(0, .iload_n 1, 1), (1, .iconst 0, 1), (2, .bipush 9, 2), (4, .invokestatic 96, 3), (7, .ifCond .eq 14, 3), (10, .iload_n 2, 1), (11, .iconst 0, 1), (12, .sipush 255, 3), (15, .invokestatic 96, 3), (18, .ifCond .ne 5, 3), (21, .iconst 0, 1), (22, .ireturn, 1), (23, .aload_n 0, 1), (24, .getfield 63, 3), (27, .getfield 405, 3), (30, .iload_n 1, 1), (31, .iload_n 2, 1), (32, .iastore, 1), (33, .iconst 1, 1), (34, .ireturn, 1)] := bch_ok prog_1_method_51_code _ 0 (by decide +kernel)
theorem d_X11_need_0 : decode prog_1_method_51_code 0 = .ok (.iload_n 1, 1) := gd_0 db00d_30
theorem d_X11_need_1 : decode prog_1_method_51_code 1 = .ok (.iconst 0, 1) := gd_1 db00d_30
theorem d_X11_need_2 : decode prog_1_method_51_code 2 = .ok (.bipush 9, 2) := gd_2 db00d_30
theorem d_X11_need_4 : decode prog_1_method_51_code 4 = .ok (.invokestatic 96, 3) := gd_3 db00d_30
theorem d_X11_need_7 : decode prog_1_method_51_code 7 = .ok (.ifCond .eq 14, 3) := gd_4 db00d_30
theorem d_X11_need_10 : decode prog_1_method_51_code 10 = .ok (.iload_n 2, 1) := gd_5 db00d_30
theorem d_X11_need_11 : decode prog_1_method_51_code 11 = .ok (.iconst 0, 1) := gd_6 db00d_30
theorem d_X11_need_12 : decode prog_1_method_51_code 12 = .ok (.sipush 255, 3) := gd_7 db00d_30
theorem d_X11_need_15 : decode prog_1_method_51_code 15 = .ok (.invokestatic 96, 3) := gd_8 db00d_30
theorem d_X11_need_18 : decode prog_1_method_51_code 18 = .ok (.ifCond .ne 5, 3) := gd_9 db00d_30
theorem d_X11_need_21 : decode prog_1_method_51_code 21 = .ok (.iconst 0, 1) := gd_10 db00d_30
theorem d_X11_need_22 : decode prog_1_method_51_code 22 = .ok (.ireturn, 1) := gd_11 db00d_30
theorem d_X11_need_23 : decode prog_1_method_51_code 23 = .ok (.aload_n 0, 1) := gd_12 db00d_30
theorem d_X11_need_24 : decode prog_1_method_51_code 24 = .ok (.getfield 63, 3) := gd_13 db00d_30
theorem d_X11_need_27 : decode prog_1_method_51_code 27 = .ok (.getfield 405, 3) := gd_14 db00d_30
theorem d_X11_need_30 : decode prog_1_method_51_code 30 = .ok (.iload_n 1, 1) := gd_15 db00d_30
theorem d_X11_need_31 : decode prog_1_method_51_code 31 = .ok (.iload_n 2, 1) := gd_16 db00d_30
theorem d_X11_need_32 : decode prog_1_method_51_code 32 = .ok (.iastore, 1) := gd_17 db00d_30
theorem d_X11_need_33 : decode prog_1_method_51_code 33 = .ok (.iconst 1, 1) := gd_18 db00d_30
theorem d_X11_need_34 : decode prog_1_method_51_code 34 = .ok (.ireturn, 1) := gd_19 db00d_30
theorem db00d_31 : Ad_ prog_1_method_52_code [(0, .iload_n 1, 1), (1, .iconst 0, 1), (2, .bipush 7, 2), (4, .invokestatic 96, 3), (7, .ifCond .eq 12, 3), (10, .iload_n 2, 1), (11, .iconst 1, 1), (12, .iconst 3, 1), (13, .invokestatic 96, 3), (16, .ifCond .ne 5, 3), (19, .iconst 0, 1), (20, .ireturn, 1), (21, .aload_n 0, 1), (22, .getfield 63, 3), (25, .getfield 408, 3), (28, .iload_n 1, 1), (29, .iload_n 2, 1), (30, .iastore, 1), (31, .iconst 1, 1), (32, .ireturn, 1)] := bch_ok prog_1_method_52_code _ 0 (by decide +kernel)
theorem d_X11_want_0 : decode prog_1_method_52_code 0 = .ok (.iload_n 1, 1) := gd_0 db00d_31
theorem d_X11_want_1 : decode prog_1_method_52_code 1 = .ok (.iconst 0, 1) := gd_1 db00d_31
theorem d_X11_want_2 : decode prog_1_method_52_code 2 = .ok (.bipush 7, 2) := gd_2 db00d_31
theorem d_X11_want_4 : decode prog_1_method_52_code 4 = .ok (.invokestatic 96, 3) := gd_3 db00d_31
theorem d_X11_want_7 : decode prog_1_method_52_code 7 = .ok (.ifCond .eq 12, 3) := gd_4 db00d_31
theorem d_X11_want_10 : decode prog_1_method_52_code 10 = .ok (.iload_n 2, 1) := gd_5 db00d_31
theorem d_X11_want_11 : decode prog_1_method_52_code 11 = .ok (.iconst 1, 1) := gd_6 db00d_31
theorem d_X11_want_12 : decode prog_1_method_52_code 12 = .ok (.iconst 3, 1) := gd_7 db00d_31
theorem d_X11_want_13 : decode prog_1_method_52_code 13 = .ok (.invokestatic 96, 3) := gd_8 db00d_31
theorem d_X11_want_16 : decode prog_1_method_52_code 16 = .ok (.ifCond .ne 5, 3) := gd_9 db00d_31
theorem d_X11_want_19 : decode prog_1_method_52_code 19 = .ok (.iconst 0, 1) := gd_10 db00d_31
theorem d_X11_want_20 : decode prog_1_method_52_code 20 = .ok (.ireturn, 1) := gd_11 db00d_31
theorem d_X11_want_21 : decode prog_1_method_52_code 21 = .ok (.aload_n 0, 1) := gd_12 db00d_31
theorem d_X11_want_22 : decode prog_1_method_52_code 22 = .ok (.getfield 63, 3) := gd_13 db00d_31
theorem d_X11_want_25 : decode prog_1_method_52_code 25 = .ok (.getfield 408, 3) := gd_14 db00d_31
theorem d_X11_want_28 : decode prog_1_method_52_code 28 = .ok (.iload_n 1, 1) := gd_15 db00d_31
theorem d_X11_want_29 : decode prog_1_method_52_code 29 = .ok (.iload_n 2, 1) := gd_16 db00d_31
theorem d_X11_want_30 : decode prog_1_method_52_code 30 = .ok (.iastore, 1) := gd_17 db00d_31
theorem d_X11_want_31 : decode prog_1_method_52_code 31 = .ok (.iconst 1, 1) := gd_18 db00d_31
theorem d_X11_want_32 : decode prog_1_method_52_code 32 = .ok (.ireturn, 1) := gd_19 db00d_31
theorem db00d_32 : Ad_ prog_1_method_53_code [(0, .aload_n 0, 1), (1, .getfield 63, 3), (4, .iload_n 1, 1), (5, .invokevirtual 411, 3), (8, .ifCond .eq 23, 3), (11, .iload_n 2, 1), (12, .iconst 0, 1), (13, .bipush 7, 2), (15, .invokestatic 96, 3), (18, .ifCond .eq 13, 3), (21, .iload_n 3, 1), (22, .iconst 0, 1), (23, .bipush 15, 2), (25, .invokestatic 96, 3), (28, .ifCond .ne 5, 3), (31, .iconst (-1), 1), (32, .ireturn, 1), (33, .aload_n 0, 1), (34, .getfield 63, 3), (37, .iload_n 1, 1), (38, .iload_n 2, 1), (39, .iload_n 3, 1), (40, .iload 4, 2), (42, .aload_n 0, 1)] := bch_ok prog_1_method_53_code _ 0 (by decide +kernel)
theorem d_X11_state_0 : decode prog_1_method_53_code 0 = .ok (.aload_n 0, 1) := gd_0 db00d_32
theorem d_X11_state_1 : decode prog_1_method_53_code 1 = .ok (.getfield 63, 3) := gd_1 db00d_32
theorem d_X11_state_4 : decode prog_1_method_53_code 4 = .ok (.iload_n 1, 1) := gd_2 db00d_32
theorem d_X11_state_5 : decode prog_1_method_53_code 5 = .ok (.invokevirtual 411, 3) := gd_3 db00d_32
theorem d_X11_state_8 : decode prog_1_method_53_code 8 = .ok (.ifCond .eq 23, 3) := gd_4 db00d_32
theorem d_X11_state_11 : decode prog_1_method_53_code 11 = .ok (.iload_n 2, 1) := gd_5 db00d_32
theorem d_X11_state_12 : decode prog_1_method_53_code 12 = .ok (.iconst 0, 1) := gd_6 db00d_32
theorem d_X11_state_13 : decode prog_1_method_53_code 13 = .ok (.bipush 7, 2) := gd_7 db00d_32
theorem d_X11_state_15 : decode prog_1_method_53_code 15 = .ok (.invokestatic 96, 3) := gd_8 db00d_32
theorem d_X11_state_18 : decode prog_1_method_53_code 18 = .ok (.ifCond .eq 13, 3) := gd_9 db00d_32
theorem d_X11_state_21 : decode prog_1_method_53_code 21 = .ok (.iload_n 3, 1) := gd_10 db00d_32
theorem d_X11_state_22 : decode prog_1_method_53_code 22 = .ok (.iconst 0, 1) := gd_11 db00d_32
theorem d_X11_state_23 : decode prog_1_method_53_code 23 = .ok (.bipush 15, 2) := gd_12 db00d_32
theorem d_X11_state_25 : decode prog_1_method_53_code 25 = .ok (.invokestatic 96, 3) := gd_13 db00d_32
theorem d_X11_state_28 : decode prog_1_method_53_code 28 = .ok (.ifCond .ne 5, 3) := gd_14 db00d_32
theorem d_X11_state_31 : decode prog_1_method_53_code 31 = .ok (.iconst (-1), 1) := gd_15 db00d_32
theorem d_X11_state_32 : decode prog_1_method_53_code 32 = .ok (.ireturn, 1) := gd_16 db00d_32
theorem d_X11_state_33 : decode prog_1_method_53_code 33 = .ok (.aload_n 0, 1) := gd_17 db00d_32
theorem d_X11_state_34 : decode prog_1_method_53_code 34 = .ok (.getfield 63, 3) := gd_18 db00d_32
theorem d_X11_state_37 : decode prog_1_method_53_code 37 = .ok (.iload_n 1, 1) := gd_19 db00d_32
theorem d_X11_state_38 : decode prog_1_method_53_code 38 = .ok (.iload_n 2, 1) := gd_20 db00d_32
theorem d_X11_state_39 : decode prog_1_method_53_code 39 = .ok (.iload_n 3, 1) := gd_21 db00d_32
theorem d_X11_state_40 : decode prog_1_method_53_code 40 = .ok (.iload 4, 2) := gd_22 db00d_32
theorem d_X11_state_42 : decode prog_1_method_53_code 42 = .ok (.aload_n 0, 1) := gd_23 db00d_32
theorem db00d_33 : Ad_ prog_1_method_53_code [(43, .getfield 92, 3), (46, .invokevirtual 412, 3), (49, .ireturn, 1)] := bch_ok prog_1_method_53_code _ 43 (by decide +kernel)
theorem d_X11_state_43 : decode prog_1_method_53_code 43 = .ok (.getfield 92, 3) := gd_0 db00d_33
theorem d_X11_state_46 : decode prog_1_method_53_code 46 = .ok (.invokevirtual 412, 3) := gd_1 db00d_33
theorem d_X11_state_49 : decode prog_1_method_53_code 49 = .ok (.ireturn, 1) := gd_2 db00d_33
theorem db00d_34 : Ad_ prog_1_method_54_code [(0, .iload_n 1, 1), (1, .iconst 0, 1), (2, .bipush 15, 2), (4, .invokestatic 96, 3), (7, .ifCond .eq 18, 3), (10, .aload_n 0, 1), (11, .getfield 63, 3), (14, .iload_n 1, 1), (15, .aload_n 0, 1), (16, .getfield 92, 3), (19, .invokevirtual 416, 3), (22, .goto 4, 3), (25, .iconst (-1), 1), (26, .ireturn, 1)] := bch_ok prog_1_method_54_code _ 0 (by decide +kernel)
theorem d_X11_withdraw_0 : decode prog_1_method_54_code 0 = .ok (.iload_n 1, 1) := gd_0 db00d_34
theorem d_X11_withdraw_1 : decode prog_1_method_54_code 1 = .ok (.iconst 0, 1) := gd_1 db00d_34
theorem d_X11_withdraw_2 : decode prog_1_method_54_code 2 = .ok (.bipush 15, 2) := gd_2 db00d_34
theorem d_X11_withdraw_4 : decode prog_1_method_54_code 4 = .ok (.invokestatic 96, 3) := gd_3 db00d_34
theorem d_X11_withdraw_7 : decode prog_1_method_54_code 7 = .ok (.ifCond .eq 18, 3) := gd_4 db00d_34
theorem d_X11_withdraw_10 : decode prog_1_method_54_code 10 = .ok (.aload_n 0, 1) := gd_5 db00d_34
theorem d_X11_withdraw_11 : decode prog_1_method_54_code 11 = .ok (.getfield 63, 3) := gd_6 db00d_34
theorem d_X11_withdraw_14 : decode prog_1_method_54_code 14 = .ok (.iload_n 1, 1) := gd_7 db00d_34
theorem d_X11_withdraw_15 : decode prog_1_method_54_code 15 = .ok (.aload_n 0, 1) := gd_8 db00d_34
theorem d_X11_withdraw_16 : decode prog_1_method_54_code 16 = .ok (.getfield 92, 3) := gd_9 db00d_34
theorem d_X11_withdraw_19 : decode prog_1_method_54_code 19 = .ok (.invokevirtual 416, 3) := gd_10 db00d_34
theorem d_X11_withdraw_22 : decode prog_1_method_54_code 22 = .ok (.goto 4, 3) := gd_11 db00d_34
theorem d_X11_withdraw_25 : decode prog_1_method_54_code 25 = .ok (.iconst (-1), 1) := gd_12 db00d_34
theorem d_X11_withdraw_26 : decode prog_1_method_54_code 26 = .ok (.ireturn, 1) := gd_13 db00d_34
theorem db00d_35 : Ad_ prog_1_method_55_code [(0, .iload_n 2, 1), (1, .iconst 0, 1), (2, .bipush 7, 2), (4, .invokestatic 96, 3), (7, .ifCond .eq 23, 3), (10, .aload_n 0, 1), (11, .iload_n 3, 1), (12, .invokevirtual 321, 3), (15, .ifCond .eq 15, 3), (18, .aload_n 0, 1), (19, .getfield 63, 3), (22, .iload_n 1, 1), (23, .iload_n 3, 1), (24, .invokevirtual 419, 3), (27, .ifCond .ne 5, 3), (30, .iconst (-1), 1), (31, .ireturn, 1), (32, .aload_n 0, 1), (33, .getfield 63, 3), (36, .iload_n 1, 1), (37, .iload_n 3, 1), (38, .invokevirtual 423, 3), (41, .aload_n 0, 1), (42, .getfield 63, 3)] := bch_ok prog_1_method_55_code _ 0 (by decide +kernel)
theorem d_X11_fact_0 : decode prog_1_method_55_code 0 = .ok (.iload_n 2, 1) := gd_0 db00d_35
theorem d_X11_fact_1 : decode prog_1_method_55_code 1 = .ok (.iconst 0, 1) := gd_1 db00d_35
theorem d_X11_fact_2 : decode prog_1_method_55_code 2 = .ok (.bipush 7, 2) := gd_2 db00d_35
theorem d_X11_fact_4 : decode prog_1_method_55_code 4 = .ok (.invokestatic 96, 3) := gd_3 db00d_35
theorem d_X11_fact_7 : decode prog_1_method_55_code 7 = .ok (.ifCond .eq 23, 3) := gd_4 db00d_35
theorem d_X11_fact_10 : decode prog_1_method_55_code 10 = .ok (.aload_n 0, 1) := gd_5 db00d_35
theorem d_X11_fact_11 : decode prog_1_method_55_code 11 = .ok (.iload_n 3, 1) := gd_6 db00d_35
theorem d_X11_fact_12 : decode prog_1_method_55_code 12 = .ok (.invokevirtual 321, 3) := gd_7 db00d_35
theorem d_X11_fact_15 : decode prog_1_method_55_code 15 = .ok (.ifCond .eq 15, 3) := gd_8 db00d_35
theorem d_X11_fact_18 : decode prog_1_method_55_code 18 = .ok (.aload_n 0, 1) := gd_9 db00d_35
theorem d_X11_fact_19 : decode prog_1_method_55_code 19 = .ok (.getfield 63, 3) := gd_10 db00d_35
theorem d_X11_fact_22 : decode prog_1_method_55_code 22 = .ok (.iload_n 1, 1) := gd_11 db00d_35
theorem d_X11_fact_23 : decode prog_1_method_55_code 23 = .ok (.iload_n 3, 1) := gd_12 db00d_35
theorem d_X11_fact_24 : decode prog_1_method_55_code 24 = .ok (.invokevirtual 419, 3) := gd_13 db00d_35
theorem d_X11_fact_27 : decode prog_1_method_55_code 27 = .ok (.ifCond .ne 5, 3) := gd_14 db00d_35
theorem d_X11_fact_30 : decode prog_1_method_55_code 30 = .ok (.iconst (-1), 1) := gd_15 db00d_35
theorem d_X11_fact_31 : decode prog_1_method_55_code 31 = .ok (.ireturn, 1) := gd_16 db00d_35
theorem d_X11_fact_32 : decode prog_1_method_55_code 32 = .ok (.aload_n 0, 1) := gd_17 db00d_35
theorem d_X11_fact_33 : decode prog_1_method_55_code 33 = .ok (.getfield 63, 3) := gd_18 db00d_35
theorem d_X11_fact_36 : decode prog_1_method_55_code 36 = .ok (.iload_n 1, 1) := gd_19 db00d_35
theorem d_X11_fact_37 : decode prog_1_method_55_code 37 = .ok (.iload_n 3, 1) := gd_20 db00d_35
theorem d_X11_fact_38 : decode prog_1_method_55_code 38 = .ok (.invokevirtual 423, 3) := gd_21 db00d_35
theorem d_X11_fact_41 : decode prog_1_method_55_code 41 = .ok (.aload_n 0, 1) := gd_22 db00d_35
theorem d_X11_fact_42 : decode prog_1_method_55_code 42 = .ok (.getfield 63, 3) := gd_23 db00d_35
theorem db00d_36 : Ad_ prog_1_method_55_code [(45, .iload_n 2, 1), (46, .invokevirtual 426, 3), (49, .ireturn, 1)] := bch_ok prog_1_method_55_code _ 45 (by decide +kernel)
theorem d_X11_fact_45 : decode prog_1_method_55_code 45 = .ok (.iload_n 2, 1) := gd_0 db00d_36
theorem d_X11_fact_46 : decode prog_1_method_55_code 46 = .ok (.invokevirtual 426, 3) := gd_1 db00d_36
theorem d_X11_fact_49 : decode prog_1_method_55_code 49 = .ok (.ireturn, 1) := gd_2 db00d_36
theorem db00d_37 : Ad_ prog_1_method_56_code [(0, .aload_n 0, 1), (1, .iload_n 2, 1), (2, .invokevirtual 321, 3), (5, .ifCond .eq 28, 3), (8, .aload_n 0, 1), (9, .getfield 63, 3), (12, .iload_n 1, 1), (13, .iload_n 2, 1), (14, .invokevirtual 419, 3), (17, .ifCond .eq 16, 3), (20, .aload_n 0, 1), (21, .getfield 63, 3), (24, .iload_n 1, 1), (25, .iload_n 2, 1), (26, .iload_n 3, 1), (27, .invokevirtual 429, 3), (30, .goto 4, 3), (33, .iconst (-1), 1), (34, .ireturn, 1)] := bch_ok prog_1_method_56_code _ 0 (by decide +kernel)
theorem d_X11_cased_0 : decode prog_1_method_56_code 0 = .ok (.aload_n 0, 1) := gd_0 db00d_37
theorem d_X11_cased_1 : decode prog_1_method_56_code 1 = .ok (.iload_n 2, 1) := gd_1 db00d_37
theorem d_X11_cased_2 : decode prog_1_method_56_code 2 = .ok (.invokevirtual 321, 3) := gd_2 db00d_37
theorem d_X11_cased_5 : decode prog_1_method_56_code 5 = .ok (.ifCond .eq 28, 3) := gd_3 db00d_37
theorem d_X11_cased_8 : decode prog_1_method_56_code 8 = .ok (.aload_n 0, 1) := gd_4 db00d_37
theorem d_X11_cased_9 : decode prog_1_method_56_code 9 = .ok (.getfield 63, 3) := gd_5 db00d_37
theorem d_X11_cased_12 : decode prog_1_method_56_code 12 = .ok (.iload_n 1, 1) := gd_6 db00d_37
theorem d_X11_cased_13 : decode prog_1_method_56_code 13 = .ok (.iload_n 2, 1) := gd_7 db00d_37
theorem d_X11_cased_14 : decode prog_1_method_56_code 14 = .ok (.invokevirtual 419, 3) := gd_8 db00d_37
theorem d_X11_cased_17 : decode prog_1_method_56_code 17 = .ok (.ifCond .eq 16, 3) := gd_9 db00d_37
theorem d_X11_cased_20 : decode prog_1_method_56_code 20 = .ok (.aload_n 0, 1) := gd_10 db00d_37
theorem d_X11_cased_21 : decode prog_1_method_56_code 21 = .ok (.getfield 63, 3) := gd_11 db00d_37
theorem d_X11_cased_24 : decode prog_1_method_56_code 24 = .ok (.iload_n 1, 1) := gd_12 db00d_37
theorem d_X11_cased_25 : decode prog_1_method_56_code 25 = .ok (.iload_n 2, 1) := gd_13 db00d_37
theorem d_X11_cased_26 : decode prog_1_method_56_code 26 = .ok (.iload_n 3, 1) := gd_14 db00d_37
theorem d_X11_cased_27 : decode prog_1_method_56_code 27 = .ok (.invokevirtual 429, 3) := gd_15 db00d_37
theorem d_X11_cased_30 : decode prog_1_method_56_code 30 = .ok (.goto 4, 3) := gd_16 db00d_37
theorem d_X11_cased_33 : decode prog_1_method_56_code 33 = .ok (.iconst (-1), 1) := gd_17 db00d_37
theorem d_X11_cased_34 : decode prog_1_method_56_code 34 = .ok (.ireturn, 1) := gd_18 db00d_37
theorem db00d_38 : Ad_ prog_1_method_57_code [(0, .aload_n 0, 1), (1, .getfield 63, 3), (4, .iload_n 1, 1), (5, .invokevirtual 411, 3), (8, .ifCond .eq 31, 3), (11, .iload_n 2, 1), (12, .iconst 0, 1), (13, .sipush 255, 3), (16, .invokestatic 96, 3), (19, .ifCond .eq 20, 3), (22, .iload_n 3, 1), (23, .iconst 0, 1), (24, .sipush 255, 3), (27, .invokestatic 96, 3), (30, .ifCond .eq 9, 3), (33, .iload_n 2, 1), (34, .iload_n 3, 1), (35, .iand, 1), (36, .ifCond .eq 5, 3), (39, .iconst (-1), 1), (40, .ireturn, 1), (41, .aload_n 0, 1), (42, .getfield 63, 3), (45, .iload_n 1, 1)] := bch_ok prog_1_method_57_code _ 0 (by decide +kernel)
theorem d_X11_story_0 : decode prog_1_method_57_code 0 = .ok (.aload_n 0, 1) := gd_0 db00d_38
theorem d_X11_story_1 : decode prog_1_method_57_code 1 = .ok (.getfield 63, 3) := gd_1 db00d_38
theorem d_X11_story_4 : decode prog_1_method_57_code 4 = .ok (.iload_n 1, 1) := gd_2 db00d_38
theorem d_X11_story_5 : decode prog_1_method_57_code 5 = .ok (.invokevirtual 411, 3) := gd_3 db00d_38
theorem d_X11_story_8 : decode prog_1_method_57_code 8 = .ok (.ifCond .eq 31, 3) := gd_4 db00d_38
theorem d_X11_story_11 : decode prog_1_method_57_code 11 = .ok (.iload_n 2, 1) := gd_5 db00d_38
theorem d_X11_story_12 : decode prog_1_method_57_code 12 = .ok (.iconst 0, 1) := gd_6 db00d_38
theorem d_X11_story_13 : decode prog_1_method_57_code 13 = .ok (.sipush 255, 3) := gd_7 db00d_38
theorem d_X11_story_16 : decode prog_1_method_57_code 16 = .ok (.invokestatic 96, 3) := gd_8 db00d_38
theorem d_X11_story_19 : decode prog_1_method_57_code 19 = .ok (.ifCond .eq 20, 3) := gd_9 db00d_38
theorem d_X11_story_22 : decode prog_1_method_57_code 22 = .ok (.iload_n 3, 1) := gd_10 db00d_38
theorem d_X11_story_23 : decode prog_1_method_57_code 23 = .ok (.iconst 0, 1) := gd_11 db00d_38
theorem d_X11_story_24 : decode prog_1_method_57_code 24 = .ok (.sipush 255, 3) := gd_12 db00d_38
theorem d_X11_story_27 : decode prog_1_method_57_code 27 = .ok (.invokestatic 96, 3) := gd_13 db00d_38
theorem d_X11_story_30 : decode prog_1_method_57_code 30 = .ok (.ifCond .eq 9, 3) := gd_14 db00d_38
theorem d_X11_story_33 : decode prog_1_method_57_code 33 = .ok (.iload_n 2, 1) := gd_15 db00d_38
theorem d_X11_story_34 : decode prog_1_method_57_code 34 = .ok (.iload_n 3, 1) := gd_16 db00d_38
theorem d_X11_story_35 : decode prog_1_method_57_code 35 = .ok (.iand, 1) := gd_17 db00d_38
theorem d_X11_story_36 : decode prog_1_method_57_code 36 = .ok (.ifCond .eq 5, 3) := gd_18 db00d_38
theorem d_X11_story_39 : decode prog_1_method_57_code 39 = .ok (.iconst (-1), 1) := gd_19 db00d_38
theorem d_X11_story_40 : decode prog_1_method_57_code 40 = .ok (.ireturn, 1) := gd_20 db00d_38
theorem d_X11_story_41 : decode prog_1_method_57_code 41 = .ok (.aload_n 0, 1) := gd_21 db00d_38
theorem d_X11_story_42 : decode prog_1_method_57_code 42 = .ok (.getfield 63, 3) := gd_22 db00d_38
theorem d_X11_story_45 : decode prog_1_method_57_code 45 = .ok (.iload_n 1, 1) := gd_23 db00d_38
theorem db00d_39 : Ad_ prog_1_method_57_code [(46, .iload_n 2, 1), (47, .iload_n 3, 1), (48, .aload_n 0, 1), (49, .getfield 92, 3), (52, .invokevirtual 430, 3), (55, .ireturn, 1)] := bch_ok prog_1_method_57_code _ 46 (by decide +kernel)
theorem d_X11_story_46 : decode prog_1_method_57_code 46 = .ok (.iload_n 2, 1) := gd_0 db00d_39
theorem d_X11_story_47 : decode prog_1_method_57_code 47 = .ok (.iload_n 3, 1) := gd_1 db00d_39
theorem d_X11_story_48 : decode prog_1_method_57_code 48 = .ok (.aload_n 0, 1) := gd_2 db00d_39
theorem d_X11_story_49 : decode prog_1_method_57_code 49 = .ok (.getfield 92, 3) := gd_3 db00d_39
theorem d_X11_story_52 : decode prog_1_method_57_code 52 = .ok (.invokevirtual 430, 3) := gd_4 db00d_39
theorem d_X11_story_55 : decode prog_1_method_57_code 55 = .ok (.ireturn, 1) := gd_5 db00d_39
theorem db00d_40 : Ad_ prog_1_method_58_code [(0, .aload_n 0, 1), (1, .getfield 63, 3), (4, .iload_n 1, 1), (5, .invokevirtual 411, 3), (8, .ifCond .eq 18, 3), (11, .aload_n 0, 1), (12, .getfield 63, 3), (15, .iload_n 1, 1), (16, .aload_n 0, 1), (17, .getfield 92, 3), (20, .invokevirtual 434, 3), (23, .goto 4, 3), (26, .iconst (-1), 1), (27, .ireturn, 1)] := bch_ok prog_1_method_58_code _ 0 (by decide +kernel)
theorem d_X11_next_0 : decode prog_1_method_58_code 0 = .ok (.aload_n 0, 1) := gd_0 db00d_40
theorem d_X11_next_1 : decode prog_1_method_58_code 1 = .ok (.getfield 63, 3) := gd_1 db00d_40
theorem d_X11_next_4 : decode prog_1_method_58_code 4 = .ok (.iload_n 1, 1) := gd_2 db00d_40
theorem d_X11_next_5 : decode prog_1_method_58_code 5 = .ok (.invokevirtual 411, 3) := gd_3 db00d_40
theorem d_X11_next_8 : decode prog_1_method_58_code 8 = .ok (.ifCond .eq 18, 3) := gd_4 db00d_40
theorem d_X11_next_11 : decode prog_1_method_58_code 11 = .ok (.aload_n 0, 1) := gd_5 db00d_40
theorem d_X11_next_12 : decode prog_1_method_58_code 12 = .ok (.getfield 63, 3) := gd_6 db00d_40
theorem d_X11_next_15 : decode prog_1_method_58_code 15 = .ok (.iload_n 1, 1) := gd_7 db00d_40
theorem d_X11_next_16 : decode prog_1_method_58_code 16 = .ok (.aload_n 0, 1) := gd_8 db00d_40
theorem d_X11_next_17 : decode prog_1_method_58_code 17 = .ok (.getfield 92, 3) := gd_9 db00d_40
theorem d_X11_next_20 : decode prog_1_method_58_code 20 = .ok (.invokevirtual 434, 3) := gd_10 db00d_40
theorem d_X11_next_23 : decode prog_1_method_58_code 23 = .ok (.goto 4, 3) := gd_11 db00d_40
theorem d_X11_next_26 : decode prog_1_method_58_code 26 = .ok (.iconst (-1), 1) := gd_12 db00d_40
theorem d_X11_next_27 : decode prog_1_method_58_code 27 = .ok (.ireturn, 1) := gd_13 db00d_40
theorem db00d_41 : Ad_ prog_1_method_59_code [(0, .iload_n 2, 1), (1, .iconst 0, 1), (2, .ldc_w 437, 3), (5, .invokestatic 96, 3), (8, .ifCond .eq 15, 3), (11, .aload_n 0, 1), (12, .getfield 70, 3), (15, .iload_n 1, 1), (16, .iload_n 2, 1), (17, .invokevirtual 438, 3), (20, .goto 4, 3), (23, .iconst (-1), 1), (24, .ireturn, 1)] := bch_ok prog_1_method_59_code _ 0 (by decide +kernel)
theorem d_X11_good_0 : decode prog_1_method_59_code 0 = .ok (.iload_n 2, 1) := gd_0 db00d_41
theorem d_X11_good_1 : decode prog_1_method_59_code 1 = .ok (.iconst 0, 1) := gd_1 db00d_41
theorem d_X11_good_2 : decode prog_1_method_59_code 2 = .ok (.ldc_w 437, 3) := gd_2 db00d_41
theorem d_X11_good_5 : decode prog_1_method_59_code 5 = .ok (.invokestatic 96, 3) := gd_3 db00d_41
theorem d_X11_good_8 : decode prog_1_method_59_code 8 = .ok (.ifCond .eq 15, 3) := gd_4 db00d_41
theorem d_X11_good_11 : decode prog_1_method_59_code 11 = .ok (.aload_n 0, 1) := gd_5 db00d_41
theorem d_X11_good_12 : decode prog_1_method_59_code 12 = .ok (.getfield 70, 3) := gd_6 db00d_41
theorem d_X11_good_15 : decode prog_1_method_59_code 15 = .ok (.iload_n 1, 1) := gd_7 db00d_41
theorem d_X11_good_16 : decode prog_1_method_59_code 16 = .ok (.iload_n 2, 1) := gd_8 db00d_41
theorem d_X11_good_17 : decode prog_1_method_59_code 17 = .ok (.invokevirtual 438, 3) := gd_9 db00d_41
theorem d_X11_good_20 : decode prog_1_method_59_code 20 = .ok (.goto 4, 3) := gd_10 db00d_41
theorem d_X11_good_23 : decode prog_1_method_59_code 23 = .ok (.iconst (-1), 1) := gd_11 db00d_41
theorem d_X11_good_24 : decode prog_1_method_59_code 24 = .ok (.ireturn, 1) := gd_12 db00d_41
theorem db00d_42 : Ad_ prog_1_method_60_code [(0, .iload_n 1, 1), (1, .iconst 1, 1), (2, .iconst 5, 1), (3, .invokestatic 96, 3), (6, .ifCond .eq 18, 3), (9, .aload_n 0, 1), (10, .getfield 70, 3), (13, .iload_n 1, 1), (14, .invokevirtual 442, 3), (17, .ifCond .eq 7, 3), (20, .iconst 1, 1), (21, .goto 4, 3), (24, .iconst 0, 1), (25, .ireturn, 1)] := bch_ok prog_1_method_60_code _ 0 (by decide +kernel)
theorem d_X11_least_0 : decode prog_1_method_60_code 0 = .ok (.iload_n 1, 1) := gd_0 db00d_42
theorem d_X11_least_1 : decode prog_1_method_60_code 1 = .ok (.iconst 1, 1) := gd_1 db00d_42
theorem d_X11_least_2 : decode prog_1_method_60_code 2 = .ok (.iconst 5, 1) := gd_2 db00d_42
theorem d_X11_least_3 : decode prog_1_method_60_code 3 = .ok (.invokestatic 96, 3) := gd_3 db00d_42
theorem d_X11_least_6 : decode prog_1_method_60_code 6 = .ok (.ifCond .eq 18, 3) := gd_4 db00d_42
theorem d_X11_least_9 : decode prog_1_method_60_code 9 = .ok (.aload_n 0, 1) := gd_5 db00d_42
theorem d_X11_least_10 : decode prog_1_method_60_code 10 = .ok (.getfield 70, 3) := gd_6 db00d_42
theorem d_X11_least_13 : decode prog_1_method_60_code 13 = .ok (.iload_n 1, 1) := gd_7 db00d_42
theorem d_X11_least_14 : decode prog_1_method_60_code 14 = .ok (.invokevirtual 442, 3) := gd_8 db00d_42
theorem d_X11_least_17 : decode prog_1_method_60_code 17 = .ok (.ifCond .eq 7, 3) := gd_9 db00d_42
theorem d_X11_least_20 : decode prog_1_method_60_code 20 = .ok (.iconst 1, 1) := gd_10 db00d_42
theorem d_X11_least_21 : decode prog_1_method_60_code 21 = .ok (.goto 4, 3) := gd_11 db00d_42
theorem d_X11_least_24 : decode prog_1_method_60_code 24 = .ok (.iconst 0, 1) := gd_12 db00d_42
theorem d_X11_least_25 : decode prog_1_method_60_code 25 = .ok (.ireturn, 1) := gd_13 db00d_42
theorem db00d_43 : Ad_ prog_1_method_61_code [(0, .aload_n 0, 1), (1, .getfield 70, 3), (4, .invokevirtual 445, 3), (7, .ireturn, 1)] := bch_ok prog_1_method_61_code _ 0 (by decide +kernel)
theorem d_X11_joining_0 : decode prog_1_method_61_code 0 = .ok (.aload_n 0, 1) := gd_0 db00d_43
theorem d_X11_joining_1 : decode prog_1_method_61_code 1 = .ok (.getfield 70, 3) := gd_1 db00d_43
theorem d_X11_joining_4 : decode prog_1_method_61_code 4 = .ok (.invokevirtual 445, 3) := gd_2 db00d_43
theorem d_X11_joining_7 : decode prog_1_method_61_code 7 = .ok (.ireturn, 1) := gd_3 db00d_43
theorem db00d_44 : Ad_ prog_1_method_62_code [(0, .aload_n 0, 1), (1, .getfield 70, 3), (4, .iload_n 1, 1), (5, .invokevirtual 448, 3), (8, .ifCond .eq 14, 3), (11, .aload_n 0, 1), (12, .getfield 70, 3), (15, .iload_n 1, 1), (16, .invokevirtual 451, 3), (19, .goto 4, 3), (22, .iconst (-1), 1), (23, .ireturn, 1)] := bch_ok prog_1_method_62_code _ 0 (by decide +kernel)
theorem d_X11_joined_0 : decode prog_1_method_62_code 0 = .ok (.aload_n 0, 1) := gd_0 db00d_44
theorem d_X11_joined_1 : decode prog_1_method_62_code 1 = .ok (.getfield 70, 3) := gd_1 db00d_44
theorem d_X11_joined_4 : decode prog_1_method_62_code 4 = .ok (.iload_n 1, 1) := gd_2 db00d_44
theorem d_X11_joined_5 : decode prog_1_method_62_code 5 = .ok (.invokevirtual 448, 3) := gd_3 db00d_44
theorem d_X11_joined_8 : decode prog_1_method_62_code 8 = .ok (.ifCond .eq 14, 3) := gd_4 db00d_44
theorem d_X11_joined_11 : decode prog_1_method_62_code 11 = .ok (.aload_n 0, 1) := gd_5 db00d_44
theorem d_X11_joined_12 : decode prog_1_method_62_code 12 = .ok (.getfield 70, 3) := gd_6 db00d_44
theorem d_X11_joined_15 : decode prog_1_method_62_code 15 = .ok (.iload_n 1, 1) := gd_7 db00d_44
theorem d_X11_joined_16 : decode prog_1_method_62_code 16 = .ok (.invokevirtual 451, 3) := gd_8 db00d_44
theorem d_X11_joined_19 : decode prog_1_method_62_code 19 = .ok (.goto 4, 3) := gd_9 db00d_44
theorem d_X11_joined_22 : decode prog_1_method_62_code 22 = .ok (.iconst (-1), 1) := gd_10 db00d_44
theorem d_X11_joined_23 : decode prog_1_method_62_code 23 = .ok (.ireturn, 1) := gd_11 db00d_44
theorem db00d_45 : Ad_ prog_1_method_63_code [(0, .aload_n 0, 1), (1, .getfield 70, 3), (4, .iload_n 1, 1), (5, .invokevirtual 448, 3), (8, .ifCond .eq 14, 3), (11, .aload_n 0, 1), (12, .getfield 70, 3), (15, .iload_n 1, 1), (16, .invokevirtual 454, 3), (19, .goto 4, 3), (22, .iconst (-1), 1), (23, .ireturn, 1)] := bch_ok prog_1_method_63_code _ 0 (by decide +kernel)
theorem d_X11_rivals_0 : decode prog_1_method_63_code 0 = .ok (.aload_n 0, 1) := gd_0 db00d_45
theorem d_X11_rivals_1 : decode prog_1_method_63_code 1 = .ok (.getfield 70, 3) := gd_1 db00d_45
theorem d_X11_rivals_4 : decode prog_1_method_63_code 4 = .ok (.iload_n 1, 1) := gd_2 db00d_45
theorem d_X11_rivals_5 : decode prog_1_method_63_code 5 = .ok (.invokevirtual 448, 3) := gd_3 db00d_45
theorem d_X11_rivals_8 : decode prog_1_method_63_code 8 = .ok (.ifCond .eq 14, 3) := gd_4 db00d_45
theorem d_X11_rivals_11 : decode prog_1_method_63_code 11 = .ok (.aload_n 0, 1) := gd_5 db00d_45
theorem d_X11_rivals_12 : decode prog_1_method_63_code 12 = .ok (.getfield 70, 3) := gd_6 db00d_45
theorem d_X11_rivals_15 : decode prog_1_method_63_code 15 = .ok (.iload_n 1, 1) := gd_7 db00d_45
theorem d_X11_rivals_16 : decode prog_1_method_63_code 16 = .ok (.invokevirtual 454, 3) := gd_8 db00d_45
theorem d_X11_rivals_19 : decode prog_1_method_63_code 19 = .ok (.goto 4, 3) := gd_9 db00d_45
theorem d_X11_rivals_22 : decode prog_1_method_63_code 22 = .ok (.iconst (-1), 1) := gd_10 db00d_45
theorem d_X11_rivals_23 : decode prog_1_method_63_code 23 = .ok (.ireturn, 1) := gd_11 db00d_45
theorem db00d_46 : Ad_ prog_1_method_64_code [(0, .aload_n 0, 1), (1, .getfield 70, 3), (4, .iload_n 1, 1), (5, .invokevirtual 448, 3), (8, .ifCond .ne 5, 3), (11, .iconst (-1), 1), (12, .ireturn, 1), (13, .aload_n 0, 1), (14, .getfield 70, 3), (17, .iload_n 1, 1), (18, .invokevirtual 457, 3), (21, .ifCond .eq 7, 3), (24, .iconst 1, 1), (25, .goto 4, 3), (28, .iconst 0, 1), (29, .ireturn, 1)] := bch_ok prog_1_method_64_code _ 0 (by decide +kernel)
theorem d_X11_sure_0 : decode prog_1_method_64_code 0 = .ok (.aload_n 0, 1) := gd_0 db00d_46
theorem d_X11_sure_1 : decode prog_1_method_64_code 1 = .ok (.getfield 70, 3) := gd_1 db00d_46
theorem d_X11_sure_4 : decode prog_1_method_64_code 4 = .ok (.iload_n 1, 1) := gd_2 db00d_46
theorem d_X11_sure_5 : decode prog_1_method_64_code 5 = .ok (.invokevirtual 448, 3) := gd_3 db00d_46
theorem d_X11_sure_8 : decode prog_1_method_64_code 8 = .ok (.ifCond .ne 5, 3) := gd_4 db00d_46
theorem d_X11_sure_11 : decode prog_1_method_64_code 11 = .ok (.iconst (-1), 1) := gd_5 db00d_46
theorem d_X11_sure_12 : decode prog_1_method_64_code 12 = .ok (.ireturn, 1) := gd_6 db00d_46
theorem d_X11_sure_13 : decode prog_1_method_64_code 13 = .ok (.aload_n 0, 1) := gd_7 db00d_46
theorem d_X11_sure_14 : decode prog_1_method_64_code 14 = .ok (.getfield 70, 3) := gd_8 db00d_46
theorem d_X11_sure_17 : decode prog_1_method_64_code 17 = .ok (.iload_n 1, 1) := gd_9 db00d_46
theorem d_X11_sure_18 : decode prog_1_method_64_code 18 = .ok (.invokevirtual 457, 3) := gd_10 db00d_46
theorem d_X11_sure_21 : decode prog_1_method_64_code 21 = .ok (.ifCond .eq 7, 3) := gd_11 db00d_46
theorem d_X11_sure_24 : decode prog_1_method_64_code 24 = .ok (.iconst 1, 1) := gd_12 db00d_46
theorem d_X11_sure_25 : decode prog_1_method_64_code 25 = .ok (.goto 4, 3) := gd_13 db00d_46
theorem d_X11_sure_28 : decode prog_1_method_64_code 28 = .ok (.iconst 0, 1) := gd_14 db00d_46
theorem d_X11_sure_29 : decode prog_1_method_64_code 29 = .ok (.ireturn, 1) := gd_15 db00d_46
theorem db00d_47 : Ad_ prog_1_method_65_code [(0, .iload_n 1, 1), (1, .invokestatic 107, 3), (4, .ifCond .eq 25, 3), (7, .iload_n 2, 1), (8, .iconst 0, 1), (9, .sipush 1440, 3), (12, .invokestatic 96, 3), (15, .ifCond .eq 14, 3), (18, .iload_n 3, 1), (19, .iload_n 2, 1), (20, .sipush 1440, 3), (23, .invokestatic 96, 3), (26, .ifCond .ne 5, 3), (29, .iconst (-1), 1), (30, .ireturn, 1), (31, .aload_n 0, 1), (32, .getfield 77, 3), (35, .iload_n 1, 1), (36, .iload_n 2, 1), (37, .iload_n 3, 1), (38, .invokevirtual 460, 3), (41, .ireturn, 1)] := bch_ok prog_1_method_65_code _ 0 (by decide +kernel)
theorem d_X11_watch_0 : decode prog_1_method_65_code 0 = .ok (.iload_n 1, 1) := gd_0 db00d_47
theorem d_X11_watch_1 : decode prog_1_method_65_code 1 = .ok (.invokestatic 107, 3) := gd_1 db00d_47
theorem d_X11_watch_4 : decode prog_1_method_65_code 4 = .ok (.ifCond .eq 25, 3) := gd_2 db00d_47
theorem d_X11_watch_7 : decode prog_1_method_65_code 7 = .ok (.iload_n 2, 1) := gd_3 db00d_47
theorem d_X11_watch_8 : decode prog_1_method_65_code 8 = .ok (.iconst 0, 1) := gd_4 db00d_47
theorem d_X11_watch_9 : decode prog_1_method_65_code 9 = .ok (.sipush 1440, 3) := gd_5 db00d_47
theorem d_X11_watch_12 : decode prog_1_method_65_code 12 = .ok (.invokestatic 96, 3) := gd_6 db00d_47
theorem d_X11_watch_15 : decode prog_1_method_65_code 15 = .ok (.ifCond .eq 14, 3) := gd_7 db00d_47
theorem d_X11_watch_18 : decode prog_1_method_65_code 18 = .ok (.iload_n 3, 1) := gd_8 db00d_47
theorem d_X11_watch_19 : decode prog_1_method_65_code 19 = .ok (.iload_n 2, 1) := gd_9 db00d_47
theorem d_X11_watch_20 : decode prog_1_method_65_code 20 = .ok (.sipush 1440, 3) := gd_10 db00d_47
theorem d_X11_watch_23 : decode prog_1_method_65_code 23 = .ok (.invokestatic 96, 3) := gd_11 db00d_47
theorem d_X11_watch_26 : decode prog_1_method_65_code 26 = .ok (.ifCond .ne 5, 3) := gd_12 db00d_47
theorem d_X11_watch_29 : decode prog_1_method_65_code 29 = .ok (.iconst (-1), 1) := gd_13 db00d_47
theorem d_X11_watch_30 : decode prog_1_method_65_code 30 = .ok (.ireturn, 1) := gd_14 db00d_47
theorem d_X11_watch_31 : decode prog_1_method_65_code 31 = .ok (.aload_n 0, 1) := gd_15 db00d_47
theorem d_X11_watch_32 : decode prog_1_method_65_code 32 = .ok (.getfield 77, 3) := gd_16 db00d_47
theorem d_X11_watch_35 : decode prog_1_method_65_code 35 = .ok (.iload_n 1, 1) := gd_17 db00d_47
theorem d_X11_watch_36 : decode prog_1_method_65_code 36 = .ok (.iload_n 2, 1) := gd_18 db00d_47
theorem d_X11_watch_37 : decode prog_1_method_65_code 37 = .ok (.iload_n 3, 1) := gd_19 db00d_47
theorem d_X11_watch_38 : decode prog_1_method_65_code 38 = .ok (.invokevirtual 460, 3) := gd_20 db00d_47
theorem d_X11_watch_41 : decode prog_1_method_65_code 41 = .ok (.ireturn, 1) := gd_21 db00d_47
theorem db00d_48 : Ad_ prog_1_method_66_code [(0, .aload_n 0, 1), (1, .getfield 26, 3), (4, .iload_n 1, 1), (5, .invokevirtual 148, 3), (8, .ifCond .eq 14, 3), (11, .aload_n 0, 1), (12, .getfield 77, 3), (15, .iload_n 2, 1), (16, .invokevirtual 463, 3), (19, .ifCond .ne 5, 3), (22, .iconst (-1), 1), (23, .ireturn, 1), (24, .aload_n 0, 1), (25, .getfield 77, 3), (28, .iload_n 2, 1), (29, .iload_n 1, 1), (30, .aload_n 0, 1), (31, .getfield 26, 3), (34, .aload_n 0, 1), (35, .getfield 10, 3), (38, .invokevirtual 466, 3), (41, .ifCond .eq 7, 3), (44, .iconst 1, 1), (45, .goto 4, 3)] := bch_ok prog_1_method_66_code _ 0 (by decide +kernel)
theorem d_X11_sees_0 : decode prog_1_method_66_code 0 = .ok (.aload_n 0, 1) := gd_0 db00d_48
theorem d_X11_sees_1 : decode prog_1_method_66_code 1 = .ok (.getfield 26, 3) := gd_1 db00d_48
theorem d_X11_sees_4 : decode prog_1_method_66_code 4 = .ok (.iload_n 1, 1) := gd_2 db00d_48
theorem d_X11_sees_5 : decode prog_1_method_66_code 5 = .ok (.invokevirtual 148, 3) := gd_3 db00d_48
theorem d_X11_sees_8 : decode prog_1_method_66_code 8 = .ok (.ifCond .eq 14, 3) := gd_4 db00d_48
theorem d_X11_sees_11 : decode prog_1_method_66_code 11 = .ok (.aload_n 0, 1) := gd_5 db00d_48
theorem d_X11_sees_12 : decode prog_1_method_66_code 12 = .ok (.getfield 77, 3) := gd_6 db00d_48
theorem d_X11_sees_15 : decode prog_1_method_66_code 15 = .ok (.iload_n 2, 1) := gd_7 db00d_48
theorem d_X11_sees_16 : decode prog_1_method_66_code 16 = .ok (.invokevirtual 463, 3) := gd_8 db00d_48
theorem d_X11_sees_19 : decode prog_1_method_66_code 19 = .ok (.ifCond .ne 5, 3) := gd_9 db00d_48
theorem d_X11_sees_22 : decode prog_1_method_66_code 22 = .ok (.iconst (-1), 1) := gd_10 db00d_48
theorem d_X11_sees_23 : decode prog_1_method_66_code 23 = .ok (.ireturn, 1) := gd_11 db00d_48
theorem d_X11_sees_24 : decode prog_1_method_66_code 24 = .ok (.aload_n 0, 1) := gd_12 db00d_48
theorem d_X11_sees_25 : decode prog_1_method_66_code 25 = .ok (.getfield 77, 3) := gd_13 db00d_48
theorem d_X11_sees_28 : decode prog_1_method_66_code 28 = .ok (.iload_n 2, 1) := gd_14 db00d_48
theorem d_X11_sees_29 : decode prog_1_method_66_code 29 = .ok (.iload_n 1, 1) := gd_15 db00d_48
theorem d_X11_sees_30 : decode prog_1_method_66_code 30 = .ok (.aload_n 0, 1) := gd_16 db00d_48
theorem d_X11_sees_31 : decode prog_1_method_66_code 31 = .ok (.getfield 26, 3) := gd_17 db00d_48
theorem d_X11_sees_34 : decode prog_1_method_66_code 34 = .ok (.aload_n 0, 1) := gd_18 db00d_48
theorem d_X11_sees_35 : decode prog_1_method_66_code 35 = .ok (.getfield 10, 3) := gd_19 db00d_48
theorem d_X11_sees_38 : decode prog_1_method_66_code 38 = .ok (.invokevirtual 466, 3) := gd_20 db00d_48
theorem d_X11_sees_41 : decode prog_1_method_66_code 41 = .ok (.ifCond .eq 7, 3) := gd_21 db00d_48
theorem d_X11_sees_44 : decode prog_1_method_66_code 44 = .ok (.iconst 1, 1) := gd_22 db00d_48
theorem d_X11_sees_45 : decode prog_1_method_66_code 45 = .ok (.goto 4, 3) := gd_23 db00d_48
theorem d_X11_sees_48 : decode prog_1_method_66_code 48 = .ok (.iconst 0, 1) := by decide +kernel
theorem d_X11_sees_49 : decode prog_1_method_66_code 49 = .ok (.ireturn, 1) := by decide +kernel
theorem db00d_49 : Ad_ prog_1_method_67_code [(0, .iload_n 1, 1), (1, .ifCond .le 28, 3), (4, .iload_n 1, 1), (5, .iconst 1, 1), (6, .aload_n 0, 1), (7, .getfield 26, 3), (10, .getfield 470, 3), (13, .ishl, 1), (14, .if_icmp .ge 15, 3), (17, .iload_n 1, 1), (18, .invokestatic 472, 3), (21, .iconst 5, 1), (22, .if_icmp .gt 7, 3), (25, .iconst 1, 1), (26, .goto 4, 3), (29, .iconst 0, 1), (30, .ireturn, 1)] := bch_ok prog_1_method_67_code _ 0 (by decide +kernel)
theorem d_X11_canShare_0 : decode prog_1_method_67_code 0 = .ok (.iload_n 1, 1) := gd_0 db00d_49
theorem d_X11_canShare_1 : decode prog_1_method_67_code 1 = .ok (.ifCond .le 28, 3) := gd_1 db00d_49
theorem d_X11_canShare_4 : decode prog_1_method_67_code 4 = .ok (.iload_n 1, 1) := gd_2 db00d_49
theorem d_X11_canShare_5 : decode prog_1_method_67_code 5 = .ok (.iconst 1, 1) := gd_3 db00d_49
theorem d_X11_canShare_6 : decode prog_1_method_67_code 6 = .ok (.aload_n 0, 1) := gd_4 db00d_49
theorem d_X11_canShare_7 : decode prog_1_method_67_code 7 = .ok (.getfield 26, 3) := gd_5 db00d_49
theorem d_X11_canShare_10 : decode prog_1_method_67_code 10 = .ok (.getfield 470, 3) := gd_6 db00d_49
theorem d_X11_canShare_13 : decode prog_1_method_67_code 13 = .ok (.ishl, 1) := gd_7 db00d_49
theorem d_X11_canShare_14 : decode prog_1_method_67_code 14 = .ok (.if_icmp .ge 15, 3) := gd_8 db00d_49
theorem d_X11_canShare_17 : decode prog_1_method_67_code 17 = .ok (.iload_n 1, 1) := gd_9 db00d_49
theorem d_X11_canShare_18 : decode prog_1_method_67_code 18 = .ok (.invokestatic 472, 3) := gd_10 db00d_49
theorem d_X11_canShare_21 : decode prog_1_method_67_code 21 = .ok (.iconst 5, 1) := gd_11 db00d_49
theorem d_X11_canShare_22 : decode prog_1_method_67_code 22 = .ok (.if_icmp .gt 7, 3) := gd_12 db00d_49
theorem d_X11_canShare_25 : decode prog_1_method_67_code 25 = .ok (.iconst 1, 1) := gd_13 db00d_49
theorem d_X11_canShare_26 : decode prog_1_method_67_code 26 = .ok (.goto 4, 3) := gd_14 db00d_49
theorem d_X11_canShare_29 : decode prog_1_method_67_code 29 = .ok (.iconst 0, 1) := gd_15 db00d_49
theorem d_X11_canShare_30 : decode prog_1_method_67_code 30 = .ok (.ireturn, 1) := gd_16 db00d_49
theorem db00d_50 : Ad_ prog_1_method_68_code [(0, .aload_n 0, 1), (1, .iload_n 1, 1), (2, .invokevirtual 477, 3), (5, .ifCond .eq 22, 3), (8, .aload_n 0, 1), (9, .getfield 77, 3), (12, .iload_n 1, 1), (13, .aload_n 0, 1), (14, .getfield 26, 3), (17, .aload_n 0, 1), (18, .getfield 10, 3), (21, .invokevirtual 480, 3), (24, .goto 4, 3), (27, .iconst (-1), 1), (28, .ireturn, 1)] := bch_ok prog_1_method_68_code _ 0 (by decide +kernel)
theorem d_X11_safe_0 : decode prog_1_method_68_code 0 = .ok (.aload_n 0, 1) := gd_0 db00d_50
theorem d_X11_safe_1 : decode prog_1_method_68_code 1 = .ok (.iload_n 1, 1) := gd_1 db00d_50
theorem d_X11_safe_2 : decode prog_1_method_68_code 2 = .ok (.invokevirtual 477, 3) := gd_2 db00d_50
theorem d_X11_safe_5 : decode prog_1_method_68_code 5 = .ok (.ifCond .eq 22, 3) := gd_3 db00d_50
theorem d_X11_safe_8 : decode prog_1_method_68_code 8 = .ok (.aload_n 0, 1) := gd_4 db00d_50
theorem d_X11_safe_9 : decode prog_1_method_68_code 9 = .ok (.getfield 77, 3) := gd_5 db00d_50
theorem d_X11_safe_12 : decode prog_1_method_68_code 12 = .ok (.iload_n 1, 1) := gd_6 db00d_50
theorem d_X11_safe_13 : decode prog_1_method_68_code 13 = .ok (.aload_n 0, 1) := gd_7 db00d_50
theorem d_X11_safe_14 : decode prog_1_method_68_code 14 = .ok (.getfield 26, 3) := gd_8 db00d_50
theorem d_X11_safe_17 : decode prog_1_method_68_code 17 = .ok (.aload_n 0, 1) := gd_9 db00d_50
theorem d_X11_safe_18 : decode prog_1_method_68_code 18 = .ok (.getfield 10, 3) := gd_10 db00d_50
theorem d_X11_safe_21 : decode prog_1_method_68_code 21 = .ok (.invokevirtual 480, 3) := gd_11 db00d_50
theorem d_X11_safe_24 : decode prog_1_method_68_code 24 = .ok (.goto 4, 3) := gd_12 db00d_50
theorem d_X11_safe_27 : decode prog_1_method_68_code 27 = .ok (.iconst (-1), 1) := gd_13 db00d_50
theorem d_X11_safe_28 : decode prog_1_method_68_code 28 = .ok (.ireturn, 1) := gd_14 db00d_50
theorem db00d_51 : Ad_ prog_1_method_69_code [(0, .aload_n 0, 1), (1, .iload_n 1, 1), (2, .invokevirtual 477, 3), (5, .ifCond .eq 22, 3), (8, .aload_n 0, 1), (9, .getfield 26, 3), (12, .iload_n 2, 1), (13, .invokevirtual 148, 3), (16, .ifCond .eq 11, 3), (19, .iload_n 1, 1), (20, .iload_n 2, 1), (21, .ishr, 1), (22, .iconst 1, 1), (23, .iand, 1), (24, .ifCond .ne 5, 3), (27, .iconst (-1), 1), (28, .ireturn, 1), (29, .aload_n 0, 1), (30, .getfield 77, 3), (33, .iload_n 1, 1), (34, .iload_n 2, 1), (35, .aload_n 0, 1), (36, .getfield 26, 3), (39, .aload_n 0, 1)] := bch_ok prog_1_method_69_code _ 0 (by decide +kernel)
theorem d_X11_share_0 : decode prog_1_method_69_code 0 = .ok (.aload_n 0, 1) := gd_0 db00d_51
theorem d_X11_share_1 : decode prog_1_method_69_code 1 = .ok (.iload_n 1, 1) := gd_1 db00d_51
theorem d_X11_share_2 : decode prog_1_method_69_code 2 = .ok (.invokevirtual 477, 3) := gd_2 db00d_51
theorem d_X11_share_5 : decode prog_1_method_69_code 5 = .ok (.ifCond .eq 22, 3) := gd_3 db00d_51
theorem d_X11_share_8 : decode prog_1_method_69_code 8 = .ok (.aload_n 0, 1) := gd_4 db00d_51
theorem d_X11_share_9 : decode prog_1_method_69_code 9 = .ok (.getfield 26, 3) := gd_5 db00d_51
theorem d_X11_share_12 : decode prog_1_method_69_code 12 = .ok (.iload_n 2, 1) := gd_6 db00d_51
theorem d_X11_share_13 : decode prog_1_method_69_code 13 = .ok (.invokevirtual 148, 3) := gd_7 db00d_51
theorem d_X11_share_16 : decode prog_1_method_69_code 16 = .ok (.ifCond .eq 11, 3) := gd_8 db00d_51
theorem d_X11_share_19 : decode prog_1_method_69_code 19 = .ok (.iload_n 1, 1) := gd_9 db00d_51
theorem d_X11_share_20 : decode prog_1_method_69_code 20 = .ok (.iload_n 2, 1) := gd_10 db00d_51
theorem d_X11_share_21 : decode prog_1_method_69_code 21 = .ok (.ishr, 1) := gd_11 db00d_51
theorem d_X11_share_22 : decode prog_1_method_69_code 22 = .ok (.iconst 1, 1) := gd_12 db00d_51
theorem d_X11_share_23 : decode prog_1_method_69_code 23 = .ok (.iand, 1) := gd_13 db00d_51
theorem d_X11_share_24 : decode prog_1_method_69_code 24 = .ok (.ifCond .ne 5, 3) := gd_14 db00d_51
theorem d_X11_share_27 : decode prog_1_method_69_code 27 = .ok (.iconst (-1), 1) := gd_15 db00d_51
theorem d_X11_share_28 : decode prog_1_method_69_code 28 = .ok (.ireturn, 1) := gd_16 db00d_51
theorem d_X11_share_29 : decode prog_1_method_69_code 29 = .ok (.aload_n 0, 1) := gd_17 db00d_51
theorem d_X11_share_30 : decode prog_1_method_69_code 30 = .ok (.getfield 77, 3) := gd_18 db00d_51
theorem d_X11_share_33 : decode prog_1_method_69_code 33 = .ok (.iload_n 1, 1) := gd_19 db00d_51
theorem d_X11_share_34 : decode prog_1_method_69_code 34 = .ok (.iload_n 2, 1) := gd_20 db00d_51
theorem d_X11_share_35 : decode prog_1_method_69_code 35 = .ok (.aload_n 0, 1) := gd_21 db00d_51
theorem d_X11_share_36 : decode prog_1_method_69_code 36 = .ok (.getfield 26, 3) := gd_22 db00d_51
theorem d_X11_share_39 : decode prog_1_method_69_code 39 = .ok (.aload_n 0, 1) := gd_23 db00d_51
theorem db00d_52 : Ad_ prog_1_method_69_code [(40, .getfield 10, 3), (43, .invokevirtual 484, 3), (46, .ireturn, 1)] := bch_ok prog_1_method_69_code _ 40 (by decide +kernel)
theorem d_X11_share_40 : decode prog_1_method_69_code 40 = .ok (.getfield 10, 3) := gd_0 db00d_52
theorem d_X11_share_43 : decode prog_1_method_69_code 43 = .ok (.invokevirtual 484, 3) := gd_1 db00d_52
theorem d_X11_share_46 : decode prog_1_method_69_code 46 = .ok (.ireturn, 1) := gd_2 db00d_52
theorem db00d_53 : Ad_ prog_1_method_70_code [(0, .iload_n 1, 1), (1, .invokestatic 107, 3), (4, .ifCond .eq 23, 3), (7, .iload_n 2, 1), (8, .iconst 0, 1), (9, .sipush 30000, 3), (12, .invokestatic 96, 3), (15, .ifCond .eq 12, 3), (18, .iload_n 3, 1), (19, .iconst 1, 1), (20, .iconst 3, 1), (21, .invokestatic 96, 3), (24, .ifCond .ne 5, 3), (27, .iconst (-1), 1), (28, .ireturn, 1), (29, .aload_n 0, 1), (30, .getfield 77, 3), (33, .iload_n 1, 1), (34, .iload_n 2, 1), (35, .iload_n 3, 1), (36, .invokevirtual 488, 3), (39, .ireturn, 1)] := bch_ok prog_1_method_70_code _ 0 (by decide +kernel)
theorem d_X11_fair_0 : decode prog_1_method_70_code 0 = .ok (.iload_n 1, 1) := gd_0 db00d_53
theorem d_X11_fair_1 : decode prog_1_method_70_code 1 = .ok (.invokestatic 107, 3) := gd_1 db00d_53
theorem d_X11_fair_4 : decode prog_1_method_70_code 4 = .ok (.ifCond .eq 23, 3) := gd_2 db00d_53
theorem d_X11_fair_7 : decode prog_1_method_70_code 7 = .ok (.iload_n 2, 1) := gd_3 db00d_53
theorem d_X11_fair_8 : decode prog_1_method_70_code 8 = .ok (.iconst 0, 1) := gd_4 db00d_53
theorem d_X11_fair_9 : decode prog_1_method_70_code 9 = .ok (.sipush 30000, 3) := gd_5 db00d_53
theorem d_X11_fair_12 : decode prog_1_method_70_code 12 = .ok (.invokestatic 96, 3) := gd_6 db00d_53
theorem d_X11_fair_15 : decode prog_1_method_70_code 15 = .ok (.ifCond .eq 12, 3) := gd_7 db00d_53
theorem d_X11_fair_18 : decode prog_1_method_70_code 18 = .ok (.iload_n 3, 1) := gd_8 db00d_53
theorem d_X11_fair_19 : decode prog_1_method_70_code 19 = .ok (.iconst 1, 1) := gd_9 db00d_53
theorem d_X11_fair_20 : decode prog_1_method_70_code 20 = .ok (.iconst 3, 1) := gd_10 db00d_53
theorem d_X11_fair_21 : decode prog_1_method_70_code 21 = .ok (.invokestatic 96, 3) := gd_11 db00d_53
theorem d_X11_fair_24 : decode prog_1_method_70_code 24 = .ok (.ifCond .ne 5, 3) := gd_12 db00d_53
theorem d_X11_fair_27 : decode prog_1_method_70_code 27 = .ok (.iconst (-1), 1) := gd_13 db00d_53
theorem d_X11_fair_28 : decode prog_1_method_70_code 28 = .ok (.ireturn, 1) := gd_14 db00d_53
theorem d_X11_fair_29 : decode prog_1_method_70_code 29 = .ok (.aload_n 0, 1) := gd_15 db00d_53
theorem d_X11_fair_30 : decode prog_1_method_70_code 30 = .ok (.getfield 77, 3) := gd_16 db00d_53
theorem d_X11_fair_33 : decode prog_1_method_70_code 33 = .ok (.iload_n 1, 1) := gd_17 db00d_53
theorem d_X11_fair_34 : decode prog_1_method_70_code 34 = .ok (.iload_n 2, 1) := gd_18 db00d_53
theorem d_X11_fair_35 : decode prog_1_method_70_code 35 = .ok (.iload_n 3, 1) := gd_19 db00d_53
theorem d_X11_fair_36 : decode prog_1_method_70_code 36 = .ok (.invokevirtual 488, 3) := gd_20 db00d_53
theorem d_X11_fair_39 : decode prog_1_method_70_code 39 = .ok (.ireturn, 1) := gd_21 db00d_53
theorem db00d_54 : Ad_ prog_1_method_71_code [(0, .iload_n 1, 1), (1, .iconst 0, 1), (2, .iconst 1, 1), (3, .invokestatic 96, 3), (6, .ifCond .eq 10, 3), (9, .aload_n 0, 1), (10, .invokevirtual 491, 3), (13, .ifCond .ne 5, 3), (16, .iconst (-1), 1), (17, .ireturn, 1), (18, .iload_n 1, 1), (19, .ifCond .ne 13, 3), (22, .aload_n 0, 1), (23, .getfield 77, 3), (26, .invokevirtual 495, 3), (29, .goto 10, 3), (32, .aload_n 0, 1), (33, .getfield 77, 3), (36, .invokevirtual 498, 3), (39, .ireturn, 1)] := bch_ok prog_1_method_71_code _ 0 (by decide +kernel)
theorem d_X11_lending_0 : decode prog_1_method_71_code 0 = .ok (.iload_n 1, 1) := gd_0 db00d_54
theorem d_X11_lending_1 : decode prog_1_method_71_code 1 = .ok (.iconst 0, 1) := gd_1 db00d_54
theorem d_X11_lending_2 : decode prog_1_method_71_code 2 = .ok (.iconst 1, 1) := gd_2 db00d_54
theorem d_X11_lending_3 : decode prog_1_method_71_code 3 = .ok (.invokestatic 96, 3) := gd_3 db00d_54
theorem d_X11_lending_6 : decode prog_1_method_71_code 6 = .ok (.ifCond .eq 10, 3) := gd_4 db00d_54
theorem d_X11_lending_9 : decode prog_1_method_71_code 9 = .ok (.aload_n 0, 1) := gd_5 db00d_54
theorem d_X11_lending_10 : decode prog_1_method_71_code 10 = .ok (.invokevirtual 491, 3) := gd_6 db00d_54
theorem d_X11_lending_13 : decode prog_1_method_71_code 13 = .ok (.ifCond .ne 5, 3) := gd_7 db00d_54
theorem d_X11_lending_16 : decode prog_1_method_71_code 16 = .ok (.iconst (-1), 1) := gd_8 db00d_54
theorem d_X11_lending_17 : decode prog_1_method_71_code 17 = .ok (.ireturn, 1) := gd_9 db00d_54
theorem d_X11_lending_18 : decode prog_1_method_71_code 18 = .ok (.iload_n 1, 1) := gd_10 db00d_54
theorem d_X11_lending_19 : decode prog_1_method_71_code 19 = .ok (.ifCond .ne 13, 3) := gd_11 db00d_54
theorem d_X11_lending_22 : decode prog_1_method_71_code 22 = .ok (.aload_n 0, 1) := gd_12 db00d_54
theorem d_X11_lending_23 : decode prog_1_method_71_code 23 = .ok (.getfield 77, 3) := gd_13 db00d_54
theorem d_X11_lending_26 : decode prog_1_method_71_code 26 = .ok (.invokevirtual 495, 3) := gd_14 db00d_54
theorem d_X11_lending_29 : decode prog_1_method_71_code 29 = .ok (.goto 10, 3) := gd_15 db00d_54
theorem d_X11_lending_32 : decode prog_1_method_71_code 32 = .ok (.aload_n 0, 1) := gd_16 db00d_54
theorem d_X11_lending_33 : decode prog_1_method_71_code 33 = .ok (.getfield 77, 3) := gd_17 db00d_54
theorem d_X11_lending_36 : decode prog_1_method_71_code 36 = .ok (.invokevirtual 498, 3) := gd_18 db00d_54
theorem d_X11_lending_39 : decode prog_1_method_71_code 39 = .ok (.ireturn, 1) := gd_19 db00d_54
theorem db00d_55 : Ad_ prog_1_method_72_code [(0, .aload_n 0, 1), (1, .iload_n 1, 1), (2, .invokevirtual 318, 3), (5, .ifCond .eq 21, 3), (8, .aload_n 0, 1), (9, .invokevirtual 491, 3), (12, .ifCond .eq 14, 3), (15, .aload_n 0, 1), (16, .getfield 77, 3), (19, .iload_n 1, 1), (20, .invokevirtual 501, 3), (23, .goto 4, 3), (26, .iconst (-1), 1), (27, .ireturn, 1)] := bch_ok prog_1_method_72_code _ 0 (by decide +kernel)
theorem d_X11_lent_0 : decode prog_1_method_72_code 0 = .ok (.aload_n 0, 1) := gd_0 db00d_55
theorem d_X11_lent_1 : decode prog_1_method_72_code 1 = .ok (.iload_n 1, 1) := gd_1 db00d_55
theorem d_X11_lent_2 : decode prog_1_method_72_code 2 = .ok (.invokevirtual 318, 3) := gd_2 db00d_55
theorem d_X11_lent_5 : decode prog_1_method_72_code 5 = .ok (.ifCond .eq 21, 3) := gd_3 db00d_55
theorem d_X11_lent_8 : decode prog_1_method_72_code 8 = .ok (.aload_n 0, 1) := gd_4 db00d_55
theorem d_X11_lent_9 : decode prog_1_method_72_code 9 = .ok (.invokevirtual 491, 3) := gd_5 db00d_55
theorem d_X11_lent_12 : decode prog_1_method_72_code 12 = .ok (.ifCond .eq 14, 3) := gd_6 db00d_55
theorem d_X11_lent_15 : decode prog_1_method_72_code 15 = .ok (.aload_n 0, 1) := gd_7 db00d_55
theorem d_X11_lent_16 : decode prog_1_method_72_code 16 = .ok (.getfield 77, 3) := gd_8 db00d_55
theorem d_X11_lent_19 : decode prog_1_method_72_code 19 = .ok (.iload_n 1, 1) := gd_9 db00d_55
theorem d_X11_lent_20 : decode prog_1_method_72_code 20 = .ok (.invokevirtual 501, 3) := gd_10 db00d_55
theorem d_X11_lent_23 : decode prog_1_method_72_code 23 = .ok (.goto 4, 3) := gd_11 db00d_55
theorem d_X11_lent_26 : decode prog_1_method_72_code 26 = .ok (.iconst (-1), 1) := gd_12 db00d_55
theorem d_X11_lent_27 : decode prog_1_method_72_code 27 = .ok (.ireturn, 1) := gd_13 db00d_55
theorem d_X11_findLending_35 : decode prog_1_method_73_code 35 = .ok (.aaload, 1) := by decide +kernel
theorem db00d_56 : Ad_ prog_1_method_73_code [(0, .iconst 0, 1), (1, .istore_n 1, 1), (2, .iload_n 1, 1), (3, .aload_n 0, 1), (4, .getfield 104, 3), (7, .if_icmp .ge 63, 3), (10, .iconst 0, 1), (11, .istore_n 2, 1), (12, .iload_n 2, 1), (13, .aload_n 0, 1), (14, .getfield 77, 3), (17, .getfield 504, 3), (20, .if_icmp .ge 44, 3), (23, .aload_n 0, 1), (24, .getfield 77, 3), (27, .iload_n 1, 1), (28, .iload_n 2, 1), (29, .aload_n 0, 1), (30, .aload_n 0, 1), (31, .getfield 42, 3), (34, .iload_n 1, 1), (36, .aload_n 0, 1), (37, .getfield 77, 3), (40, .iload_n 2, 1)] := bch_ok prog_1_method_73_code _ 0 (by decide +kernel)
theorem d_X11_findLending_0 : decode prog_1_method_73_code 0 = .ok (.iconst 0, 1) := gd_0 db00d_56
theorem d_X11_findLending_1 : decode prog_1_method_73_code 1 = .ok (.istore_n 1, 1) := gd_1 db00d_56
theorem d_X11_findLending_2 : decode prog_1_method_73_code 2 = .ok (.iload_n 1, 1) := gd_2 db00d_56
theorem d_X11_findLending_3 : decode prog_1_method_73_code 3 = .ok (.aload_n 0, 1) := gd_3 db00d_56
theorem d_X11_findLending_4 : decode prog_1_method_73_code 4 = .ok (.getfield 104, 3) := gd_4 db00d_56
theorem d_X11_findLending_7 : decode prog_1_method_73_code 7 = .ok (.if_icmp .ge 63, 3) := gd_5 db00d_56
theorem d_X11_findLending_10 : decode prog_1_method_73_code 10 = .ok (.iconst 0, 1) := gd_6 db00d_56
theorem d_X11_findLending_11 : decode prog_1_method_73_code 11 = .ok (.istore_n 2, 1) := gd_7 db00d_56
theorem d_X11_findLending_12 : decode prog_1_method_73_code 12 = .ok (.iload_n 2, 1) := gd_8 db00d_56
theorem d_X11_findLending_13 : decode prog_1_method_73_code 13 = .ok (.aload_n 0, 1) := gd_9 db00d_56
theorem d_X11_findLending_14 : decode prog_1_method_73_code 14 = .ok (.getfield 77, 3) := gd_10 db00d_56
theorem d_X11_findLending_17 : decode prog_1_method_73_code 17 = .ok (.getfield 504, 3) := gd_11 db00d_56
theorem d_X11_findLending_20 : decode prog_1_method_73_code 20 = .ok (.if_icmp .ge 44, 3) := gd_12 db00d_56
theorem d_X11_findLending_23 : decode prog_1_method_73_code 23 = .ok (.aload_n 0, 1) := gd_13 db00d_56
theorem d_X11_findLending_24 : decode prog_1_method_73_code 24 = .ok (.getfield 77, 3) := gd_14 db00d_56
theorem d_X11_findLending_27 : decode prog_1_method_73_code 27 = .ok (.iload_n 1, 1) := gd_15 db00d_56
theorem d_X11_findLending_28 : decode prog_1_method_73_code 28 = .ok (.iload_n 2, 1) := gd_16 db00d_56
theorem d_X11_findLending_29 : decode prog_1_method_73_code 29 = .ok (.aload_n 0, 1) := gd_17 db00d_56
theorem d_X11_findLending_30 : decode prog_1_method_73_code 30 = .ok (.aload_n 0, 1) := gd_18 db00d_56
theorem d_X11_findLending_31 : decode prog_1_method_73_code 31 = .ok (.getfield 42, 3) := gd_19 db00d_56
theorem d_X11_findLending_34 : decode prog_1_method_73_code 34 = .ok (.iload_n 1, 1) := gd_20 db00d_56
theorem d_X11_findLending_36 : decode prog_1_method_73_code 36 = .ok (.aload_n 0, 1) := gd_21 db00d_56
theorem d_X11_findLending_37 : decode prog_1_method_73_code 37 = .ok (.getfield 77, 3) := gd_22 db00d_56
theorem d_X11_findLending_40 : decode prog_1_method_73_code 40 = .ok (.iload_n 2, 1) := gd_23 db00d_56
theorem db00d_57 : Ad_ prog_1_method_73_code [(41, .invokevirtual 507, 3), (44, .aload_n 0, 1), (45, .getfield 77, 3), (48, .iload_n 2, 1), (49, .invokevirtual 510, 3), (52, .invokevirtual 513, 3), (55, .invokevirtual 516, 3), (58, .iinc 2 1, 3), (61, .goto (-49), 3), (64, .iinc 1 1, 3), (67, .goto (-65), 3), (70, .aload_n 0, 1), (71, .getfield 77, 3), (74, .aload_n 0, 1), (75, .getfield 104, 3), (78, .invokevirtual 519, 3), (81, .ireturn, 1)] := bch_ok prog_1_method_73_code _ 41 (by decide +kernel)
theorem d_X11_findLending_41 : decode prog_1_method_73_code 41 = .ok (.invokevirtual 507, 3) := gd_0 db00d_57
theorem d_X11_findLending_44 : decode prog_1_method_73_code 44 = .ok (.aload_n 0, 1) := gd_1 db00d_57
theorem d_X11_findLending_45 : decode prog_1_method_73_code 45 = .ok (.getfield 77, 3) := gd_2 db00d_57
theorem d_X11_findLending_48 : decode prog_1_method_73_code 48 = .ok (.iload_n 2, 1) := gd_3 db00d_57
theorem d_X11_findLending_49 : decode prog_1_method_73_code 49 = .ok (.invokevirtual 510, 3) := gd_4 db00d_57
theorem d_X11_findLending_52 : decode prog_1_method_73_code 52 = .ok (.invokevirtual 513, 3) := gd_5 db00d_57
theorem d_X11_findLending_55 : decode prog_1_method_73_code 55 = .ok (.invokevirtual 516, 3) := gd_6 db00d_57
theorem d_X11_findLending_58 : decode prog_1_method_73_code 58 = .ok (.iinc 2 1, 3) := gd_7 db00d_57
theorem d_X11_findLending_61 : decode prog_1_method_73_code 61 = .ok (.goto (-49), 3) := gd_8 db00d_57
theorem d_X11_findLending_64 : decode prog_1_method_73_code 64 = .ok (.iinc 1 1, 3) := gd_9 db00d_57
theorem d_X11_findLending_67 : decode prog_1_method_73_code 67 = .ok (.goto (-65), 3) := gd_10 db00d_57
theorem d_X11_findLending_70 : decode prog_1_method_73_code 70 = .ok (.aload_n 0, 1) := gd_11 db00d_57
theorem d_X11_findLending_71 : decode prog_1_method_73_code 71 = .ok (.getfield 77, 3) := gd_12 db00d_57
theorem d_X11_findLending_74 : decode prog_1_method_73_code 74 = .ok (.aload_n 0, 1) := gd_13 db00d_57
theorem d_X11_findLending_75 : decode prog_1_method_73_code 75 = .ok (.getfield 104, 3) := gd_14 db00d_57
theorem d_X11_findLending_78 : decode prog_1_method_73_code 78 = .ok (.invokevirtual 519, 3) := gd_15 db00d_57
theorem d_X11_findLending_81 : decode prog_1_method_73_code 81 = .ok (.ireturn, 1) := gd_16 db00d_57
theorem db00d_58 : Ad_ prog_1_method_74_code [(0, .aload_n 1, 1), (1, .ifnull 18, 3), (4, .aload_n 1, 1), (5, .getfield 158, 3), (8, .ifCond .eq 13, 3), (11, .aload_n 1, 1), (12, .getfield 158, 3), (15, .iconst 1, 1), (16, .if_icmp .eq 5, 3), (19, .iconst (-1), 1), (20, .ireturn, 1), (21, .aload_n 1, 1), (22, .getfield 216, 3), (25, .iconst (-1), 1), (26, .if_icmp .eq 7, 3), (29, .iconst 1, 1), (30, .goto 4, 3), (33, .iconst 0, 1), (34, .istore 4, 2), (36, .aload_n 0, 1), (37, .getfield 10, 3), (40, .iload 4, 2), (42, .ifCond .eq 10, 3), (45, .aload_n 1, 1)] := bch_ok prog_1_method_74_code _ 0 (by decide +kernel)
theorem d_X11_priceOf_0 : decode prog_1_method_74_code 0 = .ok (.aload_n 1, 1) := gd_0 db00d_58
theorem d_X11_priceOf_1 : decode prog_1_method_74_code 1 = .ok (.ifnull 18, 3) := gd_1 db00d_58
theorem d_X11_priceOf_4 : decode prog_1_method_74_code 4 = .ok (.aload_n 1, 1) := gd_2 db00d_58
theorem d_X11_priceOf_5 : decode prog_1_method_74_code 5 = .ok (.getfield 158, 3) := gd_3 db00d_58
theorem d_X11_priceOf_8 : decode prog_1_method_74_code 8 = .ok (.ifCond .eq 13, 3) := gd_4 db00d_58
theorem d_X11_priceOf_11 : decode prog_1_method_74_code 11 = .ok (.aload_n 1, 1) := gd_5 db00d_58
theorem d_X11_priceOf_12 : decode prog_1_method_74_code 12 = .ok (.getfield 158, 3) := gd_6 db00d_58
theorem d_X11_priceOf_15 : decode prog_1_method_74_code 15 = .ok (.iconst 1, 1) := gd_7 db00d_58
theorem d_X11_priceOf_16 : decode prog_1_method_74_code 16 = .ok (.if_icmp .eq 5, 3) := gd_8 db00d_58
theorem d_X11_priceOf_19 : decode prog_1_method_74_code 19 = .ok (.iconst (-1), 1) := gd_9 db00d_58
theorem d_X11_priceOf_20 : decode prog_1_method_74_code 20 = .ok (.ireturn, 1) := gd_10 db00d_58
theorem d_X11_priceOf_21 : decode prog_1_method_74_code 21 = .ok (.aload_n 1, 1) := gd_11 db00d_58
theorem d_X11_priceOf_22 : decode prog_1_method_74_code 22 = .ok (.getfield 216, 3) := gd_12 db00d_58
theorem d_X11_priceOf_25 : decode prog_1_method_74_code 25 = .ok (.iconst (-1), 1) := gd_13 db00d_58
theorem d_X11_priceOf_26 : decode prog_1_method_74_code 26 = .ok (.if_icmp .eq 7, 3) := gd_14 db00d_58
theorem d_X11_priceOf_29 : decode prog_1_method_74_code 29 = .ok (.iconst 1, 1) := gd_15 db00d_58
theorem d_X11_priceOf_30 : decode prog_1_method_74_code 30 = .ok (.goto 4, 3) := gd_16 db00d_58
theorem d_X11_priceOf_33 : decode prog_1_method_74_code 33 = .ok (.iconst 0, 1) := gd_17 db00d_58
theorem d_X11_priceOf_34 : decode prog_1_method_74_code 34 = .ok (.istore 4, 2) := gd_18 db00d_58
theorem d_X11_priceOf_36 : decode prog_1_method_74_code 36 = .ok (.aload_n 0, 1) := gd_19 db00d_58
theorem d_X11_priceOf_37 : decode prog_1_method_74_code 37 = .ok (.getfield 10, 3) := gd_20 db00d_58
theorem d_X11_priceOf_40 : decode prog_1_method_74_code 40 = .ok (.iload 4, 2) := gd_21 db00d_58
theorem d_X11_priceOf_42 : decode prog_1_method_74_code 42 = .ok (.ifCond .eq 10, 3) := gd_22 db00d_58
theorem d_X11_priceOf_45 : decode prog_1_method_74_code 45 = .ok (.aload_n 1, 1) := gd_23 db00d_58
theorem db00d_59 : Ad_ prog_1_method_74_code [(46, .getfield 216, 3), (49, .goto 7, 3), (52, .aload_n 1, 1), (53, .getfield 277, 3), (56, .iload_n 2, 1), (57, .invokevirtual 115, 3), (60, .istore 5, 2), (62, .iload 4, 2), (64, .ifCond .eq 10, 3), (67, .aload_n 1, 1), (68, .getfield 219, 3), (71, .goto 7, 3), (74, .aload_n 0, 1), (75, .getfield 92, 3), (78, .istore 6, 2), (80, .iload 5, 2), (82, .iconst (-1), 1), (83, .if_icmp .eq 12, 3), (86, .iload 6, 2), (88, .iload 5, 2), (90, .iadd, 1), (91, .iload_n 3, 1), (92, .if_icmp .le 5, 3), (95, .iconst (-1), 1)] := bch_ok prog_1_method_74_code _ 46 (by decide +kernel)
theorem d_X11_priceOf_46 : decode prog_1_method_74_code 46 = .ok (.getfield 216, 3) := gd_0 db00d_59
theorem d_X11_priceOf_49 : decode prog_1_method_74_code 49 = .ok (.goto 7, 3) := gd_1 db00d_59
theorem d_X11_priceOf_52 : decode prog_1_method_74_code 52 = .ok (.aload_n 1, 1) := gd_2 db00d_59
theorem d_X11_priceOf_53 : decode prog_1_method_74_code 53 = .ok (.getfield 277, 3) := gd_3 db00d_59
theorem d_X11_priceOf_56 : decode prog_1_method_74_code 56 = .ok (.iload_n 2, 1) := gd_4 db00d_59
theorem d_X11_priceOf_57 : decode prog_1_method_74_code 57 = .ok (.invokevirtual 115, 3) := gd_5 db00d_59
theorem d_X11_priceOf_60 : decode prog_1_method_74_code 60 = .ok (.istore 5, 2) := gd_6 db00d_59
theorem d_X11_priceOf_62 : decode prog_1_method_74_code 62 = .ok (.iload 4, 2) := gd_7 db00d_59
theorem d_X11_priceOf_64 : decode prog_1_method_74_code 64 = .ok (.ifCond .eq 10, 3) := gd_8 db00d_59
theorem d_X11_priceOf_67 : decode prog_1_method_74_code 67 = .ok (.aload_n 1, 1) := gd_9 db00d_59
theorem d_X11_priceOf_68 : decode prog_1_method_74_code 68 = .ok (.getfield 219, 3) := gd_10 db00d_59
theorem d_X11_priceOf_71 : decode prog_1_method_74_code 71 = .ok (.goto 7, 3) := gd_11 db00d_59
theorem d_X11_priceOf_74 : decode prog_1_method_74_code 74 = .ok (.aload_n 0, 1) := gd_12 db00d_59
theorem d_X11_priceOf_75 : decode prog_1_method_74_code 75 = .ok (.getfield 92, 3) := gd_13 db00d_59
theorem d_X11_priceOf_78 : decode prog_1_method_74_code 78 = .ok (.istore 6, 2) := gd_14 db00d_59
theorem d_X11_priceOf_80 : decode prog_1_method_74_code 80 = .ok (.iload 5, 2) := gd_15 db00d_59
theorem d_X11_priceOf_82 : decode prog_1_method_74_code 82 = .ok (.iconst (-1), 1) := gd_16 db00d_59
theorem d_X11_priceOf_83 : decode prog_1_method_74_code 83 = .ok (.if_icmp .eq 12, 3) := gd_17 db00d_59
theorem d_X11_priceOf_86 : decode prog_1_method_74_code 86 = .ok (.iload 6, 2) := gd_18 db00d_59
theorem d_X11_priceOf_88 : decode prog_1_method_74_code 88 = .ok (.iload 5, 2) := gd_19 db00d_59
theorem d_X11_priceOf_90 : decode prog_1_method_74_code 90 = .ok (.iadd, 1) := gd_20 db00d_59
theorem d_X11_priceOf_91 : decode prog_1_method_74_code 91 = .ok (.iload_n 3, 1) := gd_21 db00d_59
theorem d_X11_priceOf_92 : decode prog_1_method_74_code 92 = .ok (.if_icmp .le 5, 3) := gd_22 db00d_59
theorem d_X11_priceOf_95 : decode prog_1_method_74_code 95 = .ok (.iconst (-1), 1) := gd_23 db00d_59
theorem db00d_60 : Ad_ prog_1_method_74_code [(96, .ireturn, 1), (97, .aload_n 1, 1), (98, .getfield 158, 3), (101, .iconst 1, 1), (102, .if_icmp .ne 10, 3), (105, .aload_n 1, 1), (106, .invokevirtual 293, 3), (109, .goto 4, 3), (112, .iconst 0, 1), (113, .istore 7, 2), (115, .iload 7, 2), (117, .iload 5, 2), (119, .invokestatic 522, 3), (122, .ireturn, 1)] := bch_ok prog_1_method_74_code _ 96 (by decide +kernel)
theorem d_X11_priceOf_96 : decode prog_1_method_74_code 96 = .ok (.ireturn, 1) := gd_0 db00d_60
theorem d_X11_priceOf_97 : decode prog_1_method_74_code 97 = .ok (.aload_n 1, 1) := gd_1 db00d_60
theorem d_X11_priceOf_98 : decode prog_1_method_74_code 98 = .ok (.getfield 158, 3) := gd_2 db00d_60
theorem d_X11_priceOf_101 : decode prog_1_method_74_code 101 = .ok (.iconst 1, 1) := gd_3 db00d_60
theorem d_X11_priceOf_102 : decode prog_1_method_74_code 102 = .ok (.if_icmp .ne 10, 3) := gd_4 db00d_60
theorem d_X11_priceOf_105 : decode prog_1_method_74_code 105 = .ok (.aload_n 1, 1) := gd_5 db00d_60
theorem d_X11_priceOf_106 : decode prog_1_method_74_code 106 = .ok (.invokevirtual 293, 3) := gd_6 db00d_60
theorem d_X11_priceOf_109 : decode prog_1_method_74_code 109 = .ok (.goto 4, 3) := gd_7 db00d_60
theorem d_X11_priceOf_112 : decode prog_1_method_74_code 112 = .ok (.iconst 0, 1) := gd_8 db00d_60
theorem d_X11_priceOf_113 : decode prog_1_method_74_code 113 = .ok (.istore 7, 2) := gd_9 db00d_60
theorem d_X11_priceOf_115 : decode prog_1_method_74_code 115 = .ok (.iload 7, 2) := gd_10 db00d_60
theorem d_X11_priceOf_117 : decode prog_1_method_74_code 117 = .ok (.iload 5, 2) := gd_11 db00d_60
theorem d_X11_priceOf_119 : decode prog_1_method_74_code 119 = .ok (.invokestatic 522, 3) := gd_12 db00d_60
theorem d_X11_priceOf_122 : decode prog_1_method_74_code 122 = .ok (.ireturn, 1) := gd_13 db00d_60
theorem db00d_61 : Ad_ prog_1_method_75_code [(0, .aload_n 0, 1), (1, .getfield 77, 3), (4, .invokevirtual 525, 3), (7, .return_, 1)] := bch_ok prog_1_method_75_code _ 0 (by decide +kernel)
theorem d_X11_fairs_0 : decode prog_1_method_75_code 0 = .ok (.aload_n 0, 1) := gd_0 db00d_61
theorem d_X11_fairs_1 : decode prog_1_method_75_code 1 = .ok (.getfield 77, 3) := gd_1 db00d_61
theorem d_X11_fairs_4 : decode prog_1_method_75_code 4 = .ok (.invokevirtual 525, 3) := gd_2 db00d_61
theorem d_X11_fairs_7 : decode prog_1_method_75_code 7 = .ok (.return_, 1) := gd_3 db00d_61
theorem db00d_62 : Ad_ prog_1_method_76_code [(0, .iload_n 1, 1), (1, .iconst 0, 1), (2, .bipush 30, 2), (4, .invokestatic 96, 3), (7, .ifCond .eq 15, 3), (10, .aload_n 0, 1), (11, .getfield 19, 3), (14, .iconst 0, 1), (15, .invokevirtual 140, 3), (18, .iconst (-1), 1), (19, .if_icmp .eq 5, 3), (22, .iconst (-1), 1), (23, .ireturn, 1), (24, .aload_n 0, 1), (25, .aload_n 0, 1), (26, .getfield 37, 3), (29, .iload_n 1, 1), (30, .invokevirtual 340, 3), (33, .ireturn, 1)] := bch_ok prog_1_method_76_code _ 0 (by decide +kernel)
theorem d_X11_pay_0 : decode prog_1_method_76_code 0 = .ok (.iload_n 1, 1) := gd_0 db00d_62
theorem d_X11_pay_1 : decode prog_1_method_76_code 1 = .ok (.iconst 0, 1) := gd_1 db00d_62
theorem d_X11_pay_2 : decode prog_1_method_76_code 2 = .ok (.bipush 30, 2) := gd_2 db00d_62
theorem d_X11_pay_4 : decode prog_1_method_76_code 4 = .ok (.invokestatic 96, 3) := gd_3 db00d_62
theorem d_X11_pay_7 : decode prog_1_method_76_code 7 = .ok (.ifCond .eq 15, 3) := gd_4 db00d_62
theorem d_X11_pay_10 : decode prog_1_method_76_code 10 = .ok (.aload_n 0, 1) := gd_5 db00d_62
theorem d_X11_pay_11 : decode prog_1_method_76_code 11 = .ok (.getfield 19, 3) := gd_6 db00d_62
theorem d_X11_pay_14 : decode prog_1_method_76_code 14 = .ok (.iconst 0, 1) := gd_7 db00d_62
theorem d_X11_pay_15 : decode prog_1_method_76_code 15 = .ok (.invokevirtual 140, 3) := gd_8 db00d_62
theorem d_X11_pay_18 : decode prog_1_method_76_code 18 = .ok (.iconst (-1), 1) := gd_9 db00d_62
theorem d_X11_pay_19 : decode prog_1_method_76_code 19 = .ok (.if_icmp .eq 5, 3) := gd_10 db00d_62
theorem d_X11_pay_22 : decode prog_1_method_76_code 22 = .ok (.iconst (-1), 1) := gd_11 db00d_62
theorem d_X11_pay_23 : decode prog_1_method_76_code 23 = .ok (.ireturn, 1) := gd_12 db00d_62
theorem d_X11_pay_24 : decode prog_1_method_76_code 24 = .ok (.aload_n 0, 1) := gd_13 db00d_62
theorem d_X11_pay_25 : decode prog_1_method_76_code 25 = .ok (.aload_n 0, 1) := gd_14 db00d_62
theorem d_X11_pay_26 : decode prog_1_method_76_code 26 = .ok (.getfield 37, 3) := gd_15 db00d_62
theorem d_X11_pay_29 : decode prog_1_method_76_code 29 = .ok (.iload_n 1, 1) := gd_16 db00d_62
theorem d_X11_pay_30 : decode prog_1_method_76_code 30 = .ok (.invokevirtual 340, 3) := gd_17 db00d_62
theorem d_X11_pay_33 : decode prog_1_method_76_code 33 = .ok (.ireturn, 1) := gd_18 db00d_62
theorem db00d_63 : Ad_ prog_1_method_77_code [(0, .aload_n 0, 1), (1, .iload_n 1, 1), (2, .invokevirtual 318, 3), (5, .ifCond .eq 22, 3), (8, .iload_n 2, 1), (9, .iconst 1, 1), (10, .iconst 4, 1), (11, .invokestatic 96, 3), (14, .ifCond .eq 13, 3), (17, .iload_n 3, 1), (18, .iconst 0, 1), (19, .bipush 30, 2), (21, .invokestatic 96, 3), (24, .ifCond .ne 5, 3), (27, .iconst 0, 1), (28, .ireturn, 1), (29, .aload_n 0, 1), (30, .getfield 84, 3), (33, .iload_n 1, 1), (34, .iload_n 2, 1), (35, .iload_n 3, 1), (36, .aload_n 0, 1), (37, .getfield 92, 3), (40, .invokevirtual 528, 3)] := bch_ok prog_1_method_77_code _ 0 (by decide +kernel)
theorem d_X11_rank_0 : decode prog_1_method_77_code 0 = .ok (.aload_n 0, 1) := gd_0 db00d_63
theorem d_X11_rank_1 : decode prog_1_method_77_code 1 = .ok (.iload_n 1, 1) := gd_1 db00d_63
theorem d_X11_rank_2 : decode prog_1_method_77_code 2 = .ok (.invokevirtual 318, 3) := gd_2 db00d_63
theorem d_X11_rank_5 : decode prog_1_method_77_code 5 = .ok (.ifCond .eq 22, 3) := gd_3 db00d_63
theorem d_X11_rank_8 : decode prog_1_method_77_code 8 = .ok (.iload_n 2, 1) := gd_4 db00d_63
theorem d_X11_rank_9 : decode prog_1_method_77_code 9 = .ok (.iconst 1, 1) := gd_5 db00d_63
theorem d_X11_rank_10 : decode prog_1_method_77_code 10 = .ok (.iconst 4, 1) := gd_6 db00d_63
theorem d_X11_rank_11 : decode prog_1_method_77_code 11 = .ok (.invokestatic 96, 3) := gd_7 db00d_63
theorem d_X11_rank_14 : decode prog_1_method_77_code 14 = .ok (.ifCond .eq 13, 3) := gd_8 db00d_63
theorem d_X11_rank_17 : decode prog_1_method_77_code 17 = .ok (.iload_n 3, 1) := gd_9 db00d_63
theorem d_X11_rank_18 : decode prog_1_method_77_code 18 = .ok (.iconst 0, 1) := gd_10 db00d_63
theorem d_X11_rank_19 : decode prog_1_method_77_code 19 = .ok (.bipush 30, 2) := gd_11 db00d_63
theorem d_X11_rank_21 : decode prog_1_method_77_code 21 = .ok (.invokestatic 96, 3) := gd_12 db00d_63
theorem d_X11_rank_24 : decode prog_1_method_77_code 24 = .ok (.ifCond .ne 5, 3) := gd_13 db00d_63
theorem d_X11_rank_27 : decode prog_1_method_77_code 27 = .ok (.iconst 0, 1) := gd_14 db00d_63
theorem d_X11_rank_28 : decode prog_1_method_77_code 28 = .ok (.ireturn, 1) := gd_15 db00d_63
theorem d_X11_rank_29 : decode prog_1_method_77_code 29 = .ok (.aload_n 0, 1) := gd_16 db00d_63
theorem d_X11_rank_30 : decode prog_1_method_77_code 30 = .ok (.getfield 84, 3) := gd_17 db00d_63
theorem d_X11_rank_33 : decode prog_1_method_77_code 33 = .ok (.iload_n 1, 1) := gd_18 db00d_63
theorem d_X11_rank_34 : decode prog_1_method_77_code 34 = .ok (.iload_n 2, 1) := gd_19 db00d_63
theorem d_X11_rank_35 : decode prog_1_method_77_code 35 = .ok (.iload_n 3, 1) := gd_20 db00d_63
theorem d_X11_rank_36 : decode prog_1_method_77_code 36 = .ok (.aload_n 0, 1) := gd_21 db00d_63
theorem d_X11_rank_37 : decode prog_1_method_77_code 37 = .ok (.getfield 92, 3) := gd_22 db00d_63
theorem d_X11_rank_40 : decode prog_1_method_77_code 40 = .ok (.invokevirtual 528, 3) := gd_23 db00d_63
theorem d_X11_rank_43 : decode prog_1_method_77_code 43 = .ok (.ireturn, 1) := by decide +kernel
theorem d_X11_ranked_5 : decode prog_1_method_78_code 5 = .ok (.astore 4, 2) := by decide +kernel
theorem db00d_64 : Ad_ prog_1_method_78_code [(0, .aload_n 0, 1), (1, .iload_n 1, 1), (2, .invokevirtual 100, 3), (7, .aload 4, 2), (9, .ifnull 21, 3), (12, .iload_n 2, 1), (13, .iconst 0, 1), (14, .bipush 30, 2), (16, .invokestatic 96, 3), (19, .ifCond .eq 11, 3), (22, .aload_n 0, 1), (23, .iload_n 3, 1), (24, .invokevirtual 321, 3), (27, .ifCond .ne 5, 3), (30, .iconst (-1), 1), (31, .ireturn, 1), (32, .aload_n 0, 1), (33, .getfield 84, 3), (36, .aload 4, 2), (38, .iload_n 2, 1), (39, .iload_n 3, 1), (40, .invokevirtual 361, 3), (43, .ireturn, 1)] := bch_ok prog_1_method_78_code _ 0 (by decide +kernel)
theorem d_X11_ranked_0 : decode prog_1_method_78_code 0 = .ok (.aload_n 0, 1) := gd_0 db00d_64
theorem d_X11_ranked_1 : decode prog_1_method_78_code 1 = .ok (.iload_n 1, 1) := gd_1 db00d_64
theorem d_X11_ranked_2 : decode prog_1_method_78_code 2 = .ok (.invokevirtual 100, 3) := gd_2 db00d_64
theorem d_X11_ranked_7 : decode prog_1_method_78_code 7 = .ok (.aload 4, 2) := gd_3 db00d_64
theorem d_X11_ranked_9 : decode prog_1_method_78_code 9 = .ok (.ifnull 21, 3) := gd_4 db00d_64
theorem d_X11_ranked_12 : decode prog_1_method_78_code 12 = .ok (.iload_n 2, 1) := gd_5 db00d_64
theorem d_X11_ranked_13 : decode prog_1_method_78_code 13 = .ok (.iconst 0, 1) := gd_6 db00d_64
theorem d_X11_ranked_14 : decode prog_1_method_78_code 14 = .ok (.bipush 30, 2) := gd_7 db00d_64
theorem d_X11_ranked_16 : decode prog_1_method_78_code 16 = .ok (.invokestatic 96, 3) := gd_8 db00d_64
theorem d_X11_ranked_19 : decode prog_1_method_78_code 19 = .ok (.ifCond .eq 11, 3) := gd_9 db00d_64
theorem d_X11_ranked_22 : decode prog_1_method_78_code 22 = .ok (.aload_n 0, 1) := gd_10 db00d_64
theorem d_X11_ranked_23 : decode prog_1_method_78_code 23 = .ok (.iload_n 3, 1) := gd_11 db00d_64
theorem d_X11_ranked_24 : decode prog_1_method_78_code 24 = .ok (.invokevirtual 321, 3) := gd_12 db00d_64
theorem d_X11_ranked_27 : decode prog_1_method_78_code 27 = .ok (.ifCond .ne 5, 3) := gd_13 db00d_64
theorem d_X11_ranked_30 : decode prog_1_method_78_code 30 = .ok (.iconst (-1), 1) := gd_14 db00d_64
theorem d_X11_ranked_31 : decode prog_1_method_78_code 31 = .ok (.ireturn, 1) := gd_15 db00d_64
theorem d_X11_ranked_32 : decode prog_1_method_78_code 32 = .ok (.aload_n 0, 1) := gd_16 db00d_64
theorem d_X11_ranked_33 : decode prog_1_method_78_code 33 = .ok (.getfield 84, 3) := gd_17 db00d_64
theorem d_X11_ranked_36 : decode prog_1_method_78_code 36 = .ok (.aload 4, 2) := gd_18 db00d_64
theorem d_X11_ranked_38 : decode prog_1_method_78_code 38 = .ok (.iload_n 2, 1) := gd_19 db00d_64
theorem d_X11_ranked_39 : decode prog_1_method_78_code 39 = .ok (.iload_n 3, 1) := gd_20 db00d_64
theorem d_X11_ranked_40 : decode prog_1_method_78_code 40 = .ok (.invokevirtual 361, 3) := gd_21 db00d_64
theorem d_X11_ranked_43 : decode prog_1_method_78_code 43 = .ok (.ireturn, 1) := gd_22 db00d_64
theorem d_X11_paid_5 : decode prog_1_method_79_code 5 = .ok (.astore 4, 2) := by decide +kernel
theorem db00d_65 : Ad_ prog_1_method_79_code [(0, .aload_n 0, 1), (1, .iload_n 1, 1), (2, .invokevirtual 100, 3), (7, .aload 4, 2), (9, .ifnull 26, 3), (12, .aload_n 0, 1), (13, .iload_n 3, 1), (14, .invokevirtual 321, 3), (17, .ifCond .eq 18, 3), (20, .iload_n 2, 1), (21, .iconst 0, 1), (22, .iload_n 3, 1), (23, .sipush 1440, 3), (26, .idiv, 1), (27, .iconst 1, 1), (28, .isub, 1), (29, .invokestatic 96, 3), (32, .ifCond .ne 5, 3), (35, .iconst (-1), 1), (36, .ireturn, 1), (37, .aload_n 0, 1), (38, .aload 4, 2), (40, .iload_n 2, 1), (41, .iload_n 3, 1)] := bch_ok prog_1_method_79_code _ 0 (by decide +kernel)
theorem d_X11_paid_0 : decode prog_1_method_79_code 0 = .ok (.aload_n 0, 1) := gd_0 db00d_65
theorem d_X11_paid_1 : decode prog_1_method_79_code 1 = .ok (.iload_n 1, 1) := gd_1 db00d_65
theorem d_X11_paid_2 : decode prog_1_method_79_code 2 = .ok (.invokevirtual 100, 3) := gd_2 db00d_65
theorem d_X11_paid_7 : decode prog_1_method_79_code 7 = .ok (.aload 4, 2) := gd_3 db00d_65
theorem d_X11_paid_9 : decode prog_1_method_79_code 9 = .ok (.ifnull 26, 3) := gd_4 db00d_65
theorem d_X11_paid_12 : decode prog_1_method_79_code 12 = .ok (.aload_n 0, 1) := gd_5 db00d_65
theorem d_X11_paid_13 : decode prog_1_method_79_code 13 = .ok (.iload_n 3, 1) := gd_6 db00d_65
theorem d_X11_paid_14 : decode prog_1_method_79_code 14 = .ok (.invokevirtual 321, 3) := gd_7 db00d_65
theorem d_X11_paid_17 : decode prog_1_method_79_code 17 = .ok (.ifCond .eq 18, 3) := gd_8 db00d_65
theorem d_X11_paid_20 : decode prog_1_method_79_code 20 = .ok (.iload_n 2, 1) := gd_9 db00d_65
theorem d_X11_paid_21 : decode prog_1_method_79_code 21 = .ok (.iconst 0, 1) := gd_10 db00d_65
theorem d_X11_paid_22 : decode prog_1_method_79_code 22 = .ok (.iload_n 3, 1) := gd_11 db00d_65
theorem d_X11_paid_23 : decode prog_1_method_79_code 23 = .ok (.sipush 1440, 3) := gd_12 db00d_65
theorem d_X11_paid_26 : decode prog_1_method_79_code 26 = .ok (.idiv, 1) := gd_13 db00d_65
theorem d_X11_paid_27 : decode prog_1_method_79_code 27 = .ok (.iconst 1, 1) := gd_14 db00d_65
theorem d_X11_paid_28 : decode prog_1_method_79_code 28 = .ok (.isub, 1) := gd_15 db00d_65
theorem d_X11_paid_29 : decode prog_1_method_79_code 29 = .ok (.invokestatic 96, 3) := gd_16 db00d_65
theorem d_X11_paid_32 : decode prog_1_method_79_code 32 = .ok (.ifCond .ne 5, 3) := gd_17 db00d_65
theorem d_X11_paid_35 : decode prog_1_method_79_code 35 = .ok (.iconst (-1), 1) := gd_18 db00d_65
theorem d_X11_paid_36 : decode prog_1_method_79_code 36 = .ok (.ireturn, 1) := gd_19 db00d_65
theorem d_X11_paid_37 : decode prog_1_method_79_code 37 = .ok (.aload_n 0, 1) := gd_20 db00d_65
theorem d_X11_paid_38 : decode prog_1_method_79_code 38 = .ok (.aload 4, 2) := gd_21 db00d_65
theorem d_X11_paid_40 : decode prog_1_method_79_code 40 = .ok (.iload_n 2, 1) := gd_22 db00d_65
theorem d_X11_paid_41 : decode prog_1_method_79_code 41 = .ok (.iload_n 3, 1) := gd_23 db00d_65
theorem d_X11_paid_42 : decode prog_1_method_79_code 42 = .ok (.invokevirtual 532, 3) := by decide +kernel
theorem d_X11_paid_45 : decode prog_1_method_79_code 45 = .ok (.ireturn, 1) := by decide +kernel
theorem d_X11_wageOf_13 : decode prog_1_method_80_code 13 = .ok (.astore 4, 2) := by decide +kernel
theorem db00d_66 : Ad_ prog_1_method_80_code [(0, .aload_n 1, 1), (1, .ifnonnull 5, 3), (4, .iconst 0, 1), (5, .ireturn, 1), (6, .aload_n 0, 1), (7, .getfield 84, 3), (10, .getfield 535, 3), (15, .aload 4, 2), (17, .iconst 0, 1), (18, .aload_n 0, 1), (19, .getfield 84, 3), (22, .aload_n 1, 1), (23, .iload_n 2, 1), (24, .iload_n 3, 1), (25, .invokevirtual 361, 3), (28, .iastore, 1), (29, .aload 4, 2), (31, .iconst 1, 1), (32, .aload_n 1, 1), (33, .getfield 313, 3), (36, .iastore, 1), (37, .aload 4, 2), (39, .iconst 2, 1), (40, .aload_n 0, 1)] := bch_ok prog_1_method_80_code _ 0 (by decide +kernel)
theorem d_X11_wageOf_0 : decode prog_1_method_80_code 0 = .ok (.aload_n 1, 1) := gd_0 db00d_66
theorem d_X11_wageOf_1 : decode prog_1_method_80_code 1 = .ok (.ifnonnull 5, 3) := gd_1 db00d_66
theorem d_X11_wageOf_4 : decode prog_1_method_80_code 4 = .ok (.iconst 0, 1) := gd_2 db00d_66
theorem d_X11_wageOf_5 : decode prog_1_method_80_code 5 = .ok (.ireturn, 1) := gd_3 db00d_66
theorem d_X11_wageOf_6 : decode prog_1_method_80_code 6 = .ok (.aload_n 0, 1) := gd_4 db00d_66
theorem d_X11_wageOf_7 : decode prog_1_method_80_code 7 = .ok (.getfield 84, 3) := gd_5 db00d_66
theorem d_X11_wageOf_10 : decode prog_1_method_80_code 10 = .ok (.getfield 535, 3) := gd_6 db00d_66
theorem d_X11_wageOf_15 : decode prog_1_method_80_code 15 = .ok (.aload 4, 2) := gd_7 db00d_66
theorem d_X11_wageOf_17 : decode prog_1_method_80_code 17 = .ok (.iconst 0, 1) := gd_8 db00d_66
theorem d_X11_wageOf_18 : decode prog_1_method_80_code 18 = .ok (.aload_n 0, 1) := gd_9 db00d_66
theorem d_X11_wageOf_19 : decode prog_1_method_80_code 19 = .ok (.getfield 84, 3) := gd_10 db00d_66
theorem d_X11_wageOf_22 : decode prog_1_method_80_code 22 = .ok (.aload_n 1, 1) := gd_11 db00d_66
theorem d_X11_wageOf_23 : decode prog_1_method_80_code 23 = .ok (.iload_n 2, 1) := gd_12 db00d_66
theorem d_X11_wageOf_24 : decode prog_1_method_80_code 24 = .ok (.iload_n 3, 1) := gd_13 db00d_66
theorem d_X11_wageOf_25 : decode prog_1_method_80_code 25 = .ok (.invokevirtual 361, 3) := gd_14 db00d_66
theorem d_X11_wageOf_28 : decode prog_1_method_80_code 28 = .ok (.iastore, 1) := gd_15 db00d_66
theorem d_X11_wageOf_29 : decode prog_1_method_80_code 29 = .ok (.aload 4, 2) := gd_16 db00d_66
theorem d_X11_wageOf_31 : decode prog_1_method_80_code 31 = .ok (.iconst 1, 1) := gd_17 db00d_66
theorem d_X11_wageOf_32 : decode prog_1_method_80_code 32 = .ok (.aload_n 1, 1) := gd_18 db00d_66
theorem d_X11_wageOf_33 : decode prog_1_method_80_code 33 = .ok (.getfield 313, 3) := gd_19 db00d_66
theorem d_X11_wageOf_36 : decode prog_1_method_80_code 36 = .ok (.iastore, 1) := gd_20 db00d_66
theorem d_X11_wageOf_37 : decode prog_1_method_80_code 37 = .ok (.aload 4, 2) := gd_21 db00d_66
theorem d_X11_wageOf_39 : decode prog_1_method_80_code 39 = .ok (.iconst 2, 1) := gd_22 db00d_66
theorem d_X11_wageOf_40 : decode prog_1_method_80_code 40 = .ok (.aload_n 0, 1) := gd_23 db00d_66
theorem db00d_67 : Ad_ prog_1_method_80_code [(41, .getfield 49, 3), (44, .aload_n 1, 1), (45, .getfield 126, 3), (48, .iload_n 2, 1), (49, .iload_n 3, 1), (50, .invokevirtual 536, 3), (53, .iastore, 1), (54, .aload 4, 2), (56, .iconst 3, 1), (57, .aload_n 0, 1), (58, .getfield 49, 3), (61, .aload_n 1, 1), (62, .getfield 126, 3), (65, .iload_n 2, 1), (66, .iload_n 3, 1), (67, .invokevirtual 539, 3), (70, .iastore, 1), (71, .aload 4, 2), (73, .iconst 4, 1), (74, .aload_n 0, 1), (75, .getfield 56, 3), (78, .aload_n 1, 1), (79, .getfield 126, 3), (82, .iload_n 2, 1)] := bch_ok prog_1_method_80_code _ 41 (by decide +kernel)
theorem d_X11_wageOf_41 : decode prog_1_method_80_code 41 = .ok (.getfield 49, 3) := gd_0 db00d_67
theorem d_X11_wageOf_44 : decode prog_1_method_80_code 44 = .ok (.aload_n 1, 1) := gd_1 db00d_67
theorem d_X11_wageOf_45 : decode prog_1_method_80_code 45 = .ok (.getfield 126, 3) := gd_2 db00d_67
theorem d_X11_wageOf_48 : decode prog_1_method_80_code 48 = .ok (.iload_n 2, 1) := gd_3 db00d_67
theorem d_X11_wageOf_49 : decode prog_1_method_80_code 49 = .ok (.iload_n 3, 1) := gd_4 db00d_67
theorem d_X11_wageOf_50 : decode prog_1_method_80_code 50 = .ok (.invokevirtual 536, 3) := gd_5 db00d_67
theorem d_X11_wageOf_53 : decode prog_1_method_80_code 53 = .ok (.iastore, 1) := gd_6 db00d_67
theorem d_X11_wageOf_54 : decode prog_1_method_80_code 54 = .ok (.aload 4, 2) := gd_7 db00d_67
theorem d_X11_wageOf_56 : decode prog_1_method_80_code 56 = .ok (.iconst 3, 1) := gd_8 db00d_67
theorem d_X11_wageOf_57 : decode prog_1_method_80_code 57 = .ok (.aload_n 0, 1) := gd_9 db00d_67
theorem d_X11_wageOf_58 : decode prog_1_method_80_code 58 = .ok (.getfield 49, 3) := gd_10 db00d_67
theorem d_X11_wageOf_61 : decode prog_1_method_80_code 61 = .ok (.aload_n 1, 1) := gd_11 db00d_67
theorem d_X11_wageOf_62 : decode prog_1_method_80_code 62 = .ok (.getfield 126, 3) := gd_12 db00d_67
theorem d_X11_wageOf_65 : decode prog_1_method_80_code 65 = .ok (.iload_n 2, 1) := gd_13 db00d_67
theorem d_X11_wageOf_66 : decode prog_1_method_80_code 66 = .ok (.iload_n 3, 1) := gd_14 db00d_67
theorem d_X11_wageOf_67 : decode prog_1_method_80_code 67 = .ok (.invokevirtual 539, 3) := gd_15 db00d_67
theorem d_X11_wageOf_70 : decode prog_1_method_80_code 70 = .ok (.iastore, 1) := gd_16 db00d_67
theorem d_X11_wageOf_71 : decode prog_1_method_80_code 71 = .ok (.aload 4, 2) := gd_17 db00d_67
theorem d_X11_wageOf_73 : decode prog_1_method_80_code 73 = .ok (.iconst 4, 1) := gd_18 db00d_67
theorem d_X11_wageOf_74 : decode prog_1_method_80_code 74 = .ok (.aload_n 0, 1) := gd_19 db00d_67
theorem d_X11_wageOf_75 : decode prog_1_method_80_code 75 = .ok (.getfield 56, 3) := gd_20 db00d_67
theorem d_X11_wageOf_78 : decode prog_1_method_80_code 78 = .ok (.aload_n 1, 1) := gd_21 db00d_67
theorem d_X11_wageOf_79 : decode prog_1_method_80_code 79 = .ok (.getfield 126, 3) := gd_22 db00d_67
theorem d_X11_wageOf_82 : decode prog_1_method_80_code 82 = .ok (.iload_n 2, 1) := gd_23 db00d_67
theorem db00d_68 : Ad_ prog_1_method_80_code [(83, .aload_n 0, 1), (84, .getfield 33, 3), (87, .iload_n 3, 1), (88, .iconst 1, 1), (89, .invokevirtual 542, 3), (92, .iastore, 1), (93, .aload 4, 2), (95, .iconst 5, 1), (96, .aload_n 0, 1), (97, .getfield 56, 3), (100, .aload_n 1, 1), (101, .getfield 126, 3), (104, .iload_n 2, 1), (105, .aload_n 0, 1), (106, .getfield 33, 3), (109, .iload_n 3, 1), (110, .iconst 0, 1), (111, .invokevirtual 542, 3), (114, .iastore, 1), (115, .aload_n 0, 1), (116, .getfield 37, 3), (119, .aload_n 0, 1), (120, .getfield 37, 3), (123, .iload_n 2, 1)] := bch_ok prog_1_method_80_code _ 83 (by decide +kernel)
theorem d_X11_wageOf_83 : decode prog_1_method_80_code 83 = .ok (.aload_n 0, 1) := gd_0 db00d_68
theorem d_X11_wageOf_84 : decode prog_1_method_80_code 84 = .ok (.getfield 33, 3) := gd_1 db00d_68
theorem d_X11_wageOf_87 : decode prog_1_method_80_code 87 = .ok (.iload_n 3, 1) := gd_2 db00d_68
theorem d_X11_wageOf_88 : decode prog_1_method_80_code 88 = .ok (.iconst 1, 1) := gd_3 db00d_68
theorem d_X11_wageOf_89 : decode prog_1_method_80_code 89 = .ok (.invokevirtual 542, 3) := gd_4 db00d_68
theorem d_X11_wageOf_92 : decode prog_1_method_80_code 92 = .ok (.iastore, 1) := gd_5 db00d_68
theorem d_X11_wageOf_93 : decode prog_1_method_80_code 93 = .ok (.aload 4, 2) := gd_6 db00d_68
theorem d_X11_wageOf_95 : decode prog_1_method_80_code 95 = .ok (.iconst 5, 1) := gd_7 db00d_68
theorem d_X11_wageOf_96 : decode prog_1_method_80_code 96 = .ok (.aload_n 0, 1) := gd_8 db00d_68
theorem d_X11_wageOf_97 : decode prog_1_method_80_code 97 = .ok (.getfield 56, 3) := gd_9 db00d_68
theorem d_X11_wageOf_100 : decode prog_1_method_80_code 100 = .ok (.aload_n 1, 1) := gd_10 db00d_68
theorem d_X11_wageOf_101 : decode prog_1_method_80_code 101 = .ok (.getfield 126, 3) := gd_11 db00d_68
theorem d_X11_wageOf_104 : decode prog_1_method_80_code 104 = .ok (.iload_n 2, 1) := gd_12 db00d_68
theorem d_X11_wageOf_105 : decode prog_1_method_80_code 105 = .ok (.aload_n 0, 1) := gd_13 db00d_68
theorem d_X11_wageOf_106 : decode prog_1_method_80_code 106 = .ok (.getfield 33, 3) := gd_14 db00d_68
theorem d_X11_wageOf_109 : decode prog_1_method_80_code 109 = .ok (.iload_n 3, 1) := gd_15 db00d_68
theorem d_X11_wageOf_110 : decode prog_1_method_80_code 110 = .ok (.iconst 0, 1) := gd_16 db00d_68
theorem d_X11_wageOf_111 : decode prog_1_method_80_code 111 = .ok (.invokevirtual 542, 3) := gd_17 db00d_68
theorem d_X11_wageOf_114 : decode prog_1_method_80_code 114 = .ok (.iastore, 1) := gd_18 db00d_68
theorem d_X11_wageOf_115 : decode prog_1_method_80_code 115 = .ok (.aload_n 0, 1) := gd_19 db00d_68
theorem d_X11_wageOf_116 : decode prog_1_method_80_code 116 = .ok (.getfield 37, 3) := gd_20 db00d_68
theorem d_X11_wageOf_119 : decode prog_1_method_80_code 119 = .ok (.aload_n 0, 1) := gd_21 db00d_68
theorem d_X11_wageOf_120 : decode prog_1_method_80_code 120 = .ok (.getfield 37, 3) := gd_22 db00d_68
theorem d_X11_wageOf_123 : decode prog_1_method_80_code 123 = .ok (.iload_n 2, 1) := gd_23 db00d_68
theorem db00d_69 : Ad_ prog_1_method_80_code [(124, .iload_n 3, 1), (125, .invokevirtual 347, 3), (128, .aload 4, 2), (130, .iconst 0, 1), (131, .invokevirtual 383, 3), (134, .istore 5, 2), (136, .iconst 0, 1), (137, .iload 5, 2), (139, .sipush 10000, 3), (142, .invokestatic 239, 3), (145, .invokestatic 244, 3), (148, .ireturn, 1)] := bch_ok prog_1_method_80_code _ 124 (by decide +kernel)
theorem d_X11_wageOf_124 : decode prog_1_method_80_code 124 = .ok (.iload_n 3, 1) := gd_0 db00d_69
theorem d_X11_wageOf_125 : decode prog_1_method_80_code 125 = .ok (.invokevirtual 347, 3) := gd_1 db00d_69
theorem d_X11_wageOf_128 : decode prog_1_method_80_code 128 = .ok (.aload 4, 2) := gd_2 db00d_69
theorem d_X11_wageOf_130 : decode prog_1_method_80_code 130 = .ok (.iconst 0, 1) := gd_3 db00d_69
theorem d_X11_wageOf_131 : decode prog_1_method_80_code 131 = .ok (.invokevirtual 383, 3) := gd_4 db00d_69
theorem d_X11_wageOf_134 : decode prog_1_method_80_code 134 = .ok (.istore 5, 2) := gd_5 db00d_69
theorem d_X11_wageOf_136 : decode prog_1_method_80_code 136 = .ok (.iconst 0, 1) := gd_6 db00d_69
theorem d_X11_wageOf_137 : decode prog_1_method_80_code 137 = .ok (.iload 5, 2) := gd_7 db00d_69
theorem d_X11_wageOf_139 : decode prog_1_method_80_code 139 = .ok (.sipush 10000, 3) := gd_8 db00d_69
theorem d_X11_wageOf_142 : decode prog_1_method_80_code 142 = .ok (.invokestatic 239, 3) := gd_9 db00d_69
theorem d_X11_wageOf_145 : decode prog_1_method_80_code 145 = .ok (.invokestatic 244, 3) := gd_10 db00d_69
theorem d_X11_wageOf_148 : decode prog_1_method_80_code 148 = .ok (.ireturn, 1) := gd_11 db00d_69
theorem d_X11_book_38 : decode prog_1_method_81_code 38 = .ok (.aaload, 1) := by decide +kernel
theorem db00d_70 : Ad_ prog_1_method_81_code [(0, .aload_n 0, 1), (1, .getfield 92, 3), (4, .sipush 1440, 3), (7, .idiv, 1), (8, .istore_n 1, 1), (9, .iconst 0, 1), (10, .istore_n 2, 1), (11, .iload_n 2, 1), (12, .iload_n 1, 1), (13, .if_icmp .ge 49, 3), (16, .iconst 0, 1), (17, .istore_n 3, 1), (18, .iload_n 3, 1), (19, .aload_n 0, 1), (20, .getfield 104, 3), (23, .if_icmp .ge 33, 3), (26, .aload_n 0, 1), (27, .getfield 84, 3), (30, .iload_n 3, 1), (31, .iload_n 2, 1), (32, .aload_n 0, 1), (33, .aload_n 0, 1), (34, .getfield 42, 3), (37, .iload_n 3, 1)] := bch_ok prog_1_method_81_code _ 0 (by decide +kernel)
theorem d_X11_book_0 : decode prog_1_method_81_code 0 = .ok (.aload_n 0, 1) := gd_0 db00d_70
theorem d_X11_book_1 : decode prog_1_method_81_code 1 = .ok (.getfield 92, 3) := gd_1 db00d_70
theorem d_X11_book_4 : decode prog_1_method_81_code 4 = .ok (.sipush 1440, 3) := gd_2 db00d_70
theorem d_X11_book_7 : decode prog_1_method_81_code 7 = .ok (.idiv, 1) := gd_3 db00d_70
theorem d_X11_book_8 : decode prog_1_method_81_code 8 = .ok (.istore_n 1, 1) := gd_4 db00d_70
theorem d_X11_book_9 : decode prog_1_method_81_code 9 = .ok (.iconst 0, 1) := gd_5 db00d_70
theorem d_X11_book_10 : decode prog_1_method_81_code 10 = .ok (.istore_n 2, 1) := gd_6 db00d_70
theorem d_X11_book_11 : decode prog_1_method_81_code 11 = .ok (.iload_n 2, 1) := gd_7 db00d_70
theorem d_X11_book_12 : decode prog_1_method_81_code 12 = .ok (.iload_n 1, 1) := gd_8 db00d_70
theorem d_X11_book_13 : decode prog_1_method_81_code 13 = .ok (.if_icmp .ge 49, 3) := gd_9 db00d_70
theorem d_X11_book_16 : decode prog_1_method_81_code 16 = .ok (.iconst 0, 1) := gd_10 db00d_70
theorem d_X11_book_17 : decode prog_1_method_81_code 17 = .ok (.istore_n 3, 1) := gd_11 db00d_70
theorem d_X11_book_18 : decode prog_1_method_81_code 18 = .ok (.iload_n 3, 1) := gd_12 db00d_70
theorem d_X11_book_19 : decode prog_1_method_81_code 19 = .ok (.aload_n 0, 1) := gd_13 db00d_70
theorem d_X11_book_20 : decode prog_1_method_81_code 20 = .ok (.getfield 104, 3) := gd_14 db00d_70
theorem d_X11_book_23 : decode prog_1_method_81_code 23 = .ok (.if_icmp .ge 33, 3) := gd_15 db00d_70
theorem d_X11_book_26 : decode prog_1_method_81_code 26 = .ok (.aload_n 0, 1) := gd_16 db00d_70
theorem d_X11_book_27 : decode prog_1_method_81_code 27 = .ok (.getfield 84, 3) := gd_17 db00d_70
theorem d_X11_book_30 : decode prog_1_method_81_code 30 = .ok (.iload_n 3, 1) := gd_18 db00d_70
theorem d_X11_book_31 : decode prog_1_method_81_code 31 = .ok (.iload_n 2, 1) := gd_19 db00d_70
theorem d_X11_book_32 : decode prog_1_method_81_code 32 = .ok (.aload_n 0, 1) := gd_20 db00d_70
theorem d_X11_book_33 : decode prog_1_method_81_code 33 = .ok (.aload_n 0, 1) := gd_21 db00d_70
theorem d_X11_book_34 : decode prog_1_method_81_code 34 = .ok (.getfield 42, 3) := gd_22 db00d_70
theorem d_X11_book_37 : decode prog_1_method_81_code 37 = .ok (.iload_n 3, 1) := gd_23 db00d_70
theorem db00d_71 : Ad_ prog_1_method_81_code [(39, .iload_n 2, 1), (40, .aload_n 0, 1), (41, .getfield 92, 3), (44, .invokevirtual 532, 3), (47, .invokevirtual 546, 3), (50, .iinc 3 1, 3), (53, .goto (-35), 3), (56, .iinc 2 1, 3), (59, .goto (-48), 3), (62, .aload_n 0, 1), (63, .getfield 84, 3), (66, .aload_n 0, 1), (67, .getfield 104, 3), (70, .iload_n 1, 1), (71, .aload_n 0, 1), (72, .getfield 92, 3), (75, .invokevirtual 549, 3), (78, .ireturn, 1)] := bch_ok prog_1_method_81_code _ 39 (by decide +kernel)
theorem d_X11_book_39 : decode prog_1_method_81_code 39 = .ok (.iload_n 2, 1) := gd_0 db00d_71
theorem d_X11_book_40 : decode prog_1_method_81_code 40 = .ok (.aload_n 0, 1) := gd_1 db00d_71
theorem d_X11_book_41 : decode prog_1_method_81_code 41 = .ok (.getfield 92, 3) := gd_2 db00d_71
theorem d_X11_book_44 : decode prog_1_method_81_code 44 = .ok (.invokevirtual 532, 3) := gd_3 db00d_71
theorem d_X11_book_47 : decode prog_1_method_81_code 47 = .ok (.invokevirtual 546, 3) := gd_4 db00d_71
theorem d_X11_book_50 : decode prog_1_method_81_code 50 = .ok (.iinc 3 1, 3) := gd_5 db00d_71
theorem d_X11_book_53 : decode prog_1_method_81_code 53 = .ok (.goto (-35), 3) := gd_6 db00d_71
theorem d_X11_book_56 : decode prog_1_method_81_code 56 = .ok (.iinc 2 1, 3) := gd_7 db00d_71
theorem d_X11_book_59 : decode prog_1_method_81_code 59 = .ok (.goto (-48), 3) := gd_8 db00d_71
theorem d_X11_book_62 : decode prog_1_method_81_code 62 = .ok (.aload_n 0, 1) := gd_9 db00d_71
theorem d_X11_book_63 : decode prog_1_method_81_code 63 = .ok (.getfield 84, 3) := gd_10 db00d_71
theorem d_X11_book_66 : decode prog_1_method_81_code 66 = .ok (.aload_n 0, 1) := gd_11 db00d_71
theorem d_X11_book_67 : decode prog_1_method_81_code 67 = .ok (.getfield 104, 3) := gd_12 db00d_71
theorem d_X11_book_70 : decode prog_1_method_81_code 70 = .ok (.iload_n 1, 1) := gd_13 db00d_71
theorem d_X11_book_71 : decode prog_1_method_81_code 71 = .ok (.aload_n 0, 1) := gd_14 db00d_71
theorem d_X11_book_72 : decode prog_1_method_81_code 72 = .ok (.getfield 92, 3) := gd_15 db00d_71
theorem d_X11_book_75 : decode prog_1_method_81_code 75 = .ok (.invokevirtual 549, 3) := gd_16 db00d_71
theorem d_X11_book_78 : decode prog_1_method_81_code 78 = .ok (.ireturn, 1) := gd_17 db00d_71
theorem db00d_72 : Ad_ prog_1_method_82_code [(0, .aload_n 0, 1), (1, .getfield 84, 3), (4, .iload_n 1, 1), (5, .iload_n 2, 1), (6, .invokevirtual 552, 3), (9, .ireturn, 1)] := bch_ok prog_1_method_82_code _ 0 (by decide +kernel)
theorem d_X11_line_0 : decode prog_1_method_82_code 0 = .ok (.aload_n 0, 1) := gd_0 db00d_72
theorem d_X11_line_1 : decode prog_1_method_82_code 1 = .ok (.getfield 84, 3) := gd_1 db00d_72
theorem d_X11_line_4 : decode prog_1_method_82_code 4 = .ok (.iload_n 1, 1) := gd_2 db00d_72
theorem d_X11_line_5 : decode prog_1_method_82_code 5 = .ok (.iload_n 2, 1) := gd_3 db00d_72
theorem d_X11_line_6 : decode prog_1_method_82_code 6 = .ok (.invokevirtual 552, 3) := gd_4 db00d_72
theorem d_X11_line_9 : decode prog_1_method_82_code 9 = .ok (.ireturn, 1) := gd_5 db00d_72
theorem db00d_73 : Ad_ prog_1_method_83_code [(0, .iload_n 1, 1), (1, .iconst 0, 1), (2, .iconst 3, 1), (3, .invokestatic 96, 3), (6, .ifCond .eq 21, 3), (9, .aload_n 0, 1), (10, .iload_n 2, 1), (11, .invokevirtual 318, 3), (14, .ifCond .eq 13, 3), (17, .iload_n 3, 1), (18, .iconst 0, 1), (19, .bipush 10, 2), (21, .invokestatic 96, 3), (24, .ifCond .ne 5, 3), (27, .iconst 0, 1), (28, .ireturn, 1), (29, .aload_n 0, 1), (30, .getfield 84, 3), (33, .iload_n 1, 1), (34, .iload_n 2, 1), (35, .iload_n 3, 1), (36, .invokevirtual 555, 3), (39, .iconst 1, 1), (40, .ireturn, 1)] := bch_ok prog_1_method_83_code _ 0 (by decide +kernel)
theorem d_X11_mark_0 : decode prog_1_method_83_code 0 = .ok (.iload_n 1, 1) := gd_0 db00d_73
theorem d_X11_mark_1 : decode prog_1_method_83_code 1 = .ok (.iconst 0, 1) := gd_1 db00d_73
theorem d_X11_mark_2 : decode prog_1_method_83_code 2 = .ok (.iconst 3, 1) := gd_2 db00d_73
theorem d_X11_mark_3 : decode prog_1_method_83_code 3 = .ok (.invokestatic 96, 3) := gd_3 db00d_73
theorem d_X11_mark_6 : decode prog_1_method_83_code 6 = .ok (.ifCond .eq 21, 3) := gd_4 db00d_73
theorem d_X11_mark_9 : decode prog_1_method_83_code 9 = .ok (.aload_n 0, 1) := gd_5 db00d_73
theorem d_X11_mark_10 : decode prog_1_method_83_code 10 = .ok (.iload_n 2, 1) := gd_6 db00d_73
theorem d_X11_mark_11 : decode prog_1_method_83_code 11 = .ok (.invokevirtual 318, 3) := gd_7 db00d_73
theorem d_X11_mark_14 : decode prog_1_method_83_code 14 = .ok (.ifCond .eq 13, 3) := gd_8 db00d_73
theorem d_X11_mark_17 : decode prog_1_method_83_code 17 = .ok (.iload_n 3, 1) := gd_9 db00d_73
theorem d_X11_mark_18 : decode prog_1_method_83_code 18 = .ok (.iconst 0, 1) := gd_10 db00d_73
theorem d_X11_mark_19 : decode prog_1_method_83_code 19 = .ok (.bipush 10, 2) := gd_11 db00d_73
theorem d_X11_mark_21 : decode prog_1_method_83_code 21 = .ok (.invokestatic 96, 3) := gd_12 db00d_73
theorem d_X11_mark_24 : decode prog_1_method_83_code 24 = .ok (.ifCond .ne 5, 3) := gd_13 db00d_73
theorem d_X11_mark_27 : decode prog_1_method_83_code 27 = .ok (.iconst 0, 1) := gd_14 db00d_73
theorem d_X11_mark_28 : decode prog_1_method_83_code 28 = .ok (.ireturn, 1) := gd_15 db00d_73
theorem d_X11_mark_29 : decode prog_1_method_83_code 29 = .ok (.aload_n 0, 1) := gd_16 db00d_73
theorem d_X11_mark_30 : decode prog_1_method_83_code 30 = .ok (.getfield 84, 3) := gd_17 db00d_73
theorem d_X11_mark_33 : decode prog_1_method_83_code 33 = .ok (.iload_n 1, 1) := gd_18 db00d_73
theorem d_X11_mark_34 : decode prog_1_method_83_code 34 = .ok (.iload_n 2, 1) := gd_19 db00d_73
theorem d_X11_mark_35 : decode prog_1_method_83_code 35 = .ok (.iload_n 3, 1) := gd_20 db00d_73
theorem d_X11_mark_36 : decode prog_1_method_83_code 36 = .ok (.invokevirtual 555, 3) := gd_21 db00d_73
theorem d_X11_mark_39 : decode prog_1_method_83_code 39 = .ok (.iconst 1, 1) := gd_22 db00d_73
theorem d_X11_mark_40 : decode prog_1_method_83_code 40 = .ok (.ireturn, 1) := gd_23 db00d_73
theorem db00d_74 : Ad_ prog_1_method_84_code [(0, .iload_n 1, 1), (1, .iconst 1, 1), (2, .bipush 12, 2), (4, .invokestatic 96, 3), (7, .ifCond .ne 5, 3), (10, .iconst 0, 1), (11, .ireturn, 1), (12, .aload_n 0, 1), (13, .getfield 84, 3), (16, .iload_n 1, 1), (17, .putfield 558, 3), (20, .iconst 1, 1), (21, .ireturn, 1)] := bch_ok prog_1_method_84_code _ 0 (by decide +kernel)
theorem d_X11_size_0 : decode prog_1_method_84_code 0 = .ok (.iload_n 1, 1) := gd_0 db00d_74
theorem d_X11_size_1 : decode prog_1_method_84_code 1 = .ok (.iconst 1, 1) := gd_1 db00d_74
theorem d_X11_size_2 : decode prog_1_method_84_code 2 = .ok (.bipush 12, 2) := gd_2 db00d_74
theorem d_X11_size_4 : decode prog_1_method_84_code 4 = .ok (.invokestatic 96, 3) := gd_3 db00d_74
theorem d_X11_size_7 : decode prog_1_method_84_code 7 = .ok (.ifCond .ne 5, 3) := gd_4 db00d_74
theorem d_X11_size_10 : decode prog_1_method_84_code 10 = .ok (.iconst 0, 1) := gd_5 db00d_74
theorem d_X11_size_11 : decode prog_1_method_84_code 11 = .ok (.ireturn, 1) := gd_6 db00d_74
theorem d_X11_size_12 : decode prog_1_method_84_code 12 = .ok (.aload_n 0, 1) := gd_7 db00d_74
theorem d_X11_size_13 : decode prog_1_method_84_code 13 = .ok (.getfield 84, 3) := gd_8 db00d_74
theorem d_X11_size_16 : decode prog_1_method_84_code 16 = .ok (.iload_n 1, 1) := gd_9 db00d_74
theorem d_X11_size_17 : decode prog_1_method_84_code 17 = .ok (.putfield 558, 3) := gd_10 db00d_74
theorem d_X11_size_20 : decode prog_1_method_84_code 20 = .ok (.iconst 1, 1) := gd_11 db00d_74
theorem d_X11_size_21 : decode prog_1_method_84_code 21 = .ok (.ireturn, 1) := gd_12 db00d_74
theorem db00d_75 : Ad_ prog_1_method_85_code [(0, .iload_n 1, 1), (1, .iconst 0, 1), (2, .iconst 3, 1), (3, .invokestatic 96, 3), (6, .ifCond .eq 17, 3), (9, .iload_n 2, 1), (10, .iconst 0, 1), (11, .iconst 3, 1), (12, .invokestatic 96, 3), (15, .ifCond .eq 8, 3), (18, .iload_n 1, 1), (19, .iload_n 2, 1), (20, .if_icmp .ne 7, 3), (23, .ldc_w 561, 3), (26, .ireturn, 1), (27, .aload_n 0, 1), (28, .getfield 84, 3), (31, .iload_n 1, 1), (32, .iload_n 2, 1), (33, .aload_n 0, 1), (34, .getfield 104, 3), (37, .invokevirtual 562, 3), (40, .ireturn, 1)] := bch_ok prog_1_method_85_code _ 0 (by decide +kernel)
theorem d_X11_habit_0 : decode prog_1_method_85_code 0 = .ok (.iload_n 1, 1) := gd_0 db00d_75
theorem d_X11_habit_1 : decode prog_1_method_85_code 1 = .ok (.iconst 0, 1) := gd_1 db00d_75
theorem d_X11_habit_2 : decode prog_1_method_85_code 2 = .ok (.iconst 3, 1) := gd_2 db00d_75
theorem d_X11_habit_3 : decode prog_1_method_85_code 3 = .ok (.invokestatic 96, 3) := gd_3 db00d_75
theorem d_X11_habit_6 : decode prog_1_method_85_code 6 = .ok (.ifCond .eq 17, 3) := gd_4 db00d_75
theorem d_X11_habit_9 : decode prog_1_method_85_code 9 = .ok (.iload_n 2, 1) := gd_5 db00d_75
theorem d_X11_habit_10 : decode prog_1_method_85_code 10 = .ok (.iconst 0, 1) := gd_6 db00d_75
theorem d_X11_habit_11 : decode prog_1_method_85_code 11 = .ok (.iconst 3, 1) := gd_7 db00d_75
theorem d_X11_habit_12 : decode prog_1_method_85_code 12 = .ok (.invokestatic 96, 3) := gd_8 db00d_75
theorem d_X11_habit_15 : decode prog_1_method_85_code 15 = .ok (.ifCond .eq 8, 3) := gd_9 db00d_75
theorem d_X11_habit_18 : decode prog_1_method_85_code 18 = .ok (.iload_n 1, 1) := gd_10 db00d_75
theorem d_X11_habit_19 : decode prog_1_method_85_code 19 = .ok (.iload_n 2, 1) := gd_11 db00d_75
theorem d_X11_habit_20 : decode prog_1_method_85_code 20 = .ok (.if_icmp .ne 7, 3) := gd_12 db00d_75
theorem d_X11_habit_23 : decode prog_1_method_85_code 23 = .ok (.ldc_w 561, 3) := gd_13 db00d_75
theorem d_X11_habit_26 : decode prog_1_method_85_code 26 = .ok (.ireturn, 1) := gd_14 db00d_75
theorem d_X11_habit_27 : decode prog_1_method_85_code 27 = .ok (.aload_n 0, 1) := gd_15 db00d_75
theorem d_X11_habit_28 : decode prog_1_method_85_code 28 = .ok (.getfield 84, 3) := gd_16 db00d_75
theorem d_X11_habit_31 : decode prog_1_method_85_code 31 = .ok (.iload_n 1, 1) := gd_17 db00d_75
theorem d_X11_habit_32 : decode prog_1_method_85_code 32 = .ok (.iload_n 2, 1) := gd_18 db00d_75
theorem d_X11_habit_33 : decode prog_1_method_85_code 33 = .ok (.aload_n 0, 1) := gd_19 db00d_75
theorem d_X11_habit_34 : decode prog_1_method_85_code 34 = .ok (.getfield 104, 3) := gd_20 db00d_75
theorem d_X11_habit_37 : decode prog_1_method_85_code 37 = .ok (.invokevirtual 562, 3) := gd_21 db00d_75
theorem d_X11_habit_40 : decode prog_1_method_85_code 40 = .ok (.ireturn, 1) := gd_22 db00d_75
theorem db00d_76 : Ad_ prog_1_method_86_code [(0, .aload_n 0, 1), (1, .iload_n 1, 1), (2, .invokevirtual 318, 3), (5, .ifCond .eq 31, 3), (8, .iload_n 2, 1), (9, .invokestatic 107, 3), (12, .ifCond .eq 24, 3), (15, .aload_n 0, 1), (16, .iload_n 3, 1), (17, .invokevirtual 321, 3), (20, .ifCond .eq 16, 3), (23, .iload 4, 2), (25, .iload_n 3, 1), (26, .aload_n 0, 1), (27, .getfield 92, 3), (30, .invokestatic 96, 3), (33, .ifCond .ne 5, 3), (36, .iconst (-1), 1), (37, .ireturn, 1), (38, .iload 4, 2), (40, .iload_n 3, 1), (41, .isub, 1), (42, .iconst 1, 1), (43, .iadd, 1)] := bch_ok prog_1_method_86_code _ 0 (by decide +kernel)
theorem d_X11_complain_0 : decode prog_1_method_86_code 0 = .ok (.aload_n 0, 1) := gd_0 db00d_76
theorem d_X11_complain_1 : decode prog_1_method_86_code 1 = .ok (.iload_n 1, 1) := gd_1 db00d_76
theorem d_X11_complain_2 : decode prog_1_method_86_code 2 = .ok (.invokevirtual 318, 3) := gd_2 db00d_76
theorem d_X11_complain_5 : decode prog_1_method_86_code 5 = .ok (.ifCond .eq 31, 3) := gd_3 db00d_76
theorem d_X11_complain_8 : decode prog_1_method_86_code 8 = .ok (.iload_n 2, 1) := gd_4 db00d_76
theorem d_X11_complain_9 : decode prog_1_method_86_code 9 = .ok (.invokestatic 107, 3) := gd_5 db00d_76
theorem d_X11_complain_12 : decode prog_1_method_86_code 12 = .ok (.ifCond .eq 24, 3) := gd_6 db00d_76
theorem d_X11_complain_15 : decode prog_1_method_86_code 15 = .ok (.aload_n 0, 1) := gd_7 db00d_76
theorem d_X11_complain_16 : decode prog_1_method_86_code 16 = .ok (.iload_n 3, 1) := gd_8 db00d_76
theorem d_X11_complain_17 : decode prog_1_method_86_code 17 = .ok (.invokevirtual 321, 3) := gd_9 db00d_76
theorem d_X11_complain_20 : decode prog_1_method_86_code 20 = .ok (.ifCond .eq 16, 3) := gd_10 db00d_76
theorem d_X11_complain_23 : decode prog_1_method_86_code 23 = .ok (.iload 4, 2) := gd_11 db00d_76
theorem d_X11_complain_25 : decode prog_1_method_86_code 25 = .ok (.iload_n 3, 1) := gd_12 db00d_76
theorem d_X11_complain_26 : decode prog_1_method_86_code 26 = .ok (.aload_n 0, 1) := gd_13 db00d_76
theorem d_X11_complain_27 : decode prog_1_method_86_code 27 = .ok (.getfield 92, 3) := gd_14 db00d_76
theorem d_X11_complain_30 : decode prog_1_method_86_code 30 = .ok (.invokestatic 96, 3) := gd_15 db00d_76
theorem d_X11_complain_33 : decode prog_1_method_86_code 33 = .ok (.ifCond .ne 5, 3) := gd_16 db00d_76
theorem d_X11_complain_36 : decode prog_1_method_86_code 36 = .ok (.iconst (-1), 1) := gd_17 db00d_76
theorem d_X11_complain_37 : decode prog_1_method_86_code 37 = .ok (.ireturn, 1) := gd_18 db00d_76
theorem d_X11_complain_38 : decode prog_1_method_86_code 38 = .ok (.iload 4, 2) := gd_19 db00d_76
theorem d_X11_complain_40 : decode prog_1_method_86_code 40 = .ok (.iload_n 3, 1) := gd_20 db00d_76
theorem d_X11_complain_41 : decode prog_1_method_86_code 41 = .ok (.isub, 1) := gd_21 db00d_76
theorem d_X11_complain_42 : decode prog_1_method_86_code 42 = .ok (.iconst 1, 1) := gd_22 db00d_76
theorem d_X11_complain_43 : decode prog_1_method_86_code 43 = .ok (.iadd, 1) := gd_23 db00d_76
theorem db00d_77 : Ad_ prog_1_method_86_code [(44, .sipush 1440, 3), (47, .if_icmp .le 5, 3), (50, .iconst (-1), 1), (51, .ireturn, 1), (52, .iconst 0, 1), (53, .istore 5, 2), (55, .iload_n 3, 1), (56, .istore 6, 2), (58, .iload 6, 2), (60, .iload 4, 2), (62, .if_icmp .gt 38, 3), (65, .aload_n 0, 1), (66, .iload_n 1, 1), (67, .iload 6, 2), (69, .invokevirtual 324, 3), (72, .istore 7, 2), (74, .iload 7, 2), (76, .iload_n 2, 1), (77, .iconst 1, 1), (78, .iadd, 1), (79, .if_icmp .ne 5, 3), (82, .iconst 1, 1), (83, .ireturn, 1), (84, .iload 7, 2)] := bch_ok prog_1_method_86_code _ 44 (by decide +kernel)
theorem d_X11_complain_44 : decode prog_1_method_86_code 44 = .ok (.sipush 1440, 3) := gd_0 db00d_77
theorem d_X11_complain_47 : decode prog_1_method_86_code 47 = .ok (.if_icmp .le 5, 3) := gd_1 db00d_77
theorem d_X11_complain_50 : decode prog_1_method_86_code 50 = .ok (.iconst (-1), 1) := gd_2 db00d_77
theorem d_X11_complain_51 : decode prog_1_method_86_code 51 = .ok (.ireturn, 1) := gd_3 db00d_77
theorem d_X11_complain_52 : decode prog_1_method_86_code 52 = .ok (.iconst 0, 1) := gd_4 db00d_77
theorem d_X11_complain_53 : decode prog_1_method_86_code 53 = .ok (.istore 5, 2) := gd_5 db00d_77
theorem d_X11_complain_55 : decode prog_1_method_86_code 55 = .ok (.iload_n 3, 1) := gd_6 db00d_77
theorem d_X11_complain_56 : decode prog_1_method_86_code 56 = .ok (.istore 6, 2) := gd_7 db00d_77
theorem d_X11_complain_58 : decode prog_1_method_86_code 58 = .ok (.iload 6, 2) := gd_8 db00d_77
theorem d_X11_complain_60 : decode prog_1_method_86_code 60 = .ok (.iload 4, 2) := gd_9 db00d_77
theorem d_X11_complain_62 : decode prog_1_method_86_code 62 = .ok (.if_icmp .gt 38, 3) := gd_10 db00d_77
theorem d_X11_complain_65 : decode prog_1_method_86_code 65 = .ok (.aload_n 0, 1) := gd_11 db00d_77
theorem d_X11_complain_66 : decode prog_1_method_86_code 66 = .ok (.iload_n 1, 1) := gd_12 db00d_77
theorem d_X11_complain_67 : decode prog_1_method_86_code 67 = .ok (.iload 6, 2) := gd_13 db00d_77
theorem d_X11_complain_69 : decode prog_1_method_86_code 69 = .ok (.invokevirtual 324, 3) := gd_14 db00d_77
theorem d_X11_complain_72 : decode prog_1_method_86_code 72 = .ok (.istore 7, 2) := gd_15 db00d_77
theorem d_X11_complain_74 : decode prog_1_method_86_code 74 = .ok (.iload 7, 2) := gd_16 db00d_77
theorem d_X11_complain_76 : decode prog_1_method_86_code 76 = .ok (.iload_n 2, 1) := gd_17 db00d_77
theorem d_X11_complain_77 : decode prog_1_method_86_code 77 = .ok (.iconst 1, 1) := gd_18 db00d_77
theorem d_X11_complain_78 : decode prog_1_method_86_code 78 = .ok (.iadd, 1) := gd_19 db00d_77
theorem d_X11_complain_79 : decode prog_1_method_86_code 79 = .ok (.if_icmp .ne 5, 3) := gd_20 db00d_77
theorem d_X11_complain_82 : decode prog_1_method_86_code 82 = .ok (.iconst 1, 1) := gd_21 db00d_77
theorem d_X11_complain_83 : decode prog_1_method_86_code 83 = .ok (.ireturn, 1) := gd_22 db00d_77
theorem d_X11_complain_84 : decode prog_1_method_86_code 84 = .ok (.iload 7, 2) := gd_23 db00d_77
theorem db00d_78 : Ad_ prog_1_method_86_code [(86, .bipush 17, 2), (88, .if_icmp .ne 6, 3), (91, .iconst 2, 1), (92, .istore 5, 2), (94, .iinc 6 1, 3), (97, .goto (-39), 3), (100, .iload 5, 2), (102, .ireturn, 1)] := bch_ok prog_1_method_86_code _ 86 (by decide +kernel)
theorem d_X11_complain_86 : decode prog_1_method_86_code 86 = .ok (.bipush 17, 2) := gd_0 db00d_78
theorem d_X11_complain_88 : decode prog_1_method_86_code 88 = .ok (.if_icmp .ne 6, 3) := gd_1 db00d_78
theorem d_X11_complain_91 : decode prog_1_method_86_code 91 = .ok (.iconst 2, 1) := gd_2 db00d_78
theorem d_X11_complain_92 : decode prog_1_method_86_code 92 = .ok (.istore 5, 2) := gd_3 db00d_78
theorem d_X11_complain_94 : decode prog_1_method_86_code 94 = .ok (.iinc 6 1, 3) := gd_4 db00d_78
theorem d_X11_complain_97 : decode prog_1_method_86_code 97 = .ok (.goto (-39), 3) := gd_5 db00d_78
theorem d_X11_complain_100 : decode prog_1_method_86_code 100 = .ok (.iload 5, 2) := gd_6 db00d_78
theorem d_X11_complain_102 : decode prog_1_method_86_code 102 = .ok (.ireturn, 1) := gd_7 db00d_78
theorem d_X11_count_1 : decode prog_1_method_87_code 1 = .ok (.tableswitch 117 0 8 #[51, 56, 64, 69, 77, 85, 93, 101, 109], 51) := by decide +kernel
theorem db00d_79 : Ad_ prog_1_method_87_code [(0, .iload_n 1, 1), (52, .aload_n 0, 1), (53, .getfield 92, 3), (56, .ireturn, 1), (57, .aload_n 0, 1), (58, .getfield 10, 3), (61, .getfield 565, 3), (64, .ireturn, 1), (65, .aload_n 0, 1), (66, .getfield 104, 3), (69, .ireturn, 1), (70, .aload_n 0, 1), (71, .getfield 26, 3), (74, .getfield 470, 3), (77, .ireturn, 1), (78, .aload_n 0, 1), (79, .getfield 49, 3), (82, .getfield 173, 3), (85, .ireturn, 1), (86, .aload_n 0, 1), (87, .getfield 56, 3), (90, .getfield 350, 3), (93, .ireturn, 1), (94, .aload_n 0, 1)] := bch_ok prog_1_method_87_code _ 0 (by decide +kernel)
theorem d_X11_count_0 : decode prog_1_method_87_code 0 = .ok (.iload_n 1, 1) := gd_0 db00d_79
theorem d_X11_count_52 : decode prog_1_method_87_code 52 = .ok (.aload_n 0, 1) := gd_1 db00d_79
theorem d_X11_count_53 : decode prog_1_method_87_code 53 = .ok (.getfield 92, 3) := gd_2 db00d_79
theorem d_X11_count_56 : decode prog_1_method_87_code 56 = .ok (.ireturn, 1) := gd_3 db00d_79
theorem d_X11_count_57 : decode prog_1_method_87_code 57 = .ok (.aload_n 0, 1) := gd_4 db00d_79
theorem d_X11_count_58 : decode prog_1_method_87_code 58 = .ok (.getfield 10, 3) := gd_5 db00d_79
theorem d_X11_count_61 : decode prog_1_method_87_code 61 = .ok (.getfield 565, 3) := gd_6 db00d_79
theorem d_X11_count_64 : decode prog_1_method_87_code 64 = .ok (.ireturn, 1) := gd_7 db00d_79
theorem d_X11_count_65 : decode prog_1_method_87_code 65 = .ok (.aload_n 0, 1) := gd_8 db00d_79
theorem d_X11_count_66 : decode prog_1_method_87_code 66 = .ok (.getfield 104, 3) := gd_9 db00d_79
theorem d_X11_count_69 : decode prog_1_method_87_code 69 = .ok (.ireturn, 1) := gd_10 db00d_79
theorem d_X11_count_70 : decode prog_1_method_87_code 70 = .ok (.aload_n 0, 1) := gd_11 db00d_79
theorem d_X11_count_71 : decode prog_1_method_87_code 71 = .ok (.getfield 26, 3) := gd_12 db00d_79
theorem d_X11_count_74 : decode prog_1_method_87_code 74 = .ok (.getfield 470, 3) := gd_13 db00d_79
theorem d_X11_count_77 : decode prog_1_method_87_code 77 = .ok (.ireturn, 1) := gd_14 db00d_79
theorem d_X11_count_78 : decode prog_1_method_87_code 78 = .ok (.aload_n 0, 1) := gd_15 db00d_79
theorem d_X11_count_79 : decode prog_1_method_87_code 79 = .ok (.getfield 49, 3) := gd_16 db00d_79
theorem d_X11_count_82 : decode prog_1_method_87_code 82 = .ok (.getfield 173, 3) := gd_17 db00d_79
theorem d_X11_count_85 : decode prog_1_method_87_code 85 = .ok (.ireturn, 1) := gd_18 db00d_79
theorem d_X11_count_86 : decode prog_1_method_87_code 86 = .ok (.aload_n 0, 1) := gd_19 db00d_79
theorem d_X11_count_87 : decode prog_1_method_87_code 87 = .ok (.getfield 56, 3) := gd_20 db00d_79
theorem d_X11_count_90 : decode prog_1_method_87_code 90 = .ok (.getfield 350, 3) := gd_21 db00d_79
theorem d_X11_count_93 : decode prog_1_method_87_code 93 = .ok (.ireturn, 1) := gd_22 db00d_79
theorem d_X11_count_94 : decode prog_1_method_87_code 94 = .ok (.aload_n 0, 1) := gd_23 db00d_79
theorem db00d_80 : Ad_ prog_1_method_87_code [(95, .getfield 56, 3), (98, .getfield 568, 3), (101, .ireturn, 1), (102, .aload_n 0, 1), (103, .getfield 33, 3), (106, .getfield 571, 3), (109, .ireturn, 1), (110, .aload_n 0, 1), (111, .getfield 56, 3), (114, .getfield 574, 3), (117, .ireturn, 1), (118, .aload_n 0, 1), (119, .iload_n 1, 1), (120, .invokevirtual 577, 3), (123, .ireturn, 1)] := bch_ok prog_1_method_87_code _ 95 (by decide +kernel)
theorem d_X11_count_95 : decode prog_1_method_87_code 95 = .ok (.getfield 56, 3) := gd_0 db00d_80
theorem d_X11_count_98 : decode prog_1_method_87_code 98 = .ok (.getfield 568, 3) := gd_1 db00d_80
theorem d_X11_count_101 : decode prog_1_method_87_code 101 = .ok (.ireturn, 1) := gd_2 db00d_80
theorem d_X11_count_102 : decode prog_1_method_87_code 102 = .ok (.aload_n 0, 1) := gd_3 db00d_80
theorem d_X11_count_103 : decode prog_1_method_87_code 103 = .ok (.getfield 33, 3) := gd_4 db00d_80
theorem d_X11_count_106 : decode prog_1_method_87_code 106 = .ok (.getfield 571, 3) := gd_5 db00d_80
theorem d_X11_count_109 : decode prog_1_method_87_code 109 = .ok (.ireturn, 1) := gd_6 db00d_80
theorem d_X11_count_110 : decode prog_1_method_87_code 110 = .ok (.aload_n 0, 1) := gd_7 db00d_80
theorem d_X11_count_111 : decode prog_1_method_87_code 111 = .ok (.getfield 56, 3) := gd_8 db00d_80
theorem d_X11_count_114 : decode prog_1_method_87_code 114 = .ok (.getfield 574, 3) := gd_9 db00d_80
theorem d_X11_count_117 : decode prog_1_method_87_code 117 = .ok (.ireturn, 1) := gd_10 db00d_80
theorem d_X11_count_118 : decode prog_1_method_87_code 118 = .ok (.aload_n 0, 1) := gd_11 db00d_80
theorem d_X11_count_119 : decode prog_1_method_87_code 119 = .ok (.iload_n 1, 1) := gd_12 db00d_80
theorem d_X11_count_120 : decode prog_1_method_87_code 120 = .ok (.invokevirtual 577, 3) := gd_13 db00d_80
theorem d_X11_count_123 : decode prog_1_method_87_code 123 = .ok (.ireturn, 1) := gd_14 db00d_80
theorem d_X11_countMore_1 : decode prog_1_method_88_code 1 = .ok (.tableswitch 135 9 18 #[55, 63, 71, 79, 87, 95, 103, 111, 119, 127], 55) := by decide +kernel
theorem db00d_81 : Ad_ prog_1_method_88_code [(0, .iload_n 1, 1), (56, .aload_n 0, 1), (57, .getfield 63, 3), (60, .getfield 580, 3), (63, .ireturn, 1), (64, .aload_n 0, 1), (65, .getfield 63, 3), (68, .getfield 583, 3), (71, .ireturn, 1), (72, .aload_n 0, 1), (73, .getfield 70, 3), (76, .getfield 586, 3), (79, .ireturn, 1), (80, .aload_n 0, 1), (81, .getfield 70, 3), (84, .getfield 589, 3), (87, .ireturn, 1), (88, .aload_n 0, 1), (89, .getfield 77, 3), (92, .getfield 592, 3), (95, .ireturn, 1), (96, .aload_n 0, 1), (97, .getfield 77, 3), (100, .getfield 504, 3)] := bch_ok prog_1_method_88_code _ 0 (by decide +kernel)
theorem d_X11_countMore_0 : decode prog_1_method_88_code 0 = .ok (.iload_n 1, 1) := gd_0 db00d_81
theorem d_X11_countMore_56 : decode prog_1_method_88_code 56 = .ok (.aload_n 0, 1) := gd_1 db00d_81
theorem d_X11_countMore_57 : decode prog_1_method_88_code 57 = .ok (.getfield 63, 3) := gd_2 db00d_81
theorem d_X11_countMore_60 : decode prog_1_method_88_code 60 = .ok (.getfield 580, 3) := gd_3 db00d_81
theorem d_X11_countMore_63 : decode prog_1_method_88_code 63 = .ok (.ireturn, 1) := gd_4 db00d_81
theorem d_X11_countMore_64 : decode prog_1_method_88_code 64 = .ok (.aload_n 0, 1) := gd_5 db00d_81
theorem d_X11_countMore_65 : decode prog_1_method_88_code 65 = .ok (.getfield 63, 3) := gd_6 db00d_81
theorem d_X11_countMore_68 : decode prog_1_method_88_code 68 = .ok (.getfield 583, 3) := gd_7 db00d_81
theorem d_X11_countMore_71 : decode prog_1_method_88_code 71 = .ok (.ireturn, 1) := gd_8 db00d_81
theorem d_X11_countMore_72 : decode prog_1_method_88_code 72 = .ok (.aload_n 0, 1) := gd_9 db00d_81
theorem d_X11_countMore_73 : decode prog_1_method_88_code 73 = .ok (.getfield 70, 3) := gd_10 db00d_81
theorem d_X11_countMore_76 : decode prog_1_method_88_code 76 = .ok (.getfield 586, 3) := gd_11 db00d_81
theorem d_X11_countMore_79 : decode prog_1_method_88_code 79 = .ok (.ireturn, 1) := gd_12 db00d_81
theorem d_X11_countMore_80 : decode prog_1_method_88_code 80 = .ok (.aload_n 0, 1) := gd_13 db00d_81
theorem d_X11_countMore_81 : decode prog_1_method_88_code 81 = .ok (.getfield 70, 3) := gd_14 db00d_81
theorem d_X11_countMore_84 : decode prog_1_method_88_code 84 = .ok (.getfield 589, 3) := gd_15 db00d_81
theorem d_X11_countMore_87 : decode prog_1_method_88_code 87 = .ok (.ireturn, 1) := gd_16 db00d_81
theorem d_X11_countMore_88 : decode prog_1_method_88_code 88 = .ok (.aload_n 0, 1) := gd_17 db00d_81
theorem d_X11_countMore_89 : decode prog_1_method_88_code 89 = .ok (.getfield 77, 3) := gd_18 db00d_81
theorem d_X11_countMore_92 : decode prog_1_method_88_code 92 = .ok (.getfield 592, 3) := gd_19 db00d_81
theorem d_X11_countMore_95 : decode prog_1_method_88_code 95 = .ok (.ireturn, 1) := gd_20 db00d_81
theorem d_X11_countMore_96 : decode prog_1_method_88_code 96 = .ok (.aload_n 0, 1) := gd_21 db00d_81
theorem d_X11_countMore_97 : decode prog_1_method_88_code 97 = .ok (.getfield 77, 3) := gd_22 db00d_81
theorem d_X11_countMore_100 : decode prog_1_method_88_code 100 = .ok (.getfield 504, 3) := gd_23 db00d_81
theorem db00d_82 : Ad_ prog_1_method_88_code [(103, .ireturn, 1), (104, .aload_n 0, 1), (105, .getfield 37, 3), (108, .getfield 571, 3), (111, .ireturn, 1), (112, .aload_n 0, 1), (113, .getfield 84, 3), (116, .getfield 595, 3), (119, .ireturn, 1), (120, .aload_n 0, 1), (121, .getfield 84, 3), (124, .getfield 598, 3), (127, .ireturn, 1), (128, .aload_n 0, 1), (129, .getfield 19, 3), (132, .getfield 601, 3), (135, .ireturn, 1), (136, .iconst (-1), 1), (137, .ireturn, 1)] := bch_ok prog_1_method_88_code _ 103 (by decide +kernel)
theorem d_X11_countMore_103 : decode prog_1_method_88_code 103 = .ok (.ireturn, 1) := gd_0 db00d_82
theorem d_X11_countMore_104 : decode prog_1_method_88_code 104 = .ok (.aload_n 0, 1) := gd_1 db00d_82
theorem d_X11_countMore_105 : decode prog_1_method_88_code 105 = .ok (.getfield 37, 3) := gd_2 db00d_82
theorem d_X11_countMore_108 : decode prog_1_method_88_code 108 = .ok (.getfield 571, 3) := gd_3 db00d_82
theorem d_X11_countMore_111 : decode prog_1_method_88_code 111 = .ok (.ireturn, 1) := gd_4 db00d_82
theorem d_X11_countMore_112 : decode prog_1_method_88_code 112 = .ok (.aload_n 0, 1) := gd_5 db00d_82
theorem d_X11_countMore_113 : decode prog_1_method_88_code 113 = .ok (.getfield 84, 3) := gd_6 db00d_82
theorem d_X11_countMore_116 : decode prog_1_method_88_code 116 = .ok (.getfield 595, 3) := gd_7 db00d_82
theorem d_X11_countMore_119 : decode prog_1_method_88_code 119 = .ok (.ireturn, 1) := gd_8 db00d_82
theorem d_X11_countMore_120 : decode prog_1_method_88_code 120 = .ok (.aload_n 0, 1) := gd_9 db00d_82
theorem d_X11_countMore_121 : decode prog_1_method_88_code 121 = .ok (.getfield 84, 3) := gd_10 db00d_82
theorem d_X11_countMore_124 : decode prog_1_method_88_code 124 = .ok (.getfield 598, 3) := gd_11 db00d_82
theorem d_X11_countMore_127 : decode prog_1_method_88_code 127 = .ok (.ireturn, 1) := gd_12 db00d_82
theorem d_X11_countMore_128 : decode prog_1_method_88_code 128 = .ok (.aload_n 0, 1) := gd_13 db00d_82
theorem d_X11_countMore_129 : decode prog_1_method_88_code 129 = .ok (.getfield 19, 3) := gd_14 db00d_82
theorem d_X11_countMore_132 : decode prog_1_method_88_code 132 = .ok (.getfield 601, 3) := gd_15 db00d_82
theorem d_X11_countMore_135 : decode prog_1_method_88_code 135 = .ok (.ireturn, 1) := gd_16 db00d_82
theorem d_X11_countMore_136 : decode prog_1_method_88_code 136 = .ok (.iconst (-1), 1) := gd_17 db00d_82
theorem d_X11_countMore_137 : decode prog_1_method_88_code 137 = .ok (.ireturn, 1) := gd_18 db00d_82
theorem db00d_83 : Ad_ prog_14_method_1_code [(0, .iload_n 0, 1), (1, .iload_n 1, 1), (2, .if_icmp .lt 12, 3), (5, .iload_n 0, 1), (6, .iload_n 2, 1), (7, .if_icmp .gt 7, 3), (10, .iconst 1, 1), (11, .goto 4, 3), (14, .iconst 0, 1), (15, .ireturn, 1)] := bch_ok prog_14_method_1_code _ 0 (by decide +kernel)
theorem d_X12_in_0 : decode prog_14_method_1_code 0 = .ok (.iload_n 0, 1) := gd_0 db00d_83
theorem d_X12_in_1 : decode prog_14_method_1_code 1 = .ok (.iload_n 1, 1) := gd_1 db00d_83
theorem d_X12_in_2 : decode prog_14_method_1_code 2 = .ok (.if_icmp .lt 12, 3) := gd_2 db00d_83
theorem d_X12_in_5 : decode prog_14_method_1_code 5 = .ok (.iload_n 0, 1) := gd_3 db00d_83
theorem d_X12_in_6 : decode prog_14_method_1_code 6 = .ok (.iload_n 2, 1) := gd_4 db00d_83
theorem d_X12_in_7 : decode prog_14_method_1_code 7 = .ok (.if_icmp .gt 7, 3) := gd_5 db00d_83
theorem d_X12_in_10 : decode prog_14_method_1_code 10 = .ok (.iconst 1, 1) := gd_6 db00d_83
theorem d_X12_in_11 : decode prog_14_method_1_code 11 = .ok (.goto 4, 3) := gd_7 db00d_83
theorem d_X12_in_14 : decode prog_14_method_1_code 14 = .ok (.iconst 0, 1) := gd_8 db00d_83
theorem d_X12_in_15 : decode prog_14_method_1_code 15 = .ok (.ireturn, 1) := gd_9 db00d_83
theorem d_X12_init_7 : decode prog_14_method_2_code 7 = .ok (.newarray .int, 2) := by decide +kernel
theorem d_X12_init_15 : decode prog_14_method_2_code 15 = .ok (.newarray .int, 2) := by decide +kernel
theorem d_X12_init_23 : decode prog_14_method_2_code 23 = .ok (.newarray .int, 2) := by decide +kernel
theorem d_X12_init_31 : decode prog_14_method_2_code 31 = .ok (.newarray .int, 2) := by decide +kernel
theorem d_X12_init_39 : decode prog_14_method_2_code 39 = .ok (.newarray .int, 2) := by decide +kernel
theorem d_X12_init_47 : decode prog_14_method_2_code 47 = .ok (.newarray .int, 2) := by decide +kernel
theorem d_X12_init_55 : decode prog_14_method_2_code 55 = .ok (.newarray .int, 2) := by decide +kernel
theorem db00d_84 : Ad_ prog_14_method_2_code [(0, .aload_n 0, 1), (1, .invokespecial 1, 3), (4, .aload_n 0, 1), (5, .bipush 40, 2), (9, .putfield 9, 3), (12, .aload_n 0, 1), (13, .bipush 40, 2), (17, .putfield 13, 3), (20, .aload_n 0, 1), (21, .bipush 40, 2), (25, .putfield 16, 3), (28, .aload_n 0, 1), (29, .bipush 16, 2), (33, .putfield 19, 3), (36, .aload_n 0, 1), (37, .bipush 12, 2), (41, .putfield 22, 3), (44, .aload_n 0, 1), (45, .bipush 12, 2), (49, .putfield 25, 3), (52, .aload_n 0, 1), (53, .bipush 12, 2), (57, .putfield 28, 3), (60, .aload_n 0, 1)] := bch_ok prog_14_method_2_code _ 0 (by decide +kernel)
theorem d_X12_init_0 : decode prog_14_method_2_code 0 = .ok (.aload_n 0, 1) := gd_0 db00d_84
theorem d_X12_init_1 : decode prog_14_method_2_code 1 = .ok (.invokespecial 1, 3) := gd_1 db00d_84
theorem d_X12_init_4 : decode prog_14_method_2_code 4 = .ok (.aload_n 0, 1) := gd_2 db00d_84
theorem d_X12_init_5 : decode prog_14_method_2_code 5 = .ok (.bipush 40, 2) := gd_3 db00d_84
theorem d_X12_init_9 : decode prog_14_method_2_code 9 = .ok (.putfield 9, 3) := gd_4 db00d_84
theorem d_X12_init_12 : decode prog_14_method_2_code 12 = .ok (.aload_n 0, 1) := gd_5 db00d_84
theorem d_X12_init_13 : decode prog_14_method_2_code 13 = .ok (.bipush 40, 2) := gd_6 db00d_84
theorem d_X12_init_17 : decode prog_14_method_2_code 17 = .ok (.putfield 13, 3) := gd_7 db00d_84
theorem d_X12_init_20 : decode prog_14_method_2_code 20 = .ok (.aload_n 0, 1) := gd_8 db00d_84
theorem d_X12_init_21 : decode prog_14_method_2_code 21 = .ok (.bipush 40, 2) := gd_9 db00d_84
theorem d_X12_init_25 : decode prog_14_method_2_code 25 = .ok (.putfield 16, 3) := gd_10 db00d_84
theorem d_X12_init_28 : decode prog_14_method_2_code 28 = .ok (.aload_n 0, 1) := gd_11 db00d_84
theorem d_X12_init_29 : decode prog_14_method_2_code 29 = .ok (.bipush 16, 2) := gd_12 db00d_84
theorem d_X12_init_33 : decode prog_14_method_2_code 33 = .ok (.putfield 19, 3) := gd_13 db00d_84
theorem d_X12_init_36 : decode prog_14_method_2_code 36 = .ok (.aload_n 0, 1) := gd_14 db00d_84
theorem d_X12_init_37 : decode prog_14_method_2_code 37 = .ok (.bipush 12, 2) := gd_15 db00d_84
theorem d_X12_init_41 : decode prog_14_method_2_code 41 = .ok (.putfield 22, 3) := gd_16 db00d_84
theorem d_X12_init_44 : decode prog_14_method_2_code 44 = .ok (.aload_n 0, 1) := gd_17 db00d_84
theorem d_X12_init_45 : decode prog_14_method_2_code 45 = .ok (.bipush 12, 2) := gd_18 db00d_84
theorem d_X12_init_49 : decode prog_14_method_2_code 49 = .ok (.putfield 25, 3) := gd_19 db00d_84
theorem d_X12_init_52 : decode prog_14_method_2_code 52 = .ok (.aload_n 0, 1) := gd_20 db00d_84
theorem d_X12_init_53 : decode prog_14_method_2_code 53 = .ok (.bipush 12, 2) := gd_21 db00d_84
theorem d_X12_init_57 : decode prog_14_method_2_code 57 = .ok (.putfield 28, 3) := gd_22 db00d_84
theorem d_X12_init_60 : decode prog_14_method_2_code 60 = .ok (.aload_n 0, 1) := gd_23 db00d_84
theorem d_X12_init_63 : decode prog_14_method_2_code 63 = .ok (.newarray .int, 2) := by decide +kernel
theorem d_X12_init_71 : decode prog_14_method_2_code 71 = .ok (.newarray .int, 2) := by decide +kernel
theorem d_X12_init_79 : decode prog_14_method_2_code 79 = .ok (.newarray .int, 2) := by decide +kernel
theorem d_X12_init_87 : decode prog_14_method_2_code 87 = .ok (.newarray .int, 2) := by decide +kernel
theorem d_X12_init_95 : decode prog_14_method_2_code 95 = .ok (.newarray .int, 2) := by decide +kernel
theorem d_X12_init_103 : decode prog_14_method_2_code 103 = .ok (.newarray .int, 2) := by decide +kernel
theorem d_X12_init_111 : decode prog_14_method_2_code 111 = .ok (.newarray .int, 2) := by decide +kernel
theorem d_X12_init_119 : decode prog_14_method_2_code 119 = .ok (.newarray .int, 2) := by decide +kernel
theorem db00d_85 : Ad_ prog_14_method_2_code [(61, .bipush 12, 2), (65, .putfield 31, 3), (68, .aload_n 0, 1), (69, .bipush 12, 2), (73, .putfield 34, 3), (76, .aload_n 0, 1), (77, .bipush 12, 2), (81, .putfield 37, 3), (84, .aload_n 0, 1), (85, .bipush 12, 2), (89, .putfield 40, 3), (92, .aload_n 0, 1), (93, .bipush 12, 2), (97, .putfield 43, 3), (100, .aload_n 0, 1), (101, .bipush 12, 2), (105, .putfield 46, 3), (108, .aload_n 0, 1), (109, .bipush 12, 2), (113, .putfield 49, 3), (116, .aload_n 0, 1), (117, .bipush 12, 2), (121, .putfield 52, 3), (124, .aload_n 0, 1)] := bch_ok prog_14_method_2_code _ 61 (by decide +kernel)
theorem d_X12_init_61 : decode prog_14_method_2_code 61 = .ok (.bipush 12, 2) := gd_0 db00d_85
theorem d_X12_init_65 : decode prog_14_method_2_code 65 = .ok (.putfield 31, 3) := gd_1 db00d_85
theorem d_X12_init_68 : decode prog_14_method_2_code 68 = .ok (.aload_n 0, 1) := gd_2 db00d_85
theorem d_X12_init_69 : decode prog_14_method_2_code 69 = .ok (.bipush 12, 2) := gd_3 db00d_85
theorem d_X12_init_73 : decode prog_14_method_2_code 73 = .ok (.putfield 34, 3) := gd_4 db00d_85
theorem d_X12_init_76 : decode prog_14_method_2_code 76 = .ok (.aload_n 0, 1) := gd_5 db00d_85
theorem d_X12_init_77 : decode prog_14_method_2_code 77 = .ok (.bipush 12, 2) := gd_6 db00d_85
theorem d_X12_init_81 : decode prog_14_method_2_code 81 = .ok (.putfield 37, 3) := gd_7 db00d_85
theorem d_X12_init_84 : decode prog_14_method_2_code 84 = .ok (.aload_n 0, 1) := gd_8 db00d_85
theorem d_X12_init_85 : decode prog_14_method_2_code 85 = .ok (.bipush 12, 2) := gd_9 db00d_85
theorem d_X12_init_89 : decode prog_14_method_2_code 89 = .ok (.putfield 40, 3) := gd_10 db00d_85
theorem d_X12_init_92 : decode prog_14_method_2_code 92 = .ok (.aload_n 0, 1) := gd_11 db00d_85
theorem d_X12_init_93 : decode prog_14_method_2_code 93 = .ok (.bipush 12, 2) := gd_12 db00d_85
theorem d_X12_init_97 : decode prog_14_method_2_code 97 = .ok (.putfield 43, 3) := gd_13 db00d_85
theorem d_X12_init_100 : decode prog_14_method_2_code 100 = .ok (.aload_n 0, 1) := gd_14 db00d_85
theorem d_X12_init_101 : decode prog_14_method_2_code 101 = .ok (.bipush 12, 2) := gd_15 db00d_85
theorem d_X12_init_105 : decode prog_14_method_2_code 105 = .ok (.putfield 46, 3) := gd_16 db00d_85
theorem d_X12_init_108 : decode prog_14_method_2_code 108 = .ok (.aload_n 0, 1) := gd_17 db00d_85
theorem d_X12_init_109 : decode prog_14_method_2_code 109 = .ok (.bipush 12, 2) := gd_18 db00d_85
theorem d_X12_init_113 : decode prog_14_method_2_code 113 = .ok (.putfield 49, 3) := gd_19 db00d_85
theorem d_X12_init_116 : decode prog_14_method_2_code 116 = .ok (.aload_n 0, 1) := gd_20 db00d_85
theorem d_X12_init_117 : decode prog_14_method_2_code 117 = .ok (.bipush 12, 2) := gd_21 db00d_85
theorem d_X12_init_121 : decode prog_14_method_2_code 121 = .ok (.putfield 52, 3) := gd_22 db00d_85
theorem d_X12_init_124 : decode prog_14_method_2_code 124 = .ok (.aload_n 0, 1) := gd_23 db00d_85
theorem d_X12_init_127 : decode prog_14_method_2_code 127 = .ok (.newarray .int, 2) := by decide +kernel
theorem d_X12_init_135 : decode prog_14_method_2_code 135 = .ok (.newarray .int, 2) := by decide +kernel
theorem d_X12_init_143 : decode prog_14_method_2_code 143 = .ok (.newarray .int, 2) := by decide +kernel
theorem d_X12_init_151 : decode prog_14_method_2_code 151 = .ok (.newarray .int, 2) := by decide +kernel
theorem d_X12_init_159 : decode prog_14_method_2_code 159 = .ok (.newarray .int, 2) := by decide +kernel
theorem d_X12_init_167 : decode prog_14_method_2_code 167 = .ok (.newarray .byte, 2) := by decide +kernel
theorem d_X12_init_175 : decode prog_14_method_2_code 175 = .ok (.newarray .int, 2) := by decide +kernel
theorem d_X12_init_183 : decode prog_14_method_2_code 183 = .ok (.newarray .int, 2) := by decide +kernel
theorem db00d_86 : Ad_ prog_14_method_2_code [(125, .bipush 12, 2), (129, .putfield 55, 3), (132, .aload_n 0, 1), (133, .bipush 12, 2), (137, .putfield 58, 3), (140, .aload_n 0, 1), (141, .bipush 12, 2), (145, .putfield 61, 3), (148, .aload_n 0, 1), (149, .bipush 12, 2), (153, .putfield 64, 3), (156, .aload_n 0, 1), (157, .bipush 12, 2), (161, .putfield 67, 3), (164, .aload_n 0, 1), (165, .ldc 70, 2), (169, .putfield 71, 3), (172, .aload_n 0, 1), (173, .bipush 40, 2), (177, .putfield 75, 3), (180, .aload_n 0, 1), (181, .bipush 40, 2), (185, .putfield 78, 3), (188, .aload_n 0, 1)] := bch_ok prog_14_method_2_code _ 125 (by decide +kernel)
theorem d_X12_init_125 : decode prog_14_method_2_code 125 = .ok (.bipush 12, 2) := gd_0 db00d_86
theorem d_X12_init_129 : decode prog_14_method_2_code 129 = .ok (.putfield 55, 3) := gd_1 db00d_86
theorem d_X12_init_132 : decode prog_14_method_2_code 132 = .ok (.aload_n 0, 1) := gd_2 db00d_86
theorem d_X12_init_133 : decode prog_14_method_2_code 133 = .ok (.bipush 12, 2) := gd_3 db00d_86
theorem d_X12_init_137 : decode prog_14_method_2_code 137 = .ok (.putfield 58, 3) := gd_4 db00d_86
theorem d_X12_init_140 : decode prog_14_method_2_code 140 = .ok (.aload_n 0, 1) := gd_5 db00d_86
theorem d_X12_init_141 : decode prog_14_method_2_code 141 = .ok (.bipush 12, 2) := gd_6 db00d_86
theorem d_X12_init_145 : decode prog_14_method_2_code 145 = .ok (.putfield 61, 3) := gd_7 db00d_86
theorem d_X12_init_148 : decode prog_14_method_2_code 148 = .ok (.aload_n 0, 1) := gd_8 db00d_86
theorem d_X12_init_149 : decode prog_14_method_2_code 149 = .ok (.bipush 12, 2) := gd_9 db00d_86
theorem d_X12_init_153 : decode prog_14_method_2_code 153 = .ok (.putfield 64, 3) := gd_10 db00d_86
theorem d_X12_init_156 : decode prog_14_method_2_code 156 = .ok (.aload_n 0, 1) := gd_11 db00d_86
theorem d_X12_init_157 : decode prog_14_method_2_code 157 = .ok (.bipush 12, 2) := gd_12 db00d_86
theorem d_X12_init_161 : decode prog_14_method_2_code 161 = .ok (.putfield 67, 3) := gd_13 db00d_86
theorem d_X12_init_164 : decode prog_14_method_2_code 164 = .ok (.aload_n 0, 1) := gd_14 db00d_86
theorem d_X12_init_165 : decode prog_14_method_2_code 165 = .ok (.ldc 70, 2) := gd_15 db00d_86
theorem d_X12_init_169 : decode prog_14_method_2_code 169 = .ok (.putfield 71, 3) := gd_16 db00d_86
theorem d_X12_init_172 : decode prog_14_method_2_code 172 = .ok (.aload_n 0, 1) := gd_17 db00d_86
theorem d_X12_init_173 : decode prog_14_method_2_code 173 = .ok (.bipush 40, 2) := gd_18 db00d_86
theorem d_X12_init_177 : decode prog_14_method_2_code 177 = .ok (.putfield 75, 3) := gd_19 db00d_86
theorem d_X12_init_180 : decode prog_14_method_2_code 180 = .ok (.aload_n 0, 1) := gd_20 db00d_86
theorem d_X12_init_181 : decode prog_14_method_2_code 181 = .ok (.bipush 40, 2) := gd_21 db00d_86
theorem d_X12_init_185 : decode prog_14_method_2_code 185 = .ok (.putfield 78, 3) := gd_22 db00d_86
theorem d_X12_init_188 : decode prog_14_method_2_code 188 = .ok (.aload_n 0, 1) := gd_23 db00d_86
theorem d_X12_init_191 : decode prog_14_method_2_code 191 = .ok (.newarray .int, 2) := by decide +kernel
theorem d_X12_init_199 : decode prog_14_method_2_code 199 = .ok (.newarray .int, 2) := by decide +kernel
theorem d_X12_init_208 : decode prog_14_method_2_code 208 = .ok (.newarray .int, 2) := by decide +kernel
theorem d_X12_init_217 : decode prog_14_method_2_code 217 = .ok (.newarray .int, 2) := by decide +kernel
theorem d_X12_init_225 : decode prog_14_method_2_code 225 = .ok (.newarray .int, 2) := by decide +kernel
theorem d_X12_init_234 : decode prog_14_method_2_code 234 = .ok (.newarray .int, 2) := by decide +kernel
theorem d_X12_init_243 : decode prog_14_method_2_code 243 = .ok (.newarray .int, 2) := by decide +kernel
theorem d_X12_init_252 : decode prog_14_method_2_code 252 = .ok (.newarray .int, 2) := by decide +kernel
theorem db00d_87 : Ad_ prog_14_method_2_code [(189, .bipush 40, 2), (193, .putfield 81, 3), (196, .aload_n 0, 1), (197, .bipush 40, 2), (201, .putfield 84, 3), (204, .aload_n 0, 1), (205, .sipush 160, 3), (210, .putfield 87, 3), (213, .aload_n 0, 1), (214, .sipush 560, 3), (219, .putfield 90, 3), (222, .aload_n 0, 1), (223, .bipush 12, 2), (227, .putfield 93, 3), (230, .aload_n 0, 1), (231, .sipush 1800, 3), (236, .putfield 96, 3), (239, .aload_n 0, 1), (240, .sipush 1800, 3), (245, .putfield 99, 3), (248, .aload_n 0, 1), (249, .sipush 1800, 3), (254, .putfield 102, 3), (257, .aload_n 0, 1)] := bch_ok prog_14_method_2_code _ 189 (by decide +kernel)
theorem d_X12_init_189 : decode prog_14_method_2_code 189 = .ok (.bipush 40, 2) := gd_0 db00d_87
theorem d_X12_init_193 : decode prog_14_method_2_code 193 = .ok (.putfield 81, 3) := gd_1 db00d_87
theorem d_X12_init_196 : decode prog_14_method_2_code 196 = .ok (.aload_n 0, 1) := gd_2 db00d_87
theorem d_X12_init_197 : decode prog_14_method_2_code 197 = .ok (.bipush 40, 2) := gd_3 db00d_87
theorem d_X12_init_201 : decode prog_14_method_2_code 201 = .ok (.putfield 84, 3) := gd_4 db00d_87
theorem d_X12_init_204 : decode prog_14_method_2_code 204 = .ok (.aload_n 0, 1) := gd_5 db00d_87
theorem d_X12_init_205 : decode prog_14_method_2_code 205 = .ok (.sipush 160, 3) := gd_6 db00d_87
theorem d_X12_init_210 : decode prog_14_method_2_code 210 = .ok (.putfield 87, 3) := gd_7 db00d_87
theorem d_X12_init_213 : decode prog_14_method_2_code 213 = .ok (.aload_n 0, 1) := gd_8 db00d_87
theorem d_X12_init_214 : decode prog_14_method_2_code 214 = .ok (.sipush 560, 3) := gd_9 db00d_87
theorem d_X12_init_219 : decode prog_14_method_2_code 219 = .ok (.putfield 90, 3) := gd_10 db00d_87
theorem d_X12_init_222 : decode prog_14_method_2_code 222 = .ok (.aload_n 0, 1) := gd_11 db00d_87
theorem d_X12_init_223 : decode prog_14_method_2_code 223 = .ok (.bipush 12, 2) := gd_12 db00d_87
theorem d_X12_init_227 : decode prog_14_method_2_code 227 = .ok (.putfield 93, 3) := gd_13 db00d_87
theorem d_X12_init_230 : decode prog_14_method_2_code 230 = .ok (.aload_n 0, 1) := gd_14 db00d_87
theorem d_X12_init_231 : decode prog_14_method_2_code 231 = .ok (.sipush 1800, 3) := gd_15 db00d_87
theorem d_X12_init_236 : decode prog_14_method_2_code 236 = .ok (.putfield 96, 3) := gd_16 db00d_87
theorem d_X12_init_239 : decode prog_14_method_2_code 239 = .ok (.aload_n 0, 1) := gd_17 db00d_87
theorem d_X12_init_240 : decode prog_14_method_2_code 240 = .ok (.sipush 1800, 3) := gd_18 db00d_87
theorem d_X12_init_245 : decode prog_14_method_2_code 245 = .ok (.putfield 99, 3) := gd_19 db00d_87
theorem d_X12_init_248 : decode prog_14_method_2_code 248 = .ok (.aload_n 0, 1) := gd_20 db00d_87
theorem d_X12_init_249 : decode prog_14_method_2_code 249 = .ok (.sipush 1800, 3) := gd_21 db00d_87
theorem d_X12_init_254 : decode prog_14_method_2_code 254 = .ok (.putfield 102, 3) := gd_22 db00d_87
theorem d_X12_init_257 : decode prog_14_method_2_code 257 = .ok (.aload_n 0, 1) := gd_23 db00d_87
theorem d_X12_init_261 : decode prog_14_method_2_code 261 = .ok (.newarray .int, 2) := by decide +kernel
theorem d_X12_init_269 : decode prog_14_method_2_code 269 = .ok (.newarray .int, 2) := by decide +kernel
theorem d_X12_init_277 : decode prog_14_method_2_code 277 = .ok (.newarray .int, 2) := by decide +kernel
theorem d_X12_init_285 : decode prog_14_method_2_code 285 = .ok (.newarray .int, 2) := by decide +kernel
theorem d_X12_init_292 : decode prog_14_method_2_code 292 = .ok (.newarray .int, 2) := by decide +kernel
theorem d_X12_init_301 : decode prog_14_method_2_code 301 = .ok (.newarray .int, 2) := by decide +kernel
theorem d_X12_init_310 : decode prog_14_method_2_code 310 = .ok (.newarray .int, 2) := by decide +kernel
theorem d_X12_init_319 : decode prog_14_method_2_code 319 = .ok (.newarray .int, 2) := by decide +kernel
theorem db00d_88 : Ad_ prog_14_method_2_code [(258, .sipush 22400, 3), (263, .putfield 105, 3), (266, .aload_n 0, 1), (267, .bipush 40, 2), (271, .putfield 108, 3), (274, .aload_n 0, 1), (275, .bipush 40, 2), (279, .putfield 111, 3), (282, .aload_n 0, 1), (283, .bipush 40, 2), (287, .putfield 114, 3), (290, .aload_n 0, 1), (291, .iconst 2, 1), (294, .putfield 117, 3), (297, .aload_n 0, 1), (298, .sipush 128, 3), (303, .putfield 120, 3), (306, .aload_n 0, 1), (307, .sipush 200, 3), (312, .putfield 123, 3), (315, .aload_n 0, 1), (316, .sipush 400, 3), (321, .putfield 126, 3), (324, .aload_n 0, 1)] := bch_ok prog_14_method_2_code _ 258 (by decide +kernel)
theorem d_X12_init_258 : decode prog_14_method_2_code 258 = .ok (.sipush 22400, 3) := gd_0 db00d_88
theorem d_X12_init_263 : decode prog_14_method_2_code 263 = .ok (.putfield 105, 3) := gd_1 db00d_88
theorem d_X12_init_266 : decode prog_14_method_2_code 266 = .ok (.aload_n 0, 1) := gd_2 db00d_88
theorem d_X12_init_267 : decode prog_14_method_2_code 267 = .ok (.bipush 40, 2) := gd_3 db00d_88
theorem d_X12_init_271 : decode prog_14_method_2_code 271 = .ok (.putfield 108, 3) := gd_4 db00d_88
theorem d_X12_init_274 : decode prog_14_method_2_code 274 = .ok (.aload_n 0, 1) := gd_5 db00d_88
theorem d_X12_init_275 : decode prog_14_method_2_code 275 = .ok (.bipush 40, 2) := gd_6 db00d_88
theorem d_X12_init_279 : decode prog_14_method_2_code 279 = .ok (.putfield 111, 3) := gd_7 db00d_88
theorem d_X12_init_282 : decode prog_14_method_2_code 282 = .ok (.aload_n 0, 1) := gd_8 db00d_88
theorem d_X12_init_283 : decode prog_14_method_2_code 283 = .ok (.bipush 40, 2) := gd_9 db00d_88
theorem d_X12_init_287 : decode prog_14_method_2_code 287 = .ok (.putfield 114, 3) := gd_10 db00d_88
theorem d_X12_init_290 : decode prog_14_method_2_code 290 = .ok (.aload_n 0, 1) := gd_11 db00d_88
theorem d_X12_init_291 : decode prog_14_method_2_code 291 = .ok (.iconst 2, 1) := gd_12 db00d_88
theorem d_X12_init_294 : decode prog_14_method_2_code 294 = .ok (.putfield 117, 3) := gd_13 db00d_88
theorem d_X12_init_297 : decode prog_14_method_2_code 297 = .ok (.aload_n 0, 1) := gd_14 db00d_88
theorem d_X12_init_298 : decode prog_14_method_2_code 298 = .ok (.sipush 128, 3) := gd_15 db00d_88
theorem d_X12_init_303 : decode prog_14_method_2_code 303 = .ok (.putfield 120, 3) := gd_16 db00d_88
theorem d_X12_init_306 : decode prog_14_method_2_code 306 = .ok (.aload_n 0, 1) := gd_17 db00d_88
theorem d_X12_init_307 : decode prog_14_method_2_code 307 = .ok (.sipush 200, 3) := gd_18 db00d_88
theorem d_X12_init_312 : decode prog_14_method_2_code 312 = .ok (.putfield 123, 3) := gd_19 db00d_88
theorem d_X12_init_315 : decode prog_14_method_2_code 315 = .ok (.aload_n 0, 1) := gd_20 db00d_88
theorem d_X12_init_316 : decode prog_14_method_2_code 316 = .ok (.sipush 400, 3) := gd_21 db00d_88
theorem d_X12_init_321 : decode prog_14_method_2_code 321 = .ok (.putfield 126, 3) := gd_22 db00d_88
theorem d_X12_init_324 : decode prog_14_method_2_code 324 = .ok (.aload_n 0, 1) := gd_23 db00d_88
theorem d_X12_init_328 : decode prog_14_method_2_code 328 = .ok (.newarray .int, 2) := by decide +kernel
theorem d_X12_init_337 : decode prog_14_method_2_code 337 = .ok (.newarray .int, 2) := by decide +kernel
theorem d_X12_init_346 : decode prog_14_method_2_code 346 = .ok (.newarray .int, 2) := by decide +kernel
theorem d_X12_init_355 : decode prog_14_method_2_code 355 = .ok (.newarray .int, 2) := by decide +kernel
theorem d_X12_init_364 : decode prog_14_method_2_code 364 = .ok (.newarray .int, 2) := by decide +kernel
theorem d_X12_init_373 : decode prog_14_method_2_code 373 = .ok (.newarray .int, 2) := by decide +kernel
theorem d_X12_init_382 : decode prog_14_method_2_code 382 = .ok (.newarray .int, 2) := by decide +kernel
theorem d_X12_init_391 : decode prog_14_method_2_code 391 = .ok (.newarray .int, 2) := by decide +kernel
theorem db00d_89 : Ad_ prog_14_method_2_code [(325, .sipush 400, 3), (330, .putfield 129, 3), (333, .aload_n 0, 1), (334, .sipush 400, 3), (339, .putfield 132, 3), (342, .aload_n 0, 1), (343, .sipush 400, 3), (348, .putfield 135, 3), (351, .aload_n 0, 1), (352, .sipush 400, 3), (357, .putfield 138, 3), (360, .aload_n 0, 1), (361, .sipush 400, 3), (366, .putfield 141, 3), (369, .aload_n 0, 1), (370, .sipush 400, 3), (375, .putfield 144, 3), (378, .aload_n 0, 1), (379, .sipush 200, 3), (384, .putfield 147, 3), (387, .aload_n 0, 1), (388, .sipush 200, 3), (393, .putfield 150, 3), (396, .aload_n 0, 1)] := bch_ok prog_14_method_2_code _ 325 (by decide +kernel)
theorem d_X12_init_325 : decode prog_14_method_2_code 325 = .ok (.sipush 400, 3) := gd_0 db00d_89
theorem d_X12_init_330 : decode prog_14_method_2_code 330 = .ok (.putfield 129, 3) := gd_1 db00d_89
theorem d_X12_init_333 : decode prog_14_method_2_code 333 = .ok (.aload_n 0, 1) := gd_2 db00d_89
theorem d_X12_init_334 : decode prog_14_method_2_code 334 = .ok (.sipush 400, 3) := gd_3 db00d_89
theorem d_X12_init_339 : decode prog_14_method_2_code 339 = .ok (.putfield 132, 3) := gd_4 db00d_89
theorem d_X12_init_342 : decode prog_14_method_2_code 342 = .ok (.aload_n 0, 1) := gd_5 db00d_89
theorem d_X12_init_343 : decode prog_14_method_2_code 343 = .ok (.sipush 400, 3) := gd_6 db00d_89
theorem d_X12_init_348 : decode prog_14_method_2_code 348 = .ok (.putfield 135, 3) := gd_7 db00d_89
theorem d_X12_init_351 : decode prog_14_method_2_code 351 = .ok (.aload_n 0, 1) := gd_8 db00d_89
theorem d_X12_init_352 : decode prog_14_method_2_code 352 = .ok (.sipush 400, 3) := gd_9 db00d_89
theorem d_X12_init_357 : decode prog_14_method_2_code 357 = .ok (.putfield 138, 3) := gd_10 db00d_89
theorem d_X12_init_360 : decode prog_14_method_2_code 360 = .ok (.aload_n 0, 1) := gd_11 db00d_89
theorem d_X12_init_361 : decode prog_14_method_2_code 361 = .ok (.sipush 400, 3) := gd_12 db00d_89
theorem d_X12_init_366 : decode prog_14_method_2_code 366 = .ok (.putfield 141, 3) := gd_13 db00d_89
theorem d_X12_init_369 : decode prog_14_method_2_code 369 = .ok (.aload_n 0, 1) := gd_14 db00d_89
theorem d_X12_init_370 : decode prog_14_method_2_code 370 = .ok (.sipush 400, 3) := gd_15 db00d_89
theorem d_X12_init_375 : decode prog_14_method_2_code 375 = .ok (.putfield 144, 3) := gd_16 db00d_89
theorem d_X12_init_378 : decode prog_14_method_2_code 378 = .ok (.aload_n 0, 1) := gd_17 db00d_89
theorem d_X12_init_379 : decode prog_14_method_2_code 379 = .ok (.sipush 200, 3) := gd_18 db00d_89
theorem d_X12_init_384 : decode prog_14_method_2_code 384 = .ok (.putfield 147, 3) := gd_19 db00d_89
theorem d_X12_init_387 : decode prog_14_method_2_code 387 = .ok (.aload_n 0, 1) := gd_20 db00d_89
theorem d_X12_init_388 : decode prog_14_method_2_code 388 = .ok (.sipush 200, 3) := gd_21 db00d_89
theorem d_X12_init_393 : decode prog_14_method_2_code 393 = .ok (.putfield 150, 3) := gd_22 db00d_89
theorem d_X12_init_396 : decode prog_14_method_2_code 396 = .ok (.aload_n 0, 1) := gd_23 db00d_89
theorem d_X12_init_400 : decode prog_14_method_2_code 400 = .ok (.newarray .int, 2) := by decide +kernel
theorem d_X12_init_408 : decode prog_14_method_2_code 408 = .ok (.newarray .boolean, 2) := by decide +kernel
theorem d_X12_init_416 : decode prog_14_method_2_code 416 = .ok (.newarray .int, 2) := by decide +kernel
theorem d_X12_init_424 : decode prog_14_method_2_code 424 = .ok (.newarray .int, 2) := by decide +kernel
theorem d_X12_init_432 : decode prog_14_method_2_code 432 = .ok (.newarray .int, 2) := by decide +kernel
theorem d_X12_init_440 : decode prog_14_method_2_code 440 = .ok (.newarray .int, 2) := by decide +kernel
theorem d_X12_init_448 : decode prog_14_method_2_code 448 = .ok (.newarray .int, 2) := by decide +kernel
theorem d_X12_init_456 : decode prog_14_method_2_code 456 = .ok (.newarray .boolean, 2) := by decide +kernel
theorem db00d_90 : Ad_ prog_14_method_2_code [(397, .sipush 200, 3), (402, .putfield 153, 3), (405, .aload_n 0, 1), (406, .bipush 12, 2), (410, .putfield 156, 3), (413, .aload_n 0, 1), (414, .bipush 80, 2), (418, .putfield 160, 3), (421, .aload_n 0, 1), (422, .bipush 80, 2), (426, .putfield 163, 3), (429, .aload_n 0, 1), (430, .bipush 80, 2), (434, .putfield 166, 3), (437, .aload_n 0, 1), (438, .bipush 80, 2), (442, .putfield 169, 3), (445, .aload_n 0, 1), (446, .bipush 80, 2), (450, .putfield 172, 3), (453, .aload_n 0, 1), (454, .bipush 80, 2), (458, .putfield 175, 3), (461, .aload_n 0, 1)] := bch_ok prog_14_method_2_code _ 397 (by decide +kernel)
theorem d_X12_init_397 : decode prog_14_method_2_code 397 = .ok (.sipush 200, 3) := gd_0 db00d_90
theorem d_X12_init_402 : decode prog_14_method_2_code 402 = .ok (.putfield 153, 3) := gd_1 db00d_90
theorem d_X12_init_405 : decode prog_14_method_2_code 405 = .ok (.aload_n 0, 1) := gd_2 db00d_90
theorem d_X12_init_406 : decode prog_14_method_2_code 406 = .ok (.bipush 12, 2) := gd_3 db00d_90
theorem d_X12_init_410 : decode prog_14_method_2_code 410 = .ok (.putfield 156, 3) := gd_4 db00d_90
theorem d_X12_init_413 : decode prog_14_method_2_code 413 = .ok (.aload_n 0, 1) := gd_5 db00d_90
theorem d_X12_init_414 : decode prog_14_method_2_code 414 = .ok (.bipush 80, 2) := gd_6 db00d_90
theorem d_X12_init_418 : decode prog_14_method_2_code 418 = .ok (.putfield 160, 3) := gd_7 db00d_90
theorem d_X12_init_421 : decode prog_14_method_2_code 421 = .ok (.aload_n 0, 1) := gd_8 db00d_90
theorem d_X12_init_422 : decode prog_14_method_2_code 422 = .ok (.bipush 80, 2) := gd_9 db00d_90
theorem d_X12_init_426 : decode prog_14_method_2_code 426 = .ok (.putfield 163, 3) := gd_10 db00d_90
theorem d_X12_init_429 : decode prog_14_method_2_code 429 = .ok (.aload_n 0, 1) := gd_11 db00d_90
theorem d_X12_init_430 : decode prog_14_method_2_code 430 = .ok (.bipush 80, 2) := gd_12 db00d_90
theorem d_X12_init_434 : decode prog_14_method_2_code 434 = .ok (.putfield 166, 3) := gd_13 db00d_90
theorem d_X12_init_437 : decode prog_14_method_2_code 437 = .ok (.aload_n 0, 1) := gd_14 db00d_90
theorem d_X12_init_438 : decode prog_14_method_2_code 438 = .ok (.bipush 80, 2) := gd_15 db00d_90
theorem d_X12_init_442 : decode prog_14_method_2_code 442 = .ok (.putfield 169, 3) := gd_16 db00d_90
theorem d_X12_init_445 : decode prog_14_method_2_code 445 = .ok (.aload_n 0, 1) := gd_17 db00d_90
theorem d_X12_init_446 : decode prog_14_method_2_code 446 = .ok (.bipush 80, 2) := gd_18 db00d_90
theorem d_X12_init_450 : decode prog_14_method_2_code 450 = .ok (.putfield 172, 3) := gd_19 db00d_90
theorem d_X12_init_453 : decode prog_14_method_2_code 453 = .ok (.aload_n 0, 1) := gd_20 db00d_90
theorem d_X12_init_454 : decode prog_14_method_2_code 454 = .ok (.bipush 80, 2) := gd_21 db00d_90
theorem d_X12_init_458 : decode prog_14_method_2_code 458 = .ok (.putfield 175, 3) := gd_22 db00d_90
theorem d_X12_init_461 : decode prog_14_method_2_code 461 = .ok (.aload_n 0, 1) := gd_23 db00d_90
theorem d_X12_init_465 : decode prog_14_method_2_code 465 = .ok (.newarray .int, 2) := by decide +kernel
theorem d_X12_init_474 : decode prog_14_method_2_code 474 = .ok (.newarray .int, 2) := by decide +kernel
theorem d_X12_init_483 : decode prog_14_method_2_code 483 = .ok (.newarray .int, 2) := by decide +kernel
theorem d_X12_init_492 : decode prog_14_method_2_code 492 = .ok (.newarray .int, 2) := by decide +kernel
theorem d_X12_init_501 : decode prog_14_method_2_code 501 = .ok (.newarray .int, 2) := by decide +kernel
theorem d_X12_init_510 : decode prog_14_method_2_code 510 = .ok (.newarray .int, 2) := by decide +kernel
theorem d_X12_init_519 : decode prog_14_method_2_code 519 = .ok (.newarray .int, 2) := by decide +kernel
theorem d_X12_init_527 : decode prog_14_method_2_code 527 = .ok (.newarray .int, 2) := by decide +kernel
theorem db00d_91 : Ad_ prog_14_method_2_code [(462, .sipush 300, 3), (467, .putfield 178, 3), (470, .aload_n 0, 1), (471, .sipush 300, 3), (476, .putfield 181, 3), (479, .aload_n 0, 1), (480, .sipush 300, 3), (485, .putfield 184, 3), (488, .aload_n 0, 1), (489, .sipush 300, 3), (494, .putfield 187, 3), (497, .aload_n 0, 1), (498, .sipush 300, 3), (503, .putfield 190, 3), (506, .aload_n 0, 1), (507, .sipush 300, 3), (512, .putfield 193, 3), (515, .aload_n 0, 1), (516, .sipush 2700, 3), (521, .putfield 196, 3), (524, .aload_n 0, 1), (525, .bipush 30, 2), (529, .putfield 199, 3), (532, .aload_n 0, 1)] := bch_ok prog_14_method_2_code _ 462 (by decide +kernel)
theorem d_X12_init_462 : decode prog_14_method_2_code 462 = .ok (.sipush 300, 3) := gd_0 db00d_91
theorem d_X12_init_467 : decode prog_14_method_2_code 467 = .ok (.putfield 178, 3) := gd_1 db00d_91
theorem d_X12_init_470 : decode prog_14_method_2_code 470 = .ok (.aload_n 0, 1) := gd_2 db00d_91
theorem d_X12_init_471 : decode prog_14_method_2_code 471 = .ok (.sipush 300, 3) := gd_3 db00d_91
theorem d_X12_init_476 : decode prog_14_method_2_code 476 = .ok (.putfield 181, 3) := gd_4 db00d_91
theorem d_X12_init_479 : decode prog_14_method_2_code 479 = .ok (.aload_n 0, 1) := gd_5 db00d_91
theorem d_X12_init_480 : decode prog_14_method_2_code 480 = .ok (.sipush 300, 3) := gd_6 db00d_91
theorem d_X12_init_485 : decode prog_14_method_2_code 485 = .ok (.putfield 184, 3) := gd_7 db00d_91
theorem d_X12_init_488 : decode prog_14_method_2_code 488 = .ok (.aload_n 0, 1) := gd_8 db00d_91
theorem d_X12_init_489 : decode prog_14_method_2_code 489 = .ok (.sipush 300, 3) := gd_9 db00d_91
theorem d_X12_init_494 : decode prog_14_method_2_code 494 = .ok (.putfield 187, 3) := gd_10 db00d_91
theorem d_X12_init_497 : decode prog_14_method_2_code 497 = .ok (.aload_n 0, 1) := gd_11 db00d_91
theorem d_X12_init_498 : decode prog_14_method_2_code 498 = .ok (.sipush 300, 3) := gd_12 db00d_91
theorem d_X12_init_503 : decode prog_14_method_2_code 503 = .ok (.putfield 190, 3) := gd_13 db00d_91
theorem d_X12_init_506 : decode prog_14_method_2_code 506 = .ok (.aload_n 0, 1) := gd_14 db00d_91
theorem d_X12_init_507 : decode prog_14_method_2_code 507 = .ok (.sipush 300, 3) := gd_15 db00d_91
theorem d_X12_init_512 : decode prog_14_method_2_code 512 = .ok (.putfield 193, 3) := gd_16 db00d_91
theorem d_X12_init_515 : decode prog_14_method_2_code 515 = .ok (.aload_n 0, 1) := gd_17 db00d_91
theorem d_X12_init_516 : decode prog_14_method_2_code 516 = .ok (.sipush 2700, 3) := gd_18 db00d_91
theorem d_X12_init_521 : decode prog_14_method_2_code 521 = .ok (.putfield 196, 3) := gd_19 db00d_91
theorem d_X12_init_524 : decode prog_14_method_2_code 524 = .ok (.aload_n 0, 1) := gd_20 db00d_91
theorem d_X12_init_525 : decode prog_14_method_2_code 525 = .ok (.bipush 30, 2) := gd_21 db00d_91
theorem d_X12_init_529 : decode prog_14_method_2_code 529 = .ok (.putfield 199, 3) := gd_22 db00d_91
theorem d_X12_init_532 : decode prog_14_method_2_code 532 = .ok (.aload_n 0, 1) := gd_23 db00d_91
theorem d_X12_init_535 : decode prog_14_method_2_code 535 = .ok (.newarray .int, 2) := by decide +kernel
theorem d_X12_init_543 : decode prog_14_method_2_code 543 = .ok (.newarray .int, 2) := by decide +kernel
theorem d_X12_init_551 : decode prog_14_method_2_code 551 = .ok (.newarray .int, 2) := by decide +kernel
theorem d_X12_init_560 : decode prog_14_method_2_code 560 = .ok (.newarray .int, 2) := by decide +kernel
theorem d_X12_init_569 : decode prog_14_method_2_code 569 = .ok (.newarray .int, 2) := by decide +kernel
theorem d_X12_init_578 : decode prog_14_method_2_code 578 = .ok (.newarray .int, 2) := by decide +kernel
theorem d_X12_init_587 : decode prog_14_method_2_code 587 = .ok (.newarray .int, 2) := by decide +kernel
theorem d_X12_init_596 : decode prog_14_method_2_code 596 = .ok (.newarray .boolean, 2) := by decide +kernel
theorem db00d_92 : Ad_ prog_14_method_2_code [(533, .bipush 30, 2), (537, .putfield 202, 3), (540, .aload_n 0, 1), (541, .bipush 10, 2), (545, .putfield 205, 3), (548, .aload_n 0, 1), (549, .bipush 8, 2), (553, .putfield 208, 3), (556, .aload_n 0, 1), (557, .sipush 200, 3), (562, .putfield 211, 3), (565, .aload_n 0, 1), (566, .sipush 200, 3), (571, .putfield 214, 3), (574, .aload_n 0, 1), (575, .sipush 200, 3), (580, .putfield 217, 3), (583, .aload_n 0, 1), (584, .sipush 200, 3), (589, .putfield 220, 3), (592, .aload_n 0, 1), (593, .sipush 200, 3), (598, .putfield 223, 3), (601, .aload_n 0, 1)] := bch_ok prog_14_method_2_code _ 533 (by decide +kernel)
theorem d_X12_init_533 : decode prog_14_method_2_code 533 = .ok (.bipush 30, 2) := gd_0 db00d_92
theorem d_X12_init_537 : decode prog_14_method_2_code 537 = .ok (.putfield 202, 3) := gd_1 db00d_92
theorem d_X12_init_540 : decode prog_14_method_2_code 540 = .ok (.aload_n 0, 1) := gd_2 db00d_92
theorem d_X12_init_541 : decode prog_14_method_2_code 541 = .ok (.bipush 10, 2) := gd_3 db00d_92
theorem d_X12_init_545 : decode prog_14_method_2_code 545 = .ok (.putfield 205, 3) := gd_4 db00d_92
theorem d_X12_init_548 : decode prog_14_method_2_code 548 = .ok (.aload_n 0, 1) := gd_5 db00d_92
theorem d_X12_init_549 : decode prog_14_method_2_code 549 = .ok (.bipush 8, 2) := gd_6 db00d_92
theorem d_X12_init_553 : decode prog_14_method_2_code 553 = .ok (.putfield 208, 3) := gd_7 db00d_92
theorem d_X12_init_556 : decode prog_14_method_2_code 556 = .ok (.aload_n 0, 1) := gd_8 db00d_92
theorem d_X12_init_557 : decode prog_14_method_2_code 557 = .ok (.sipush 200, 3) := gd_9 db00d_92
theorem d_X12_init_562 : decode prog_14_method_2_code 562 = .ok (.putfield 211, 3) := gd_10 db00d_92
theorem d_X12_init_565 : decode prog_14_method_2_code 565 = .ok (.aload_n 0, 1) := gd_11 db00d_92
theorem d_X12_init_566 : decode prog_14_method_2_code 566 = .ok (.sipush 200, 3) := gd_12 db00d_92
theorem d_X12_init_571 : decode prog_14_method_2_code 571 = .ok (.putfield 214, 3) := gd_13 db00d_92
theorem d_X12_init_574 : decode prog_14_method_2_code 574 = .ok (.aload_n 0, 1) := gd_14 db00d_92
theorem d_X12_init_575 : decode prog_14_method_2_code 575 = .ok (.sipush 200, 3) := gd_15 db00d_92
theorem d_X12_init_580 : decode prog_14_method_2_code 580 = .ok (.putfield 217, 3) := gd_16 db00d_92
theorem d_X12_init_583 : decode prog_14_method_2_code 583 = .ok (.aload_n 0, 1) := gd_17 db00d_92
theorem d_X12_init_584 : decode prog_14_method_2_code 584 = .ok (.sipush 200, 3) := gd_18 db00d_92
theorem d_X12_init_589 : decode prog_14_method_2_code 589 = .ok (.putfield 220, 3) := gd_19 db00d_92
theorem d_X12_init_592 : decode prog_14_method_2_code 592 = .ok (.aload_n 0, 1) := gd_20 db00d_92
theorem d_X12_init_593 : decode prog_14_method_2_code 593 = .ok (.sipush 200, 3) := gd_21 db00d_92
theorem d_X12_init_598 : decode prog_14_method_2_code 598 = .ok (.putfield 223, 3) := gd_22 db00d_92
theorem d_X12_init_601 : decode prog_14_method_2_code 601 = .ok (.aload_n 0, 1) := gd_23 db00d_92
theorem d_X12_init_604 : decode prog_14_method_2_code 604 = .ok (.newarray .int, 2) := by decide +kernel
theorem d_X12_init_612 : decode prog_14_method_2_code 612 = .ok (.newarray .boolean, 2) := by decide +kernel
theorem d_X12_init_621 : decode prog_14_method_2_code 621 = .ok (.newarray .int, 2) := by decide +kernel
theorem d_X12_init_630 : decode prog_14_method_2_code 630 = .ok (.newarray .int, 2) := by decide +kernel
theorem d_X12_init_639 : decode prog_14_method_2_code 639 = .ok (.newarray .int, 2) := by decide +kernel
theorem d_X12_init_647 : decode prog_14_method_2_code 647 = .ok (.newarray .int, 2) := by decide +kernel
theorem d_X12_init_655 : decode prog_14_method_2_code 655 = .ok (.newarray .int, 2) := by decide +kernel
theorem d_X12_init_663 : decode prog_14_method_2_code 663 = .ok (.newarray .int, 2) := by decide +kernel
theorem db00d_93 : Ad_ prog_14_method_2_code [(602, .bipush 16, 2), (606, .putfield 226, 3), (609, .aload_n 0, 1), (610, .bipush 16, 2), (614, .putfield 229, 3), (617, .aload_n 0, 1), (618, .sipush 180, 3), (623, .putfield 232, 3), (626, .aload_n 0, 1), (627, .sipush 180, 3), (632, .putfield 235, 3), (635, .aload_n 0, 1), (636, .sipush 180, 3), (641, .putfield 238, 3), (644, .aload_n 0, 1), (645, .bipush 30, 2), (649, .putfield 241, 3), (652, .aload_n 0, 1), (653, .bipush 30, 2), (657, .putfield 244, 3), (660, .aload_n 0, 1), (661, .bipush 8, 2), (665, .putfield 247, 3), (668, .aload_n 0, 1)] := bch_ok prog_14_method_2_code _ 602 (by decide +kernel)
theorem d_X12_init_602 : decode prog_14_method_2_code 602 = .ok (.bipush 16, 2) := gd_0 db00d_93
theorem d_X12_init_606 : decode prog_14_method_2_code 606 = .ok (.putfield 226, 3) := gd_1 db00d_93
theorem d_X12_init_609 : decode prog_14_method_2_code 609 = .ok (.aload_n 0, 1) := gd_2 db00d_93
theorem d_X12_init_610 : decode prog_14_method_2_code 610 = .ok (.bipush 16, 2) := gd_3 db00d_93
theorem d_X12_init_614 : decode prog_14_method_2_code 614 = .ok (.putfield 229, 3) := gd_4 db00d_93
theorem d_X12_init_617 : decode prog_14_method_2_code 617 = .ok (.aload_n 0, 1) := gd_5 db00d_93
theorem d_X12_init_618 : decode prog_14_method_2_code 618 = .ok (.sipush 180, 3) := gd_6 db00d_93
theorem d_X12_init_623 : decode prog_14_method_2_code 623 = .ok (.putfield 232, 3) := gd_7 db00d_93
theorem d_X12_init_626 : decode prog_14_method_2_code 626 = .ok (.aload_n 0, 1) := gd_8 db00d_93
theorem d_X12_init_627 : decode prog_14_method_2_code 627 = .ok (.sipush 180, 3) := gd_9 db00d_93
theorem d_X12_init_632 : decode prog_14_method_2_code 632 = .ok (.putfield 235, 3) := gd_10 db00d_93
theorem d_X12_init_635 : decode prog_14_method_2_code 635 = .ok (.aload_n 0, 1) := gd_11 db00d_93
theorem d_X12_init_636 : decode prog_14_method_2_code 636 = .ok (.sipush 180, 3) := gd_12 db00d_93
theorem d_X12_init_641 : decode prog_14_method_2_code 641 = .ok (.putfield 238, 3) := gd_13 db00d_93
theorem d_X12_init_644 : decode prog_14_method_2_code 644 = .ok (.aload_n 0, 1) := gd_14 db00d_93
theorem d_X12_init_645 : decode prog_14_method_2_code 645 = .ok (.bipush 30, 2) := gd_15 db00d_93
theorem d_X12_init_649 : decode prog_14_method_2_code 649 = .ok (.putfield 241, 3) := gd_16 db00d_93
theorem d_X12_init_652 : decode prog_14_method_2_code 652 = .ok (.aload_n 0, 1) := gd_17 db00d_93
theorem d_X12_init_653 : decode prog_14_method_2_code 653 = .ok (.bipush 30, 2) := gd_18 db00d_93
theorem d_X12_init_657 : decode prog_14_method_2_code 657 = .ok (.putfield 244, 3) := gd_19 db00d_93
theorem d_X12_init_660 : decode prog_14_method_2_code 660 = .ok (.aload_n 0, 1) := gd_20 db00d_93
theorem d_X12_init_661 : decode prog_14_method_2_code 661 = .ok (.bipush 8, 2) := gd_21 db00d_93
theorem d_X12_init_665 : decode prog_14_method_2_code 665 = .ok (.putfield 247, 3) := gd_22 db00d_93
theorem d_X12_init_668 : decode prog_14_method_2_code 668 = .ok (.aload_n 0, 1) := gd_23 db00d_93
theorem d_X12_init_671 : decode prog_14_method_2_code 671 = .ok (.newarray .int, 2) := by decide +kernel
theorem d_X12_init_685 : decode prog_14_method_2_code 685 = .ok (.newarray .int, 2) := by decide +kernel
theorem d_X12_init_693 : decode prog_14_method_2_code 693 = .ok (.newarray .int, 2) := by decide +kernel
theorem d_X12_init_701 : decode prog_14_method_2_code 701 = .ok (.newarray .int, 2) := by decide +kernel
theorem d_X12_init_709 : decode prog_14_method_2_code 709 = .ok (.newarray .int, 2) := by decide +kernel
theorem d_X12_init_716 : decode prog_14_method_2_code 716 = .ok (.newarray .int, 2) := by decide +kernel
theorem d_X12_init_723 : decode prog_14_method_2_code 723 = .ok (.newarray .int, 2) := by decide +kernel
theorem db00d_94 : Ad_ prog_14_method_2_code [(669, .bipush 8, 2), (673, .putfield 250, 3), (676, .aload_n 0, 1), (677, .iconst 3, 1), (678, .putfield 253, 3), (681, .aload_n 0, 1), (682, .sipush 2304, 3), (687, .putfield 257, 3), (690, .aload_n 0, 1), (691, .bipush 8, 2), (695, .putfield 260, 3), (698, .aload_n 0, 1), (699, .bipush 8, 2), (703, .putfield 263, 3), (706, .aload_n 0, 1), (707, .bipush 8, 2), (711, .putfield 266, 3), (714, .aload_n 0, 1), (715, .iconst 5, 1), (718, .putfield 269, 3), (721, .aload_n 0, 1), (722, .iconst 5, 1), (725, .putfield 272, 3), (728, .aload_n 0, 1)] := bch_ok prog_14_method_2_code _ 669 (by decide +kernel)
theorem d_X12_init_669 : decode prog_14_method_2_code 669 = .ok (.bipush 8, 2) := gd_0 db00d_94
theorem d_X12_init_673 : decode prog_14_method_2_code 673 = .ok (.putfield 250, 3) := gd_1 db00d_94
theorem d_X12_init_676 : decode prog_14_method_2_code 676 = .ok (.aload_n 0, 1) := gd_2 db00d_94
theorem d_X12_init_677 : decode prog_14_method_2_code 677 = .ok (.iconst 3, 1) := gd_3 db00d_94
theorem d_X12_init_678 : decode prog_14_method_2_code 678 = .ok (.putfield 253, 3) := gd_4 db00d_94
theorem d_X12_init_681 : decode prog_14_method_2_code 681 = .ok (.aload_n 0, 1) := gd_5 db00d_94
theorem d_X12_init_682 : decode prog_14_method_2_code 682 = .ok (.sipush 2304, 3) := gd_6 db00d_94
theorem d_X12_init_687 : decode prog_14_method_2_code 687 = .ok (.putfield 257, 3) := gd_7 db00d_94
theorem d_X12_init_690 : decode prog_14_method_2_code 690 = .ok (.aload_n 0, 1) := gd_8 db00d_94
theorem d_X12_init_691 : decode prog_14_method_2_code 691 = .ok (.bipush 8, 2) := gd_9 db00d_94
theorem d_X12_init_695 : decode prog_14_method_2_code 695 = .ok (.putfield 260, 3) := gd_10 db00d_94
theorem d_X12_init_698 : decode prog_14_method_2_code 698 = .ok (.aload_n 0, 1) := gd_11 db00d_94
theorem d_X12_init_699 : decode prog_14_method_2_code 699 = .ok (.bipush 8, 2) := gd_12 db00d_94
theorem d_X12_init_703 : decode prog_14_method_2_code 703 = .ok (.putfield 263, 3) := gd_13 db00d_94
theorem d_X12_init_706 : decode prog_14_method_2_code 706 = .ok (.aload_n 0, 1) := gd_14 db00d_94
theorem d_X12_init_707 : decode prog_14_method_2_code 707 = .ok (.bipush 8, 2) := gd_15 db00d_94
theorem d_X12_init_711 : decode prog_14_method_2_code 711 = .ok (.putfield 266, 3) := gd_16 db00d_94
theorem d_X12_init_714 : decode prog_14_method_2_code 714 = .ok (.aload_n 0, 1) := gd_17 db00d_94
theorem d_X12_init_715 : decode prog_14_method_2_code 715 = .ok (.iconst 5, 1) := gd_18 db00d_94
theorem d_X12_init_718 : decode prog_14_method_2_code 718 = .ok (.putfield 269, 3) := gd_19 db00d_94
theorem d_X12_init_721 : decode prog_14_method_2_code 721 = .ok (.aload_n 0, 1) := gd_20 db00d_94
theorem d_X12_init_722 : decode prog_14_method_2_code 722 = .ok (.iconst 5, 1) := gd_21 db00d_94
theorem d_X12_init_725 : decode prog_14_method_2_code 725 = .ok (.putfield 272, 3) := gd_22 db00d_94
theorem d_X12_init_728 : decode prog_14_method_2_code 728 = .ok (.aload_n 0, 1) := gd_23 db00d_94
theorem d_X12_init_730 : decode prog_14_method_2_code 730 = .ok (.newarray .int, 2) := by decide +kernel
theorem d_X12_init_737 : decode prog_14_method_2_code 737 = .ok (.newarray .int, 2) := by decide +kernel
theorem d_X12_init_744 : decode prog_14_method_2_code 744 = .ok (.newarray .int, 2) := by decide +kernel
theorem d_X12_init_751 : decode prog_14_method_2_code 751 = .ok (.newarray .int, 2) := by decide +kernel
theorem d_X12_init_758 : decode prog_14_method_2_code 758 = .ok (.newarray .int, 2) := by decide +kernel
theorem d_X12_init_767 : decode prog_14_method_2_code 767 = .ok (.newarray .int, 2) := by decide +kernel
theorem d_X12_init_775 : decode prog_14_method_2_code 775 = .ok (.newarray .int, 2) := by decide +kernel
theorem d_X12_init_784 : decode prog_14_method_2_code 784 = .ok (.newarray .int, 2) := by decide +kernel
theorem db00d_95 : Ad_ prog_14_method_2_code [(729, .iconst 5, 1), (732, .putfield 275, 3), (735, .aload_n 0, 1), (736, .iconst 5, 1), (739, .putfield 278, 3), (742, .aload_n 0, 1), (743, .iconst 4, 1), (746, .putfield 281, 3), (749, .aload_n 0, 1), (750, .iconst 4, 1), (753, .putfield 284, 3), (756, .aload_n 0, 1), (757, .iconst 4, 1), (760, .putfield 287, 3), (763, .aload_n 0, 1), (764, .sipush 3328, 3), (769, .putfield 290, 3), (772, .aload_n 0, 1), (773, .bipush 48, 2), (777, .putfield 293, 3), (780, .aload_n 0, 1), (781, .sipush 372, 3), (786, .putfield 296, 3), (789, .aload_n 0, 1)] := bch_ok prog_14_method_2_code _ 729 (by decide +kernel)
theorem d_X12_init_729 : decode prog_14_method_2_code 729 = .ok (.iconst 5, 1) := gd_0 db00d_95
theorem d_X12_init_732 : decode prog_14_method_2_code 732 = .ok (.putfield 275, 3) := gd_1 db00d_95
theorem d_X12_init_735 : decode prog_14_method_2_code 735 = .ok (.aload_n 0, 1) := gd_2 db00d_95
theorem d_X12_init_736 : decode prog_14_method_2_code 736 = .ok (.iconst 5, 1) := gd_3 db00d_95
theorem d_X12_init_739 : decode prog_14_method_2_code 739 = .ok (.putfield 278, 3) := gd_4 db00d_95
theorem d_X12_init_742 : decode prog_14_method_2_code 742 = .ok (.aload_n 0, 1) := gd_5 db00d_95
theorem d_X12_init_743 : decode prog_14_method_2_code 743 = .ok (.iconst 4, 1) := gd_6 db00d_95
theorem d_X12_init_746 : decode prog_14_method_2_code 746 = .ok (.putfield 281, 3) := gd_7 db00d_95
theorem d_X12_init_749 : decode prog_14_method_2_code 749 = .ok (.aload_n 0, 1) := gd_8 db00d_95
theorem d_X12_init_750 : decode prog_14_method_2_code 750 = .ok (.iconst 4, 1) := gd_9 db00d_95
theorem d_X12_init_753 : decode prog_14_method_2_code 753 = .ok (.putfield 284, 3) := gd_10 db00d_95
theorem d_X12_init_756 : decode prog_14_method_2_code 756 = .ok (.aload_n 0, 1) := gd_11 db00d_95
theorem d_X12_init_757 : decode prog_14_method_2_code 757 = .ok (.iconst 4, 1) := gd_12 db00d_95
theorem d_X12_init_760 : decode prog_14_method_2_code 760 = .ok (.putfield 287, 3) := gd_13 db00d_95
theorem d_X12_init_763 : decode prog_14_method_2_code 763 = .ok (.aload_n 0, 1) := gd_14 db00d_95
theorem d_X12_init_764 : decode prog_14_method_2_code 764 = .ok (.sipush 3328, 3) := gd_15 db00d_95
theorem d_X12_init_769 : decode prog_14_method_2_code 769 = .ok (.putfield 290, 3) := gd_16 db00d_95
theorem d_X12_init_772 : decode prog_14_method_2_code 772 = .ok (.aload_n 0, 1) := gd_17 db00d_95
theorem d_X12_init_773 : decode prog_14_method_2_code 773 = .ok (.bipush 48, 2) := gd_18 db00d_95
theorem d_X12_init_777 : decode prog_14_method_2_code 777 = .ok (.putfield 293, 3) := gd_19 db00d_95
theorem d_X12_init_780 : decode prog_14_method_2_code 780 = .ok (.aload_n 0, 1) := gd_20 db00d_95
theorem d_X12_init_781 : decode prog_14_method_2_code 781 = .ok (.sipush 372, 3) := gd_21 db00d_95
theorem d_X12_init_786 : decode prog_14_method_2_code 786 = .ok (.putfield 296, 3) := gd_22 db00d_95
theorem d_X12_init_789 : decode prog_14_method_2_code 789 = .ok (.aload_n 0, 1) := gd_23 db00d_95
theorem d_X12_init_793 : decode prog_14_method_2_code 793 = .ok (.newarray .int, 2) := by decide +kernel
theorem d_X12_init_802 : decode prog_14_method_2_code 802 = .ok (.newarray .int, 2) := by decide +kernel
theorem d_X12_init_811 : decode prog_14_method_2_code 811 = .ok (.newarray .int, 2) := by decide +kernel
theorem d_X12_init_820 : decode prog_14_method_2_code 820 = .ok (.newarray .int, 2) := by decide +kernel
theorem d_X12_init_828 : decode prog_14_method_2_code 828 = .ok (.newarray .int, 2) := by decide +kernel
theorem d_X12_init_836 : decode prog_14_method_2_code 836 = .ok (.newarray .boolean, 2) := by decide +kernel
theorem db00d_96 : Ad_ prog_14_method_2_code [(790, .sipush 600, 3), (795, .putfield 299, 3), (798, .aload_n 0, 1), (799, .sipush 600, 3), (804, .putfield 302, 3), (807, .aload_n 0, 1), (808, .sipush 600, 3), (813, .putfield 305, 3), (816, .aload_n 0, 1), (817, .sipush 600, 3), (822, .putfield 308, 3), (825, .aload_n 0, 1), (826, .bipush 48, 2), (830, .putfield 311, 3), (833, .aload_n 0, 1), (834, .bipush 48, 2), (838, .putfield 314, 3), (841, .aload_n 0, 1), (842, .iconst 3, 1), (843, .putfield 317, 3), (846, .iconst 0, 1), (847, .istore_n 1, 1), (848, .iload_n 1, 1), (849, .bipush 8, 2)] := bch_ok prog_14_method_2_code _ 790 (by decide +kernel)
theorem d_X12_init_790 : decode prog_14_method_2_code 790 = .ok (.sipush 600, 3) := gd_0 db00d_96
theorem d_X12_init_795 : decode prog_14_method_2_code 795 = .ok (.putfield 299, 3) := gd_1 db00d_96
theorem d_X12_init_798 : decode prog_14_method_2_code 798 = .ok (.aload_n 0, 1) := gd_2 db00d_96
theorem d_X12_init_799 : decode prog_14_method_2_code 799 = .ok (.sipush 600, 3) := gd_3 db00d_96
theorem d_X12_init_804 : decode prog_14_method_2_code 804 = .ok (.putfield 302, 3) := gd_4 db00d_96
theorem d_X12_init_807 : decode prog_14_method_2_code 807 = .ok (.aload_n 0, 1) := gd_5 db00d_96
theorem d_X12_init_808 : decode prog_14_method_2_code 808 = .ok (.sipush 600, 3) := gd_6 db00d_96
theorem d_X12_init_813 : decode prog_14_method_2_code 813 = .ok (.putfield 305, 3) := gd_7 db00d_96
theorem d_X12_init_816 : decode prog_14_method_2_code 816 = .ok (.aload_n 0, 1) := gd_8 db00d_96
theorem d_X12_init_817 : decode prog_14_method_2_code 817 = .ok (.sipush 600, 3) := gd_9 db00d_96
theorem d_X12_init_822 : decode prog_14_method_2_code 822 = .ok (.putfield 308, 3) := gd_10 db00d_96
theorem d_X12_init_825 : decode prog_14_method_2_code 825 = .ok (.aload_n 0, 1) := gd_11 db00d_96
theorem d_X12_init_826 : decode prog_14_method_2_code 826 = .ok (.bipush 48, 2) := gd_12 db00d_96
theorem d_X12_init_830 : decode prog_14_method_2_code 830 = .ok (.putfield 311, 3) := gd_13 db00d_96
theorem d_X12_init_833 : decode prog_14_method_2_code 833 = .ok (.aload_n 0, 1) := gd_14 db00d_96
theorem d_X12_init_834 : decode prog_14_method_2_code 834 = .ok (.bipush 48, 2) := gd_15 db00d_96
theorem d_X12_init_838 : decode prog_14_method_2_code 838 = .ok (.putfield 314, 3) := gd_16 db00d_96
theorem d_X12_init_841 : decode prog_14_method_2_code 841 = .ok (.aload_n 0, 1) := gd_17 db00d_96
theorem d_X12_init_842 : decode prog_14_method_2_code 842 = .ok (.iconst 3, 1) := gd_18 db00d_96
theorem d_X12_init_843 : decode prog_14_method_2_code 843 = .ok (.putfield 317, 3) := gd_19 db00d_96
theorem d_X12_init_846 : decode prog_14_method_2_code 846 = .ok (.iconst 0, 1) := gd_20 db00d_96
theorem d_X12_init_847 : decode prog_14_method_2_code 847 = .ok (.istore_n 1, 1) := gd_21 db00d_96
theorem d_X12_init_848 : decode prog_14_method_2_code 848 = .ok (.iload_n 1, 1) := gd_22 db00d_96
theorem d_X12_init_849 : decode prog_14_method_2_code 849 = .ok (.bipush 8, 2) := gd_23 db00d_96
theorem db00d_97 : Ad_ prog_14_method_2_code [(851, .if_icmp .ge 16, 3), (854, .aload_n 0, 1), (855, .getfield 208, 3), (858, .iload_n 1, 1), (859, .iconst 1, 1), (860, .iastore, 1), (861, .iinc 1 1, 3), (864, .goto (-16), 3), (867, .return_, 1)] := bch_ok prog_14_method_2_code _ 851 (by decide +kernel)
theorem d_X12_init_851 : decode prog_14_method_2_code 851 = .ok (.if_icmp .ge 16, 3) := gd_0 db00d_97
theorem d_X12_init_854 : decode prog_14_method_2_code 854 = .ok (.aload_n 0, 1) := gd_1 db00d_97
theorem d_X12_init_855 : decode prog_14_method_2_code 855 = .ok (.getfield 208, 3) := gd_2 db00d_97
theorem d_X12_init_858 : decode prog_14_method_2_code 858 = .ok (.iload_n 1, 1) := gd_3 db00d_97
theorem d_X12_init_859 : decode prog_14_method_2_code 859 = .ok (.iconst 1, 1) := gd_4 db00d_97
theorem d_X12_init_860 : decode prog_14_method_2_code 860 = .ok (.iastore, 1) := gd_5 db00d_97
theorem d_X12_init_861 : decode prog_14_method_2_code 861 = .ok (.iinc 1 1, 3) := gd_6 db00d_97
theorem d_X12_init_864 : decode prog_14_method_2_code 864 = .ok (.goto (-16), 3) := gd_7 db00d_97
theorem d_X12_init_867 : decode prog_14_method_2_code 867 = .ok (.return_, 1) := gd_8 db00d_97
theorem db00d_98 : Ad_ prog_14_method_4_code [(0, .iload_n 0, 1), (1, .iconst 0, 1), (2, .bipush 15, 2), (4, .invokestatic 323, 3), (7, .ireturn, 1)] := bch_ok prog_14_method_4_code _ 0 (by decide +kernel)
theorem d_X12_isPlace_0 : decode prog_14_method_4_code 0 = .ok (.iload_n 0, 1) := gd_0 db00d_98
theorem d_X12_isPlace_1 : decode prog_14_method_4_code 1 = .ok (.iconst 0, 1) := gd_1 db00d_98
theorem d_X12_isPlace_2 : decode prog_14_method_4_code 2 = .ok (.bipush 15, 2) := gd_2 db00d_98
theorem d_X12_isPlace_4 : decode prog_14_method_4_code 4 = .ok (.invokestatic 323, 3) := gd_3 db00d_98
theorem d_X12_isPlace_7 : decode prog_14_method_4_code 7 = .ok (.ireturn, 1) := gd_4 db00d_98
theorem db00d_99 : Ad_ prog_14_method_5_code [(0, .iload_n 1, 1), (1, .invokestatic 327, 3), (4, .ifCond .eq 34, 3), (7, .iload_n 2, 1), (8, .invokestatic 327, 3), (11, .ifCond .eq 27, 3), (14, .iload_n 1, 1), (15, .iload_n 2, 1), (16, .if_icmp .eq 22, 3), (19, .iload_n 3, 1), (20, .iconst 1, 1), (21, .bipush 60, 2), (23, .invokestatic 323, 3), (26, .ifCond .eq 12, 3), (29, .aload_n 0, 1)] := bch_ok prog_14_method_5_code _ 0 (by decide +kernel)
theorem d_X12_path_0 : decode prog_14_method_5_code 0 = .ok (.iload_n 1, 1) := gd_0 db00d_99
theorem d_X12_path_1 : decode prog_14_method_5_code 1 = .ok (.invokestatic 327, 3) := gd_1 db00d_99
theorem d_X12_path_4 : decode prog_14_method_5_code 4 = .ok (.ifCond .eq 34, 3) := gd_2 db00d_99
theorem d_X12_path_7 : decode prog_14_method_5_code 7 = .ok (.iload_n 2, 1) := gd_3 db00d_99
theorem d_X12_path_8 : decode prog_14_method_5_code 8 = .ok (.invokestatic 327, 3) := gd_4 db00d_99
theorem d_X12_path_11 : decode prog_14_method_5_code 11 = .ok (.ifCond .eq 27, 3) := gd_5 db00d_99
theorem d_X12_path_14 : decode prog_14_method_5_code 14 = .ok (.iload_n 1, 1) := gd_6 db00d_99
theorem d_X12_path_15 : decode prog_14_method_5_code 15 = .ok (.iload_n 2, 1) := gd_7 db00d_99
theorem d_X12_path_16 : decode prog_14_method_5_code 16 = .ok (.if_icmp .eq 22, 3) := gd_8 db00d_99
theorem d_X12_path_19 : decode prog_14_method_5_code 19 = .ok (.iload_n 3, 1) := gd_9 db00d_99
theorem d_X12_path_20 : decode prog_14_method_5_code 20 = .ok (.iconst 1, 1) := gd_10 db00d_99
theorem d_X12_path_21 : decode prog_14_method_5_code 21 = .ok (.bipush 60, 2) := gd_11 db00d_99
theorem d_X12_path_23 : decode prog_14_method_5_code 23 = .ok (.invokestatic 323, 3) := gd_12 db00d_99
theorem d_X12_path_26 : decode prog_14_method_5_code 26 = .ok (.ifCond .eq 12, 3) := gd_13 db00d_99
theorem d_X12_path_29 : decode prog_14_method_5_code 29 = .ok (.aload_n 0, 1) := gd_14 db00d_99
