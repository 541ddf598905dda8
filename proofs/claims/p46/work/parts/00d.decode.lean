theorem db00d_0 : Pf_ prog_1_method_27_code [(13, [0x1d]), (14, [0x9d, 0x00, 0x05]), (17, [0x03]), (18, [0xac]), (19, [0x2b]), (20, [0x1c]), (21, [0xb5, 0x00, 0xd8]), (24, [0x2b]), (25, [0x2a]), (26, [0xb4, 0x00, 0x5c]), (29, [0x1d]), (30, [0x60]), (31, [0xb5, 0x00, 0xdb]), (34, [0x2a]), (35, [0x2b]), (36, [0x02]), (37, [0xb6, 0x00, 0x7a]), (40, [0x04]), (41, [0xac])] := pf_ok prog_1_method_27_code _ 13 (by decide +kernel)
theorem d_X11_setsOut_13 : decode prog_1_method_27_code 13 = .ok (.iload_n 3, 1) := gq_0 db00d_0 eb_29
theorem d_X11_setsOut_14 : decode prog_1_method_27_code 14 = .ok (.ifCond .gt 5, 3) := gq_1 db00d_0 eb_690
theorem d_X11_setsOut_17 : decode prog_1_method_27_code 17 = .ok (.iconst 0, 1) := gq_2 db00d_0 eb_21
theorem d_X11_setsOut_18 : decode prog_1_method_27_code 18 = .ok (.ireturn, 1) := gq_3 db00d_0 eb_15
theorem d_X11_setsOut_19 : decode prog_1_method_27_code 19 = .ok (.aload_n 1, 1) := gq_4 db00d_0 eb_23
theorem d_X11_setsOut_20 : decode prog_1_method_27_code 20 = .ok (.iload_n 2, 1) := gq_5 db00d_0 eb_13
theorem d_X11_setsOut_21 : decode prog_1_method_27_code 21 = .ok (.putfield 216, 3) := gq_6 db00d_0 eb_653
theorem d_X11_setsOut_24 : decode prog_1_method_27_code 24 = .ok (.aload_n 1, 1) := gq_7 db00d_0 eb_23
theorem d_X11_setsOut_25 : decode prog_1_method_27_code 25 = .ok (.aload_n 0, 1) := gq_8 db00d_0 eb_0
theorem d_X11_setsOut_26 : decode prog_1_method_27_code 26 = .ok (.getfield 92, 3) := gq_9 db00d_0 eb_605
theorem d_X11_setsOut_29 : decode prog_1_method_27_code 29 = .ok (.iload_n 3, 1) := gq_10 db00d_0 eb_29
theorem d_X11_setsOut_30 : decode prog_1_method_27_code 30 = .ok (.iadd, 1) := gq_11 db00d_0 eb_35
theorem d_X11_setsOut_31 : decode prog_1_method_27_code 31 = .ok (.putfield 219, 3) := gq_12 db00d_0 eb_650
theorem d_X11_setsOut_34 : decode prog_1_method_27_code 34 = .ok (.aload_n 0, 1) := gq_13 db00d_0 eb_0
theorem d_X11_setsOut_35 : decode prog_1_method_27_code 35 = .ok (.aload_n 1, 1) := gq_14 db00d_0 eb_23
theorem d_X11_setsOut_36 : decode prog_1_method_27_code 36 = .ok (.iconst (-1), 1) := gq_15 db00d_0 eb_26
theorem d_X11_setsOut_37 : decode prog_1_method_27_code 37 = .ok (.invokevirtual 122, 3) := gq_16 db00d_0 eb_612
theorem d_X11_setsOut_40 : decode prog_1_method_27_code 40 = .ok (.iconst 1, 1) := gq_17 db00d_0 eb_19
theorem d_X11_setsOut_41 : decode prog_1_method_27_code 41 = .ok (.ireturn, 1) := gq_18 db00d_0 eb_15
theorem db00d_1 : Pf_ prog_1_method_28_code [(0, [0x2b]), (1, [0xb4, 0x00, 0xb0]), (4, [0x2b]), (5, [0xb4, 0x00, 0xb7]), (8, [0xa2, 0x00, 0x3a]), (11, [0x2a]), (12, [0xb4, 0x00, 0x31]), (15, [0x2b]), (16, [0xb4, 0x00, 0xb0]), (19, [0x1c]), (20, [0x1d]), (21, [0x2a]), (22, [0xb4, 0x00, 0x5c]), (25, [0xb6, 0x01, 0x1c]), (28, [0x2b]), (29, [0x59]), (30, [0xb4, 0x00, 0xb0]), (33, [0x04]), (34, [0x60]), (35, [0xb5, 0x00, 0xb0]), (38, [0x1c]), (39, [0x04]), (40, [0xa0, 0x00, 0x10]), (43, [0x2b])] := pf_ok prog_1_method_28_code _ 0 (by decide +kernel)
theorem d_X11_settleRow_0 : decode prog_1_method_28_code 0 = .ok (.aload_n 1, 1) := gq_0 db00d_1 eb_23
theorem d_X11_settleRow_1 : decode prog_1_method_28_code 1 = .ok (.getfield 176, 3) := gq_1 db00d_1 eb_691
theorem d_X11_settleRow_4 : decode prog_1_method_28_code 4 = .ok (.aload_n 1, 1) := gq_2 db00d_1 eb_23
theorem d_X11_settleRow_5 : decode prog_1_method_28_code 5 = .ok (.getfield 183, 3) := gq_3 db00d_1 eb_692
theorem d_X11_settleRow_8 : decode prog_1_method_28_code 8 = .ok (.if_icmp .ge 58, 3) := gq_4 db00d_1 eb_256
theorem d_X11_settleRow_11 : decode prog_1_method_28_code 11 = .ok (.aload_n 0, 1) := gq_5 db00d_1 eb_0
theorem d_X11_settleRow_12 : decode prog_1_method_28_code 12 = .ok (.getfield 49, 3) := gq_6 db00d_1 eb_285
theorem d_X11_settleRow_15 : decode prog_1_method_28_code 15 = .ok (.aload_n 1, 1) := gq_7 db00d_1 eb_23
theorem d_X11_settleRow_16 : decode prog_1_method_28_code 16 = .ok (.getfield 176, 3) := gq_8 db00d_1 eb_691
theorem d_X11_settleRow_19 : decode prog_1_method_28_code 19 = .ok (.iload_n 2, 1) := gq_9 db00d_1 eb_13
theorem d_X11_settleRow_20 : decode prog_1_method_28_code 20 = .ok (.iload_n 3, 1) := gq_10 db00d_1 eb_29
theorem d_X11_settleRow_21 : decode prog_1_method_28_code 21 = .ok (.aload_n 0, 1) := gq_11 db00d_1 eb_0
theorem d_X11_settleRow_22 : decode prog_1_method_28_code 22 = .ok (.getfield 92, 3) := gq_12 db00d_1 eb_605
theorem d_X11_settleRow_25 : decode prog_1_method_28_code 25 = .ok (.invokevirtual 284, 3) := gq_13 db00d_1 eb_693
theorem d_X11_settleRow_28 : decode prog_1_method_28_code 28 = .ok (.aload_n 1, 1) := gq_14 db00d_1 eb_23
theorem d_X11_settleRow_29 : decode prog_1_method_28_code 29 = .ok (.dup, 1) := gq_15 db00d_1 eb_46
theorem d_X11_settleRow_30 : decode prog_1_method_28_code 30 = .ok (.getfield 176, 3) := gq_16 db00d_1 eb_691
theorem d_X11_settleRow_33 : decode prog_1_method_28_code 33 = .ok (.iconst 1, 1) := gq_17 db00d_1 eb_19
theorem d_X11_settleRow_34 : decode prog_1_method_28_code 34 = .ok (.iadd, 1) := gq_18 db00d_1 eb_35
theorem d_X11_settleRow_35 : decode prog_1_method_28_code 35 = .ok (.putfield 176, 3) := gq_19 db00d_1 eb_631
theorem d_X11_settleRow_38 : decode prog_1_method_28_code 38 = .ok (.iload_n 2, 1) := gq_20 db00d_1 eb_13
theorem d_X11_settleRow_39 : decode prog_1_method_28_code 39 = .ok (.iconst 1, 1) := gq_21 db00d_1 eb_19
theorem d_X11_settleRow_40 : decode prog_1_method_28_code 40 = .ok (.if_icmp .ne 16, 3) := gq_22 db00d_1 eb_79
theorem d_X11_settleRow_43 : decode prog_1_method_28_code 43 = .ok (.aload_n 1, 1) := gq_23 db00d_1 eb_23
theorem db00d_2 : Pf_ prog_1_method_28_code [(44, [0x59]), (45, [0xb4, 0x01, 0x1f]), (48, [0x04]), (49, [0x60]), (50, [0xb5, 0x01, 0x1f]), (53, [0xa7, 0x00, 0x0d]), (56, [0x2b]), (57, [0x59]), (58, [0xb4, 0x01, 0x22]), (61, [0x04]), (62, [0x60]), (63, [0xb5, 0x01, 0x22]), (66, [0xb1])] := pf_ok prog_1_method_28_code _ 44 (by decide +kernel)
theorem d_X11_settleRow_44 : decode prog_1_method_28_code 44 = .ok (.dup, 1) := gq_0 db00d_2 eb_46
theorem d_X11_settleRow_45 : decode prog_1_method_28_code 45 = .ok (.getfield 287, 3) := gq_1 db00d_2 eb_694
theorem d_X11_settleRow_48 : decode prog_1_method_28_code 48 = .ok (.iconst 1, 1) := gq_2 db00d_2 eb_19
theorem d_X11_settleRow_49 : decode prog_1_method_28_code 49 = .ok (.iadd, 1) := gq_3 db00d_2 eb_35
theorem d_X11_settleRow_50 : decode prog_1_method_28_code 50 = .ok (.putfield 287, 3) := gq_4 db00d_2 eb_695
theorem d_X11_settleRow_53 : decode prog_1_method_28_code 53 = .ok (.goto 13, 3) := gq_5 db00d_2 eb_139
theorem d_X11_settleRow_56 : decode prog_1_method_28_code 56 = .ok (.aload_n 1, 1) := gq_6 db00d_2 eb_23
theorem d_X11_settleRow_57 : decode prog_1_method_28_code 57 = .ok (.dup, 1) := gq_7 db00d_2 eb_46
theorem d_X11_settleRow_58 : decode prog_1_method_28_code 58 = .ok (.getfield 290, 3) := gq_8 db00d_2 eb_696
theorem d_X11_settleRow_61 : decode prog_1_method_28_code 61 = .ok (.iconst 1, 1) := gq_9 db00d_2 eb_19
theorem d_X11_settleRow_62 : decode prog_1_method_28_code 62 = .ok (.iadd, 1) := gq_10 db00d_2 eb_35
theorem d_X11_settleRow_63 : decode prog_1_method_28_code 63 = .ok (.putfield 290, 3) := gq_11 db00d_2 eb_697
theorem d_X11_settleRow_66 : decode prog_1_method_28_code 66 = .ok (.return_, 1) := gq_12 db00d_2 eb_7
theorem db00d_3 : Pf_ prog_1_method_29_code [(0, [0x2b]), (1, [0xb4, 0x00, 0x9e]), (4, [0x04]), (5, [0xa0, 0x00, 0x1e]), (8, [0x2b]), (9, [0xb6, 0x01, 0x25]), (12, [0x3e]), (13, [0x03]), (14, [0x36, 0x04]), (16, [0x15, 0x04]), (18, [0x1d]), (19, [0xa2, 0x00, 0x10]), (22, [0x2a]), (23, [0x2b]), (24, [0x05]), (25, [0x1c]), (26, [0xb6, 0x01, 0x18]), (29, [0x84, 0x04, 0x01]), (32, [0xa7, 0xff, 0xf0]), (35, [0xb1])] := pf_ok prog_1_method_29_code _ 0 (by decide +kernel)
theorem d_X11_drop_0 : decode prog_1_method_29_code 0 = .ok (.aload_n 1, 1) := gq_0 db00d_3 eb_23
theorem d_X11_drop_1 : decode prog_1_method_29_code 1 = .ok (.getfield 158, 3) := gq_1 db00d_3 eb_624
theorem d_X11_drop_4 : decode prog_1_method_29_code 4 = .ok (.iconst 1, 1) := gq_2 db00d_3 eb_19
theorem d_X11_drop_5 : decode prog_1_method_29_code 5 = .ok (.if_icmp .ne 30, 3) := gq_3 db00d_3 eb_252
theorem d_X11_drop_8 : decode prog_1_method_29_code 8 = .ok (.aload_n 1, 1) := gq_4 db00d_3 eb_23
theorem d_X11_drop_9 : decode prog_1_method_29_code 9 = .ok (.invokevirtual 293, 3) := gq_5 db00d_3 eb_698
theorem d_X11_drop_12 : decode prog_1_method_29_code 12 = .ok (.istore_n 3, 1) := gq_6 db00d_3 eb_28
theorem d_X11_drop_13 : decode prog_1_method_29_code 13 = .ok (.iconst 0, 1) := gq_7 db00d_3 eb_21
theorem d_X11_drop_14 : decode prog_1_method_29_code 14 = .ok (.istore 4, 2) := gq_8 db00d_3 eb_133
theorem d_X11_drop_16 : decode prog_1_method_29_code 16 = .ok (.iload 4, 2) := gq_9 db00d_3 eb_76
theorem d_X11_drop_18 : decode prog_1_method_29_code 18 = .ok (.iload_n 3, 1) := gq_10 db00d_3 eb_29
theorem d_X11_drop_19 : decode prog_1_method_29_code 19 = .ok (.if_icmp .ge 16, 3) := gq_11 db00d_3 eb_243
theorem d_X11_drop_22 : decode prog_1_method_29_code 22 = .ok (.aload_n 0, 1) := gq_12 db00d_3 eb_0
theorem d_X11_drop_23 : decode prog_1_method_29_code 23 = .ok (.aload_n 1, 1) := gq_13 db00d_3 eb_23
theorem d_X11_drop_24 : decode prog_1_method_29_code 24 = .ok (.iconst 2, 1) := gq_14 db00d_3 eb_10
theorem d_X11_drop_25 : decode prog_1_method_29_code 25 = .ok (.iload_n 2, 1) := gq_15 db00d_3 eb_13
theorem d_X11_drop_26 : decode prog_1_method_29_code 26 = .ok (.invokevirtual 280, 3) := gq_16 db00d_3 eb_685
theorem d_X11_drop_29 : decode prog_1_method_29_code 29 = .ok (.iinc 4 1, 3) := gq_17 db00d_3 eb_144
theorem d_X11_drop_32 : decode prog_1_method_29_code 32 = .ok (.goto (-16), 3) := gq_18 db00d_3 eb_699
theorem d_X11_drop_35 : decode prog_1_method_29_code 35 = .ok (.return_, 1) := gq_19 db00d_3 eb_7
theorem db00d_4 : Pf_ prog_1_method_30_code [(0, [0x2b]), (1, [0x05]), (2, [0xb5, 0x00, 0x9e]), (5, [0x2a]), (6, [0x2b]), (7, [0x2b]), (8, [0xb4, 0x00, 0xcc]), (11, [0xb6, 0x01, 0x12]), (14, [0x9a, 0x00, 0x11]), (17, [0x2a]), (18, [0x2b]), (19, [0x2b]), (20, [0xb4, 0x00, 0xcc]), (23, [0xb6, 0x00, 0x7a]), (26, [0x2a]), (27, [0x2b]), (28, [0xb6, 0x00, 0xe1]), (31, [0xb1])] := pf_ok prog_1_method_30_code _ 0 (by decide +kernel)
theorem d_X11_goHome_0 : decode prog_1_method_30_code 0 = .ok (.aload_n 1, 1) := gq_0 db00d_4 eb_23
theorem d_X11_goHome_1 : decode prog_1_method_30_code 1 = .ok (.iconst 2, 1) := gq_1 db00d_4 eb_10
theorem d_X11_goHome_2 : decode prog_1_method_30_code 2 = .ok (.putfield 158, 3) := gq_2 db00d_4 eb_626
theorem d_X11_goHome_5 : decode prog_1_method_30_code 5 = .ok (.aload_n 0, 1) := gq_3 db00d_4 eb_0
theorem d_X11_goHome_6 : decode prog_1_method_30_code 6 = .ok (.aload_n 1, 1) := gq_4 db00d_4 eb_23
theorem d_X11_goHome_7 : decode prog_1_method_30_code 7 = .ok (.aload_n 1, 1) := gq_5 db00d_4 eb_23
theorem d_X11_goHome_8 : decode prog_1_method_30_code 8 = .ok (.getfield 204, 3) := gq_6 db00d_4 eb_644
theorem d_X11_goHome_11 : decode prog_1_method_30_code 11 = .ok (.invokevirtual 274, 3) := gq_7 db00d_4 eb_683
theorem d_X11_goHome_14 : decode prog_1_method_30_code 14 = .ok (.ifCond .ne 17, 3) := gq_8 db00d_4 eb_700
theorem d_X11_goHome_17 : decode prog_1_method_30_code 17 = .ok (.aload_n 0, 1) := gq_9 db00d_4 eb_0
theorem d_X11_goHome_18 : decode prog_1_method_30_code 18 = .ok (.aload_n 1, 1) := gq_10 db00d_4 eb_23
theorem d_X11_goHome_19 : decode prog_1_method_30_code 19 = .ok (.aload_n 1, 1) := gq_11 db00d_4 eb_23
theorem d_X11_goHome_20 : decode prog_1_method_30_code 20 = .ok (.getfield 204, 3) := gq_12 db00d_4 eb_644
theorem d_X11_goHome_23 : decode prog_1_method_30_code 23 = .ok (.invokevirtual 122, 3) := gq_13 db00d_4 eb_612
theorem d_X11_goHome_26 : decode prog_1_method_30_code 26 = .ok (.aload_n 0, 1) := gq_14 db00d_4 eb_0
theorem d_X11_goHome_27 : decode prog_1_method_30_code 27 = .ok (.aload_n 1, 1) := gq_15 db00d_4 eb_23
theorem d_X11_goHome_28 : decode prog_1_method_30_code 28 = .ok (.invokevirtual 225, 3) := gq_16 db00d_4 eb_654
theorem d_X11_goHome_31 : decode prog_1_method_30_code 31 = .ok (.return_, 1) := gq_17 db00d_4 eb_7
theorem db00d_5 : Pf_ prog_1_method_31_code [(0, [0x2b]), (1, [0x03]), (2, [0xb5, 0x00, 0x9e]), (5, [0x2b]), (6, [0x02]), (7, [0xb5, 0x00, 0xdb]), (10, [0x2a]), (11, [0xb4, 0x00, 0x38]), (14, [0x2b]), (15, [0xb4, 0x00, 0x7e]), (18, [0x2a]), (19, [0xb4, 0x00, 0x5c]), (22, [0xb6, 0x01, 0x28]), (25, [0xb1])] := pf_ok prog_1_method_31_code _ 0 (by decide +kernel)
theorem d_X11_setFree_0 : decode prog_1_method_31_code 0 = .ok (.aload_n 1, 1) := gq_0 db00d_5 eb_23
theorem d_X11_setFree_1 : decode prog_1_method_31_code 1 = .ok (.iconst 0, 1) := gq_1 db00d_5 eb_21
theorem d_X11_setFree_2 : decode prog_1_method_31_code 2 = .ok (.putfield 158, 3) := gq_2 db00d_5 eb_626
theorem d_X11_setFree_5 : decode prog_1_method_31_code 5 = .ok (.aload_n 1, 1) := gq_3 db00d_5 eb_23
theorem d_X11_setFree_6 : decode prog_1_method_31_code 6 = .ok (.iconst (-1), 1) := gq_4 db00d_5 eb_26
theorem d_X11_setFree_7 : decode prog_1_method_31_code 7 = .ok (.putfield 219, 3) := gq_5 db00d_5 eb_650
theorem d_X11_setFree_10 : decode prog_1_method_31_code 10 = .ok (.aload_n 0, 1) := gq_6 db00d_5 eb_0
theorem d_X11_setFree_11 : decode prog_1_method_31_code 11 = .ok (.getfield 56, 3) := gq_7 db00d_5 eb_480
theorem d_X11_setFree_14 : decode prog_1_method_31_code 14 = .ok (.aload_n 1, 1) := gq_8 db00d_5 eb_23
theorem d_X11_setFree_15 : decode prog_1_method_31_code 15 = .ok (.getfield 126, 3) := gq_9 db00d_5 eb_613
theorem d_X11_setFree_18 : decode prog_1_method_31_code 18 = .ok (.aload_n 0, 1) := gq_10 db00d_5 eb_0
theorem d_X11_setFree_19 : decode prog_1_method_31_code 19 = .ok (.getfield 92, 3) := gq_11 db00d_5 eb_605
theorem d_X11_setFree_22 : decode prog_1_method_31_code 22 = .ok (.invokevirtual 296, 3) := gq_12 db00d_5 eb_701
theorem d_X11_setFree_25 : decode prog_1_method_31_code 25 = .ok (.return_, 1) := gq_13 db00d_5 eb_7
theorem db00d_6 : Pf_ prog_1_method_32_code [(0, [0x2a]), (1, [0x2b]), (2, [0x2b]), (3, [0xb4, 0x00, 0xd2]), (6, [0xb6, 0x01, 0x12]), (9, [0x99, 0x00, 0x04]), (12, [0xb1]), (13, [0x2b]), (14, [0xb4, 0x01, 0x15]), (17, [0x2b]), (18, [0xb4, 0x00, 0xd2]), (21, [0xa0, 0x00, 0x19]), (24, [0x2b]), (25, [0xb4, 0x00, 0xd5]), (28, [0x2a]), (29, [0xb4, 0x00, 0x5c]), (32, [0xa4, 0x00, 0x0e]), (35, [0x2b]), (36, [0x2b]), (37, [0xb4, 0x00, 0xd5]), (40, [0xb5, 0x00, 0xdb]), (43, [0xa7, 0x00, 0x08]), (46, [0x2a]), (47, [0x2b])] := pf_ok prog_1_method_32_code _ 0 (by decide +kernel)
theorem d_X11_serveDrawn_0 : decode prog_1_method_32_code 0 = .ok (.aload_n 0, 1) := gq_0 db00d_6 eb_0
theorem d_X11_serveDrawn_1 : decode prog_1_method_32_code 1 = .ok (.aload_n 1, 1) := gq_1 db00d_6 eb_23
theorem d_X11_serveDrawn_2 : decode prog_1_method_32_code 2 = .ok (.aload_n 1, 1) := gq_2 db00d_6 eb_23
theorem d_X11_serveDrawn_3 : decode prog_1_method_32_code 3 = .ok (.getfield 210, 3) := gq_3 db00d_6 eb_702
theorem d_X11_serveDrawn_6 : decode prog_1_method_32_code 6 = .ok (.invokevirtual 274, 3) := gq_4 db00d_6 eb_683
theorem d_X11_serveDrawn_9 : decode prog_1_method_32_code 9 = .ok (.ifCond .eq 4, 3) := gq_5 db00d_6 eb_679
theorem d_X11_serveDrawn_12 : decode prog_1_method_32_code 12 = .ok (.return_, 1) := gq_6 db00d_6 eb_7
theorem d_X11_serveDrawn_13 : decode prog_1_method_32_code 13 = .ok (.aload_n 1, 1) := gq_7 db00d_6 eb_23
theorem d_X11_serveDrawn_14 : decode prog_1_method_32_code 14 = .ok (.getfield 277, 3) := gq_8 db00d_6 eb_684
theorem d_X11_serveDrawn_17 : decode prog_1_method_32_code 17 = .ok (.aload_n 1, 1) := gq_9 db00d_6 eb_23
theorem d_X11_serveDrawn_18 : decode prog_1_method_32_code 18 = .ok (.getfield 210, 3) := gq_10 db00d_6 eb_702
theorem d_X11_serveDrawn_21 : decode prog_1_method_32_code 21 = .ok (.if_icmp .ne 25, 3) := gq_11 db00d_6 eb_71
theorem d_X11_serveDrawn_24 : decode prog_1_method_32_code 24 = .ok (.aload_n 1, 1) := gq_12 db00d_6 eb_23
theorem d_X11_serveDrawn_25 : decode prog_1_method_32_code 25 = .ok (.getfield 213, 3) := gq_13 db00d_6 eb_703
theorem d_X11_serveDrawn_28 : decode prog_1_method_32_code 28 = .ok (.aload_n 0, 1) := gq_14 db00d_6 eb_0
theorem d_X11_serveDrawn_29 : decode prog_1_method_32_code 29 = .ok (.getfield 92, 3) := gq_15 db00d_6 eb_605
theorem d_X11_serveDrawn_32 : decode prog_1_method_32_code 32 = .ok (.if_icmp .le 14, 3) := gq_16 db00d_6 eb_704
theorem d_X11_serveDrawn_35 : decode prog_1_method_32_code 35 = .ok (.aload_n 1, 1) := gq_17 db00d_6 eb_23
theorem d_X11_serveDrawn_36 : decode prog_1_method_32_code 36 = .ok (.aload_n 1, 1) := gq_18 db00d_6 eb_23
theorem d_X11_serveDrawn_37 : decode prog_1_method_32_code 37 = .ok (.getfield 213, 3) := gq_19 db00d_6 eb_703
theorem d_X11_serveDrawn_40 : decode prog_1_method_32_code 40 = .ok (.putfield 219, 3) := gq_20 db00d_6 eb_650
theorem d_X11_serveDrawn_43 : decode prog_1_method_32_code 43 = .ok (.goto 8, 3) := gq_21 db00d_6 eb_488
theorem d_X11_serveDrawn_46 : decode prog_1_method_32_code 46 = .ok (.aload_n 0, 1) := gq_22 db00d_6 eb_0
theorem d_X11_serveDrawn_47 : decode prog_1_method_32_code 47 = .ok (.aload_n 1, 1) := gq_23 db00d_6 eb_23
theorem db00d_7 : Pf_ prog_1_method_32_code [(48, [0xb6, 0x01, 0x0c]), (51, [0xb1])] := pf_ok prog_1_method_32_code _ 48 (by decide +kernel)
theorem d_X11_serveDrawn_48 : decode prog_1_method_32_code 48 = .ok (.invokevirtual 268, 3) := gq_0 db00d_7 eb_681
theorem d_X11_serveDrawn_51 : decode prog_1_method_32_code 51 = .ok (.return_, 1) := gq_1 db00d_7 eb_7
theorem d_X11_putAt_17 : decode prog_1_method_33_code 17 = .ok (.ldc2_w 300, 3) := by decide +kernel
theorem d_X11_putAt_27 : decode prog_1_method_33_code 27 = .ok (.lstore 4, 2) := by decide +kernel
theorem d_X11_putAt_34 : decode prog_1_method_33_code 34 = .ok (.ldc2_w 302, 3) := by decide +kernel
theorem d_X11_putAt_38 : decode prog_1_method_33_code 38 = .ok (.lshl, 1) := by decide +kernel
theorem d_X11_putAt_39 : decode prog_1_method_33_code 39 = .ok (.ldc2_w 304, 3) := by decide +kernel
theorem d_X11_putAt_42 : decode prog_1_method_33_code 42 = .ok (.lxor, 1) := by decide +kernel
theorem d_X11_putAt_43 : decode prog_1_method_33_code 43 = .ok (.land, 1) := by decide +kernel
theorem d_X11_putAt_44 : decode prog_1_method_33_code 44 = .ok (.lload 4, 2) := by decide +kernel
theorem d_X11_putAt_47 : decode prog_1_method_33_code 47 = .ok (.lshl, 1) := by decide +kernel
theorem d_X11_putAt_48 : decode prog_1_method_33_code 48 = .ok (.lor, 1) := by decide +kernel
theorem db00d_8 : Pf_ prog_1_method_33_code [(0, [0x2b]), (1, [0x1c]), (2, [0xb5, 0x01, 0x15]), (5, [0x08]), (6, [0x2b]), (7, [0xb4, 0x00, 0x7e]), (10, [0x68]), (11, [0x3e]), (12, [0x1c]), (13, [0x02]), (14, [0xa0, 0x00, 0x09]), (20, [0xa7, 0x00, 0x07]), (23, [0x1c]), (24, [0x04]), (25, [0x60]), (26, [0x85]), (29, [0x2a]), (30, [0x2a]), (31, [0xb4, 0x00, 0xe8]), (37, [0x1d]), (46, [0x1d]), (49, [0xb5, 0x00, 0xe8]), (52, [0xb1])] := pf_ok prog_1_method_33_code _ 0 (by decide +kernel)
theorem d_X11_putAt_0 : decode prog_1_method_33_code 0 = .ok (.aload_n 1, 1) := gq_0 db00d_8 eb_23
theorem d_X11_putAt_1 : decode prog_1_method_33_code 1 = .ok (.iload_n 2, 1) := gq_1 db00d_8 eb_13
theorem d_X11_putAt_2 : decode prog_1_method_33_code 2 = .ok (.putfield 277, 3) := gq_2 db00d_8 eb_705
theorem d_X11_putAt_5 : decode prog_1_method_33_code 5 = .ok (.iconst 5, 1) := gq_3 db00d_8 eb_122
theorem d_X11_putAt_6 : decode prog_1_method_33_code 6 = .ok (.aload_n 1, 1) := gq_4 db00d_8 eb_23
theorem d_X11_putAt_7 : decode prog_1_method_33_code 7 = .ok (.getfield 126, 3) := gq_5 db00d_8 eb_613
theorem d_X11_putAt_10 : decode prog_1_method_33_code 10 = .ok (.imul, 1) := gq_6 db00d_8 eb_34
theorem d_X11_putAt_11 : decode prog_1_method_33_code 11 = .ok (.istore_n 3, 1) := gq_7 db00d_8 eb_28
theorem d_X11_putAt_12 : decode prog_1_method_33_code 12 = .ok (.iload_n 2, 1) := gq_8 db00d_8 eb_13
theorem d_X11_putAt_13 : decode prog_1_method_33_code 13 = .ok (.iconst (-1), 1) := gq_9 db00d_8 eb_26
theorem d_X11_putAt_14 : decode prog_1_method_33_code 14 = .ok (.if_icmp .ne 9, 3) := gq_10 db00d_8 eb_158
theorem d_X11_putAt_20 : decode prog_1_method_33_code 20 = .ok (.goto 7, 3) := gq_11 db00d_8 eb_203
theorem d_X11_putAt_23 : decode prog_1_method_33_code 23 = .ok (.iload_n 2, 1) := gq_12 db00d_8 eb_13
theorem d_X11_putAt_24 : decode prog_1_method_33_code 24 = .ok (.iconst 1, 1) := gq_13 db00d_8 eb_19
theorem d_X11_putAt_25 : decode prog_1_method_33_code 25 = .ok (.iadd, 1) := gq_14 db00d_8 eb_35
theorem d_X11_putAt_26 : decode prog_1_method_33_code 26 = .ok (.i2l, 1) := gq_15 db00d_8 eb_381
theorem d_X11_putAt_29 : decode prog_1_method_33_code 29 = .ok (.aload_n 0, 1) := gq_16 db00d_8 eb_0
theorem d_X11_putAt_30 : decode prog_1_method_33_code 30 = .ok (.aload_n 0, 1) := gq_17 db00d_8 eb_0
theorem d_X11_putAt_31 : decode prog_1_method_33_code 31 = .ok (.getfield 232, 3) := gq_18 db00d_8 eb_660
theorem d_X11_putAt_37 : decode prog_1_method_33_code 37 = .ok (.iload_n 3, 1) := gq_19 db00d_8 eb_29
theorem d_X11_putAt_46 : decode prog_1_method_33_code 46 = .ok (.iload_n 3, 1) := gq_20 db00d_8 eb_29
theorem d_X11_putAt_49 : decode prog_1_method_33_code 49 = .ok (.putfield 232, 3) := gq_21 db00d_8 eb_706
theorem d_X11_putAt_52 : decode prog_1_method_33_code 52 = .ok (.return_, 1) := gq_22 db00d_8 eb_7
theorem d_X11_placeSign_22 : decode prog_1_method_34_code 22 = .ok (.laload, 1) := by decide +kernel
theorem d_X11_placeSign_30 : decode prog_1_method_34_code 30 = .ok (.lstore_n 3, 1) := by decide +kernel
theorem d_X11_placeSign_35 : decode prog_1_method_34_code 35 = .ok (.lshr, 1) := by decide +kernel
theorem d_X11_placeSign_36 : decode prog_1_method_34_code 36 = .ok (.l2i, 1) := by decide +kernel
theorem db00d_9 : Pf_ prog_1_method_34_code [(0, [0x1c]), (1, [0x2a]), (2, [0xb4, 0x00, 0x5c]), (5, [0xa2, 0x00, 0x15]), (8, [0x1c]), (9, [0x2a]), (10, [0xb4, 0x00, 0x58]), (13, [0xbe]), (14, [0xa2, 0x00, 0x0c]), (17, [0x2a]), (18, [0xb4, 0x00, 0x58]), (21, [0x1c]), (23, [0xa7, 0x00, 0x07]), (26, [0x2a]), (27, [0xb4, 0x00, 0xe8]), (31, [0x21]), (32, [0x08]), (33, [0x1b]), (34, [0x68]), (37, [0x10, 0x1f]), (39, [0x7e]), (40, [0xac])] := pf_ok prog_1_method_34_code _ 0 (by decide +kernel)
theorem d_X11_placeSign_0 : decode prog_1_method_34_code 0 = .ok (.iload_n 2, 1) := gq_0 db00d_9 eb_13
theorem d_X11_placeSign_1 : decode prog_1_method_34_code 1 = .ok (.aload_n 0, 1) := gq_1 db00d_9 eb_0
theorem d_X11_placeSign_2 : decode prog_1_method_34_code 2 = .ok (.getfield 92, 3) := gq_2 db00d_9 eb_605
theorem d_X11_placeSign_5 : decode prog_1_method_34_code 5 = .ok (.if_icmp .ge 21, 3) := gq_3 db00d_9 eb_168
theorem d_X11_placeSign_8 : decode prog_1_method_34_code 8 = .ok (.iload_n 2, 1) := gq_4 db00d_9 eb_13
theorem d_X11_placeSign_9 : decode prog_1_method_34_code 9 = .ok (.aload_n 0, 1) := gq_5 db00d_9 eb_0
theorem d_X11_placeSign_10 : decode prog_1_method_34_code 10 = .ok (.getfield 88, 3) := gq_6 db00d_9 eb_659
theorem d_X11_placeSign_13 : decode prog_1_method_34_code 13 = .ok (.arraylength, 1) := gq_7 db00d_9 eb_52
theorem d_X11_placeSign_14 : decode prog_1_method_34_code 14 = .ok (.if_icmp .ge 12, 3) := gq_8 db00d_9 eb_53
theorem d_X11_placeSign_17 : decode prog_1_method_34_code 17 = .ok (.aload_n 0, 1) := gq_9 db00d_9 eb_0
theorem d_X11_placeSign_18 : decode prog_1_method_34_code 18 = .ok (.getfield 88, 3) := gq_10 db00d_9 eb_659
theorem d_X11_placeSign_21 : decode prog_1_method_34_code 21 = .ok (.iload_n 2, 1) := gq_11 db00d_9 eb_13
theorem d_X11_placeSign_23 : decode prog_1_method_34_code 23 = .ok (.goto 7, 3) := gq_12 db00d_9 eb_203
theorem d_X11_placeSign_26 : decode prog_1_method_34_code 26 = .ok (.aload_n 0, 1) := gq_13 db00d_9 eb_0
theorem d_X11_placeSign_27 : decode prog_1_method_34_code 27 = .ok (.getfield 232, 3) := gq_14 db00d_9 eb_660
theorem d_X11_placeSign_31 : decode prog_1_method_34_code 31 = .ok (.lload_n 3, 1) := gq_15 db00d_9 eb_380
theorem d_X11_placeSign_32 : decode prog_1_method_34_code 32 = .ok (.iconst 5, 1) := gq_16 db00d_9 eb_122
theorem d_X11_placeSign_33 : decode prog_1_method_34_code 33 = .ok (.iload_n 1, 1) := gq_17 db00d_9 eb_9
theorem d_X11_placeSign_34 : decode prog_1_method_34_code 34 = .ok (.imul, 1) := gq_18 db00d_9 eb_34
theorem d_X11_placeSign_37 : decode prog_1_method_34_code 37 = .ok (.bipush 31, 2) := gq_19 db00d_9 eb_707
theorem d_X11_placeSign_39 : decode prog_1_method_34_code 39 = .ok (.iand, 1) := gq_20 db00d_9 eb_55
theorem d_X11_placeSign_40 : decode prog_1_method_34_code 40 = .ok (.ireturn, 1) := gq_21 db00d_9 eb_15
theorem d_X11_about_5 : decode prog_1_method_35_code 5 = .ok (.astore_n 3, 1) := by decide +kernel
theorem d_X11_about_20 : decode prog_1_method_35_code 20 = .ok (.athrow, 1) := by decide +kernel
theorem d_X11_about_22 : decode prog_1_method_35_code 22 = .ok (.tableswitch 107 0 8 #[50, 55, 60, 65, 70, 87, 92, 97, 102], 50) := by decide +kernel
theorem db00d_10 : Pf_ prog_1_method_35_code [(0, [0x2a]), (1, [0x1b]), (2, [0xb6, 0x00, 0x64]), (6, [0x2d]), (7, [0xc7, 0x00, 0x0e]), (10, [0xbb, 0x01, 0x32]), (13, [0x59]), (14, [0x13, 0x01, 0x34]), (17, [0xb7, 0x01, 0x36]), (21, [0x1c]), (72, [0x2d]), (73, [0xb4, 0x00, 0x9e]), (76, [0xac]), (77, [0x2d]), (78, [0xb4, 0x01, 0x15]), (81, [0xac]), (82, [0x2d]), (83, [0xb4, 0x00, 0xd8]), (86, [0xac]), (87, [0x2d]), (88, [0xb4, 0x00, 0xdb]), (91, [0xac]), (92, [0x2d]), (93, [0xb4, 0x00, 0x9e])] := pf_ok prog_1_method_35_code _ 0 (by decide +kernel)
theorem d_X11_about_0 : decode prog_1_method_35_code 0 = .ok (.aload_n 0, 1) := gq_0 db00d_10 eb_0
theorem d_X11_about_1 : decode prog_1_method_35_code 1 = .ok (.iload_n 1, 1) := gq_1 db00d_10 eb_9
theorem d_X11_about_2 : decode prog_1_method_35_code 2 = .ok (.invokevirtual 100, 3) := gq_2 db00d_10 eb_166
theorem d_X11_about_6 : decode prog_1_method_35_code 6 = .ok (.aload_n 3, 1) := gq_3 db00d_10 eb_312
theorem d_X11_about_7 : decode prog_1_method_35_code 7 = .ok (.ifnonnull 14, 3) := gq_4 db00d_10 eb_708
theorem d_X11_about_10 : decode prog_1_method_35_code 10 = .ok (.new 306, 3) := gq_5 db00d_10 eb_709
theorem d_X11_about_13 : decode prog_1_method_35_code 13 = .ok (.dup, 1) := gq_6 db00d_10 eb_46
theorem d_X11_about_14 : decode prog_1_method_35_code 14 = .ok (.ldc_w 308, 3) := gq_7 db00d_10 eb_710
theorem d_X11_about_17 : decode prog_1_method_35_code 17 = .ok (.invokespecial 310, 3) := gq_8 db00d_10 eb_711
theorem d_X11_about_21 : decode prog_1_method_35_code 21 = .ok (.iload_n 2, 1) := gq_9 db00d_10 eb_13
theorem d_X11_about_72 : decode prog_1_method_35_code 72 = .ok (.aload_n 3, 1) := gq_10 db00d_10 eb_312
theorem d_X11_about_73 : decode prog_1_method_35_code 73 = .ok (.getfield 158, 3) := gq_11 db00d_10 eb_624
theorem d_X11_about_76 : decode prog_1_method_35_code 76 = .ok (.ireturn, 1) := gq_12 db00d_10 eb_15
theorem d_X11_about_77 : decode prog_1_method_35_code 77 = .ok (.aload_n 3, 1) := gq_13 db00d_10 eb_312
theorem d_X11_about_78 : decode prog_1_method_35_code 78 = .ok (.getfield 277, 3) := gq_14 db00d_10 eb_684
theorem d_X11_about_81 : decode prog_1_method_35_code 81 = .ok (.ireturn, 1) := gq_15 db00d_10 eb_15
theorem d_X11_about_82 : decode prog_1_method_35_code 82 = .ok (.aload_n 3, 1) := gq_16 db00d_10 eb_312
theorem d_X11_about_83 : decode prog_1_method_35_code 83 = .ok (.getfield 216, 3) := gq_17 db00d_10 eb_649
theorem d_X11_about_86 : decode prog_1_method_35_code 86 = .ok (.ireturn, 1) := gq_18 db00d_10 eb_15
theorem d_X11_about_87 : decode prog_1_method_35_code 87 = .ok (.aload_n 3, 1) := gq_19 db00d_10 eb_312
theorem d_X11_about_88 : decode prog_1_method_35_code 88 = .ok (.getfield 219, 3) := gq_20 db00d_10 eb_664
theorem d_X11_about_91 : decode prog_1_method_35_code 91 = .ok (.ireturn, 1) := gq_21 db00d_10 eb_15
theorem d_X11_about_92 : decode prog_1_method_35_code 92 = .ok (.aload_n 3, 1) := gq_22 db00d_10 eb_312
theorem d_X11_about_93 : decode prog_1_method_35_code 93 = .ok (.getfield 158, 3) := gq_23 db00d_10 eb_624
theorem d_X11_about_139 : decode prog_1_method_35_code 139 = .ok (.athrow, 1) := by decide +kernel
theorem db00d_11 : Pf_ prog_1_method_35_code [(96, [0x04]), (97, [0xa0, 0x00, 0x0a]), (100, [0x2d]), (101, [0xb4, 0x00, 0xa7]), (104, [0xa7, 0x00, 0x04]), (107, [0x02]), (108, [0xac]), (109, [0x2d]), (110, [0xb4, 0x01, 0x1f]), (113, [0xac]), (114, [0x2d]), (115, [0xb4, 0x01, 0x22]), (118, [0xac]), (119, [0x2d]), (120, [0xb4, 0x01, 0x39]), (123, [0xac]), (124, [0x2d]), (125, [0xb4, 0x00, 0xcc]), (128, [0xac]), (129, [0xbb, 0x01, 0x32]), (132, [0x59]), (133, [0x13, 0x01, 0x3c]), (136, [0xb7, 0x01, 0x36])] := pf_ok prog_1_method_35_code _ 96 (by decide +kernel)
theorem d_X11_about_96 : decode prog_1_method_35_code 96 = .ok (.iconst 1, 1) := gq_0 db00d_11 eb_19
theorem d_X11_about_97 : decode prog_1_method_35_code 97 = .ok (.if_icmp .ne 10, 3) := gq_1 db00d_11 eb_259
theorem d_X11_about_100 : decode prog_1_method_35_code 100 = .ok (.aload_n 3, 1) := gq_2 db00d_11 eb_312
theorem d_X11_about_101 : decode prog_1_method_35_code 101 = .ok (.getfield 167, 3) := gq_3 db00d_11 eb_673
theorem d_X11_about_104 : decode prog_1_method_35_code 104 = .ok (.goto 4, 3) := gq_4 db00d_11 eb_20
theorem d_X11_about_107 : decode prog_1_method_35_code 107 = .ok (.iconst (-1), 1) := gq_5 db00d_11 eb_26
theorem d_X11_about_108 : decode prog_1_method_35_code 108 = .ok (.ireturn, 1) := gq_6 db00d_11 eb_15
theorem d_X11_about_109 : decode prog_1_method_35_code 109 = .ok (.aload_n 3, 1) := gq_7 db00d_11 eb_312
theorem d_X11_about_110 : decode prog_1_method_35_code 110 = .ok (.getfield 287, 3) := gq_8 db00d_11 eb_694
theorem d_X11_about_113 : decode prog_1_method_35_code 113 = .ok (.ireturn, 1) := gq_9 db00d_11 eb_15
theorem d_X11_about_114 : decode prog_1_method_35_code 114 = .ok (.aload_n 3, 1) := gq_10 db00d_11 eb_312
theorem d_X11_about_115 : decode prog_1_method_35_code 115 = .ok (.getfield 290, 3) := gq_11 db00d_11 eb_696
theorem d_X11_about_118 : decode prog_1_method_35_code 118 = .ok (.ireturn, 1) := gq_12 db00d_11 eb_15
theorem d_X11_about_119 : decode prog_1_method_35_code 119 = .ok (.aload_n 3, 1) := gq_13 db00d_11 eb_312
theorem d_X11_about_120 : decode prog_1_method_35_code 120 = .ok (.getfield 313, 3) := gq_14 db00d_11 eb_712
theorem d_X11_about_123 : decode prog_1_method_35_code 123 = .ok (.ireturn, 1) := gq_15 db00d_11 eb_15
theorem d_X11_about_124 : decode prog_1_method_35_code 124 = .ok (.aload_n 3, 1) := gq_16 db00d_11 eb_312
theorem d_X11_about_125 : decode prog_1_method_35_code 125 = .ok (.getfield 204, 3) := gq_17 db00d_11 eb_644
theorem d_X11_about_128 : decode prog_1_method_35_code 128 = .ok (.ireturn, 1) := gq_18 db00d_11 eb_15
theorem d_X11_about_129 : decode prog_1_method_35_code 129 = .ok (.new 306, 3) := gq_19 db00d_11 eb_709
theorem d_X11_about_132 : decode prog_1_method_35_code 132 = .ok (.dup, 1) := gq_20 db00d_11 eb_46
theorem d_X11_about_133 : decode prog_1_method_35_code 133 = .ok (.ldc_w 316, 3) := gq_21 db00d_11 eb_713
theorem d_X11_about_136 : decode prog_1_method_35_code 136 = .ok (.invokespecial 310, 3) := gq_22 db00d_11 eb_711
theorem db00d_12 : Pf_ prog_1_method_36_code [(0, [0x2a]), (1, [0x1b]), (2, [0xb6, 0x01, 0x3e]), (5, [0x99, 0x00, 0x0b]), (8, [0x2a]), (9, [0x1c]), (10, [0xb6, 0x01, 0x41]), (13, [0x9a, 0x00, 0x05]), (16, [0x02]), (17, [0xac]), (18, [0x2a]), (19, [0x1b]), (20, [0x1c]), (21, [0xb6, 0x01, 0x44]), (24, [0x3e]), (25, [0x1d]), (26, [0x99, 0x00, 0x09]), (29, [0x1d]), (30, [0x10, 0x11]), (32, [0xa0, 0x00, 0x07]), (35, [0x02]), (36, [0xa7, 0x00, 0x06]), (39, [0x1d]), (40, [0x04])] := pf_ok prog_1_method_36_code _ 0 (by decide +kernel)
theorem d_X11_was_0 : decode prog_1_method_36_code 0 = .ok (.aload_n 0, 1) := gq_0 db00d_12 eb_0
theorem d_X11_was_1 : decode prog_1_method_36_code 1 = .ok (.iload_n 1, 1) := gq_1 db00d_12 eb_9
theorem d_X11_was_2 : decode prog_1_method_36_code 2 = .ok (.invokevirtual 318, 3) := gq_2 db00d_12 eb_714
theorem d_X11_was_5 : decode prog_1_method_36_code 5 = .ok (.ifCond .eq 11, 3) := gq_3 db00d_12 eb_715
theorem d_X11_was_8 : decode prog_1_method_36_code 8 = .ok (.aload_n 0, 1) := gq_4 db00d_12 eb_0
theorem d_X11_was_9 : decode prog_1_method_36_code 9 = .ok (.iload_n 2, 1) := gq_5 db00d_12 eb_13
theorem d_X11_was_10 : decode prog_1_method_36_code 10 = .ok (.invokevirtual 321, 3) := gq_6 db00d_12 eb_716
theorem d_X11_was_13 : decode prog_1_method_36_code 13 = .ok (.ifCond .ne 5, 3) := gq_7 db00d_12 eb_150
theorem d_X11_was_16 : decode prog_1_method_36_code 16 = .ok (.iconst (-1), 1) := gq_8 db00d_12 eb_26
theorem d_X11_was_17 : decode prog_1_method_36_code 17 = .ok (.ireturn, 1) := gq_9 db00d_12 eb_15
theorem d_X11_was_18 : decode prog_1_method_36_code 18 = .ok (.aload_n 0, 1) := gq_10 db00d_12 eb_0
theorem d_X11_was_19 : decode prog_1_method_36_code 19 = .ok (.iload_n 1, 1) := gq_11 db00d_12 eb_9
theorem d_X11_was_20 : decode prog_1_method_36_code 20 = .ok (.iload_n 2, 1) := gq_12 db00d_12 eb_13
theorem d_X11_was_21 : decode prog_1_method_36_code 21 = .ok (.invokevirtual 324, 3) := gq_13 db00d_12 eb_717
theorem d_X11_was_24 : decode prog_1_method_36_code 24 = .ok (.istore_n 3, 1) := gq_14 db00d_12 eb_28
theorem d_X11_was_25 : decode prog_1_method_36_code 25 = .ok (.iload_n 3, 1) := gq_15 db00d_12 eb_29
theorem d_X11_was_26 : decode prog_1_method_36_code 26 = .ok (.ifCond .eq 9, 3) := gq_16 db00d_12 eb_249
theorem d_X11_was_29 : decode prog_1_method_36_code 29 = .ok (.iload_n 3, 1) := gq_17 db00d_12 eb_29
theorem d_X11_was_30 : decode prog_1_method_36_code 30 = .ok (.bipush 17, 2) := gq_18 db00d_12 eb_718
theorem d_X11_was_32 : decode prog_1_method_36_code 32 = .ok (.if_icmp .ne 7, 3) := gq_19 db00d_12 eb_135
theorem d_X11_was_35 : decode prog_1_method_36_code 35 = .ok (.iconst (-1), 1) := gq_20 db00d_12 eb_26
theorem d_X11_was_36 : decode prog_1_method_36_code 36 = .ok (.goto 6, 3) := gq_21 db00d_12 eb_719
theorem d_X11_was_39 : decode prog_1_method_36_code 39 = .ok (.iload_n 3, 1) := gq_22 db00d_12 eb_29
theorem d_X11_was_40 : decode prog_1_method_36_code 40 = .ok (.iconst 1, 1) := gq_23 db00d_12 eb_19
theorem db00d_13 : Pf_ prog_1_method_36_code [(41, [0x64]), (42, [0xac])] := pf_ok prog_1_method_36_code _ 41 (by decide +kernel)
theorem d_X11_was_41 : decode prog_1_method_36_code 41 = .ok (.isub, 1) := gq_0 db00d_13 eb_48
theorem d_X11_was_42 : decode prog_1_method_36_code 42 = .ok (.ireturn, 1) := gq_1 db00d_13 eb_15
theorem db00d_14 : Pf_ prog_1_method_37_code [(0, [0x2a]), (1, [0x1c]), (2, [0xb6, 0x01, 0x41]), (5, [0x99, 0x00, 0x1b]), (8, [0x2a]), (9, [0xb4, 0x00, 0x31]), (12, [0x1b]), (13, [0xb6, 0x01, 0x47]), (16, [0x99, 0x00, 0x10]), (19, [0x2a]), (20, [0xb4, 0x00, 0x31]), (23, [0x1b]), (24, [0x1c]), (25, [0x1d]), (26, [0xb6, 0x01, 0x48]), (29, [0xa7, 0x00, 0x04]), (32, [0x02]), (33, [0xac])] := pf_ok prog_1_method_37_code _ 0 (by decide +kernel)
theorem d_X11_point_0 : decode prog_1_method_37_code 0 = .ok (.aload_n 0, 1) := gq_0 db00d_14 eb_0
theorem d_X11_point_1 : decode prog_1_method_37_code 1 = .ok (.iload_n 2, 1) := gq_1 db00d_14 eb_13
theorem d_X11_point_2 : decode prog_1_method_37_code 2 = .ok (.invokevirtual 321, 3) := gq_2 db00d_14 eb_716
theorem d_X11_point_5 : decode prog_1_method_37_code 5 = .ok (.ifCond .eq 27, 3) := gq_3 db00d_14 eb_430
theorem d_X11_point_8 : decode prog_1_method_37_code 8 = .ok (.aload_n 0, 1) := gq_4 db00d_14 eb_0
theorem d_X11_point_9 : decode prog_1_method_37_code 9 = .ok (.getfield 49, 3) := gq_5 db00d_14 eb_285
theorem d_X11_point_12 : decode prog_1_method_37_code 12 = .ok (.iload_n 1, 1) := gq_6 db00d_14 eb_9
theorem d_X11_point_13 : decode prog_1_method_37_code 13 = .ok (.invokevirtual 327, 3) := gq_7 db00d_14 eb_720
theorem d_X11_point_16 : decode prog_1_method_37_code 16 = .ok (.ifCond .eq 16, 3) := gq_8 db00d_14 eb_136
theorem d_X11_point_19 : decode prog_1_method_37_code 19 = .ok (.aload_n 0, 1) := gq_9 db00d_14 eb_0
theorem d_X11_point_20 : decode prog_1_method_37_code 20 = .ok (.getfield 49, 3) := gq_10 db00d_14 eb_285
theorem d_X11_point_23 : decode prog_1_method_37_code 23 = .ok (.iload_n 1, 1) := gq_11 db00d_14 eb_9
theorem d_X11_point_24 : decode prog_1_method_37_code 24 = .ok (.iload_n 2, 1) := gq_12 db00d_14 eb_13
theorem d_X11_point_25 : decode prog_1_method_37_code 25 = .ok (.iload_n 3, 1) := gq_13 db00d_14 eb_29
theorem d_X11_point_26 : decode prog_1_method_37_code 26 = .ok (.invokevirtual 328, 3) := gq_14 db00d_14 eb_721
theorem d_X11_point_29 : decode prog_1_method_37_code 29 = .ok (.goto 4, 3) := gq_15 db00d_14 eb_20
theorem d_X11_point_32 : decode prog_1_method_37_code 32 = .ok (.iconst (-1), 1) := gq_16 db00d_14 eb_26
theorem d_X11_point_33 : decode prog_1_method_37_code 33 = .ok (.ireturn, 1) := gq_17 db00d_14 eb_15
theorem db00d_15 : Pf_ prog_1_method_38_code [(0, [0x2a]), (1, [0xb4, 0x00, 0x31]), (4, [0x1b]), (5, [0xb6, 0x01, 0x47]), (8, [0x99, 0x00, 0x21]), (11, [0x1c]), (12, [0x04]), (13, [0x10, 0x09]), (15, [0xb8, 0x00, 0x60]), (18, [0x99, 0x00, 0x17]), (21, [0x2a]), (22, [0xb4, 0x00, 0x31]), (25, [0x1b]), (26, [0x1c]), (27, [0x2a]), (28, [0xb4, 0x00, 0x5c]), (31, [0xb6, 0x01, 0x4b]), (34, [0x99, 0x00, 0x07]), (37, [0x04]), (38, [0xa7, 0x00, 0x04]), (41, [0x03]), (42, [0xac])] := pf_ok prog_1_method_38_code _ 0 (by decide +kernel)
theorem d_X11_cause_0 : decode prog_1_method_38_code 0 = .ok (.aload_n 0, 1) := gq_0 db00d_15 eb_0
theorem d_X11_cause_1 : decode prog_1_method_38_code 1 = .ok (.getfield 49, 3) := gq_1 db00d_15 eb_285
theorem d_X11_cause_4 : decode prog_1_method_38_code 4 = .ok (.iload_n 1, 1) := gq_2 db00d_15 eb_9
theorem d_X11_cause_5 : decode prog_1_method_38_code 5 = .ok (.invokevirtual 327, 3) := gq_3 db00d_15 eb_720
theorem d_X11_cause_8 : decode prog_1_method_38_code 8 = .ok (.ifCond .eq 33, 3) := gq_4 db00d_15 eb_448
theorem d_X11_cause_11 : decode prog_1_method_38_code 11 = .ok (.iload_n 2, 1) := gq_5 db00d_15 eb_13
theorem d_X11_cause_12 : decode prog_1_method_38_code 12 = .ok (.iconst 1, 1) := gq_6 db00d_15 eb_19
theorem d_X11_cause_13 : decode prog_1_method_38_code 13 = .ok (.bipush 9, 2) := gq_7 db00d_15 eb_287
theorem d_X11_cause_15 : decode prog_1_method_38_code 15 = .ok (.invokestatic 96, 3) := gq_8 db00d_15 eb_606
theorem d_X11_cause_18 : decode prog_1_method_38_code 18 = .ok (.ifCond .eq 23, 3) := gq_9 db00d_15 eb_204
theorem d_X11_cause_21 : decode prog_1_method_38_code 21 = .ok (.aload_n 0, 1) := gq_10 db00d_15 eb_0
theorem d_X11_cause_22 : decode prog_1_method_38_code 22 = .ok (.getfield 49, 3) := gq_11 db00d_15 eb_285
theorem d_X11_cause_25 : decode prog_1_method_38_code 25 = .ok (.iload_n 1, 1) := gq_12 db00d_15 eb_9
theorem d_X11_cause_26 : decode prog_1_method_38_code 26 = .ok (.iload_n 2, 1) := gq_13 db00d_15 eb_13
theorem d_X11_cause_27 : decode prog_1_method_38_code 27 = .ok (.aload_n 0, 1) := gq_14 db00d_15 eb_0
theorem d_X11_cause_28 : decode prog_1_method_38_code 28 = .ok (.getfield 92, 3) := gq_15 db00d_15 eb_605
theorem d_X11_cause_31 : decode prog_1_method_38_code 31 = .ok (.invokevirtual 331, 3) := gq_16 db00d_15 eb_722
theorem d_X11_cause_34 : decode prog_1_method_38_code 34 = .ok (.ifCond .eq 7, 3) := gq_17 db00d_15 eb_123
theorem d_X11_cause_37 : decode prog_1_method_38_code 37 = .ok (.iconst 1, 1) := gq_18 db00d_15 eb_19
theorem d_X11_cause_38 : decode prog_1_method_38_code 38 = .ok (.goto 4, 3) := gq_19 db00d_15 eb_20
theorem d_X11_cause_41 : decode prog_1_method_38_code 41 = .ok (.iconst 0, 1) := gq_20 db00d_15 eb_21
theorem d_X11_cause_42 : decode prog_1_method_38_code 42 = .ok (.ireturn, 1) := gq_21 db00d_15 eb_15
theorem db00d_16 : Pf_ prog_1_method_39_code [(0, [0x1b]), (1, [0x04]), (2, [0x10, 0x09]), (4, [0xb8, 0x00, 0x60]), (7, [0x99, 0x00, 0x17]), (10, [0x2a]), (11, [0x1c]), (12, [0xb6, 0x01, 0x41]), (15, [0x99, 0x00, 0x0f]), (18, [0x2a]), (19, [0xb4, 0x00, 0x31]), (22, [0x1b]), (23, [0x1c]), (24, [0xb6, 0x01, 0x4e]), (27, [0xa7, 0x00, 0x04]), (30, [0x02]), (31, [0xac])] := pf_ok prog_1_method_39_code _ 0 (by decide +kernel)
theorem d_X11_causes_0 : decode prog_1_method_39_code 0 = .ok (.iload_n 1, 1) := gq_0 db00d_16 eb_9
theorem d_X11_causes_1 : decode prog_1_method_39_code 1 = .ok (.iconst 1, 1) := gq_1 db00d_16 eb_19
theorem d_X11_causes_2 : decode prog_1_method_39_code 2 = .ok (.bipush 9, 2) := gq_2 db00d_16 eb_287
theorem d_X11_causes_4 : decode prog_1_method_39_code 4 = .ok (.invokestatic 96, 3) := gq_3 db00d_16 eb_606
theorem d_X11_causes_7 : decode prog_1_method_39_code 7 = .ok (.ifCond .eq 23, 3) := gq_4 db00d_16 eb_204
theorem d_X11_causes_10 : decode prog_1_method_39_code 10 = .ok (.aload_n 0, 1) := gq_5 db00d_16 eb_0
theorem d_X11_causes_11 : decode prog_1_method_39_code 11 = .ok (.iload_n 2, 1) := gq_6 db00d_16 eb_13
theorem d_X11_causes_12 : decode prog_1_method_39_code 12 = .ok (.invokevirtual 321, 3) := gq_7 db00d_16 eb_716
theorem d_X11_causes_15 : decode prog_1_method_39_code 15 = .ok (.ifCond .eq 15, 3) := gq_8 db00d_16 eb_294
theorem d_X11_causes_18 : decode prog_1_method_39_code 18 = .ok (.aload_n 0, 1) := gq_9 db00d_16 eb_0
theorem d_X11_causes_19 : decode prog_1_method_39_code 19 = .ok (.getfield 49, 3) := gq_10 db00d_16 eb_285
theorem d_X11_causes_22 : decode prog_1_method_39_code 22 = .ok (.iload_n 1, 1) := gq_11 db00d_16 eb_9
theorem d_X11_causes_23 : decode prog_1_method_39_code 23 = .ok (.iload_n 2, 1) := gq_12 db00d_16 eb_13
theorem d_X11_causes_24 : decode prog_1_method_39_code 24 = .ok (.invokevirtual 334, 3) := gq_13 db00d_16 eb_723
theorem d_X11_causes_27 : decode prog_1_method_39_code 27 = .ok (.goto 4, 3) := gq_14 db00d_16 eb_20
theorem d_X11_causes_30 : decode prog_1_method_39_code 30 = .ok (.iconst (-1), 1) := gq_15 db00d_16 eb_26
theorem d_X11_causes_31 : decode prog_1_method_39_code 31 = .ok (.ireturn, 1) := gq_16 db00d_16 eb_15
theorem db00d_17 : Pf_ prog_1_method_40_code [(0, [0x1b]), (1, [0x03]), (2, [0x10, 0x09]), (4, [0xb8, 0x00, 0x60]), (7, [0x99, 0x00, 0x15]), (10, [0x1c]), (11, [0xb8, 0x00, 0x6b]), (14, [0x99, 0x00, 0x0e]), (17, [0x15, 0x05]), (19, [0x04]), (20, [0x10, 0x09]), (22, [0xb8, 0x00, 0x60]), (25, [0x9a, 0x00, 0x05]), (28, [0x02]), (29, [0xac]), (30, [0x1d]), (31, [0x03]), (32, [0x11, 0x4e, 0x20]), (35, [0xb8, 0x00, 0x60]), (38, [0x99, 0x00, 0x0f]), (41, [0x15, 0x04]), (43, [0x1d]), (44, [0x11, 0x4e, 0x20]), (47, [0xb8, 0x00, 0x60])] := pf_ok prog_1_method_40_code _ 0 (by decide +kernel)
theorem d_X11_find_0 : decode prog_1_method_40_code 0 = .ok (.iload_n 1, 1) := gq_0 db00d_17 eb_9
theorem d_X11_find_1 : decode prog_1_method_40_code 1 = .ok (.iconst 0, 1) := gq_1 db00d_17 eb_21
theorem d_X11_find_2 : decode prog_1_method_40_code 2 = .ok (.bipush 9, 2) := gq_2 db00d_17 eb_287
theorem d_X11_find_4 : decode prog_1_method_40_code 4 = .ok (.invokestatic 96, 3) := gq_3 db00d_17 eb_606
theorem d_X11_find_7 : decode prog_1_method_40_code 7 = .ok (.ifCond .eq 21, 3) := gq_4 db00d_17 eb_326
theorem d_X11_find_10 : decode prog_1_method_40_code 10 = .ok (.iload_n 2, 1) := gq_5 db00d_17 eb_13
theorem d_X11_find_11 : decode prog_1_method_40_code 11 = .ok (.invokestatic 107, 3) := gq_6 db00d_17 eb_608
theorem d_X11_find_14 : decode prog_1_method_40_code 14 = .ok (.ifCond .eq 14, 3) := gq_7 db00d_17 eb_174
theorem d_X11_find_17 : decode prog_1_method_40_code 17 = .ok (.iload 5, 2) := gq_8 db00d_17 eb_125
theorem d_X11_find_19 : decode prog_1_method_40_code 19 = .ok (.iconst 1, 1) := gq_9 db00d_17 eb_19
theorem d_X11_find_20 : decode prog_1_method_40_code 20 = .ok (.bipush 9, 2) := gq_10 db00d_17 eb_287
theorem d_X11_find_22 : decode prog_1_method_40_code 22 = .ok (.invokestatic 96, 3) := gq_11 db00d_17 eb_606
theorem d_X11_find_25 : decode prog_1_method_40_code 25 = .ok (.ifCond .ne 5, 3) := gq_12 db00d_17 eb_150
theorem d_X11_find_28 : decode prog_1_method_40_code 28 = .ok (.iconst (-1), 1) := gq_13 db00d_17 eb_26
theorem d_X11_find_29 : decode prog_1_method_40_code 29 = .ok (.ireturn, 1) := gq_14 db00d_17 eb_15
theorem d_X11_find_30 : decode prog_1_method_40_code 30 = .ok (.iload_n 3, 1) := gq_15 db00d_17 eb_29
theorem d_X11_find_31 : decode prog_1_method_40_code 31 = .ok (.iconst 0, 1) := gq_16 db00d_17 eb_21
theorem d_X11_find_32 : decode prog_1_method_40_code 32 = .ok (.sipush 20000, 3) := gq_17 db00d_17 eb_656
theorem d_X11_find_35 : decode prog_1_method_40_code 35 = .ok (.invokestatic 96, 3) := gq_18 db00d_17 eb_606
theorem d_X11_find_38 : decode prog_1_method_40_code 38 = .ok (.ifCond .eq 15, 3) := gq_19 db00d_17 eb_294
theorem d_X11_find_41 : decode prog_1_method_40_code 41 = .ok (.iload 4, 2) := gq_20 db00d_17 eb_76
theorem d_X11_find_43 : decode prog_1_method_40_code 43 = .ok (.iload_n 3, 1) := gq_21 db00d_17 eb_29
theorem d_X11_find_44 : decode prog_1_method_40_code 44 = .ok (.sipush 20000, 3) := gq_22 db00d_17 eb_656
theorem d_X11_find_47 : decode prog_1_method_40_code 47 = .ok (.invokestatic 96, 3) := gq_23 db00d_17 eb_606
theorem db00d_18 : Pf_ prog_1_method_40_code [(50, [0x9a, 0x00, 0x05]), (53, [0x02]), (54, [0xac]), (55, [0x2a]), (56, [0xb4, 0x00, 0x38]), (59, [0x1b]), (60, [0x1c]), (61, [0x1d]), (62, [0x15, 0x04]), (64, [0x15, 0x05]), (66, [0xb6, 0x01, 0x51]), (69, [0xac])] := pf_ok prog_1_method_40_code _ 50 (by decide +kernel)
theorem d_X11_find_50 : decode prog_1_method_40_code 50 = .ok (.ifCond .ne 5, 3) := gq_0 db00d_18 eb_150
theorem d_X11_find_53 : decode prog_1_method_40_code 53 = .ok (.iconst (-1), 1) := gq_1 db00d_18 eb_26
theorem d_X11_find_54 : decode prog_1_method_40_code 54 = .ok (.ireturn, 1) := gq_2 db00d_18 eb_15
theorem d_X11_find_55 : decode prog_1_method_40_code 55 = .ok (.aload_n 0, 1) := gq_3 db00d_18 eb_0
theorem d_X11_find_56 : decode prog_1_method_40_code 56 = .ok (.getfield 56, 3) := gq_4 db00d_18 eb_480
theorem d_X11_find_59 : decode prog_1_method_40_code 59 = .ok (.iload_n 1, 1) := gq_5 db00d_18 eb_9
theorem d_X11_find_60 : decode prog_1_method_40_code 60 = .ok (.iload_n 2, 1) := gq_6 db00d_18 eb_13
theorem d_X11_find_61 : decode prog_1_method_40_code 61 = .ok (.iload_n 3, 1) := gq_7 db00d_18 eb_29
theorem d_X11_find_62 : decode prog_1_method_40_code 62 = .ok (.iload 4, 2) := gq_8 db00d_18 eb_76
theorem d_X11_find_64 : decode prog_1_method_40_code 64 = .ok (.iload 5, 2) := gq_9 db00d_18 eb_125
theorem d_X11_find_66 : decode prog_1_method_40_code 66 = .ok (.invokevirtual 337, 3) := gq_10 db00d_18 eb_724
theorem d_X11_find_69 : decode prog_1_method_40_code 69 = .ok (.ireturn, 1) := gq_11 db00d_18 eb_15
theorem db00d_19 : Pf_ prog_1_method_41_code [(0, [0x1b]), (1, [0x03]), (2, [0x10, 0x1e]), (4, [0xb8, 0x00, 0x60]), (7, [0x99, 0x00, 0x0f]), (10, [0x2a]), (11, [0xb4, 0x00, 0x13]), (14, [0x04]), (15, [0xb6, 0x00, 0x8c]), (18, [0x02]), (19, [0x9f, 0x00, 0x05]), (22, [0x02]), (23, [0xac]), (24, [0x2a]), (25, [0x2a]), (26, [0xb4, 0x00, 0x21]), (29, [0x1b]), (30, [0xb6, 0x01, 0x54]), (33, [0xac])] := pf_ok prog_1_method_41_code _ 0 (by decide +kernel)
theorem d_X11_act_0 : decode prog_1_method_41_code 0 = .ok (.iload_n 1, 1) := gq_0 db00d_19 eb_9
theorem d_X11_act_1 : decode prog_1_method_41_code 1 = .ok (.iconst 0, 1) := gq_1 db00d_19 eb_21
theorem d_X11_act_2 : decode prog_1_method_41_code 2 = .ok (.bipush 30, 2) := gq_2 db00d_19 eb_92
theorem d_X11_act_4 : decode prog_1_method_41_code 4 = .ok (.invokestatic 96, 3) := gq_3 db00d_19 eb_606
theorem d_X11_act_7 : decode prog_1_method_41_code 7 = .ok (.ifCond .eq 15, 3) := gq_4 db00d_19 eb_294
theorem d_X11_act_10 : decode prog_1_method_41_code 10 = .ok (.aload_n 0, 1) := gq_5 db00d_19 eb_0
theorem d_X11_act_11 : decode prog_1_method_41_code 11 = .ok (.getfield 19, 3) := gq_6 db00d_19 eb_614
theorem d_X11_act_14 : decode prog_1_method_41_code 14 = .ok (.iconst 1, 1) := gq_7 db00d_19 eb_19
theorem d_X11_act_15 : decode prog_1_method_41_code 15 = .ok (.invokevirtual 140, 3) := gq_8 db00d_19 eb_402
theorem d_X11_act_18 : decode prog_1_method_41_code 18 = .ok (.iconst (-1), 1) := gq_9 db00d_19 eb_26
theorem d_X11_act_19 : decode prog_1_method_41_code 19 = .ok (.if_icmp .eq 5, 3) := gq_10 db00d_19 eb_120
theorem d_X11_act_22 : decode prog_1_method_41_code 22 = .ok (.iconst (-1), 1) := gq_11 db00d_19 eb_26
theorem d_X11_act_23 : decode prog_1_method_41_code 23 = .ok (.ireturn, 1) := gq_12 db00d_19 eb_15
theorem d_X11_act_24 : decode prog_1_method_41_code 24 = .ok (.aload_n 0, 1) := gq_13 db00d_19 eb_0
theorem d_X11_act_25 : decode prog_1_method_41_code 25 = .ok (.aload_n 0, 1) := gq_14 db00d_19 eb_0
theorem d_X11_act_26 : decode prog_1_method_41_code 26 = .ok (.getfield 33, 3) := gq_15 db00d_19 eb_109
theorem d_X11_act_29 : decode prog_1_method_41_code 29 = .ok (.iload_n 1, 1) := gq_16 db00d_19 eb_9
theorem d_X11_act_30 : decode prog_1_method_41_code 30 = .ok (.invokevirtual 340, 3) := gq_17 db00d_19 eb_725
theorem d_X11_act_33 : decode prog_1_method_41_code 33 = .ok (.ireturn, 1) := gq_18 db00d_19 eb_15
theorem db00d_20 : Pf_ prog_1_method_42_code [(0, [0x2b]), (1, [0x1c]), (2, [0x2a]), (3, [0xb4, 0x00, 0x5c]), (6, [0x2a]), (7, [0xb4, 0x00, 0x13]), (10, [0xb6, 0x01, 0x58]), (13, [0x3e]), (14, [0x1d]), (15, [0x02]), (16, [0x9f, 0x00, 0x0c]), (19, [0x2a]), (20, [0xb4, 0x00, 0x13]), (23, [0x03]), (24, [0xb6, 0x00, 0x85]), (27, [0x57]), (28, [0x1d]), (29, [0xac])] := pf_ok prog_1_method_42_code _ 0 (by decide +kernel)
theorem d_X11_keepRule_0 : decode prog_1_method_42_code 0 = .ok (.aload_n 1, 1) := gq_0 db00d_20 eb_23
theorem d_X11_keepRule_1 : decode prog_1_method_42_code 1 = .ok (.iload_n 2, 1) := gq_1 db00d_20 eb_13
theorem d_X11_keepRule_2 : decode prog_1_method_42_code 2 = .ok (.aload_n 0, 1) := gq_2 db00d_20 eb_0
theorem d_X11_keepRule_3 : decode prog_1_method_42_code 3 = .ok (.getfield 92, 3) := gq_3 db00d_20 eb_605
theorem d_X11_keepRule_6 : decode prog_1_method_42_code 6 = .ok (.aload_n 0, 1) := gq_4 db00d_20 eb_0
theorem d_X11_keepRule_7 : decode prog_1_method_42_code 7 = .ok (.getfield 19, 3) := gq_5 db00d_20 eb_614
theorem d_X11_keepRule_10 : decode prog_1_method_42_code 10 = .ok (.invokevirtual 344, 3) := gq_6 db00d_20 eb_726
theorem d_X11_keepRule_13 : decode prog_1_method_42_code 13 = .ok (.istore_n 3, 1) := gq_7 db00d_20 eb_28
theorem d_X11_keepRule_14 : decode prog_1_method_42_code 14 = .ok (.iload_n 3, 1) := gq_8 db00d_20 eb_29
theorem d_X11_keepRule_15 : decode prog_1_method_42_code 15 = .ok (.iconst (-1), 1) := gq_9 db00d_20 eb_26
theorem d_X11_keepRule_16 : decode prog_1_method_42_code 16 = .ok (.if_icmp .eq 12, 3) := gq_10 db00d_20 eb_531
theorem d_X11_keepRule_19 : decode prog_1_method_42_code 19 = .ok (.aload_n 0, 1) := gq_11 db00d_20 eb_0
theorem d_X11_keepRule_20 : decode prog_1_method_42_code 20 = .ok (.getfield 19, 3) := gq_12 db00d_20 eb_614
theorem d_X11_keepRule_23 : decode prog_1_method_42_code 23 = .ok (.iconst 0, 1) := gq_13 db00d_20 eb_21
theorem d_X11_keepRule_24 : decode prog_1_method_42_code 24 = .ok (.invokevirtual 133, 3) := gq_14 db00d_20 eb_616
theorem d_X11_keepRule_27 : decode prog_1_method_42_code 27 = .ok (.pop, 1) := gq_15 db00d_20 eb_466
theorem d_X11_keepRule_28 : decode prog_1_method_42_code 28 = .ok (.iload_n 3, 1) := gq_16 db00d_20 eb_29
theorem d_X11_keepRule_29 : decode prog_1_method_42_code 29 = .ok (.ireturn, 1) := gq_17 db00d_20 eb_15
theorem db00d_21 : Pf_ prog_1_method_43_code [(0, [0x1b]), (1, [0x03]), (2, [0x10, 0x1e]), (4, [0xb8, 0x00, 0x60]), (7, [0x99, 0x00, 0x17]), (10, [0x2a]), (11, [0x1c]), (12, [0xb6, 0x01, 0x41]), (15, [0x99, 0x00, 0x0f]), (18, [0x2a]), (19, [0xb4, 0x00, 0x21]), (22, [0x1b]), (23, [0x1c]), (24, [0xb6, 0x01, 0x5b]), (27, [0xa7, 0x00, 0x04]), (30, [0x02]), (31, [0xac])] := pf_ok prog_1_method_43_code _ 0 (by decide +kernel)
theorem d_X11_force_0 : decode prog_1_method_43_code 0 = .ok (.iload_n 1, 1) := gq_0 db00d_21 eb_9
theorem d_X11_force_1 : decode prog_1_method_43_code 1 = .ok (.iconst 0, 1) := gq_1 db00d_21 eb_21
theorem d_X11_force_2 : decode prog_1_method_43_code 2 = .ok (.bipush 30, 2) := gq_2 db00d_21 eb_92
theorem d_X11_force_4 : decode prog_1_method_43_code 4 = .ok (.invokestatic 96, 3) := gq_3 db00d_21 eb_606
theorem d_X11_force_7 : decode prog_1_method_43_code 7 = .ok (.ifCond .eq 23, 3) := gq_4 db00d_21 eb_204
theorem d_X11_force_10 : decode prog_1_method_43_code 10 = .ok (.aload_n 0, 1) := gq_5 db00d_21 eb_0
theorem d_X11_force_11 : decode prog_1_method_43_code 11 = .ok (.iload_n 2, 1) := gq_6 db00d_21 eb_13
theorem d_X11_force_12 : decode prog_1_method_43_code 12 = .ok (.invokevirtual 321, 3) := gq_7 db00d_21 eb_716
theorem d_X11_force_15 : decode prog_1_method_43_code 15 = .ok (.ifCond .eq 15, 3) := gq_8 db00d_21 eb_294
theorem d_X11_force_18 : decode prog_1_method_43_code 18 = .ok (.aload_n 0, 1) := gq_9 db00d_21 eb_0
theorem d_X11_force_19 : decode prog_1_method_43_code 19 = .ok (.getfield 33, 3) := gq_10 db00d_21 eb_109
theorem d_X11_force_22 : decode prog_1_method_43_code 22 = .ok (.iload_n 1, 1) := gq_11 db00d_21 eb_9
theorem d_X11_force_23 : decode prog_1_method_43_code 23 = .ok (.iload_n 2, 1) := gq_12 db00d_21 eb_13
theorem d_X11_force_24 : decode prog_1_method_43_code 24 = .ok (.invokevirtual 347, 3) := gq_13 db00d_21 eb_727
theorem d_X11_force_27 : decode prog_1_method_43_code 27 = .ok (.goto 4, 3) := gq_14 db00d_21 eb_20
theorem d_X11_force_30 : decode prog_1_method_43_code 30 = .ok (.iconst (-1), 1) := gq_15 db00d_21 eb_26
theorem d_X11_force_31 : decode prog_1_method_43_code 31 = .ok (.ireturn, 1) := gq_16 db00d_21 eb_15
theorem db00d_22 : Pf_ prog_1_method_44_code [(0, [0x03]), (1, [0x3d]), (2, [0x1c]), (3, [0x2a]), (4, [0xb4, 0x00, 0x38]), (7, [0xb4, 0x01, 0x5e]), (10, [0xa2, 0x00, 0x22]), (13, [0x2a]), (14, [0xb4, 0x00, 0x38]), (17, [0x1c]), (18, [0x2b]), (19, [0xb4, 0x01, 0x15]), (22, [0x2a]), (23, [0xb4, 0x00, 0x5c]), (26, [0xb6, 0x01, 0x61]), (29, [0x99, 0x00, 0x09]), (32, [0x2a]), (33, [0x2b]), (34, [0x1c]), (35, [0xb6, 0x01, 0x64]), (38, [0x84, 0x02, 0x01]), (41, [0xa7, 0xff, 0xd9]), (44, [0xb1])] := pf_ok prog_1_method_44_code _ 0 (by decide +kernel)
theorem d_X11_look_0 : decode prog_1_method_44_code 0 = .ok (.iconst 0, 1) := gq_0 db00d_22 eb_21
theorem d_X11_look_1 : decode prog_1_method_44_code 1 = .ok (.istore_n 2, 1) := gq_1 db00d_22 eb_27
theorem d_X11_look_2 : decode prog_1_method_44_code 2 = .ok (.iload_n 2, 1) := gq_2 db00d_22 eb_13
theorem d_X11_look_3 : decode prog_1_method_44_code 3 = .ok (.aload_n 0, 1) := gq_3 db00d_22 eb_0
theorem d_X11_look_4 : decode prog_1_method_44_code 4 = .ok (.getfield 56, 3) := gq_4 db00d_22 eb_480
theorem d_X11_look_7 : decode prog_1_method_44_code 7 = .ok (.getfield 350, 3) := gq_5 db00d_22 eb_728
theorem d_X11_look_10 : decode prog_1_method_44_code 10 = .ok (.if_icmp .ge 34, 3) := gq_6 db00d_22 eb_427
theorem d_X11_look_13 : decode prog_1_method_44_code 13 = .ok (.aload_n 0, 1) := gq_7 db00d_22 eb_0
theorem d_X11_look_14 : decode prog_1_method_44_code 14 = .ok (.getfield 56, 3) := gq_8 db00d_22 eb_480
theorem d_X11_look_17 : decode prog_1_method_44_code 17 = .ok (.iload_n 2, 1) := gq_9 db00d_22 eb_13
theorem d_X11_look_18 : decode prog_1_method_44_code 18 = .ok (.aload_n 1, 1) := gq_10 db00d_22 eb_23
theorem d_X11_look_19 : decode prog_1_method_44_code 19 = .ok (.getfield 277, 3) := gq_11 db00d_22 eb_684
theorem d_X11_look_22 : decode prog_1_method_44_code 22 = .ok (.aload_n 0, 1) := gq_12 db00d_22 eb_0
theorem d_X11_look_23 : decode prog_1_method_44_code 23 = .ok (.getfield 92, 3) := gq_13 db00d_22 eb_605
theorem d_X11_look_26 : decode prog_1_method_44_code 26 = .ok (.invokevirtual 353, 3) := gq_14 db00d_22 eb_729
theorem d_X11_look_29 : decode prog_1_method_44_code 29 = .ok (.ifCond .eq 9, 3) := gq_15 db00d_22 eb_249
theorem d_X11_look_32 : decode prog_1_method_44_code 32 = .ok (.aload_n 0, 1) := gq_16 db00d_22 eb_0
theorem d_X11_look_33 : decode prog_1_method_44_code 33 = .ok (.aload_n 1, 1) := gq_17 db00d_22 eb_23
theorem d_X11_look_34 : decode prog_1_method_44_code 34 = .ok (.iload_n 2, 1) := gq_18 db00d_22 eb_13
theorem d_X11_look_35 : decode prog_1_method_44_code 35 = .ok (.invokevirtual 356, 3) := gq_19 db00d_22 eb_730
theorem d_X11_look_38 : decode prog_1_method_44_code 38 = .ok (.iinc 2 1, 3) := gq_20 db00d_22 eb_41
theorem d_X11_look_41 : decode prog_1_method_44_code 41 = .ok (.goto (-39), 3) := gq_21 db00d_22 eb_332
theorem d_X11_look_44 : decode prog_1_method_44_code 44 = .ok (.return_, 1) := gq_22 db00d_22 eb_7
theorem db00d_23 : Pf_ prog_1_method_45_code [(0, [0x2a]), (1, [0xb4, 0x00, 0x5c]), (4, [0x11, 0x05, 0xa0]), (7, [0x6c]), (8, [0x3e]), (9, [0x2a]), (10, [0xb4, 0x00, 0x38]), (13, [0x2b]), (14, [0xb4, 0x00, 0x7e]), (17, [0x1c]), (18, [0x2a]), (19, [0xb4, 0x00, 0x5c]), (22, [0xb6, 0x01, 0x67]), (25, [0x36, 0x04]), (27, [0x2a]), (28, [0xb4, 0x00, 0x38]), (31, [0x15, 0x04]), (33, [0x08]), (34, [0x2a]), (35, [0xb4, 0x00, 0x54]), (38, [0x2b]), (39, [0x1d]), (40, [0x2a]), (41, [0xb4, 0x00, 0x5c])] := pf_ok prog_1_method_45_code _ 0 (by decide +kernel)
theorem d_X11_see_0 : decode prog_1_method_45_code 0 = .ok (.aload_n 0, 1) := gq_0 db00d_23 eb_0
theorem d_X11_see_1 : decode prog_1_method_45_code 1 = .ok (.getfield 92, 3) := gq_1 db00d_23 eb_605
theorem d_X11_see_4 : decode prog_1_method_45_code 4 = .ok (.sipush 1440, 3) := gq_2 db00d_23 eb_289
theorem d_X11_see_7 : decode prog_1_method_45_code 7 = .ok (.idiv, 1) := gq_3 db00d_23 eb_219
theorem d_X11_see_8 : decode prog_1_method_45_code 8 = .ok (.istore_n 3, 1) := gq_4 db00d_23 eb_28
theorem d_X11_see_9 : decode prog_1_method_45_code 9 = .ok (.aload_n 0, 1) := gq_5 db00d_23 eb_0
theorem d_X11_see_10 : decode prog_1_method_45_code 10 = .ok (.getfield 56, 3) := gq_6 db00d_23 eb_480
theorem d_X11_see_13 : decode prog_1_method_45_code 13 = .ok (.aload_n 1, 1) := gq_7 db00d_23 eb_23
theorem d_X11_see_14 : decode prog_1_method_45_code 14 = .ok (.getfield 126, 3) := gq_8 db00d_23 eb_613
theorem d_X11_see_17 : decode prog_1_method_45_code 17 = .ok (.iload_n 2, 1) := gq_9 db00d_23 eb_13
theorem d_X11_see_18 : decode prog_1_method_45_code 18 = .ok (.aload_n 0, 1) := gq_10 db00d_23 eb_0
theorem d_X11_see_19 : decode prog_1_method_45_code 19 = .ok (.getfield 92, 3) := gq_11 db00d_23 eb_605
theorem d_X11_see_22 : decode prog_1_method_45_code 22 = .ok (.invokevirtual 359, 3) := gq_12 db00d_23 eb_731
theorem d_X11_see_25 : decode prog_1_method_45_code 25 = .ok (.istore 4, 2) := gq_13 db00d_23 eb_133
theorem d_X11_see_27 : decode prog_1_method_45_code 27 = .ok (.aload_n 0, 1) := gq_14 db00d_23 eb_0
theorem d_X11_see_28 : decode prog_1_method_45_code 28 = .ok (.getfield 56, 3) := gq_15 db00d_23 eb_480
theorem d_X11_see_31 : decode prog_1_method_45_code 31 = .ok (.iload 4, 2) := gq_16 db00d_23 eb_76
theorem d_X11_see_33 : decode prog_1_method_45_code 33 = .ok (.iconst 5, 1) := gq_17 db00d_23 eb_122
theorem d_X11_see_34 : decode prog_1_method_45_code 34 = .ok (.aload_n 0, 1) := gq_18 db00d_23 eb_0
theorem d_X11_see_35 : decode prog_1_method_45_code 35 = .ok (.getfield 84, 3) := gq_19 db00d_23 eb_732
theorem d_X11_see_38 : decode prog_1_method_45_code 38 = .ok (.aload_n 1, 1) := gq_20 db00d_23 eb_23
theorem d_X11_see_39 : decode prog_1_method_45_code 39 = .ok (.iload_n 3, 1) := gq_21 db00d_23 eb_29
theorem d_X11_see_40 : decode prog_1_method_45_code 40 = .ok (.aload_n 0, 1) := gq_22 db00d_23 eb_0
theorem d_X11_see_41 : decode prog_1_method_45_code 41 = .ok (.getfield 92, 3) := gq_23 db00d_23 eb_605
theorem db00d_24 : Pf_ prog_1_method_45_code [(44, [0xb6, 0x01, 0x69]), (47, [0xb6, 0x01, 0x6d]), (50, [0x2a]), (51, [0xb4, 0x00, 0x38]), (54, [0x15, 0x04]), (56, [0x10, 0x06]), (58, [0x2a]), (59, [0x2b]), (60, [0xb4, 0x01, 0x15]), (63, [0xb6, 0x01, 0x71]), (66, [0xb6, 0x01, 0x6d]), (69, [0x2a]), (70, [0xb4, 0x00, 0x21]), (73, [0x2a]), (74, [0xb4, 0x00, 0x21]), (77, [0x1d]), (78, [0x2a]), (79, [0xb4, 0x00, 0x5c]), (82, [0xb6, 0x01, 0x5b]), (85, [0x2a]), (86, [0xb4, 0x00, 0x38]), (89, [0xb4, 0x01, 0x74]), (92, [0x15, 0x04]), (94, [0x13, 0x01, 0x78])] := pf_ok prog_1_method_45_code _ 44 (by decide +kernel)
theorem d_X11_see_44 : decode prog_1_method_45_code 44 = .ok (.invokevirtual 361, 3) := gq_0 db00d_24 eb_733
theorem d_X11_see_47 : decode prog_1_method_45_code 47 = .ok (.invokevirtual 365, 3) := gq_1 db00d_24 eb_734
theorem d_X11_see_50 : decode prog_1_method_45_code 50 = .ok (.aload_n 0, 1) := gq_2 db00d_24 eb_0
theorem d_X11_see_51 : decode prog_1_method_45_code 51 = .ok (.getfield 56, 3) := gq_3 db00d_24 eb_480
theorem d_X11_see_54 : decode prog_1_method_45_code 54 = .ok (.iload 4, 2) := gq_4 db00d_24 eb_76
theorem d_X11_see_56 : decode prog_1_method_45_code 56 = .ok (.bipush 6, 2) := gq_5 db00d_24 eb_14
theorem d_X11_see_58 : decode prog_1_method_45_code 58 = .ok (.aload_n 0, 1) := gq_6 db00d_24 eb_0
theorem d_X11_see_59 : decode prog_1_method_45_code 59 = .ok (.aload_n 1, 1) := gq_7 db00d_24 eb_23
theorem d_X11_see_60 : decode prog_1_method_45_code 60 = .ok (.getfield 277, 3) := gq_8 db00d_24 eb_684
theorem d_X11_see_63 : decode prog_1_method_45_code 63 = .ok (.invokevirtual 369, 3) := gq_9 db00d_24 eb_735
theorem d_X11_see_66 : decode prog_1_method_45_code 66 = .ok (.invokevirtual 365, 3) := gq_10 db00d_24 eb_734
theorem d_X11_see_69 : decode prog_1_method_45_code 69 = .ok (.aload_n 0, 1) := gq_11 db00d_24 eb_0
theorem d_X11_see_70 : decode prog_1_method_45_code 70 = .ok (.getfield 33, 3) := gq_12 db00d_24 eb_109
theorem d_X11_see_73 : decode prog_1_method_45_code 73 = .ok (.aload_n 0, 1) := gq_13 db00d_24 eb_0
theorem d_X11_see_74 : decode prog_1_method_45_code 74 = .ok (.getfield 33, 3) := gq_14 db00d_24 eb_109
theorem d_X11_see_77 : decode prog_1_method_45_code 77 = .ok (.iload_n 3, 1) := gq_15 db00d_24 eb_29
theorem d_X11_see_78 : decode prog_1_method_45_code 78 = .ok (.aload_n 0, 1) := gq_16 db00d_24 eb_0
theorem d_X11_see_79 : decode prog_1_method_45_code 79 = .ok (.getfield 92, 3) := gq_17 db00d_24 eb_605
theorem d_X11_see_82 : decode prog_1_method_45_code 82 = .ok (.invokevirtual 347, 3) := gq_18 db00d_24 eb_727
theorem d_X11_see_85 : decode prog_1_method_45_code 85 = .ok (.aload_n 0, 1) := gq_19 db00d_24 eb_0
theorem d_X11_see_86 : decode prog_1_method_45_code 86 = .ok (.getfield 56, 3) := gq_20 db00d_24 eb_480
theorem d_X11_see_89 : decode prog_1_method_45_code 89 = .ok (.getfield 372, 3) := gq_21 db00d_24 eb_736
theorem d_X11_see_92 : decode prog_1_method_45_code 92 = .ok (.iload 4, 2) := gq_22 db00d_24 eb_76
theorem d_X11_see_94 : decode prog_1_method_45_code 94 = .ok (.ldc_w 376, 3) := gq_23 db00d_24 eb_737
theorem db00d_25 : Pf_ prog_1_method_45_code [(97, [0xb6, 0x01, 0x7a]), (100, [0x68]), (101, [0xb6, 0x01, 0x7f]), (104, [0x36, 0x05]), (106, [0x15, 0x05]), (108, [0x06]), (109, [0xa0, 0x00, 0x19]), (112, [0x2a]), (113, [0xb4, 0x00, 0x3f]), (116, [0x2a]), (117, [0xb4, 0x00, 0x38]), (120, [0x1c]), (121, [0xb6, 0x01, 0x83]), (124, [0x2a]), (125, [0xb4, 0x00, 0x5c]), (128, [0xb6, 0x01, 0x84]), (131, [0xa7, 0x00, 0x04]), (134, [0x02]), (135, [0x36, 0x06]), (137, [0x2a]), (138, [0xb4, 0x00, 0x38]), (141, [0x15, 0x04]), (143, [0x15, 0x05]), (145, [0x15, 0x06])] := pf_ok prog_1_method_45_code _ 97 (by decide +kernel)
theorem d_X11_see_97 : decode prog_1_method_45_code 97 = .ok (.invokevirtual 378, 3) := gq_0 db00d_25 eb_738
theorem d_X11_see_100 : decode prog_1_method_45_code 100 = .ok (.imul, 1) := gq_1 db00d_25 eb_34
theorem d_X11_see_101 : decode prog_1_method_45_code 101 = .ok (.invokevirtual 383, 3) := gq_2 db00d_25 eb_739
theorem d_X11_see_104 : decode prog_1_method_45_code 104 = .ok (.istore 5, 2) := gq_3 db00d_25 eb_134
theorem d_X11_see_106 : decode prog_1_method_45_code 106 = .ok (.iload 5, 2) := gq_4 db00d_25 eb_125
theorem d_X11_see_108 : decode prog_1_method_45_code 108 = .ok (.iconst 3, 1) := gq_5 db00d_25 eb_54
theorem d_X11_see_109 : decode prog_1_method_45_code 109 = .ok (.if_icmp .ne 25, 3) := gq_6 db00d_25 eb_71
theorem d_X11_see_112 : decode prog_1_method_45_code 112 = .ok (.aload_n 0, 1) := gq_7 db00d_25 eb_0
theorem d_X11_see_113 : decode prog_1_method_45_code 113 = .ok (.getfield 63, 3) := gq_8 db00d_25 eb_276
theorem d_X11_see_116 : decode prog_1_method_45_code 116 = .ok (.aload_n 0, 1) := gq_9 db00d_25 eb_0
theorem d_X11_see_117 : decode prog_1_method_45_code 117 = .ok (.getfield 56, 3) := gq_10 db00d_25 eb_480
theorem d_X11_see_120 : decode prog_1_method_45_code 120 = .ok (.iload_n 2, 1) := gq_11 db00d_25 eb_13
theorem d_X11_see_121 : decode prog_1_method_45_code 121 = .ok (.invokevirtual 387, 3) := gq_12 db00d_25 eb_740
theorem d_X11_see_124 : decode prog_1_method_45_code 124 = .ok (.aload_n 0, 1) := gq_13 db00d_25 eb_0
theorem d_X11_see_125 : decode prog_1_method_45_code 125 = .ok (.getfield 92, 3) := gq_14 db00d_25 eb_605
theorem d_X11_see_128 : decode prog_1_method_45_code 128 = .ok (.invokevirtual 388, 3) := gq_15 db00d_25 eb_741
theorem d_X11_see_131 : decode prog_1_method_45_code 131 = .ok (.goto 4, 3) := gq_16 db00d_25 eb_20
theorem d_X11_see_134 : decode prog_1_method_45_code 134 = .ok (.iconst (-1), 1) := gq_17 db00d_25 eb_26
theorem d_X11_see_135 : decode prog_1_method_45_code 135 = .ok (.istore 6, 2) := gq_18 db00d_25 eb_58
theorem d_X11_see_137 : decode prog_1_method_45_code 137 = .ok (.aload_n 0, 1) := gq_19 db00d_25 eb_0
theorem d_X11_see_138 : decode prog_1_method_45_code 138 = .ok (.getfield 56, 3) := gq_20 db00d_25 eb_480
theorem d_X11_see_141 : decode prog_1_method_45_code 141 = .ok (.iload 4, 2) := gq_21 db00d_25 eb_76
theorem d_X11_see_143 : decode prog_1_method_45_code 143 = .ok (.iload 5, 2) := gq_22 db00d_25 eb_125
theorem d_X11_see_145 : decode prog_1_method_45_code 145 = .ok (.iload 6, 2) := gq_23 db00d_25 eb_75
theorem db00d_26 : Pf_ prog_1_method_45_code [(147, [0x2a]), (148, [0xb4, 0x00, 0x0a]), (151, [0x2b]), (152, [0xb4, 0x01, 0x15]), (155, [0x03]), (156, [0xb6, 0x00, 0x73]), (159, [0xb6, 0x01, 0x87]), (162, [0xb1])] := pf_ok prog_1_method_45_code _ 147 (by decide +kernel)
theorem d_X11_see_147 : decode prog_1_method_45_code 147 = .ok (.aload_n 0, 1) := gq_0 db00d_26 eb_0
theorem d_X11_see_148 : decode prog_1_method_45_code 148 = .ok (.getfield 10, 3) := gq_1 db00d_26 eb_609
theorem d_X11_see_151 : decode prog_1_method_45_code 151 = .ok (.aload_n 1, 1) := gq_2 db00d_26 eb_23
theorem d_X11_see_152 : decode prog_1_method_45_code 152 = .ok (.getfield 277, 3) := gq_3 db00d_26 eb_684
theorem d_X11_see_155 : decode prog_1_method_45_code 155 = .ok (.iconst 0, 1) := gq_4 db00d_26 eb_21
theorem d_X11_see_156 : decode prog_1_method_45_code 156 = .ok (.invokevirtual 115, 3) := gq_5 db00d_26 eb_382
theorem d_X11_see_159 : decode prog_1_method_45_code 159 = .ok (.invokevirtual 391, 3) := gq_6 db00d_26 eb_742
theorem d_X11_see_162 : decode prog_1_method_45_code 162 = .ok (.return_, 1) := gq_7 db00d_26 eb_7
theorem d_X11_countMenAt_17 : decode prog_1_method_46_code 17 = .ok (.aaload, 1) := by decide +kernel
theorem d_X11_countMenAt_26 : decode prog_1_method_46_code 26 = .ok (.aaload, 1) := by decide +kernel
theorem db00d_27 : Pf_ prog_1_method_46_code [(0, [0x03]), (1, [0x3d]), (2, [0x03]), (3, [0x3e]), (4, [0x1d]), (5, [0x2a]), (6, [0xb4, 0x00, 0x68]), (9, [0xa2, 0x00, 0x22]), (12, [0x2a]), (13, [0xb4, 0x00, 0x2a]), (16, [0x1d]), (18, [0xc6, 0x00, 0x13]), (21, [0x2a]), (22, [0xb4, 0x00, 0x2a]), (25, [0x1d]), (27, [0xb4, 0x01, 0x15]), (30, [0x1b]), (31, [0xa0, 0x00, 0x06]), (34, [0x84, 0x02, 0x01]), (37, [0x84, 0x03, 0x01]), (40, [0xa7, 0xff, 0xdc]), (43, [0x1c]), (44, [0xac])] := pf_ok prog_1_method_46_code _ 0 (by decide +kernel)
theorem d_X11_countMenAt_0 : decode prog_1_method_46_code 0 = .ok (.iconst 0, 1) := gq_0 db00d_27 eb_21
theorem d_X11_countMenAt_1 : decode prog_1_method_46_code 1 = .ok (.istore_n 2, 1) := gq_1 db00d_27 eb_27
theorem d_X11_countMenAt_2 : decode prog_1_method_46_code 2 = .ok (.iconst 0, 1) := gq_2 db00d_27 eb_21
theorem d_X11_countMenAt_3 : decode prog_1_method_46_code 3 = .ok (.istore_n 3, 1) := gq_3 db00d_27 eb_28
theorem d_X11_countMenAt_4 : decode prog_1_method_46_code 4 = .ok (.iload_n 3, 1) := gq_4 db00d_27 eb_29
theorem d_X11_countMenAt_5 : decode prog_1_method_46_code 5 = .ok (.aload_n 0, 1) := gq_5 db00d_27 eb_0
theorem d_X11_countMenAt_6 : decode prog_1_method_46_code 6 = .ok (.getfield 104, 3) := gq_6 db00d_27 eb_389
theorem d_X11_countMenAt_9 : decode prog_1_method_46_code 9 = .ok (.if_icmp .ge 34, 3) := gq_7 db00d_27 eb_427
theorem d_X11_countMenAt_12 : decode prog_1_method_46_code 12 = .ok (.aload_n 0, 1) := gq_8 db00d_27 eb_0
theorem d_X11_countMenAt_13 : decode prog_1_method_46_code 13 = .ok (.getfield 42, 3) := gq_9 db00d_27 eb_177
theorem d_X11_countMenAt_16 : decode prog_1_method_46_code 16 = .ok (.iload_n 3, 1) := gq_10 db00d_27 eb_29
theorem d_X11_countMenAt_18 : decode prog_1_method_46_code 18 = .ok (.ifnull 19, 3) := gq_11 db00d_27 eb_743
theorem d_X11_countMenAt_21 : decode prog_1_method_46_code 21 = .ok (.aload_n 0, 1) := gq_12 db00d_27 eb_0
theorem d_X11_countMenAt_22 : decode prog_1_method_46_code 22 = .ok (.getfield 42, 3) := gq_13 db00d_27 eb_177
theorem d_X11_countMenAt_25 : decode prog_1_method_46_code 25 = .ok (.iload_n 3, 1) := gq_14 db00d_27 eb_29
theorem d_X11_countMenAt_27 : decode prog_1_method_46_code 27 = .ok (.getfield 277, 3) := gq_15 db00d_27 eb_684
theorem d_X11_countMenAt_30 : decode prog_1_method_46_code 30 = .ok (.iload_n 1, 1) := gq_16 db00d_27 eb_9
theorem d_X11_countMenAt_31 : decode prog_1_method_46_code 31 = .ok (.if_icmp .ne 6, 3) := gq_17 db00d_27 eb_40
theorem d_X11_countMenAt_34 : decode prog_1_method_46_code 34 = .ok (.iinc 2 1, 3) := gq_18 db00d_27 eb_41
theorem d_X11_countMenAt_37 : decode prog_1_method_46_code 37 = .ok (.iinc 3 1, 3) := gq_19 db00d_27 eb_42
theorem d_X11_countMenAt_40 : decode prog_1_method_46_code 40 = .ok (.goto (-36), 3) := gq_20 db00d_27 eb_221
theorem d_X11_countMenAt_43 : decode prog_1_method_46_code 43 = .ok (.iload_n 2, 1) := gq_21 db00d_27 eb_13
theorem d_X11_countMenAt_44 : decode prog_1_method_46_code 44 = .ok (.ireturn, 1) := gq_22 db00d_27 eb_15
theorem db00d_28 : Pf_ prog_1_method_47_code [(0, [0x2a]), (1, [0xb4, 0x00, 0x38]), (4, [0x1b]), (5, [0xb6, 0x01, 0x88]), (8, [0x99, 0x00, 0x0f]), (11, [0x2a]), (12, [0xb4, 0x00, 0x38]), (15, [0x1b]), (16, [0x1c]), (17, [0xb6, 0x01, 0x89]), (20, [0xa7, 0x00, 0x04]), (23, [0x02]), (24, [0xac])] := pf_ok prog_1_method_47_code _ 0 (by decide +kernel)
theorem d_X11_sighting_0 : decode prog_1_method_47_code 0 = .ok (.aload_n 0, 1) := gq_0 db00d_28 eb_0
theorem d_X11_sighting_1 : decode prog_1_method_47_code 1 = .ok (.getfield 56, 3) := gq_1 db00d_28 eb_480
theorem d_X11_sighting_4 : decode prog_1_method_47_code 4 = .ok (.iload_n 1, 1) := gq_2 db00d_28 eb_9
theorem d_X11_sighting_5 : decode prog_1_method_47_code 5 = .ok (.invokevirtual 392, 3) := gq_3 db00d_28 eb_744
theorem d_X11_sighting_8 : decode prog_1_method_47_code 8 = .ok (.ifCond .eq 15, 3) := gq_4 db00d_28 eb_294
theorem d_X11_sighting_11 : decode prog_1_method_47_code 11 = .ok (.aload_n 0, 1) := gq_5 db00d_28 eb_0
theorem d_X11_sighting_12 : decode prog_1_method_47_code 12 = .ok (.getfield 56, 3) := gq_6 db00d_28 eb_480
theorem d_X11_sighting_15 : decode prog_1_method_47_code 15 = .ok (.iload_n 1, 1) := gq_7 db00d_28 eb_9
theorem d_X11_sighting_16 : decode prog_1_method_47_code 16 = .ok (.iload_n 2, 1) := gq_8 db00d_28 eb_13
theorem d_X11_sighting_17 : decode prog_1_method_47_code 17 = .ok (.invokevirtual 393, 3) := gq_9 db00d_28 eb_745
theorem d_X11_sighting_20 : decode prog_1_method_47_code 20 = .ok (.goto 4, 3) := gq_10 db00d_28 eb_20
theorem d_X11_sighting_23 : decode prog_1_method_47_code 23 = .ok (.iconst (-1), 1) := gq_11 db00d_28 eb_26
theorem d_X11_sighting_24 : decode prog_1_method_47_code 24 = .ok (.ireturn, 1) := gq_12 db00d_28 eb_15
theorem db00d_29 : Pf_ prog_1_method_48_code [(0, [0x2a]), (1, [0xb4, 0x00, 0x38]), (4, [0x1b]), (5, [0xb6, 0x01, 0x88]), (8, [0x99, 0x00, 0x16]), (11, [0x1c]), (12, [0x2a]), (13, [0xb4, 0x00, 0x38]), (16, [0x1b]), (17, [0xb6, 0x01, 0x8b]), (20, [0x2a]), (21, [0xb4, 0x00, 0x5c]), (24, [0xb8, 0x00, 0x60]), (27, [0x9a, 0x00, 0x05]), (30, [0x02]), (31, [0xac]), (32, [0x2a]), (33, [0xb4, 0x00, 0x38]), (36, [0x1b]), (37, [0x2a]), (38, [0xb4, 0x00, 0x21]), (41, [0x1c]), (42, [0xb6, 0x01, 0x8e]), (45, [0xac])] := pf_ok prog_1_method_48_code _ 0 (by decide +kernel)
theorem d_X11_should_0 : decode prog_1_method_48_code 0 = .ok (.aload_n 0, 1) := gq_0 db00d_29 eb_0
theorem d_X11_should_1 : decode prog_1_method_48_code 1 = .ok (.getfield 56, 3) := gq_1 db00d_29 eb_480
theorem d_X11_should_4 : decode prog_1_method_48_code 4 = .ok (.iload_n 1, 1) := gq_2 db00d_29 eb_9
theorem d_X11_should_5 : decode prog_1_method_48_code 5 = .ok (.invokevirtual 392, 3) := gq_3 db00d_29 eb_744
theorem d_X11_should_8 : decode prog_1_method_48_code 8 = .ok (.ifCond .eq 22, 3) := gq_4 db00d_29 eb_416
theorem d_X11_should_11 : decode prog_1_method_48_code 11 = .ok (.iload_n 2, 1) := gq_5 db00d_29 eb_13
theorem d_X11_should_12 : decode prog_1_method_48_code 12 = .ok (.aload_n 0, 1) := gq_6 db00d_29 eb_0
theorem d_X11_should_13 : decode prog_1_method_48_code 13 = .ok (.getfield 56, 3) := gq_7 db00d_29 eb_480
theorem d_X11_should_16 : decode prog_1_method_48_code 16 = .ok (.iload_n 1, 1) := gq_8 db00d_29 eb_9
theorem d_X11_should_17 : decode prog_1_method_48_code 17 = .ok (.invokevirtual 395, 3) := gq_9 db00d_29 eb_746
theorem d_X11_should_20 : decode prog_1_method_48_code 20 = .ok (.aload_n 0, 1) := gq_10 db00d_29 eb_0
theorem d_X11_should_21 : decode prog_1_method_48_code 21 = .ok (.getfield 92, 3) := gq_11 db00d_29 eb_605
theorem d_X11_should_24 : decode prog_1_method_48_code 24 = .ok (.invokestatic 96, 3) := gq_12 db00d_29 eb_606
theorem d_X11_should_27 : decode prog_1_method_48_code 27 = .ok (.ifCond .ne 5, 3) := gq_13 db00d_29 eb_150
theorem d_X11_should_30 : decode prog_1_method_48_code 30 = .ok (.iconst (-1), 1) := gq_14 db00d_29 eb_26
theorem d_X11_should_31 : decode prog_1_method_48_code 31 = .ok (.ireturn, 1) := gq_15 db00d_29 eb_15
theorem d_X11_should_32 : decode prog_1_method_48_code 32 = .ok (.aload_n 0, 1) := gq_16 db00d_29 eb_0
theorem d_X11_should_33 : decode prog_1_method_48_code 33 = .ok (.getfield 56, 3) := gq_17 db00d_29 eb_480
theorem d_X11_should_36 : decode prog_1_method_48_code 36 = .ok (.iload_n 1, 1) := gq_18 db00d_29 eb_9
theorem d_X11_should_37 : decode prog_1_method_48_code 37 = .ok (.aload_n 0, 1) := gq_19 db00d_29 eb_0
theorem d_X11_should_38 : decode prog_1_method_48_code 38 = .ok (.getfield 33, 3) := gq_20 db00d_29 eb_109
theorem d_X11_should_41 : decode prog_1_method_48_code 41 = .ok (.iload_n 2, 1) := gq_21 db00d_29 eb_13
theorem d_X11_should_42 : decode prog_1_method_48_code 42 = .ok (.invokevirtual 398, 3) := gq_22 db00d_29 eb_747
theorem d_X11_should_45 : decode prog_1_method_48_code 45 = .ok (.ireturn, 1) := gq_23 db00d_29 eb_15
theorem db00d_30 : Pf_ prog_1_method_49_code [(0, [0x2a]), (1, [0x1b]), (2, [0xb6, 0x01, 0x41]), (5, [0x99, 0x00, 0x0e]), (8, [0x2a]), (9, [0xb4, 0x00, 0x38]), (12, [0x1b]), (13, [0xb6, 0x01, 0x92]), (16, [0xa7, 0x00, 0x04]), (19, [0x02]), (20, [0xac])] := pf_ok prog_1_method_49_code _ 0 (by decide +kernel)
theorem d_X11_heard_0 : decode prog_1_method_49_code 0 = .ok (.aload_n 0, 1) := gq_0 db00d_30 eb_0
theorem d_X11_heard_1 : decode prog_1_method_49_code 1 = .ok (.iload_n 1, 1) := gq_1 db00d_30 eb_9
theorem d_X11_heard_2 : decode prog_1_method_49_code 2 = .ok (.invokevirtual 321, 3) := gq_2 db00d_30 eb_716
theorem d_X11_heard_5 : decode prog_1_method_49_code 5 = .ok (.ifCond .eq 14, 3) := gq_3 db00d_30 eb_174
theorem d_X11_heard_8 : decode prog_1_method_49_code 8 = .ok (.aload_n 0, 1) := gq_4 db00d_30 eb_0
theorem d_X11_heard_9 : decode prog_1_method_49_code 9 = .ok (.getfield 56, 3) := gq_5 db00d_30 eb_480
theorem d_X11_heard_12 : decode prog_1_method_49_code 12 = .ok (.iload_n 1, 1) := gq_6 db00d_30 eb_9
theorem d_X11_heard_13 : decode prog_1_method_49_code 13 = .ok (.invokevirtual 402, 3) := gq_7 db00d_30 eb_748
theorem d_X11_heard_16 : decode prog_1_method_49_code 16 = .ok (.goto 4, 3) := gq_8 db00d_30 eb_20
theorem d_X11_heard_19 : decode prog_1_method_49_code 19 = .ok (.iconst (-1), 1) := gq_9 db00d_30 eb_26
theorem d_X11_heard_20 : decode prog_1_method_49_code 20 = .ok (.ireturn, 1) := gq_10 db00d_30 eb_15
theorem db00d_31 : Pf_ prog_1_method_50_code [(0, [0x1b]), (1, [0x03]), (2, [0x10, 0x09]), (4, [0xb8, 0x00, 0x60]), (7, [0x99, 0x00, 0x12]), (10, [0x2a]), (11, [0xb4, 0x00, 0x3f]), (14, [0x1b]), (15, [0x2a]), (16, [0xb4, 0x00, 0x5c]), (19, [0xb6, 0x01, 0x84]), (22, [0xa7, 0x00, 0x04]), (25, [0x02]), (26, [0xac])] := pf_ok prog_1_method_50_code _ 0 (by decide +kernel)
theorem d_X11_open_0 : decode prog_1_method_50_code 0 = .ok (.iload_n 1, 1) := gq_0 db00d_31 eb_9
theorem d_X11_open_1 : decode prog_1_method_50_code 1 = .ok (.iconst 0, 1) := gq_1 db00d_31 eb_21
theorem d_X11_open_2 : decode prog_1_method_50_code 2 = .ok (.bipush 9, 2) := gq_2 db00d_31 eb_287
theorem d_X11_open_4 : decode prog_1_method_50_code 4 = .ok (.invokestatic 96, 3) := gq_3 db00d_31 eb_606
theorem d_X11_open_7 : decode prog_1_method_50_code 7 = .ok (.ifCond .eq 18, 3) := gq_4 db00d_31 eb_138
theorem d_X11_open_10 : decode prog_1_method_50_code 10 = .ok (.aload_n 0, 1) := gq_5 db00d_31 eb_0
theorem d_X11_open_11 : decode prog_1_method_50_code 11 = .ok (.getfield 63, 3) := gq_6 db00d_31 eb_276
theorem d_X11_open_14 : decode prog_1_method_50_code 14 = .ok (.iload_n 1, 1) := gq_7 db00d_31 eb_9
theorem d_X11_open_15 : decode prog_1_method_50_code 15 = .ok (.aload_n 0, 1) := gq_8 db00d_31 eb_0
theorem d_X11_open_16 : decode prog_1_method_50_code 16 = .ok (.getfield 92, 3) := gq_9 db00d_31 eb_605
theorem d_X11_open_19 : decode prog_1_method_50_code 19 = .ok (.invokevirtual 388, 3) := gq_10 db00d_31 eb_741
theorem d_X11_open_22 : decode prog_1_method_50_code 22 = .ok (.goto 4, 3) := gq_11 db00d_31 eb_20
theorem d_X11_open_25 : decode prog_1_method_50_code 25 = .ok (.iconst (-1), 1) := gq_12 db00d_31 eb_26
theorem d_X11_open_26 : decode prog_1_method_50_code 26 = .ok (.ireturn, 1) := gq_13 db00d_31 eb_15
theorem db00d_32 : Pf_ prog_1_method_51_code [(0, [0x1b]), (1, [0x03]), (2, [0x10, 0x09]), (4, [0xb8, 0x00, 0x60]), (7, [0x99, 0x00, 0x0e]), (10, [0x1c]), (11, [0x03]), (12, [0x11, 0x00, 0xff]), (15, [0xb8, 0x00, 0x60]), (18, [0x9a, 0x00, 0x05]), (21, [0x03]), (22, [0xac]), (23, [0x2a]), (24, [0xb4, 0x00, 0x3f]), (27, [0xb4, 0x01, 0x95]), (30, [0x1b]), (31, [0x1c]), (32, [0x4f]), (33, [0x04]), (34, [0xac])] := pf_ok prog_1_method_51_code _ 0 (by decide +kernel)
theorem d_X11_need_0 : decode prog_1_method_51_code 0 = .ok (.iload_n 1, 1) := gq_0 db00d_32 eb_9
theorem d_X11_need_1 : decode prog_1_method_51_code 1 = .ok (.iconst 0, 1) := gq_1 db00d_32 eb_21
theorem d_X11_need_2 : decode prog_1_method_51_code 2 = .ok (.bipush 9, 2) := gq_2 db00d_32 eb_287
theorem d_X11_need_4 : decode prog_1_method_51_code 4 = .ok (.invokestatic 96, 3) := gq_3 db00d_32 eb_606
theorem d_X11_need_7 : decode prog_1_method_51_code 7 = .ok (.ifCond .eq 14, 3) := gq_4 db00d_32 eb_174
theorem d_X11_need_10 : decode prog_1_method_51_code 10 = .ok (.iload_n 2, 1) := gq_5 db00d_32 eb_13
theorem d_X11_need_11 : decode prog_1_method_51_code 11 = .ok (.iconst 0, 1) := gq_6 db00d_32 eb_21
theorem d_X11_need_12 : decode prog_1_method_51_code 12 = .ok (.sipush 255, 3) := gq_7 db00d_32 eb_443
theorem d_X11_need_15 : decode prog_1_method_51_code 15 = .ok (.invokestatic 96, 3) := gq_8 db00d_32 eb_606
theorem d_X11_need_18 : decode prog_1_method_51_code 18 = .ok (.ifCond .ne 5, 3) := gq_9 db00d_32 eb_150
theorem d_X11_need_21 : decode prog_1_method_51_code 21 = .ok (.iconst 0, 1) := gq_10 db00d_32 eb_21
theorem d_X11_need_22 : decode prog_1_method_51_code 22 = .ok (.ireturn, 1) := gq_11 db00d_32 eb_15
theorem d_X11_need_23 : decode prog_1_method_51_code 23 = .ok (.aload_n 0, 1) := gq_12 db00d_32 eb_0
theorem d_X11_need_24 : decode prog_1_method_51_code 24 = .ok (.getfield 63, 3) := gq_13 db00d_32 eb_276
theorem d_X11_need_27 : decode prog_1_method_51_code 27 = .ok (.getfield 405, 3) := gq_14 db00d_32 eb_749
theorem d_X11_need_30 : decode prog_1_method_51_code 30 = .ok (.iload_n 1, 1) := gq_15 db00d_32 eb_9
theorem d_X11_need_31 : decode prog_1_method_51_code 31 = .ok (.iload_n 2, 1) := gq_16 db00d_32 eb_13
theorem d_X11_need_32 : decode prog_1_method_51_code 32 = .ok (.iastore, 1) := gq_17 db00d_32 eb_38
theorem d_X11_need_33 : decode prog_1_method_51_code 33 = .ok (.iconst 1, 1) := gq_18 db00d_32 eb_19
theorem d_X11_need_34 : decode prog_1_method_51_code 34 = .ok (.ireturn, 1) := gq_19 db00d_32 eb_15
theorem db00d_33 : Pf_ prog_1_method_52_code [(0, [0x1b]), (1, [0x03]), (2, [0x10, 0x07]), (4, [0xb8, 0x00, 0x60]), (7, [0x99, 0x00, 0x0c]), (10, [0x1c]), (11, [0x04]), (12, [0x06]), (13, [0xb8, 0x00, 0x60]), (16, [0x9a, 0x00, 0x05]), (19, [0x03]), (20, [0xac]), (21, [0x2a]), (22, [0xb4, 0x00, 0x3f]), (25, [0xb4, 0x01, 0x98]), (28, [0x1b]), (29, [0x1c]), (30, [0x4f]), (31, [0x04]), (32, [0xac])] := pf_ok prog_1_method_52_code _ 0 (by decide +kernel)
theorem d_X11_want_0 : decode prog_1_method_52_code 0 = .ok (.iload_n 1, 1) := gq_0 db00d_33 eb_9
theorem d_X11_want_1 : decode prog_1_method_52_code 1 = .ok (.iconst 0, 1) := gq_1 db00d_33 eb_21
theorem d_X11_want_2 : decode prog_1_method_52_code 2 = .ok (.bipush 7, 2) := gq_2 db00d_33 eb_132
theorem d_X11_want_4 : decode prog_1_method_52_code 4 = .ok (.invokestatic 96, 3) := gq_3 db00d_33 eb_606
theorem d_X11_want_7 : decode prog_1_method_52_code 7 = .ok (.ifCond .eq 12, 3) := gq_4 db00d_33 eb_50
theorem d_X11_want_10 : decode prog_1_method_52_code 10 = .ok (.iload_n 2, 1) := gq_5 db00d_33 eb_13
theorem d_X11_want_11 : decode prog_1_method_52_code 11 = .ok (.iconst 1, 1) := gq_6 db00d_33 eb_19
theorem d_X11_want_12 : decode prog_1_method_52_code 12 = .ok (.iconst 3, 1) := gq_7 db00d_33 eb_54
theorem d_X11_want_13 : decode prog_1_method_52_code 13 = .ok (.invokestatic 96, 3) := gq_8 db00d_33 eb_606
theorem d_X11_want_16 : decode prog_1_method_52_code 16 = .ok (.ifCond .ne 5, 3) := gq_9 db00d_33 eb_150
theorem d_X11_want_19 : decode prog_1_method_52_code 19 = .ok (.iconst 0, 1) := gq_10 db00d_33 eb_21
theorem d_X11_want_20 : decode prog_1_method_52_code 20 = .ok (.ireturn, 1) := gq_11 db00d_33 eb_15
theorem d_X11_want_21 : decode prog_1_method_52_code 21 = .ok (.aload_n 0, 1) := gq_12 db00d_33 eb_0
theorem d_X11_want_22 : decode prog_1_method_52_code 22 = .ok (.getfield 63, 3) := gq_13 db00d_33 eb_276
theorem d_X11_want_25 : decode prog_1_method_52_code 25 = .ok (.getfield 408, 3) := gq_14 db00d_33 eb_750
theorem d_X11_want_28 : decode prog_1_method_52_code 28 = .ok (.iload_n 1, 1) := gq_15 db00d_33 eb_9
theorem d_X11_want_29 : decode prog_1_method_52_code 29 = .ok (.iload_n 2, 1) := gq_16 db00d_33 eb_13
theorem d_X11_want_30 : decode prog_1_method_52_code 30 = .ok (.iastore, 1) := gq_17 db00d_33 eb_38
theorem d_X11_want_31 : decode prog_1_method_52_code 31 = .ok (.iconst 1, 1) := gq_18 db00d_33 eb_19
theorem d_X11_want_32 : decode prog_1_method_52_code 32 = .ok (.ireturn, 1) := gq_19 db00d_33 eb_15
theorem db00d_34 : Pf_ prog_1_method_53_code [(0, [0x2a]), (1, [0xb4, 0x00, 0x3f]), (4, [0x1b]), (5, [0xb6, 0x01, 0x9b]), (8, [0x99, 0x00, 0x17]), (11, [0x1c]), (12, [0x03]), (13, [0x10, 0x07]), (15, [0xb8, 0x00, 0x60]), (18, [0x99, 0x00, 0x0d]), (21, [0x1d]), (22, [0x03]), (23, [0x10, 0x0f]), (25, [0xb8, 0x00, 0x60]), (28, [0x9a, 0x00, 0x05]), (31, [0x02]), (32, [0xac]), (33, [0x2a]), (34, [0xb4, 0x00, 0x3f]), (37, [0x1b]), (38, [0x1c]), (39, [0x1d]), (40, [0x15, 0x04]), (42, [0x2a])] := pf_ok prog_1_method_53_code _ 0 (by decide +kernel)
theorem d_X11_state_0 : decode prog_1_method_53_code 0 = .ok (.aload_n 0, 1) := gq_0 db00d_34 eb_0
theorem d_X11_state_1 : decode prog_1_method_53_code 1 = .ok (.getfield 63, 3) := gq_1 db00d_34 eb_276
theorem d_X11_state_4 : decode prog_1_method_53_code 4 = .ok (.iload_n 1, 1) := gq_2 db00d_34 eb_9
theorem d_X11_state_5 : decode prog_1_method_53_code 5 = .ok (.invokevirtual 411, 3) := gq_3 db00d_34 eb_751
theorem d_X11_state_8 : decode prog_1_method_53_code 8 = .ok (.ifCond .eq 23, 3) := gq_4 db00d_34 eb_204
theorem d_X11_state_11 : decode prog_1_method_53_code 11 = .ok (.iload_n 2, 1) := gq_5 db00d_34 eb_13
theorem d_X11_state_12 : decode prog_1_method_53_code 12 = .ok (.iconst 0, 1) := gq_6 db00d_34 eb_21
theorem d_X11_state_13 : decode prog_1_method_53_code 13 = .ok (.bipush 7, 2) := gq_7 db00d_34 eb_132
theorem d_X11_state_15 : decode prog_1_method_53_code 15 = .ok (.invokestatic 96, 3) := gq_8 db00d_34 eb_606
theorem d_X11_state_18 : decode prog_1_method_53_code 18 = .ok (.ifCond .eq 13, 3) := gq_9 db00d_34 eb_119
theorem d_X11_state_21 : decode prog_1_method_53_code 21 = .ok (.iload_n 3, 1) := gq_10 db00d_34 eb_29
theorem d_X11_state_22 : decode prog_1_method_53_code 22 = .ok (.iconst 0, 1) := gq_11 db00d_34 eb_21
theorem d_X11_state_23 : decode prog_1_method_53_code 23 = .ok (.bipush 15, 2) := gq_12 db00d_34 eb_57
theorem d_X11_state_25 : decode prog_1_method_53_code 25 = .ok (.invokestatic 96, 3) := gq_13 db00d_34 eb_606
theorem d_X11_state_28 : decode prog_1_method_53_code 28 = .ok (.ifCond .ne 5, 3) := gq_14 db00d_34 eb_150
theorem d_X11_state_31 : decode prog_1_method_53_code 31 = .ok (.iconst (-1), 1) := gq_15 db00d_34 eb_26
theorem d_X11_state_32 : decode prog_1_method_53_code 32 = .ok (.ireturn, 1) := gq_16 db00d_34 eb_15
theorem d_X11_state_33 : decode prog_1_method_53_code 33 = .ok (.aload_n 0, 1) := gq_17 db00d_34 eb_0
theorem d_X11_state_34 : decode prog_1_method_53_code 34 = .ok (.getfield 63, 3) := gq_18 db00d_34 eb_276
theorem d_X11_state_37 : decode prog_1_method_53_code 37 = .ok (.iload_n 1, 1) := gq_19 db00d_34 eb_9
theorem d_X11_state_38 : decode prog_1_method_53_code 38 = .ok (.iload_n 2, 1) := gq_20 db00d_34 eb_13
theorem d_X11_state_39 : decode prog_1_method_53_code 39 = .ok (.iload_n 3, 1) := gq_21 db00d_34 eb_29
theorem d_X11_state_40 : decode prog_1_method_53_code 40 = .ok (.iload 4, 2) := gq_22 db00d_34 eb_76
theorem d_X11_state_42 : decode prog_1_method_53_code 42 = .ok (.aload_n 0, 1) := gq_23 db00d_34 eb_0
theorem db00d_35 : Pf_ prog_1_method_53_code [(43, [0xb4, 0x00, 0x5c]), (46, [0xb6, 0x01, 0x9c]), (49, [0xac])] := pf_ok prog_1_method_53_code _ 43 (by decide +kernel)
theorem d_X11_state_43 : decode prog_1_method_53_code 43 = .ok (.getfield 92, 3) := gq_0 db00d_35 eb_605
theorem d_X11_state_46 : decode prog_1_method_53_code 46 = .ok (.invokevirtual 412, 3) := gq_1 db00d_35 eb_752
theorem d_X11_state_49 : decode prog_1_method_53_code 49 = .ok (.ireturn, 1) := gq_2 db00d_35 eb_15
theorem db00d_36 : Pf_ prog_1_method_54_code [(0, [0x1b]), (1, [0x03]), (2, [0x10, 0x0f]), (4, [0xb8, 0x00, 0x60]), (7, [0x99, 0x00, 0x12]), (10, [0x2a]), (11, [0xb4, 0x00, 0x3f]), (14, [0x1b]), (15, [0x2a]), (16, [0xb4, 0x00, 0x5c]), (19, [0xb6, 0x01, 0xa0]), (22, [0xa7, 0x00, 0x04]), (25, [0x02]), (26, [0xac])] := pf_ok prog_1_method_54_code _ 0 (by decide +kernel)
theorem d_X11_withdraw_0 : decode prog_1_method_54_code 0 = .ok (.iload_n 1, 1) := gq_0 db00d_36 eb_9
theorem d_X11_withdraw_1 : decode prog_1_method_54_code 1 = .ok (.iconst 0, 1) := gq_1 db00d_36 eb_21
theorem d_X11_withdraw_2 : decode prog_1_method_54_code 2 = .ok (.bipush 15, 2) := gq_2 db00d_36 eb_57
theorem d_X11_withdraw_4 : decode prog_1_method_54_code 4 = .ok (.invokestatic 96, 3) := gq_3 db00d_36 eb_606
theorem d_X11_withdraw_7 : decode prog_1_method_54_code 7 = .ok (.ifCond .eq 18, 3) := gq_4 db00d_36 eb_138
theorem d_X11_withdraw_10 : decode prog_1_method_54_code 10 = .ok (.aload_n 0, 1) := gq_5 db00d_36 eb_0
theorem d_X11_withdraw_11 : decode prog_1_method_54_code 11 = .ok (.getfield 63, 3) := gq_6 db00d_36 eb_276
theorem d_X11_withdraw_14 : decode prog_1_method_54_code 14 = .ok (.iload_n 1, 1) := gq_7 db00d_36 eb_9
theorem d_X11_withdraw_15 : decode prog_1_method_54_code 15 = .ok (.aload_n 0, 1) := gq_8 db00d_36 eb_0
theorem d_X11_withdraw_16 : decode prog_1_method_54_code 16 = .ok (.getfield 92, 3) := gq_9 db00d_36 eb_605
theorem d_X11_withdraw_19 : decode prog_1_method_54_code 19 = .ok (.invokevirtual 416, 3) := gq_10 db00d_36 eb_753
theorem d_X11_withdraw_22 : decode prog_1_method_54_code 22 = .ok (.goto 4, 3) := gq_11 db00d_36 eb_20
theorem d_X11_withdraw_25 : decode prog_1_method_54_code 25 = .ok (.iconst (-1), 1) := gq_12 db00d_36 eb_26
theorem d_X11_withdraw_26 : decode prog_1_method_54_code 26 = .ok (.ireturn, 1) := gq_13 db00d_36 eb_15
theorem db00d_37 : Pf_ prog_1_method_55_code [(0, [0x1c]), (1, [0x03]), (2, [0x10, 0x07]), (4, [0xb8, 0x00, 0x60]), (7, [0x99, 0x00, 0x17]), (10, [0x2a]), (11, [0x1d]), (12, [0xb6, 0x01, 0x41]), (15, [0x99, 0x00, 0x0f]), (18, [0x2a]), (19, [0xb4, 0x00, 0x3f]), (22, [0x1b]), (23, [0x1d]), (24, [0xb6, 0x01, 0xa3]), (27, [0x9a, 0x00, 0x05]), (30, [0x02]), (31, [0xac]), (32, [0x2a]), (33, [0xb4, 0x00, 0x3f]), (36, [0x1b]), (37, [0x1d]), (38, [0xb6, 0x01, 0xa7]), (41, [0x2a]), (42, [0xb4, 0x00, 0x3f])] := pf_ok prog_1_method_55_code _ 0 (by decide +kernel)
theorem d_X11_fact_0 : decode prog_1_method_55_code 0 = .ok (.iload_n 2, 1) := gq_0 db00d_37 eb_13
theorem d_X11_fact_1 : decode prog_1_method_55_code 1 = .ok (.iconst 0, 1) := gq_1 db00d_37 eb_21
theorem d_X11_fact_2 : decode prog_1_method_55_code 2 = .ok (.bipush 7, 2) := gq_2 db00d_37 eb_132
theorem d_X11_fact_4 : decode prog_1_method_55_code 4 = .ok (.invokestatic 96, 3) := gq_3 db00d_37 eb_606
theorem d_X11_fact_7 : decode prog_1_method_55_code 7 = .ok (.ifCond .eq 23, 3) := gq_4 db00d_37 eb_204
theorem d_X11_fact_10 : decode prog_1_method_55_code 10 = .ok (.aload_n 0, 1) := gq_5 db00d_37 eb_0
theorem d_X11_fact_11 : decode prog_1_method_55_code 11 = .ok (.iload_n 3, 1) := gq_6 db00d_37 eb_29
theorem d_X11_fact_12 : decode prog_1_method_55_code 12 = .ok (.invokevirtual 321, 3) := gq_7 db00d_37 eb_716
theorem d_X11_fact_15 : decode prog_1_method_55_code 15 = .ok (.ifCond .eq 15, 3) := gq_8 db00d_37 eb_294
theorem d_X11_fact_18 : decode prog_1_method_55_code 18 = .ok (.aload_n 0, 1) := gq_9 db00d_37 eb_0
theorem d_X11_fact_19 : decode prog_1_method_55_code 19 = .ok (.getfield 63, 3) := gq_10 db00d_37 eb_276
theorem d_X11_fact_22 : decode prog_1_method_55_code 22 = .ok (.iload_n 1, 1) := gq_11 db00d_37 eb_9
theorem d_X11_fact_23 : decode prog_1_method_55_code 23 = .ok (.iload_n 3, 1) := gq_12 db00d_37 eb_29
theorem d_X11_fact_24 : decode prog_1_method_55_code 24 = .ok (.invokevirtual 419, 3) := gq_13 db00d_37 eb_754
theorem d_X11_fact_27 : decode prog_1_method_55_code 27 = .ok (.ifCond .ne 5, 3) := gq_14 db00d_37 eb_150
theorem d_X11_fact_30 : decode prog_1_method_55_code 30 = .ok (.iconst (-1), 1) := gq_15 db00d_37 eb_26
theorem d_X11_fact_31 : decode prog_1_method_55_code 31 = .ok (.ireturn, 1) := gq_16 db00d_37 eb_15
theorem d_X11_fact_32 : decode prog_1_method_55_code 32 = .ok (.aload_n 0, 1) := gq_17 db00d_37 eb_0
theorem d_X11_fact_33 : decode prog_1_method_55_code 33 = .ok (.getfield 63, 3) := gq_18 db00d_37 eb_276
theorem d_X11_fact_36 : decode prog_1_method_55_code 36 = .ok (.iload_n 1, 1) := gq_19 db00d_37 eb_9
theorem d_X11_fact_37 : decode prog_1_method_55_code 37 = .ok (.iload_n 3, 1) := gq_20 db00d_37 eb_29
theorem d_X11_fact_38 : decode prog_1_method_55_code 38 = .ok (.invokevirtual 423, 3) := gq_21 db00d_37 eb_755
theorem d_X11_fact_41 : decode prog_1_method_55_code 41 = .ok (.aload_n 0, 1) := gq_22 db00d_37 eb_0
theorem d_X11_fact_42 : decode prog_1_method_55_code 42 = .ok (.getfield 63, 3) := gq_23 db00d_37 eb_276
theorem db00d_38 : Pf_ prog_1_method_55_code [(45, [0x1c]), (46, [0xb6, 0x01, 0xaa]), (49, [0xac])] := pf_ok prog_1_method_55_code _ 45 (by decide +kernel)
theorem d_X11_fact_45 : decode prog_1_method_55_code 45 = .ok (.iload_n 2, 1) := gq_0 db00d_38 eb_13
theorem d_X11_fact_46 : decode prog_1_method_55_code 46 = .ok (.invokevirtual 426, 3) := gq_1 db00d_38 eb_756
theorem d_X11_fact_49 : decode prog_1_method_55_code 49 = .ok (.ireturn, 1) := gq_2 db00d_38 eb_15
theorem db00d_39 : Pf_ prog_1_method_56_code [(0, [0x2a]), (1, [0x1c]), (2, [0xb6, 0x01, 0x41]), (5, [0x99, 0x00, 0x1c]), (8, [0x2a]), (9, [0xb4, 0x00, 0x3f]), (12, [0x1b]), (13, [0x1c]), (14, [0xb6, 0x01, 0xa3]), (17, [0x99, 0x00, 0x10]), (20, [0x2a]), (21, [0xb4, 0x00, 0x3f]), (24, [0x1b]), (25, [0x1c]), (26, [0x1d]), (27, [0xb6, 0x01, 0xad]), (30, [0xa7, 0x00, 0x04]), (33, [0x02]), (34, [0xac])] := pf_ok prog_1_method_56_code _ 0 (by decide +kernel)
theorem d_X11_cased_0 : decode prog_1_method_56_code 0 = .ok (.aload_n 0, 1) := gq_0 db00d_39 eb_0
theorem d_X11_cased_1 : decode prog_1_method_56_code 1 = .ok (.iload_n 2, 1) := gq_1 db00d_39 eb_13
theorem d_X11_cased_2 : decode prog_1_method_56_code 2 = .ok (.invokevirtual 321, 3) := gq_2 db00d_39 eb_716
theorem d_X11_cased_5 : decode prog_1_method_56_code 5 = .ok (.ifCond .eq 28, 3) := gq_3 db00d_39 eb_623
theorem d_X11_cased_8 : decode prog_1_method_56_code 8 = .ok (.aload_n 0, 1) := gq_4 db00d_39 eb_0
theorem d_X11_cased_9 : decode prog_1_method_56_code 9 = .ok (.getfield 63, 3) := gq_5 db00d_39 eb_276
theorem d_X11_cased_12 : decode prog_1_method_56_code 12 = .ok (.iload_n 1, 1) := gq_6 db00d_39 eb_9
theorem d_X11_cased_13 : decode prog_1_method_56_code 13 = .ok (.iload_n 2, 1) := gq_7 db00d_39 eb_13
theorem d_X11_cased_14 : decode prog_1_method_56_code 14 = .ok (.invokevirtual 419, 3) := gq_8 db00d_39 eb_754
theorem d_X11_cased_17 : decode prog_1_method_56_code 17 = .ok (.ifCond .eq 16, 3) := gq_9 db00d_39 eb_136
theorem d_X11_cased_20 : decode prog_1_method_56_code 20 = .ok (.aload_n 0, 1) := gq_10 db00d_39 eb_0
theorem d_X11_cased_21 : decode prog_1_method_56_code 21 = .ok (.getfield 63, 3) := gq_11 db00d_39 eb_276
theorem d_X11_cased_24 : decode prog_1_method_56_code 24 = .ok (.iload_n 1, 1) := gq_12 db00d_39 eb_9
theorem d_X11_cased_25 : decode prog_1_method_56_code 25 = .ok (.iload_n 2, 1) := gq_13 db00d_39 eb_13
theorem d_X11_cased_26 : decode prog_1_method_56_code 26 = .ok (.iload_n 3, 1) := gq_14 db00d_39 eb_29
theorem d_X11_cased_27 : decode prog_1_method_56_code 27 = .ok (.invokevirtual 429, 3) := gq_15 db00d_39 eb_757
theorem d_X11_cased_30 : decode prog_1_method_56_code 30 = .ok (.goto 4, 3) := gq_16 db00d_39 eb_20
theorem d_X11_cased_33 : decode prog_1_method_56_code 33 = .ok (.iconst (-1), 1) := gq_17 db00d_39 eb_26
theorem d_X11_cased_34 : decode prog_1_method_56_code 34 = .ok (.ireturn, 1) := gq_18 db00d_39 eb_15
theorem db00d_40 : Pf_ prog_1_method_57_code [(0, [0x2a]), (1, [0xb4, 0x00, 0x3f]), (4, [0x1b]), (5, [0xb6, 0x01, 0x9b]), (8, [0x99, 0x00, 0x1f]), (11, [0x1c]), (12, [0x03]), (13, [0x11, 0x00, 0xff]), (16, [0xb8, 0x00, 0x60]), (19, [0x99, 0x00, 0x14]), (22, [0x1d]), (23, [0x03]), (24, [0x11, 0x00, 0xff]), (27, [0xb8, 0x00, 0x60]), (30, [0x99, 0x00, 0x09]), (33, [0x1c]), (34, [0x1d]), (35, [0x7e]), (36, [0x99, 0x00, 0x05]), (39, [0x02]), (40, [0xac]), (41, [0x2a]), (42, [0xb4, 0x00, 0x3f]), (45, [0x1b])] := pf_ok prog_1_method_57_code _ 0 (by decide +kernel)
theorem d_X11_story_0 : decode prog_1_method_57_code 0 = .ok (.aload_n 0, 1) := gq_0 db00d_40 eb_0
theorem d_X11_story_1 : decode prog_1_method_57_code 1 = .ok (.getfield 63, 3) := gq_1 db00d_40 eb_276
theorem d_X11_story_4 : decode prog_1_method_57_code 4 = .ok (.iload_n 1, 1) := gq_2 db00d_40 eb_9
theorem d_X11_story_5 : decode prog_1_method_57_code 5 = .ok (.invokevirtual 411, 3) := gq_3 db00d_40 eb_751
theorem d_X11_story_8 : decode prog_1_method_57_code 8 = .ok (.ifCond .eq 31, 3) := gq_4 db00d_40 eb_758
theorem d_X11_story_11 : decode prog_1_method_57_code 11 = .ok (.iload_n 2, 1) := gq_5 db00d_40 eb_13
theorem d_X11_story_12 : decode prog_1_method_57_code 12 = .ok (.iconst 0, 1) := gq_6 db00d_40 eb_21
theorem d_X11_story_13 : decode prog_1_method_57_code 13 = .ok (.sipush 255, 3) := gq_7 db00d_40 eb_443
theorem d_X11_story_16 : decode prog_1_method_57_code 16 = .ok (.invokestatic 96, 3) := gq_8 db00d_40 eb_606
theorem d_X11_story_19 : decode prog_1_method_57_code 19 = .ok (.ifCond .eq 20, 3) := gq_9 db00d_40 eb_210
theorem d_X11_story_22 : decode prog_1_method_57_code 22 = .ok (.iload_n 3, 1) := gq_10 db00d_40 eb_29
theorem d_X11_story_23 : decode prog_1_method_57_code 23 = .ok (.iconst 0, 1) := gq_11 db00d_40 eb_21
theorem d_X11_story_24 : decode prog_1_method_57_code 24 = .ok (.sipush 255, 3) := gq_12 db00d_40 eb_443
theorem d_X11_story_27 : decode prog_1_method_57_code 27 = .ok (.invokestatic 96, 3) := gq_13 db00d_40 eb_606
theorem d_X11_story_30 : decode prog_1_method_57_code 30 = .ok (.ifCond .eq 9, 3) := gq_14 db00d_40 eb_249
theorem d_X11_story_33 : decode prog_1_method_57_code 33 = .ok (.iload_n 2, 1) := gq_15 db00d_40 eb_13
theorem d_X11_story_34 : decode prog_1_method_57_code 34 = .ok (.iload_n 3, 1) := gq_16 db00d_40 eb_29
theorem d_X11_story_35 : decode prog_1_method_57_code 35 = .ok (.iand, 1) := gq_17 db00d_40 eb_55
theorem d_X11_story_36 : decode prog_1_method_57_code 36 = .ok (.ifCond .eq 5, 3) := gq_18 db00d_40 eb_25
theorem d_X11_story_39 : decode prog_1_method_57_code 39 = .ok (.iconst (-1), 1) := gq_19 db00d_40 eb_26
theorem d_X11_story_40 : decode prog_1_method_57_code 40 = .ok (.ireturn, 1) := gq_20 db00d_40 eb_15
theorem d_X11_story_41 : decode prog_1_method_57_code 41 = .ok (.aload_n 0, 1) := gq_21 db00d_40 eb_0
theorem d_X11_story_42 : decode prog_1_method_57_code 42 = .ok (.getfield 63, 3) := gq_22 db00d_40 eb_276
theorem d_X11_story_45 : decode prog_1_method_57_code 45 = .ok (.iload_n 1, 1) := gq_23 db00d_40 eb_9
theorem db00d_41 : Pf_ prog_1_method_57_code [(46, [0x1c]), (47, [0x1d]), (48, [0x2a]), (49, [0xb4, 0x00, 0x5c]), (52, [0xb6, 0x01, 0xae]), (55, [0xac])] := pf_ok prog_1_method_57_code _ 46 (by decide +kernel)
theorem d_X11_story_46 : decode prog_1_method_57_code 46 = .ok (.iload_n 2, 1) := gq_0 db00d_41 eb_13
theorem d_X11_story_47 : decode prog_1_method_57_code 47 = .ok (.iload_n 3, 1) := gq_1 db00d_41 eb_29
theorem d_X11_story_48 : decode prog_1_method_57_code 48 = .ok (.aload_n 0, 1) := gq_2 db00d_41 eb_0
theorem d_X11_story_49 : decode prog_1_method_57_code 49 = .ok (.getfield 92, 3) := gq_3 db00d_41 eb_605
theorem d_X11_story_52 : decode prog_1_method_57_code 52 = .ok (.invokevirtual 430, 3) := gq_4 db00d_41 eb_759
theorem d_X11_story_55 : decode prog_1_method_57_code 55 = .ok (.ireturn, 1) := gq_5 db00d_41 eb_15
theorem db00d_42 : Pf_ prog_1_method_58_code [(0, [0x2a]), (1, [0xb4, 0x00, 0x3f]), (4, [0x1b]), (5, [0xb6, 0x01, 0x9b]), (8, [0x99, 0x00, 0x12]), (11, [0x2a]), (12, [0xb4, 0x00, 0x3f]), (15, [0x1b]), (16, [0x2a]), (17, [0xb4, 0x00, 0x5c]), (20, [0xb6, 0x01, 0xb2]), (23, [0xa7, 0x00, 0x04]), (26, [0x02]), (27, [0xac])] := pf_ok prog_1_method_58_code _ 0 (by decide +kernel)
theorem d_X11_next_0 : decode prog_1_method_58_code 0 = .ok (.aload_n 0, 1) := gq_0 db00d_42 eb_0
theorem d_X11_next_1 : decode prog_1_method_58_code 1 = .ok (.getfield 63, 3) := gq_1 db00d_42 eb_276
theorem d_X11_next_4 : decode prog_1_method_58_code 4 = .ok (.iload_n 1, 1) := gq_2 db00d_42 eb_9
theorem d_X11_next_5 : decode prog_1_method_58_code 5 = .ok (.invokevirtual 411, 3) := gq_3 db00d_42 eb_751
theorem d_X11_next_8 : decode prog_1_method_58_code 8 = .ok (.ifCond .eq 18, 3) := gq_4 db00d_42 eb_138
theorem d_X11_next_11 : decode prog_1_method_58_code 11 = .ok (.aload_n 0, 1) := gq_5 db00d_42 eb_0
theorem d_X11_next_12 : decode prog_1_method_58_code 12 = .ok (.getfield 63, 3) := gq_6 db00d_42 eb_276
theorem d_X11_next_15 : decode prog_1_method_58_code 15 = .ok (.iload_n 1, 1) := gq_7 db00d_42 eb_9
theorem d_X11_next_16 : decode prog_1_method_58_code 16 = .ok (.aload_n 0, 1) := gq_8 db00d_42 eb_0
theorem d_X11_next_17 : decode prog_1_method_58_code 17 = .ok (.getfield 92, 3) := gq_9 db00d_42 eb_605
theorem d_X11_next_20 : decode prog_1_method_58_code 20 = .ok (.invokevirtual 434, 3) := gq_10 db00d_42 eb_760
theorem d_X11_next_23 : decode prog_1_method_58_code 23 = .ok (.goto 4, 3) := gq_11 db00d_42 eb_20
theorem d_X11_next_26 : decode prog_1_method_58_code 26 = .ok (.iconst (-1), 1) := gq_12 db00d_42 eb_26
theorem d_X11_next_27 : decode prog_1_method_58_code 27 = .ok (.ireturn, 1) := gq_13 db00d_42 eb_15
theorem db00d_43 : Pf_ prog_1_method_59_code [(0, [0x1c]), (1, [0x03]), (2, [0x13, 0x01, 0xb5]), (5, [0xb8, 0x00, 0x60]), (8, [0x99, 0x00, 0x0f]), (11, [0x2a]), (12, [0xb4, 0x00, 0x46]), (15, [0x1b]), (16, [0x1c]), (17, [0xb6, 0x01, 0xb6]), (20, [0xa7, 0x00, 0x04]), (23, [0x02]), (24, [0xac])] := pf_ok prog_1_method_59_code _ 0 (by decide +kernel)
theorem d_X11_good_0 : decode prog_1_method_59_code 0 = .ok (.iload_n 2, 1) := gq_0 db00d_43 eb_13
theorem d_X11_good_1 : decode prog_1_method_59_code 1 = .ok (.iconst 0, 1) := gq_1 db00d_43 eb_21
theorem d_X11_good_2 : decode prog_1_method_59_code 2 = .ok (.ldc_w 437, 3) := gq_2 db00d_43 eb_761
theorem d_X11_good_5 : decode prog_1_method_59_code 5 = .ok (.invokestatic 96, 3) := gq_3 db00d_43 eb_606
theorem d_X11_good_8 : decode prog_1_method_59_code 8 = .ok (.ifCond .eq 15, 3) := gq_4 db00d_43 eb_294
theorem d_X11_good_11 : decode prog_1_method_59_code 11 = .ok (.aload_n 0, 1) := gq_5 db00d_43 eb_0
theorem d_X11_good_12 : decode prog_1_method_59_code 12 = .ok (.getfield 70, 3) := gq_6 db00d_43 eb_298
theorem d_X11_good_15 : decode prog_1_method_59_code 15 = .ok (.iload_n 1, 1) := gq_7 db00d_43 eb_9
theorem d_X11_good_16 : decode prog_1_method_59_code 16 = .ok (.iload_n 2, 1) := gq_8 db00d_43 eb_13
theorem d_X11_good_17 : decode prog_1_method_59_code 17 = .ok (.invokevirtual 438, 3) := gq_9 db00d_43 eb_762
theorem d_X11_good_20 : decode prog_1_method_59_code 20 = .ok (.goto 4, 3) := gq_10 db00d_43 eb_20
theorem d_X11_good_23 : decode prog_1_method_59_code 23 = .ok (.iconst (-1), 1) := gq_11 db00d_43 eb_26
theorem d_X11_good_24 : decode prog_1_method_59_code 24 = .ok (.ireturn, 1) := gq_12 db00d_43 eb_15
theorem db00d_44 : Pf_ prog_1_method_60_code [(0, [0x1b]), (1, [0x04]), (2, [0x08]), (3, [0xb8, 0x00, 0x60]), (6, [0x99, 0x00, 0x12]), (9, [0x2a]), (10, [0xb4, 0x00, 0x46]), (13, [0x1b]), (14, [0xb6, 0x01, 0xba]), (17, [0x99, 0x00, 0x07]), (20, [0x04]), (21, [0xa7, 0x00, 0x04]), (24, [0x03]), (25, [0xac])] := pf_ok prog_1_method_60_code _ 0 (by decide +kernel)
theorem d_X11_least_0 : decode prog_1_method_60_code 0 = .ok (.iload_n 1, 1) := gq_0 db00d_44 eb_9
theorem d_X11_least_1 : decode prog_1_method_60_code 1 = .ok (.iconst 1, 1) := gq_1 db00d_44 eb_19
theorem d_X11_least_2 : decode prog_1_method_60_code 2 = .ok (.iconst 5, 1) := gq_2 db00d_44 eb_122
theorem d_X11_least_3 : decode prog_1_method_60_code 3 = .ok (.invokestatic 96, 3) := gq_3 db00d_44 eb_606
theorem d_X11_least_6 : decode prog_1_method_60_code 6 = .ok (.ifCond .eq 18, 3) := gq_4 db00d_44 eb_138
theorem d_X11_least_9 : decode prog_1_method_60_code 9 = .ok (.aload_n 0, 1) := gq_5 db00d_44 eb_0
theorem d_X11_least_10 : decode prog_1_method_60_code 10 = .ok (.getfield 70, 3) := gq_6 db00d_44 eb_298
theorem d_X11_least_13 : decode prog_1_method_60_code 13 = .ok (.iload_n 1, 1) := gq_7 db00d_44 eb_9
theorem d_X11_least_14 : decode prog_1_method_60_code 14 = .ok (.invokevirtual 442, 3) := gq_8 db00d_44 eb_763
theorem d_X11_least_17 : decode prog_1_method_60_code 17 = .ok (.ifCond .eq 7, 3) := gq_9 db00d_44 eb_123
theorem d_X11_least_20 : decode prog_1_method_60_code 20 = .ok (.iconst 1, 1) := gq_10 db00d_44 eb_19
theorem d_X11_least_21 : decode prog_1_method_60_code 21 = .ok (.goto 4, 3) := gq_11 db00d_44 eb_20
theorem d_X11_least_24 : decode prog_1_method_60_code 24 = .ok (.iconst 0, 1) := gq_12 db00d_44 eb_21
theorem d_X11_least_25 : decode prog_1_method_60_code 25 = .ok (.ireturn, 1) := gq_13 db00d_44 eb_15
theorem db00d_45 : Pf_ prog_1_method_61_code [(0, [0x2a]), (1, [0xb4, 0x00, 0x46]), (4, [0xb6, 0x01, 0xbd]), (7, [0xac])] := pf_ok prog_1_method_61_code _ 0 (by decide +kernel)
theorem d_X11_joining_0 : decode prog_1_method_61_code 0 = .ok (.aload_n 0, 1) := gq_0 db00d_45 eb_0
theorem d_X11_joining_1 : decode prog_1_method_61_code 1 = .ok (.getfield 70, 3) := gq_1 db00d_45 eb_298
theorem d_X11_joining_4 : decode prog_1_method_61_code 4 = .ok (.invokevirtual 445, 3) := gq_2 db00d_45 eb_764
theorem d_X11_joining_7 : decode prog_1_method_61_code 7 = .ok (.ireturn, 1) := gq_3 db00d_45 eb_15
theorem db00d_46 : Pf_ prog_1_method_62_code [(0, [0x2a]), (1, [0xb4, 0x00, 0x46]), (4, [0x1b]), (5, [0xb6, 0x01, 0xc0]), (8, [0x99, 0x00, 0x0e]), (11, [0x2a]), (12, [0xb4, 0x00, 0x46]), (15, [0x1b]), (16, [0xb6, 0x01, 0xc3]), (19, [0xa7, 0x00, 0x04]), (22, [0x02]), (23, [0xac])] := pf_ok prog_1_method_62_code _ 0 (by decide +kernel)
theorem d_X11_joined_0 : decode prog_1_method_62_code 0 = .ok (.aload_n 0, 1) := gq_0 db00d_46 eb_0
theorem d_X11_joined_1 : decode prog_1_method_62_code 1 = .ok (.getfield 70, 3) := gq_1 db00d_46 eb_298
theorem d_X11_joined_4 : decode prog_1_method_62_code 4 = .ok (.iload_n 1, 1) := gq_2 db00d_46 eb_9
theorem d_X11_joined_5 : decode prog_1_method_62_code 5 = .ok (.invokevirtual 448, 3) := gq_3 db00d_46 eb_765
theorem d_X11_joined_8 : decode prog_1_method_62_code 8 = .ok (.ifCond .eq 14, 3) := gq_4 db00d_46 eb_174
theorem d_X11_joined_11 : decode prog_1_method_62_code 11 = .ok (.aload_n 0, 1) := gq_5 db00d_46 eb_0
theorem d_X11_joined_12 : decode prog_1_method_62_code 12 = .ok (.getfield 70, 3) := gq_6 db00d_46 eb_298
theorem d_X11_joined_15 : decode prog_1_method_62_code 15 = .ok (.iload_n 1, 1) := gq_7 db00d_46 eb_9
theorem d_X11_joined_16 : decode prog_1_method_62_code 16 = .ok (.invokevirtual 451, 3) := gq_8 db00d_46 eb_766
theorem d_X11_joined_19 : decode prog_1_method_62_code 19 = .ok (.goto 4, 3) := gq_9 db00d_46 eb_20
theorem d_X11_joined_22 : decode prog_1_method_62_code 22 = .ok (.iconst (-1), 1) := gq_10 db00d_46 eb_26
theorem d_X11_joined_23 : decode prog_1_method_62_code 23 = .ok (.ireturn, 1) := gq_11 db00d_46 eb_15
theorem db00d_47 : Pf_ prog_1_method_63_code [(0, [0x2a]), (1, [0xb4, 0x00, 0x46]), (4, [0x1b]), (5, [0xb6, 0x01, 0xc0]), (8, [0x99, 0x00, 0x0e]), (11, [0x2a]), (12, [0xb4, 0x00, 0x46]), (15, [0x1b]), (16, [0xb6, 0x01, 0xc6]), (19, [0xa7, 0x00, 0x04]), (22, [0x02]), (23, [0xac])] := pf_ok prog_1_method_63_code _ 0 (by decide +kernel)
theorem d_X11_rivals_0 : decode prog_1_method_63_code 0 = .ok (.aload_n 0, 1) := gq_0 db00d_47 eb_0
theorem d_X11_rivals_1 : decode prog_1_method_63_code 1 = .ok (.getfield 70, 3) := gq_1 db00d_47 eb_298
theorem d_X11_rivals_4 : decode prog_1_method_63_code 4 = .ok (.iload_n 1, 1) := gq_2 db00d_47 eb_9
theorem d_X11_rivals_5 : decode prog_1_method_63_code 5 = .ok (.invokevirtual 448, 3) := gq_3 db00d_47 eb_765
theorem d_X11_rivals_8 : decode prog_1_method_63_code 8 = .ok (.ifCond .eq 14, 3) := gq_4 db00d_47 eb_174
theorem d_X11_rivals_11 : decode prog_1_method_63_code 11 = .ok (.aload_n 0, 1) := gq_5 db00d_47 eb_0
theorem d_X11_rivals_12 : decode prog_1_method_63_code 12 = .ok (.getfield 70, 3) := gq_6 db00d_47 eb_298
theorem d_X11_rivals_15 : decode prog_1_method_63_code 15 = .ok (.iload_n 1, 1) := gq_7 db00d_47 eb_9
theorem d_X11_rivals_16 : decode prog_1_method_63_code 16 = .ok (.invokevirtual 454, 3) := gq_8 db00d_47 eb_767
theorem d_X11_rivals_19 : decode prog_1_method_63_code 19 = .ok (.goto 4, 3) := gq_9 db00d_47 eb_20
theorem d_X11_rivals_22 : decode prog_1_method_63_code 22 = .ok (.iconst (-1), 1) := gq_10 db00d_47 eb_26
theorem d_X11_rivals_23 : decode prog_1_method_63_code 23 = .ok (.ireturn, 1) := gq_11 db00d_47 eb_15
theorem db00d_48 : Pf_ prog_1_method_64_code [(0, [0x2a]), (1, [0xb4, 0x00, 0x46]), (4, [0x1b]), (5, [0xb6, 0x01, 0xc0]), (8, [0x9a, 0x00, 0x05]), (11, [0x02]), (12, [0xac]), (13, [0x2a]), (14, [0xb4, 0x00, 0x46]), (17, [0x1b]), (18, [0xb6, 0x01, 0xc9]), (21, [0x99, 0x00, 0x07]), (24, [0x04]), (25, [0xa7, 0x00, 0x04]), (28, [0x03]), (29, [0xac])] := pf_ok prog_1_method_64_code _ 0 (by decide +kernel)
theorem d_X11_sure_0 : decode prog_1_method_64_code 0 = .ok (.aload_n 0, 1) := gq_0 db00d_48 eb_0
theorem d_X11_sure_1 : decode prog_1_method_64_code 1 = .ok (.getfield 70, 3) := gq_1 db00d_48 eb_298
theorem d_X11_sure_4 : decode prog_1_method_64_code 4 = .ok (.iload_n 1, 1) := gq_2 db00d_48 eb_9
theorem d_X11_sure_5 : decode prog_1_method_64_code 5 = .ok (.invokevirtual 448, 3) := gq_3 db00d_48 eb_765
theorem d_X11_sure_8 : decode prog_1_method_64_code 8 = .ok (.ifCond .ne 5, 3) := gq_4 db00d_48 eb_150
theorem d_X11_sure_11 : decode prog_1_method_64_code 11 = .ok (.iconst (-1), 1) := gq_5 db00d_48 eb_26
theorem d_X11_sure_12 : decode prog_1_method_64_code 12 = .ok (.ireturn, 1) := gq_6 db00d_48 eb_15
theorem d_X11_sure_13 : decode prog_1_method_64_code 13 = .ok (.aload_n 0, 1) := gq_7 db00d_48 eb_0
theorem d_X11_sure_14 : decode prog_1_method_64_code 14 = .ok (.getfield 70, 3) := gq_8 db00d_48 eb_298
theorem d_X11_sure_17 : decode prog_1_method_64_code 17 = .ok (.iload_n 1, 1) := gq_9 db00d_48 eb_9
theorem d_X11_sure_18 : decode prog_1_method_64_code 18 = .ok (.invokevirtual 457, 3) := gq_10 db00d_48 eb_768
theorem d_X11_sure_21 : decode prog_1_method_64_code 21 = .ok (.ifCond .eq 7, 3) := gq_11 db00d_48 eb_123
theorem d_X11_sure_24 : decode prog_1_method_64_code 24 = .ok (.iconst 1, 1) := gq_12 db00d_48 eb_19
theorem d_X11_sure_25 : decode prog_1_method_64_code 25 = .ok (.goto 4, 3) := gq_13 db00d_48 eb_20
theorem d_X11_sure_28 : decode prog_1_method_64_code 28 = .ok (.iconst 0, 1) := gq_14 db00d_48 eb_21
theorem d_X11_sure_29 : decode prog_1_method_64_code 29 = .ok (.ireturn, 1) := gq_15 db00d_48 eb_15
theorem db00d_49 : Pf_ prog_1_method_65_code [(0, [0x1b]), (1, [0xb8, 0x00, 0x6b]), (4, [0x99, 0x00, 0x19]), (7, [0x1c]), (8, [0x03]), (9, [0x11, 0x05, 0xa0]), (12, [0xb8, 0x00, 0x60]), (15, [0x99, 0x00, 0x0e]), (18, [0x1d]), (19, [0x1c]), (20, [0x11, 0x05, 0xa0]), (23, [0xb8, 0x00, 0x60]), (26, [0x9a, 0x00, 0x05]), (29, [0x02]), (30, [0xac]), (31, [0x2a]), (32, [0xb4, 0x00, 0x4d]), (35, [0x1b]), (36, [0x1c]), (37, [0x1d]), (38, [0xb6, 0x01, 0xcc]), (41, [0xac])] := pf_ok prog_1_method_65_code _ 0 (by decide +kernel)
theorem d_X11_watch_0 : decode prog_1_method_65_code 0 = .ok (.iload_n 1, 1) := gq_0 db00d_49 eb_9
theorem d_X11_watch_1 : decode prog_1_method_65_code 1 = .ok (.invokestatic 107, 3) := gq_1 db00d_49 eb_608
theorem d_X11_watch_4 : decode prog_1_method_65_code 4 = .ok (.ifCond .eq 25, 3) := gq_2 db00d_49 eb_293
theorem d_X11_watch_7 : decode prog_1_method_65_code 7 = .ok (.iload_n 2, 1) := gq_3 db00d_49 eb_13
theorem d_X11_watch_8 : decode prog_1_method_65_code 8 = .ok (.iconst 0, 1) := gq_4 db00d_49 eb_21
theorem d_X11_watch_9 : decode prog_1_method_65_code 9 = .ok (.sipush 1440, 3) := gq_5 db00d_49 eb_289
theorem d_X11_watch_12 : decode prog_1_method_65_code 12 = .ok (.invokestatic 96, 3) := gq_6 db00d_49 eb_606
theorem d_X11_watch_15 : decode prog_1_method_65_code 15 = .ok (.ifCond .eq 14, 3) := gq_7 db00d_49 eb_174
theorem d_X11_watch_18 : decode prog_1_method_65_code 18 = .ok (.iload_n 3, 1) := gq_8 db00d_49 eb_29
theorem d_X11_watch_19 : decode prog_1_method_65_code 19 = .ok (.iload_n 2, 1) := gq_9 db00d_49 eb_13
theorem d_X11_watch_20 : decode prog_1_method_65_code 20 = .ok (.sipush 1440, 3) := gq_10 db00d_49 eb_289
theorem d_X11_watch_23 : decode prog_1_method_65_code 23 = .ok (.invokestatic 96, 3) := gq_11 db00d_49 eb_606
theorem d_X11_watch_26 : decode prog_1_method_65_code 26 = .ok (.ifCond .ne 5, 3) := gq_12 db00d_49 eb_150
theorem d_X11_watch_29 : decode prog_1_method_65_code 29 = .ok (.iconst (-1), 1) := gq_13 db00d_49 eb_26
theorem d_X11_watch_30 : decode prog_1_method_65_code 30 = .ok (.ireturn, 1) := gq_14 db00d_49 eb_15
theorem d_X11_watch_31 : decode prog_1_method_65_code 31 = .ok (.aload_n 0, 1) := gq_15 db00d_49 eb_0
theorem d_X11_watch_32 : decode prog_1_method_65_code 32 = .ok (.getfield 77, 3) := gq_16 db00d_49 eb_769
theorem d_X11_watch_35 : decode prog_1_method_65_code 35 = .ok (.iload_n 1, 1) := gq_17 db00d_49 eb_9
theorem d_X11_watch_36 : decode prog_1_method_65_code 36 = .ok (.iload_n 2, 1) := gq_18 db00d_49 eb_13
theorem d_X11_watch_37 : decode prog_1_method_65_code 37 = .ok (.iload_n 3, 1) := gq_19 db00d_49 eb_29
theorem d_X11_watch_38 : decode prog_1_method_65_code 38 = .ok (.invokevirtual 460, 3) := gq_20 db00d_49 eb_770
theorem d_X11_watch_41 : decode prog_1_method_65_code 41 = .ok (.ireturn, 1) := gq_21 db00d_49 eb_15
theorem db00d_50 : Pf_ prog_1_method_66_code [(0, [0x2a]), (1, [0xb4, 0x00, 0x1a]), (4, [0x1b]), (5, [0xb6, 0x00, 0x94]), (8, [0x99, 0x00, 0x0e]), (11, [0x2a]), (12, [0xb4, 0x00, 0x4d]), (15, [0x1c]), (16, [0xb6, 0x01, 0xcf]), (19, [0x9a, 0x00, 0x05]), (22, [0x02]), (23, [0xac]), (24, [0x2a]), (25, [0xb4, 0x00, 0x4d]), (28, [0x1c]), (29, [0x1b]), (30, [0x2a]), (31, [0xb4, 0x00, 0x1a]), (34, [0x2a]), (35, [0xb4, 0x00, 0x0a]), (38, [0xb6, 0x01, 0xd2]), (41, [0x99, 0x00, 0x07]), (44, [0x04]), (45, [0xa7, 0x00, 0x04])] := pf_ok prog_1_method_66_code _ 0 (by decide +kernel)
theorem d_X11_sees_0 : decode prog_1_method_66_code 0 = .ok (.aload_n 0, 1) := gq_0 db00d_50 eb_0
theorem d_X11_sees_1 : decode prog_1_method_66_code 1 = .ok (.getfield 26, 3) := gq_1 db00d_50 eb_226
theorem d_X11_sees_4 : decode prog_1_method_66_code 4 = .ok (.iload_n 1, 1) := gq_2 db00d_50 eb_9
theorem d_X11_sees_5 : decode prog_1_method_66_code 5 = .ok (.invokevirtual 148, 3) := gq_3 db00d_50 eb_620
theorem d_X11_sees_8 : decode prog_1_method_66_code 8 = .ok (.ifCond .eq 14, 3) := gq_4 db00d_50 eb_174
theorem d_X11_sees_11 : decode prog_1_method_66_code 11 = .ok (.aload_n 0, 1) := gq_5 db00d_50 eb_0
theorem d_X11_sees_12 : decode prog_1_method_66_code 12 = .ok (.getfield 77, 3) := gq_6 db00d_50 eb_769
theorem d_X11_sees_15 : decode prog_1_method_66_code 15 = .ok (.iload_n 2, 1) := gq_7 db00d_50 eb_13
theorem d_X11_sees_16 : decode prog_1_method_66_code 16 = .ok (.invokevirtual 463, 3) := gq_8 db00d_50 eb_771
theorem d_X11_sees_19 : decode prog_1_method_66_code 19 = .ok (.ifCond .ne 5, 3) := gq_9 db00d_50 eb_150
theorem d_X11_sees_22 : decode prog_1_method_66_code 22 = .ok (.iconst (-1), 1) := gq_10 db00d_50 eb_26
theorem d_X11_sees_23 : decode prog_1_method_66_code 23 = .ok (.ireturn, 1) := gq_11 db00d_50 eb_15
theorem d_X11_sees_24 : decode prog_1_method_66_code 24 = .ok (.aload_n 0, 1) := gq_12 db00d_50 eb_0
theorem d_X11_sees_25 : decode prog_1_method_66_code 25 = .ok (.getfield 77, 3) := gq_13 db00d_50 eb_769
theorem d_X11_sees_28 : decode prog_1_method_66_code 28 = .ok (.iload_n 2, 1) := gq_14 db00d_50 eb_13
theorem d_X11_sees_29 : decode prog_1_method_66_code 29 = .ok (.iload_n 1, 1) := gq_15 db00d_50 eb_9
theorem d_X11_sees_30 : decode prog_1_method_66_code 30 = .ok (.aload_n 0, 1) := gq_16 db00d_50 eb_0
theorem d_X11_sees_31 : decode prog_1_method_66_code 31 = .ok (.getfield 26, 3) := gq_17 db00d_50 eb_226
theorem d_X11_sees_34 : decode prog_1_method_66_code 34 = .ok (.aload_n 0, 1) := gq_18 db00d_50 eb_0
theorem d_X11_sees_35 : decode prog_1_method_66_code 35 = .ok (.getfield 10, 3) := gq_19 db00d_50 eb_609
theorem d_X11_sees_38 : decode prog_1_method_66_code 38 = .ok (.invokevirtual 466, 3) := gq_20 db00d_50 eb_772
theorem d_X11_sees_41 : decode prog_1_method_66_code 41 = .ok (.ifCond .eq 7, 3) := gq_21 db00d_50 eb_123
theorem d_X11_sees_44 : decode prog_1_method_66_code 44 = .ok (.iconst 1, 1) := gq_22 db00d_50 eb_19
theorem d_X11_sees_45 : decode prog_1_method_66_code 45 = .ok (.goto 4, 3) := gq_23 db00d_50 eb_20
theorem db00d_51 : Pf_ prog_1_method_66_code [(48, [0x03]), (49, [0xac])] := pf_ok prog_1_method_66_code _ 48 (by decide +kernel)
theorem d_X11_sees_48 : decode prog_1_method_66_code 48 = .ok (.iconst 0, 1) := gq_0 db00d_51 eb_21
theorem d_X11_sees_49 : decode prog_1_method_66_code 49 = .ok (.ireturn, 1) := gq_1 db00d_51 eb_15
theorem db00d_52 : Pf_ prog_1_method_67_code [(0, [0x1b]), (1, [0x9e, 0x00, 0x1c]), (4, [0x1b]), (5, [0x04]), (6, [0x2a]), (7, [0xb4, 0x00, 0x1a]), (10, [0xb4, 0x01, 0xd6]), (13, [0x78]), (14, [0xa2, 0x00, 0x0f]), (17, [0x1b]), (18, [0xb8, 0x01, 0xd8]), (21, [0x08]), (22, [0xa3, 0x00, 0x07]), (25, [0x04]), (26, [0xa7, 0x00, 0x04]), (29, [0x03]), (30, [0xac])] := pf_ok prog_1_method_67_code _ 0 (by decide +kernel)
theorem d_X11_canShare_0 : decode prog_1_method_67_code 0 = .ok (.iload_n 1, 1) := gq_0 db00d_52 eb_9
theorem d_X11_canShare_1 : decode prog_1_method_67_code 1 = .ok (.ifCond .le 28, 3) := gq_1 db00d_52 eb_773
theorem d_X11_canShare_4 : decode prog_1_method_67_code 4 = .ok (.iload_n 1, 1) := gq_2 db00d_52 eb_9
theorem d_X11_canShare_5 : decode prog_1_method_67_code 5 = .ok (.iconst 1, 1) := gq_3 db00d_52 eb_19
theorem d_X11_canShare_6 : decode prog_1_method_67_code 6 = .ok (.aload_n 0, 1) := gq_4 db00d_52 eb_0
theorem d_X11_canShare_7 : decode prog_1_method_67_code 7 = .ok (.getfield 26, 3) := gq_5 db00d_52 eb_226
theorem d_X11_canShare_10 : decode prog_1_method_67_code 10 = .ok (.getfield 470, 3) := gq_6 db00d_52 eb_774
theorem d_X11_canShare_13 : decode prog_1_method_67_code 13 = .ok (.ishl, 1) := gq_7 db00d_52 eb_11
theorem d_X11_canShare_14 : decode prog_1_method_67_code 14 = .ok (.if_icmp .ge 15, 3) := gq_8 db00d_52 eb_457
theorem d_X11_canShare_17 : decode prog_1_method_67_code 17 = .ok (.iload_n 1, 1) := gq_9 db00d_52 eb_9
theorem d_X11_canShare_18 : decode prog_1_method_67_code 18 = .ok (.invokestatic 472, 3) := gq_10 db00d_52 eb_775
theorem d_X11_canShare_21 : decode prog_1_method_67_code 21 = .ok (.iconst 5, 1) := gq_11 db00d_52 eb_122
theorem d_X11_canShare_22 : decode prog_1_method_67_code 22 = .ok (.if_icmp .gt 7, 3) := gq_12 db00d_52 eb_113
theorem d_X11_canShare_25 : decode prog_1_method_67_code 25 = .ok (.iconst 1, 1) := gq_13 db00d_52 eb_19
theorem d_X11_canShare_26 : decode prog_1_method_67_code 26 = .ok (.goto 4, 3) := gq_14 db00d_52 eb_20
theorem d_X11_canShare_29 : decode prog_1_method_67_code 29 = .ok (.iconst 0, 1) := gq_15 db00d_52 eb_21
theorem d_X11_canShare_30 : decode prog_1_method_67_code 30 = .ok (.ireturn, 1) := gq_16 db00d_52 eb_15
theorem db00d_53 : Pf_ prog_1_method_68_code [(0, [0x2a]), (1, [0x1b]), (2, [0xb6, 0x01, 0xdd]), (5, [0x99, 0x00, 0x16]), (8, [0x2a]), (9, [0xb4, 0x00, 0x4d]), (12, [0x1b]), (13, [0x2a]), (14, [0xb4, 0x00, 0x1a]), (17, [0x2a]), (18, [0xb4, 0x00, 0x0a]), (21, [0xb6, 0x01, 0xe0]), (24, [0xa7, 0x00, 0x04]), (27, [0x02]), (28, [0xac])] := pf_ok prog_1_method_68_code _ 0 (by decide +kernel)
theorem d_X11_safe_0 : decode prog_1_method_68_code 0 = .ok (.aload_n 0, 1) := gq_0 db00d_53 eb_0
theorem d_X11_safe_1 : decode prog_1_method_68_code 1 = .ok (.iload_n 1, 1) := gq_1 db00d_53 eb_9
theorem d_X11_safe_2 : decode prog_1_method_68_code 2 = .ok (.invokevirtual 477, 3) := gq_2 db00d_53 eb_776
theorem d_X11_safe_5 : decode prog_1_method_68_code 5 = .ok (.ifCond .eq 22, 3) := gq_3 db00d_53 eb_416
theorem d_X11_safe_8 : decode prog_1_method_68_code 8 = .ok (.aload_n 0, 1) := gq_4 db00d_53 eb_0
theorem d_X11_safe_9 : decode prog_1_method_68_code 9 = .ok (.getfield 77, 3) := gq_5 db00d_53 eb_769
theorem d_X11_safe_12 : decode prog_1_method_68_code 12 = .ok (.iload_n 1, 1) := gq_6 db00d_53 eb_9
theorem d_X11_safe_13 : decode prog_1_method_68_code 13 = .ok (.aload_n 0, 1) := gq_7 db00d_53 eb_0
theorem d_X11_safe_14 : decode prog_1_method_68_code 14 = .ok (.getfield 26, 3) := gq_8 db00d_53 eb_226
theorem d_X11_safe_17 : decode prog_1_method_68_code 17 = .ok (.aload_n 0, 1) := gq_9 db00d_53 eb_0
theorem d_X11_safe_18 : decode prog_1_method_68_code 18 = .ok (.getfield 10, 3) := gq_10 db00d_53 eb_609
theorem d_X11_safe_21 : decode prog_1_method_68_code 21 = .ok (.invokevirtual 480, 3) := gq_11 db00d_53 eb_777
theorem d_X11_safe_24 : decode prog_1_method_68_code 24 = .ok (.goto 4, 3) := gq_12 db00d_53 eb_20
theorem d_X11_safe_27 : decode prog_1_method_68_code 27 = .ok (.iconst (-1), 1) := gq_13 db00d_53 eb_26
theorem d_X11_safe_28 : decode prog_1_method_68_code 28 = .ok (.ireturn, 1) := gq_14 db00d_53 eb_15
theorem db00d_54 : Pf_ prog_1_method_69_code [(0, [0x2a]), (1, [0x1b]), (2, [0xb6, 0x01, 0xdd]), (5, [0x99, 0x00, 0x16]), (8, [0x2a]), (9, [0xb4, 0x00, 0x1a]), (12, [0x1c]), (13, [0xb6, 0x00, 0x94]), (16, [0x99, 0x00, 0x0b]), (19, [0x1b]), (20, [0x1c]), (21, [0x7a]), (22, [0x04]), (23, [0x7e]), (24, [0x9a, 0x00, 0x05]), (27, [0x02]), (28, [0xac]), (29, [0x2a]), (30, [0xb4, 0x00, 0x4d]), (33, [0x1b]), (34, [0x1c]), (35, [0x2a]), (36, [0xb4, 0x00, 0x1a]), (39, [0x2a])] := pf_ok prog_1_method_69_code _ 0 (by decide +kernel)
theorem d_X11_share_0 : decode prog_1_method_69_code 0 = .ok (.aload_n 0, 1) := gq_0 db00d_54 eb_0
theorem d_X11_share_1 : decode prog_1_method_69_code 1 = .ok (.iload_n 1, 1) := gq_1 db00d_54 eb_9
theorem d_X11_share_2 : decode prog_1_method_69_code 2 = .ok (.invokevirtual 477, 3) := gq_2 db00d_54 eb_776
theorem d_X11_share_5 : decode prog_1_method_69_code 5 = .ok (.ifCond .eq 22, 3) := gq_3 db00d_54 eb_416
theorem d_X11_share_8 : decode prog_1_method_69_code 8 = .ok (.aload_n 0, 1) := gq_4 db00d_54 eb_0
theorem d_X11_share_9 : decode prog_1_method_69_code 9 = .ok (.getfield 26, 3) := gq_5 db00d_54 eb_226
theorem d_X11_share_12 : decode prog_1_method_69_code 12 = .ok (.iload_n 2, 1) := gq_6 db00d_54 eb_13
theorem d_X11_share_13 : decode prog_1_method_69_code 13 = .ok (.invokevirtual 148, 3) := gq_7 db00d_54 eb_620
theorem d_X11_share_16 : decode prog_1_method_69_code 16 = .ok (.ifCond .eq 11, 3) := gq_8 db00d_54 eb_715
theorem d_X11_share_19 : decode prog_1_method_69_code 19 = .ok (.iload_n 1, 1) := gq_9 db00d_54 eb_9
theorem d_X11_share_20 : decode prog_1_method_69_code 20 = .ok (.iload_n 2, 1) := gq_10 db00d_54 eb_13
theorem d_X11_share_21 : decode prog_1_method_69_code 21 = .ok (.ishr, 1) := gq_11 db00d_54 eb_56
theorem d_X11_share_22 : decode prog_1_method_69_code 22 = .ok (.iconst 1, 1) := gq_12 db00d_54 eb_19
theorem d_X11_share_23 : decode prog_1_method_69_code 23 = .ok (.iand, 1) := gq_13 db00d_54 eb_55
theorem d_X11_share_24 : decode prog_1_method_69_code 24 = .ok (.ifCond .ne 5, 3) := gq_14 db00d_54 eb_150
theorem d_X11_share_27 : decode prog_1_method_69_code 27 = .ok (.iconst (-1), 1) := gq_15 db00d_54 eb_26
theorem d_X11_share_28 : decode prog_1_method_69_code 28 = .ok (.ireturn, 1) := gq_16 db00d_54 eb_15
theorem d_X11_share_29 : decode prog_1_method_69_code 29 = .ok (.aload_n 0, 1) := gq_17 db00d_54 eb_0
theorem d_X11_share_30 : decode prog_1_method_69_code 30 = .ok (.getfield 77, 3) := gq_18 db00d_54 eb_769
theorem d_X11_share_33 : decode prog_1_method_69_code 33 = .ok (.iload_n 1, 1) := gq_19 db00d_54 eb_9
theorem d_X11_share_34 : decode prog_1_method_69_code 34 = .ok (.iload_n 2, 1) := gq_20 db00d_54 eb_13
theorem d_X11_share_35 : decode prog_1_method_69_code 35 = .ok (.aload_n 0, 1) := gq_21 db00d_54 eb_0
theorem d_X11_share_36 : decode prog_1_method_69_code 36 = .ok (.getfield 26, 3) := gq_22 db00d_54 eb_226
theorem d_X11_share_39 : decode prog_1_method_69_code 39 = .ok (.aload_n 0, 1) := gq_23 db00d_54 eb_0
theorem db00d_55 : Pf_ prog_1_method_69_code [(40, [0xb4, 0x00, 0x0a]), (43, [0xb6, 0x01, 0xe4]), (46, [0xac])] := pf_ok prog_1_method_69_code _ 40 (by decide +kernel)
theorem d_X11_share_40 : decode prog_1_method_69_code 40 = .ok (.getfield 10, 3) := gq_0 db00d_55 eb_609
theorem d_X11_share_43 : decode prog_1_method_69_code 43 = .ok (.invokevirtual 484, 3) := gq_1 db00d_55 eb_778
theorem d_X11_share_46 : decode prog_1_method_69_code 46 = .ok (.ireturn, 1) := gq_2 db00d_55 eb_15
theorem db00d_56 : Pf_ prog_1_method_70_code [(0, [0x1b]), (1, [0xb8, 0x00, 0x6b]), (4, [0x99, 0x00, 0x17]), (7, [0x1c]), (8, [0x03]), (9, [0x11, 0x75, 0x30]), (12, [0xb8, 0x00, 0x60]), (15, [0x99, 0x00, 0x0c]), (18, [0x1d]), (19, [0x04]), (20, [0x06]), (21, [0xb8, 0x00, 0x60]), (24, [0x9a, 0x00, 0x05]), (27, [0x02]), (28, [0xac]), (29, [0x2a]), (30, [0xb4, 0x00, 0x4d]), (33, [0x1b]), (34, [0x1c]), (35, [0x1d]), (36, [0xb6, 0x01, 0xe8]), (39, [0xac])] := pf_ok prog_1_method_70_code _ 0 (by decide +kernel)
theorem d_X11_fair_0 : decode prog_1_method_70_code 0 = .ok (.iload_n 1, 1) := gq_0 db00d_56 eb_9
theorem d_X11_fair_1 : decode prog_1_method_70_code 1 = .ok (.invokestatic 107, 3) := gq_1 db00d_56 eb_608
theorem d_X11_fair_4 : decode prog_1_method_70_code 4 = .ok (.ifCond .eq 23, 3) := gq_2 db00d_56 eb_204
theorem d_X11_fair_7 : decode prog_1_method_70_code 7 = .ok (.iload_n 2, 1) := gq_3 db00d_56 eb_13
theorem d_X11_fair_8 : decode prog_1_method_70_code 8 = .ok (.iconst 0, 1) := gq_4 db00d_56 eb_21
theorem d_X11_fair_9 : decode prog_1_method_70_code 9 = .ok (.sipush 30000, 3) := gq_5 db00d_56 eb_643
theorem d_X11_fair_12 : decode prog_1_method_70_code 12 = .ok (.invokestatic 96, 3) := gq_6 db00d_56 eb_606
theorem d_X11_fair_15 : decode prog_1_method_70_code 15 = .ok (.ifCond .eq 12, 3) := gq_7 db00d_56 eb_50
theorem d_X11_fair_18 : decode prog_1_method_70_code 18 = .ok (.iload_n 3, 1) := gq_8 db00d_56 eb_29
theorem d_X11_fair_19 : decode prog_1_method_70_code 19 = .ok (.iconst 1, 1) := gq_9 db00d_56 eb_19
theorem d_X11_fair_20 : decode prog_1_method_70_code 20 = .ok (.iconst 3, 1) := gq_10 db00d_56 eb_54
theorem d_X11_fair_21 : decode prog_1_method_70_code 21 = .ok (.invokestatic 96, 3) := gq_11 db00d_56 eb_606
theorem d_X11_fair_24 : decode prog_1_method_70_code 24 = .ok (.ifCond .ne 5, 3) := gq_12 db00d_56 eb_150
theorem d_X11_fair_27 : decode prog_1_method_70_code 27 = .ok (.iconst (-1), 1) := gq_13 db00d_56 eb_26
theorem d_X11_fair_28 : decode prog_1_method_70_code 28 = .ok (.ireturn, 1) := gq_14 db00d_56 eb_15
theorem d_X11_fair_29 : decode prog_1_method_70_code 29 = .ok (.aload_n 0, 1) := gq_15 db00d_56 eb_0
theorem d_X11_fair_30 : decode prog_1_method_70_code 30 = .ok (.getfield 77, 3) := gq_16 db00d_56 eb_769
theorem d_X11_fair_33 : decode prog_1_method_70_code 33 = .ok (.iload_n 1, 1) := gq_17 db00d_56 eb_9
theorem d_X11_fair_34 : decode prog_1_method_70_code 34 = .ok (.iload_n 2, 1) := gq_18 db00d_56 eb_13
theorem d_X11_fair_35 : decode prog_1_method_70_code 35 = .ok (.iload_n 3, 1) := gq_19 db00d_56 eb_29
theorem d_X11_fair_36 : decode prog_1_method_70_code 36 = .ok (.invokevirtual 488, 3) := gq_20 db00d_56 eb_779
theorem d_X11_fair_39 : decode prog_1_method_70_code 39 = .ok (.ireturn, 1) := gq_21 db00d_56 eb_15
theorem db00d_57 : Pf_ prog_1_method_71_code [(0, [0x1b]), (1, [0x03]), (2, [0x04]), (3, [0xb8, 0x00, 0x60]), (6, [0x99, 0x00, 0x0a]), (9, [0x2a]), (10, [0xb6, 0x01, 0xeb]), (13, [0x9a, 0x00, 0x05]), (16, [0x02]), (17, [0xac]), (18, [0x1b]), (19, [0x9a, 0x00, 0x0d]), (22, [0x2a]), (23, [0xb4, 0x00, 0x4d]), (26, [0xb6, 0x01, 0xef]), (29, [0xa7, 0x00, 0x0a]), (32, [0x2a]), (33, [0xb4, 0x00, 0x4d]), (36, [0xb6, 0x01, 0xf2]), (39, [0xac])] := pf_ok prog_1_method_71_code _ 0 (by decide +kernel)
theorem d_X11_lending_0 : decode prog_1_method_71_code 0 = .ok (.iload_n 1, 1) := gq_0 db00d_57 eb_9
theorem d_X11_lending_1 : decode prog_1_method_71_code 1 = .ok (.iconst 0, 1) := gq_1 db00d_57 eb_21
theorem d_X11_lending_2 : decode prog_1_method_71_code 2 = .ok (.iconst 1, 1) := gq_2 db00d_57 eb_19
theorem d_X11_lending_3 : decode prog_1_method_71_code 3 = .ok (.invokestatic 96, 3) := gq_3 db00d_57 eb_606
theorem d_X11_lending_6 : decode prog_1_method_71_code 6 = .ok (.ifCond .eq 10, 3) := gq_4 db00d_57 eb_202
theorem d_X11_lending_9 : decode prog_1_method_71_code 9 = .ok (.aload_n 0, 1) := gq_5 db00d_57 eb_0
theorem d_X11_lending_10 : decode prog_1_method_71_code 10 = .ok (.invokevirtual 491, 3) := gq_6 db00d_57 eb_780
theorem d_X11_lending_13 : decode prog_1_method_71_code 13 = .ok (.ifCond .ne 5, 3) := gq_7 db00d_57 eb_150
theorem d_X11_lending_16 : decode prog_1_method_71_code 16 = .ok (.iconst (-1), 1) := gq_8 db00d_57 eb_26
theorem d_X11_lending_17 : decode prog_1_method_71_code 17 = .ok (.ireturn, 1) := gq_9 db00d_57 eb_15
theorem d_X11_lending_18 : decode prog_1_method_71_code 18 = .ok (.iload_n 1, 1) := gq_10 db00d_57 eb_9
theorem d_X11_lending_19 : decode prog_1_method_71_code 19 = .ok (.ifCond .ne 13, 3) := gq_11 db00d_57 eb_464
theorem d_X11_lending_22 : decode prog_1_method_71_code 22 = .ok (.aload_n 0, 1) := gq_12 db00d_57 eb_0
theorem d_X11_lending_23 : decode prog_1_method_71_code 23 = .ok (.getfield 77, 3) := gq_13 db00d_57 eb_769
theorem d_X11_lending_26 : decode prog_1_method_71_code 26 = .ok (.invokevirtual 495, 3) := gq_14 db00d_57 eb_781
theorem d_X11_lending_29 : decode prog_1_method_71_code 29 = .ok (.goto 10, 3) := gq_15 db00d_57 eb_180
theorem d_X11_lending_32 : decode prog_1_method_71_code 32 = .ok (.aload_n 0, 1) := gq_16 db00d_57 eb_0
theorem d_X11_lending_33 : decode prog_1_method_71_code 33 = .ok (.getfield 77, 3) := gq_17 db00d_57 eb_769
theorem d_X11_lending_36 : decode prog_1_method_71_code 36 = .ok (.invokevirtual 498, 3) := gq_18 db00d_57 eb_782
theorem d_X11_lending_39 : decode prog_1_method_71_code 39 = .ok (.ireturn, 1) := gq_19 db00d_57 eb_15
theorem db00d_58 : Pf_ prog_1_method_72_code [(0, [0x2a]), (1, [0x1b]), (2, [0xb6, 0x01, 0x3e]), (5, [0x99, 0x00, 0x15]), (8, [0x2a]), (9, [0xb6, 0x01, 0xeb]), (12, [0x99, 0x00, 0x0e]), (15, [0x2a]), (16, [0xb4, 0x00, 0x4d]), (19, [0x1b]), (20, [0xb6, 0x01, 0xf5]), (23, [0xa7, 0x00, 0x04]), (26, [0x02]), (27, [0xac])] := pf_ok prog_1_method_72_code _ 0 (by decide +kernel)
theorem d_X11_lent_0 : decode prog_1_method_72_code 0 = .ok (.aload_n 0, 1) := gq_0 db00d_58 eb_0
theorem d_X11_lent_1 : decode prog_1_method_72_code 1 = .ok (.iload_n 1, 1) := gq_1 db00d_58 eb_9
theorem d_X11_lent_2 : decode prog_1_method_72_code 2 = .ok (.invokevirtual 318, 3) := gq_2 db00d_58 eb_714
theorem d_X11_lent_5 : decode prog_1_method_72_code 5 = .ok (.ifCond .eq 21, 3) := gq_3 db00d_58 eb_326
theorem d_X11_lent_8 : decode prog_1_method_72_code 8 = .ok (.aload_n 0, 1) := gq_4 db00d_58 eb_0
theorem d_X11_lent_9 : decode prog_1_method_72_code 9 = .ok (.invokevirtual 491, 3) := gq_5 db00d_58 eb_780
theorem d_X11_lent_12 : decode prog_1_method_72_code 12 = .ok (.ifCond .eq 14, 3) := gq_6 db00d_58 eb_174
theorem d_X11_lent_15 : decode prog_1_method_72_code 15 = .ok (.aload_n 0, 1) := gq_7 db00d_58 eb_0
theorem d_X11_lent_16 : decode prog_1_method_72_code 16 = .ok (.getfield 77, 3) := gq_8 db00d_58 eb_769
theorem d_X11_lent_19 : decode prog_1_method_72_code 19 = .ok (.iload_n 1, 1) := gq_9 db00d_58 eb_9
theorem d_X11_lent_20 : decode prog_1_method_72_code 20 = .ok (.invokevirtual 501, 3) := gq_10 db00d_58 eb_783
theorem d_X11_lent_23 : decode prog_1_method_72_code 23 = .ok (.goto 4, 3) := gq_11 db00d_58 eb_20
theorem d_X11_lent_26 : decode prog_1_method_72_code 26 = .ok (.iconst (-1), 1) := gq_12 db00d_58 eb_26
theorem d_X11_lent_27 : decode prog_1_method_72_code 27 = .ok (.ireturn, 1) := gq_13 db00d_58 eb_15
theorem d_X11_findLending_35 : decode prog_1_method_73_code 35 = .ok (.aaload, 1) := by decide +kernel
theorem db00d_59 : Pf_ prog_1_method_73_code [(0, [0x03]), (1, [0x3c]), (2, [0x1b]), (3, [0x2a]), (4, [0xb4, 0x00, 0x68]), (7, [0xa2, 0x00, 0x3f]), (10, [0x03]), (11, [0x3d]), (12, [0x1c]), (13, [0x2a]), (14, [0xb4, 0x00, 0x4d]), (17, [0xb4, 0x01, 0xf8]), (20, [0xa2, 0x00, 0x2c]), (23, [0x2a]), (24, [0xb4, 0x00, 0x4d]), (27, [0x1b]), (28, [0x1c]), (29, [0x2a]), (30, [0x2a]), (31, [0xb4, 0x00, 0x2a]), (34, [0x1b]), (36, [0x2a]), (37, [0xb4, 0x00, 0x4d]), (40, [0x1c])] := pf_ok prog_1_method_73_code _ 0 (by decide +kernel)
theorem d_X11_findLending_0 : decode prog_1_method_73_code 0 = .ok (.iconst 0, 1) := gq_0 db00d_59 eb_21
theorem d_X11_findLending_1 : decode prog_1_method_73_code 1 = .ok (.istore_n 1, 1) := gq_1 db00d_59 eb_222
theorem d_X11_findLending_2 : decode prog_1_method_73_code 2 = .ok (.iload_n 1, 1) := gq_2 db00d_59 eb_9
theorem d_X11_findLending_3 : decode prog_1_method_73_code 3 = .ok (.aload_n 0, 1) := gq_3 db00d_59 eb_0
theorem d_X11_findLending_4 : decode prog_1_method_73_code 4 = .ok (.getfield 104, 3) := gq_4 db00d_59 eb_389
theorem d_X11_findLending_7 : decode prog_1_method_73_code 7 = .ok (.if_icmp .ge 63, 3) := gq_5 db00d_59 eb_784
theorem d_X11_findLending_10 : decode prog_1_method_73_code 10 = .ok (.iconst 0, 1) := gq_6 db00d_59 eb_21
theorem d_X11_findLending_11 : decode prog_1_method_73_code 11 = .ok (.istore_n 2, 1) := gq_7 db00d_59 eb_27
theorem d_X11_findLending_12 : decode prog_1_method_73_code 12 = .ok (.iload_n 2, 1) := gq_8 db00d_59 eb_13
theorem d_X11_findLending_13 : decode prog_1_method_73_code 13 = .ok (.aload_n 0, 1) := gq_9 db00d_59 eb_0
theorem d_X11_findLending_14 : decode prog_1_method_73_code 14 = .ok (.getfield 77, 3) := gq_10 db00d_59 eb_769
theorem d_X11_findLending_17 : decode prog_1_method_73_code 17 = .ok (.getfield 504, 3) := gq_11 db00d_59 eb_785
theorem d_X11_findLending_20 : decode prog_1_method_73_code 20 = .ok (.if_icmp .ge 44, 3) := gq_12 db00d_59 eb_429
theorem d_X11_findLending_23 : decode prog_1_method_73_code 23 = .ok (.aload_n 0, 1) := gq_13 db00d_59 eb_0
theorem d_X11_findLending_24 : decode prog_1_method_73_code 24 = .ok (.getfield 77, 3) := gq_14 db00d_59 eb_769
theorem d_X11_findLending_27 : decode prog_1_method_73_code 27 = .ok (.iload_n 1, 1) := gq_15 db00d_59 eb_9
theorem d_X11_findLending_28 : decode prog_1_method_73_code 28 = .ok (.iload_n 2, 1) := gq_16 db00d_59 eb_13
theorem d_X11_findLending_29 : decode prog_1_method_73_code 29 = .ok (.aload_n 0, 1) := gq_17 db00d_59 eb_0
theorem d_X11_findLending_30 : decode prog_1_method_73_code 30 = .ok (.aload_n 0, 1) := gq_18 db00d_59 eb_0
theorem d_X11_findLending_31 : decode prog_1_method_73_code 31 = .ok (.getfield 42, 3) := gq_19 db00d_59 eb_177
theorem d_X11_findLending_34 : decode prog_1_method_73_code 34 = .ok (.iload_n 1, 1) := gq_20 db00d_59 eb_9
theorem d_X11_findLending_36 : decode prog_1_method_73_code 36 = .ok (.aload_n 0, 1) := gq_21 db00d_59 eb_0
theorem d_X11_findLending_37 : decode prog_1_method_73_code 37 = .ok (.getfield 77, 3) := gq_22 db00d_59 eb_769
theorem d_X11_findLending_40 : decode prog_1_method_73_code 40 = .ok (.iload_n 2, 1) := gq_23 db00d_59 eb_13
theorem db00d_60 : Pf_ prog_1_method_73_code [(41, [0xb6, 0x01, 0xfb]), (44, [0x2a]), (45, [0xb4, 0x00, 0x4d]), (48, [0x1c]), (49, [0xb6, 0x01, 0xfe]), (52, [0xb6, 0x02, 0x01]), (55, [0xb6, 0x02, 0x04]), (58, [0x84, 0x02, 0x01]), (61, [0xa7, 0xff, 0xcf]), (64, [0x84, 0x01, 0x01]), (67, [0xa7, 0xff, 0xbf]), (70, [0x2a]), (71, [0xb4, 0x00, 0x4d]), (74, [0x2a]), (75, [0xb4, 0x00, 0x68]), (78, [0xb6, 0x02, 0x07]), (81, [0xac])] := pf_ok prog_1_method_73_code _ 41 (by decide +kernel)
theorem d_X11_findLending_41 : decode prog_1_method_73_code 41 = .ok (.invokevirtual 507, 3) := gq_0 db00d_60 eb_786
theorem d_X11_findLending_44 : decode prog_1_method_73_code 44 = .ok (.aload_n 0, 1) := gq_1 db00d_60 eb_0
theorem d_X11_findLending_45 : decode prog_1_method_73_code 45 = .ok (.getfield 77, 3) := gq_2 db00d_60 eb_769
theorem d_X11_findLending_48 : decode prog_1_method_73_code 48 = .ok (.iload_n 2, 1) := gq_3 db00d_60 eb_13
theorem d_X11_findLending_49 : decode prog_1_method_73_code 49 = .ok (.invokevirtual 510, 3) := gq_4 db00d_60 eb_787
theorem d_X11_findLending_52 : decode prog_1_method_73_code 52 = .ok (.invokevirtual 513, 3) := gq_5 db00d_60 eb_788
theorem d_X11_findLending_55 : decode prog_1_method_73_code 55 = .ok (.invokevirtual 516, 3) := gq_6 db00d_60 eb_789
theorem d_X11_findLending_58 : decode prog_1_method_73_code 58 = .ok (.iinc 2 1, 3) := gq_7 db00d_60 eb_41
theorem d_X11_findLending_61 : decode prog_1_method_73_code 61 = .ok (.goto (-49), 3) := gq_8 db00d_60 eb_450
theorem d_X11_findLending_64 : decode prog_1_method_73_code 64 = .ok (.iinc 1 1, 3) := gq_9 db00d_60 eb_228
theorem d_X11_findLending_67 : decode prog_1_method_73_code 67 = .ok (.goto (-65), 3) := gq_10 db00d_60 eb_790
theorem d_X11_findLending_70 : decode prog_1_method_73_code 70 = .ok (.aload_n 0, 1) := gq_11 db00d_60 eb_0
theorem d_X11_findLending_71 : decode prog_1_method_73_code 71 = .ok (.getfield 77, 3) := gq_12 db00d_60 eb_769
theorem d_X11_findLending_74 : decode prog_1_method_73_code 74 = .ok (.aload_n 0, 1) := gq_13 db00d_60 eb_0
theorem d_X11_findLending_75 : decode prog_1_method_73_code 75 = .ok (.getfield 104, 3) := gq_14 db00d_60 eb_389
theorem d_X11_findLending_78 : decode prog_1_method_73_code 78 = .ok (.invokevirtual 519, 3) := gq_15 db00d_60 eb_791
theorem d_X11_findLending_81 : decode prog_1_method_73_code 81 = .ok (.ireturn, 1) := gq_16 db00d_60 eb_15
theorem db00d_61 : Pf_ prog_1_method_74_code [(0, [0x2b]), (1, [0xc6, 0x00, 0x12]), (4, [0x2b]), (5, [0xb4, 0x00, 0x9e]), (8, [0x99, 0x00, 0x0d]), (11, [0x2b]), (12, [0xb4, 0x00, 0x9e]), (15, [0x04]), (16, [0x9f, 0x00, 0x05]), (19, [0x02]), (20, [0xac]), (21, [0x2b]), (22, [0xb4, 0x00, 0xd8]), (25, [0x02]), (26, [0x9f, 0x00, 0x07]), (29, [0x04]), (30, [0xa7, 0x00, 0x04]), (33, [0x03]), (34, [0x36, 0x04]), (36, [0x2a]), (37, [0xb4, 0x00, 0x0a]), (40, [0x15, 0x04]), (42, [0x99, 0x00, 0x0a]), (45, [0x2b])] := pf_ok prog_1_method_74_code _ 0 (by decide +kernel)
theorem d_X11_priceOf_0 : decode prog_1_method_74_code 0 = .ok (.aload_n 1, 1) := gq_0 db00d_61 eb_23
theorem d_X11_priceOf_1 : decode prog_1_method_74_code 1 = .ok (.ifnull 18, 3) := gq_1 db00d_61 eb_792
theorem d_X11_priceOf_4 : decode prog_1_method_74_code 4 = .ok (.aload_n 1, 1) := gq_2 db00d_61 eb_23
theorem d_X11_priceOf_5 : decode prog_1_method_74_code 5 = .ok (.getfield 158, 3) := gq_3 db00d_61 eb_624
theorem d_X11_priceOf_8 : decode prog_1_method_74_code 8 = .ok (.ifCond .eq 13, 3) := gq_4 db00d_61 eb_119
theorem d_X11_priceOf_11 : decode prog_1_method_74_code 11 = .ok (.aload_n 1, 1) := gq_5 db00d_61 eb_23
theorem d_X11_priceOf_12 : decode prog_1_method_74_code 12 = .ok (.getfield 158, 3) := gq_6 db00d_61 eb_624
theorem d_X11_priceOf_15 : decode prog_1_method_74_code 15 = .ok (.iconst 1, 1) := gq_7 db00d_61 eb_19
theorem d_X11_priceOf_16 : decode prog_1_method_74_code 16 = .ok (.if_icmp .eq 5, 3) := gq_8 db00d_61 eb_120
theorem d_X11_priceOf_19 : decode prog_1_method_74_code 19 = .ok (.iconst (-1), 1) := gq_9 db00d_61 eb_26
theorem d_X11_priceOf_20 : decode prog_1_method_74_code 20 = .ok (.ireturn, 1) := gq_10 db00d_61 eb_15
theorem d_X11_priceOf_21 : decode prog_1_method_74_code 21 = .ok (.aload_n 1, 1) := gq_11 db00d_61 eb_23
theorem d_X11_priceOf_22 : decode prog_1_method_74_code 22 = .ok (.getfield 216, 3) := gq_12 db00d_61 eb_649
theorem d_X11_priceOf_25 : decode prog_1_method_74_code 25 = .ok (.iconst (-1), 1) := gq_13 db00d_61 eb_26
theorem d_X11_priceOf_26 : decode prog_1_method_74_code 26 = .ok (.if_icmp .eq 7, 3) := gq_14 db00d_61 eb_539
theorem d_X11_priceOf_29 : decode prog_1_method_74_code 29 = .ok (.iconst 1, 1) := gq_15 db00d_61 eb_19
theorem d_X11_priceOf_30 : decode prog_1_method_74_code 30 = .ok (.goto 4, 3) := gq_16 db00d_61 eb_20
theorem d_X11_priceOf_33 : decode prog_1_method_74_code 33 = .ok (.iconst 0, 1) := gq_17 db00d_61 eb_21
theorem d_X11_priceOf_34 : decode prog_1_method_74_code 34 = .ok (.istore 4, 2) := gq_18 db00d_61 eb_133
theorem d_X11_priceOf_36 : decode prog_1_method_74_code 36 = .ok (.aload_n 0, 1) := gq_19 db00d_61 eb_0
theorem d_X11_priceOf_37 : decode prog_1_method_74_code 37 = .ok (.getfield 10, 3) := gq_20 db00d_61 eb_609
theorem d_X11_priceOf_40 : decode prog_1_method_74_code 40 = .ok (.iload 4, 2) := gq_21 db00d_61 eb_76
theorem d_X11_priceOf_42 : decode prog_1_method_74_code 42 = .ok (.ifCond .eq 10, 3) := gq_22 db00d_61 eb_202
theorem d_X11_priceOf_45 : decode prog_1_method_74_code 45 = .ok (.aload_n 1, 1) := gq_23 db00d_61 eb_23
theorem db00d_62 : Pf_ prog_1_method_74_code [(46, [0xb4, 0x00, 0xd8]), (49, [0xa7, 0x00, 0x07]), (52, [0x2b]), (53, [0xb4, 0x01, 0x15]), (56, [0x1c]), (57, [0xb6, 0x00, 0x73]), (60, [0x36, 0x05]), (62, [0x15, 0x04]), (64, [0x99, 0x00, 0x0a]), (67, [0x2b]), (68, [0xb4, 0x00, 0xdb]), (71, [0xa7, 0x00, 0x07]), (74, [0x2a]), (75, [0xb4, 0x00, 0x5c]), (78, [0x36, 0x06]), (80, [0x15, 0x05]), (82, [0x02]), (83, [0x9f, 0x00, 0x0c]), (86, [0x15, 0x06]), (88, [0x15, 0x05]), (90, [0x60]), (91, [0x1d]), (92, [0xa4, 0x00, 0x05]), (95, [0x02])] := pf_ok prog_1_method_74_code _ 46 (by decide +kernel)
theorem d_X11_priceOf_46 : decode prog_1_method_74_code 46 = .ok (.getfield 216, 3) := gq_0 db00d_62 eb_649
theorem d_X11_priceOf_49 : decode prog_1_method_74_code 49 = .ok (.goto 7, 3) := gq_1 db00d_62 eb_203
theorem d_X11_priceOf_52 : decode prog_1_method_74_code 52 = .ok (.aload_n 1, 1) := gq_2 db00d_62 eb_23
theorem d_X11_priceOf_53 : decode prog_1_method_74_code 53 = .ok (.getfield 277, 3) := gq_3 db00d_62 eb_684
theorem d_X11_priceOf_56 : decode prog_1_method_74_code 56 = .ok (.iload_n 2, 1) := gq_4 db00d_62 eb_13
theorem d_X11_priceOf_57 : decode prog_1_method_74_code 57 = .ok (.invokevirtual 115, 3) := gq_5 db00d_62 eb_382
theorem d_X11_priceOf_60 : decode prog_1_method_74_code 60 = .ok (.istore 5, 2) := gq_6 db00d_62 eb_134
theorem d_X11_priceOf_62 : decode prog_1_method_74_code 62 = .ok (.iload 4, 2) := gq_7 db00d_62 eb_76
theorem d_X11_priceOf_64 : decode prog_1_method_74_code 64 = .ok (.ifCond .eq 10, 3) := gq_8 db00d_62 eb_202
theorem d_X11_priceOf_67 : decode prog_1_method_74_code 67 = .ok (.aload_n 1, 1) := gq_9 db00d_62 eb_23
theorem d_X11_priceOf_68 : decode prog_1_method_74_code 68 = .ok (.getfield 219, 3) := gq_10 db00d_62 eb_664
theorem d_X11_priceOf_71 : decode prog_1_method_74_code 71 = .ok (.goto 7, 3) := gq_11 db00d_62 eb_203
theorem d_X11_priceOf_74 : decode prog_1_method_74_code 74 = .ok (.aload_n 0, 1) := gq_12 db00d_62 eb_0
theorem d_X11_priceOf_75 : decode prog_1_method_74_code 75 = .ok (.getfield 92, 3) := gq_13 db00d_62 eb_605
theorem d_X11_priceOf_78 : decode prog_1_method_74_code 78 = .ok (.istore 6, 2) := gq_14 db00d_62 eb_58
theorem d_X11_priceOf_80 : decode prog_1_method_74_code 80 = .ok (.iload 5, 2) := gq_15 db00d_62 eb_125
theorem d_X11_priceOf_82 : decode prog_1_method_74_code 82 = .ok (.iconst (-1), 1) := gq_16 db00d_62 eb_26
theorem d_X11_priceOf_83 : decode prog_1_method_74_code 83 = .ok (.if_icmp .eq 12, 3) := gq_17 db00d_62 eb_531
theorem d_X11_priceOf_86 : decode prog_1_method_74_code 86 = .ok (.iload 6, 2) := gq_18 db00d_62 eb_75
theorem d_X11_priceOf_88 : decode prog_1_method_74_code 88 = .ok (.iload 5, 2) := gq_19 db00d_62 eb_125
theorem d_X11_priceOf_90 : decode prog_1_method_74_code 90 = .ok (.iadd, 1) := gq_20 db00d_62 eb_35
theorem d_X11_priceOf_91 : decode prog_1_method_74_code 91 = .ok (.iload_n 3, 1) := gq_21 db00d_62 eb_29
theorem d_X11_priceOf_92 : decode prog_1_method_74_code 92 = .ok (.if_icmp .le 5, 3) := gq_22 db00d_62 eb_334
theorem d_X11_priceOf_95 : decode prog_1_method_74_code 95 = .ok (.iconst (-1), 1) := gq_23 db00d_62 eb_26
theorem db00d_63 : Pf_ prog_1_method_74_code [(96, [0xac]), (97, [0x2b]), (98, [0xb4, 0x00, 0x9e]), (101, [0x04]), (102, [0xa0, 0x00, 0x0a]), (105, [0x2b]), (106, [0xb6, 0x01, 0x25]), (109, [0xa7, 0x00, 0x04]), (112, [0x03]), (113, [0x36, 0x07]), (115, [0x15, 0x07]), (117, [0x15, 0x05]), (119, [0xb8, 0x02, 0x0a]), (122, [0xac])] := pf_ok prog_1_method_74_code _ 96 (by decide +kernel)
theorem d_X11_priceOf_96 : decode prog_1_method_74_code 96 = .ok (.ireturn, 1) := gq_0 db00d_63 eb_15
theorem d_X11_priceOf_97 : decode prog_1_method_74_code 97 = .ok (.aload_n 1, 1) := gq_1 db00d_63 eb_23
theorem d_X11_priceOf_98 : decode prog_1_method_74_code 98 = .ok (.getfield 158, 3) := gq_2 db00d_63 eb_624
theorem d_X11_priceOf_101 : decode prog_1_method_74_code 101 = .ok (.iconst 1, 1) := gq_3 db00d_63 eb_19
theorem d_X11_priceOf_102 : decode prog_1_method_74_code 102 = .ok (.if_icmp .ne 10, 3) := gq_4 db00d_63 eb_259
theorem d_X11_priceOf_105 : decode prog_1_method_74_code 105 = .ok (.aload_n 1, 1) := gq_5 db00d_63 eb_23
theorem d_X11_priceOf_106 : decode prog_1_method_74_code 106 = .ok (.invokevirtual 293, 3) := gq_6 db00d_63 eb_698
theorem d_X11_priceOf_109 : decode prog_1_method_74_code 109 = .ok (.goto 4, 3) := gq_7 db00d_63 eb_20
theorem d_X11_priceOf_112 : decode prog_1_method_74_code 112 = .ok (.iconst 0, 1) := gq_8 db00d_63 eb_21
theorem d_X11_priceOf_113 : decode prog_1_method_74_code 113 = .ok (.istore 7, 2) := gq_9 db00d_63 eb_59
theorem d_X11_priceOf_115 : decode prog_1_method_74_code 115 = .ok (.iload 7, 2) := gq_10 db00d_63 eb_73
theorem d_X11_priceOf_117 : decode prog_1_method_74_code 117 = .ok (.iload 5, 2) := gq_11 db00d_63 eb_125
theorem d_X11_priceOf_119 : decode prog_1_method_74_code 119 = .ok (.invokestatic 522, 3) := gq_12 db00d_63 eb_793
theorem d_X11_priceOf_122 : decode prog_1_method_74_code 122 = .ok (.ireturn, 1) := gq_13 db00d_63 eb_15
theorem db00d_64 : Pf_ prog_1_method_75_code [(0, [0x2a]), (1, [0xb4, 0x00, 0x4d]), (4, [0xb6, 0x02, 0x0d]), (7, [0xb1])] := pf_ok prog_1_method_75_code _ 0 (by decide +kernel)
theorem d_X11_fairs_0 : decode prog_1_method_75_code 0 = .ok (.aload_n 0, 1) := gq_0 db00d_64 eb_0
theorem d_X11_fairs_1 : decode prog_1_method_75_code 1 = .ok (.getfield 77, 3) := gq_1 db00d_64 eb_769
theorem d_X11_fairs_4 : decode prog_1_method_75_code 4 = .ok (.invokevirtual 525, 3) := gq_2 db00d_64 eb_794
theorem d_X11_fairs_7 : decode prog_1_method_75_code 7 = .ok (.return_, 1) := gq_3 db00d_64 eb_7
theorem db00d_65 : Pf_ prog_1_method_76_code [(0, [0x1b]), (1, [0x03]), (2, [0x10, 0x1e]), (4, [0xb8, 0x00, 0x60]), (7, [0x99, 0x00, 0x0f]), (10, [0x2a]), (11, [0xb4, 0x00, 0x13]), (14, [0x03]), (15, [0xb6, 0x00, 0x8c]), (18, [0x02]), (19, [0x9f, 0x00, 0x05]), (22, [0x02]), (23, [0xac]), (24, [0x2a]), (25, [0x2a]), (26, [0xb4, 0x00, 0x25]), (29, [0x1b]), (30, [0xb6, 0x01, 0x54]), (33, [0xac])] := pf_ok prog_1_method_76_code _ 0 (by decide +kernel)
theorem d_X11_pay_0 : decode prog_1_method_76_code 0 = .ok (.iload_n 1, 1) := gq_0 db00d_65 eb_9
theorem d_X11_pay_1 : decode prog_1_method_76_code 1 = .ok (.iconst 0, 1) := gq_1 db00d_65 eb_21
theorem d_X11_pay_2 : decode prog_1_method_76_code 2 = .ok (.bipush 30, 2) := gq_2 db00d_65 eb_92
theorem d_X11_pay_4 : decode prog_1_method_76_code 4 = .ok (.invokestatic 96, 3) := gq_3 db00d_65 eb_606
theorem d_X11_pay_7 : decode prog_1_method_76_code 7 = .ok (.ifCond .eq 15, 3) := gq_4 db00d_65 eb_294
theorem d_X11_pay_10 : decode prog_1_method_76_code 10 = .ok (.aload_n 0, 1) := gq_5 db00d_65 eb_0
theorem d_X11_pay_11 : decode prog_1_method_76_code 11 = .ok (.getfield 19, 3) := gq_6 db00d_65 eb_614
theorem d_X11_pay_14 : decode prog_1_method_76_code 14 = .ok (.iconst 0, 1) := gq_7 db00d_65 eb_21
theorem d_X11_pay_15 : decode prog_1_method_76_code 15 = .ok (.invokevirtual 140, 3) := gq_8 db00d_65 eb_402
theorem d_X11_pay_18 : decode prog_1_method_76_code 18 = .ok (.iconst (-1), 1) := gq_9 db00d_65 eb_26
theorem d_X11_pay_19 : decode prog_1_method_76_code 19 = .ok (.if_icmp .eq 5, 3) := gq_10 db00d_65 eb_120
theorem d_X11_pay_22 : decode prog_1_method_76_code 22 = .ok (.iconst (-1), 1) := gq_11 db00d_65 eb_26
theorem d_X11_pay_23 : decode prog_1_method_76_code 23 = .ok (.ireturn, 1) := gq_12 db00d_65 eb_15
theorem d_X11_pay_24 : decode prog_1_method_76_code 24 = .ok (.aload_n 0, 1) := gq_13 db00d_65 eb_0
theorem d_X11_pay_25 : decode prog_1_method_76_code 25 = .ok (.aload_n 0, 1) := gq_14 db00d_65 eb_0
theorem d_X11_pay_26 : decode prog_1_method_76_code 26 = .ok (.getfield 37, 3) := gq_15 db00d_65 eb_281
theorem d_X11_pay_29 : decode prog_1_method_76_code 29 = .ok (.iload_n 1, 1) := gq_16 db00d_65 eb_9
theorem d_X11_pay_30 : decode prog_1_method_76_code 30 = .ok (.invokevirtual 340, 3) := gq_17 db00d_65 eb_725
theorem d_X11_pay_33 : decode prog_1_method_76_code 33 = .ok (.ireturn, 1) := gq_18 db00d_65 eb_15
theorem db00d_66 : Pf_ prog_1_method_77_code [(0, [0x2a]), (1, [0x1b]), (2, [0xb6, 0x01, 0x3e]), (5, [0x99, 0x00, 0x16]), (8, [0x1c]), (9, [0x04]), (10, [0x07]), (11, [0xb8, 0x00, 0x60]), (14, [0x99, 0x00, 0x0d]), (17, [0x1d]), (18, [0x03]), (19, [0x10, 0x1e]), (21, [0xb8, 0x00, 0x60]), (24, [0x9a, 0x00, 0x05]), (27, [0x03]), (28, [0xac]), (29, [0x2a]), (30, [0xb4, 0x00, 0x54]), (33, [0x1b]), (34, [0x1c]), (35, [0x1d]), (36, [0x2a]), (37, [0xb4, 0x00, 0x5c]), (40, [0xb6, 0x02, 0x10])] := pf_ok prog_1_method_77_code _ 0 (by decide +kernel)
theorem d_X11_rank_0 : decode prog_1_method_77_code 0 = .ok (.aload_n 0, 1) := gq_0 db00d_66 eb_0
theorem d_X11_rank_1 : decode prog_1_method_77_code 1 = .ok (.iload_n 1, 1) := gq_1 db00d_66 eb_9
theorem d_X11_rank_2 : decode prog_1_method_77_code 2 = .ok (.invokevirtual 318, 3) := gq_2 db00d_66 eb_714
theorem d_X11_rank_5 : decode prog_1_method_77_code 5 = .ok (.ifCond .eq 22, 3) := gq_3 db00d_66 eb_416
theorem d_X11_rank_8 : decode prog_1_method_77_code 8 = .ok (.iload_n 2, 1) := gq_4 db00d_66 eb_13
theorem d_X11_rank_9 : decode prog_1_method_77_code 9 = .ok (.iconst 1, 1) := gq_5 db00d_66 eb_19
theorem d_X11_rank_10 : decode prog_1_method_77_code 10 = .ok (.iconst 4, 1) := gq_6 db00d_66 eb_291
theorem d_X11_rank_11 : decode prog_1_method_77_code 11 = .ok (.invokestatic 96, 3) := gq_7 db00d_66 eb_606
theorem d_X11_rank_14 : decode prog_1_method_77_code 14 = .ok (.ifCond .eq 13, 3) := gq_8 db00d_66 eb_119
theorem d_X11_rank_17 : decode prog_1_method_77_code 17 = .ok (.iload_n 3, 1) := gq_9 db00d_66 eb_29
theorem d_X11_rank_18 : decode prog_1_method_77_code 18 = .ok (.iconst 0, 1) := gq_10 db00d_66 eb_21
theorem d_X11_rank_19 : decode prog_1_method_77_code 19 = .ok (.bipush 30, 2) := gq_11 db00d_66 eb_92
theorem d_X11_rank_21 : decode prog_1_method_77_code 21 = .ok (.invokestatic 96, 3) := gq_12 db00d_66 eb_606
theorem d_X11_rank_24 : decode prog_1_method_77_code 24 = .ok (.ifCond .ne 5, 3) := gq_13 db00d_66 eb_150
theorem d_X11_rank_27 : decode prog_1_method_77_code 27 = .ok (.iconst 0, 1) := gq_14 db00d_66 eb_21
theorem d_X11_rank_28 : decode prog_1_method_77_code 28 = .ok (.ireturn, 1) := gq_15 db00d_66 eb_15
theorem d_X11_rank_29 : decode prog_1_method_77_code 29 = .ok (.aload_n 0, 1) := gq_16 db00d_66 eb_0
theorem d_X11_rank_30 : decode prog_1_method_77_code 30 = .ok (.getfield 84, 3) := gq_17 db00d_66 eb_732
theorem d_X11_rank_33 : decode prog_1_method_77_code 33 = .ok (.iload_n 1, 1) := gq_18 db00d_66 eb_9
theorem d_X11_rank_34 : decode prog_1_method_77_code 34 = .ok (.iload_n 2, 1) := gq_19 db00d_66 eb_13
theorem d_X11_rank_35 : decode prog_1_method_77_code 35 = .ok (.iload_n 3, 1) := gq_20 db00d_66 eb_29
theorem d_X11_rank_36 : decode prog_1_method_77_code 36 = .ok (.aload_n 0, 1) := gq_21 db00d_66 eb_0
theorem d_X11_rank_37 : decode prog_1_method_77_code 37 = .ok (.getfield 92, 3) := gq_22 db00d_66 eb_605
theorem d_X11_rank_40 : decode prog_1_method_77_code 40 = .ok (.invokevirtual 528, 3) := gq_23 db00d_66 eb_795
theorem db00d_67 : Pf_ prog_1_method_77_code [(43, [0xac])] := pf_ok prog_1_method_77_code _ 43 (by decide +kernel)
theorem d_X11_rank_43 : decode prog_1_method_77_code 43 = .ok (.ireturn, 1) := gq_0 db00d_67 eb_15
theorem d_X11_ranked_5 : decode prog_1_method_78_code 5 = .ok (.astore 4, 2) := by decide +kernel
theorem db00d_68 : Pf_ prog_1_method_78_code [(0, [0x2a]), (1, [0x1b]), (2, [0xb6, 0x00, 0x64]), (7, [0x19, 0x04]), (9, [0xc6, 0x00, 0x15]), (12, [0x1c]), (13, [0x03]), (14, [0x10, 0x1e]), (16, [0xb8, 0x00, 0x60]), (19, [0x99, 0x00, 0x0b]), (22, [0x2a]), (23, [0x1d]), (24, [0xb6, 0x01, 0x41]), (27, [0x9a, 0x00, 0x05]), (30, [0x02]), (31, [0xac]), (32, [0x2a]), (33, [0xb4, 0x00, 0x54]), (36, [0x19, 0x04]), (38, [0x1c]), (39, [0x1d]), (40, [0xb6, 0x01, 0x69]), (43, [0xac])] := pf_ok prog_1_method_78_code _ 0 (by decide +kernel)
theorem d_X11_ranked_0 : decode prog_1_method_78_code 0 = .ok (.aload_n 0, 1) := gq_0 db00d_68 eb_0
theorem d_X11_ranked_1 : decode prog_1_method_78_code 1 = .ok (.iload_n 1, 1) := gq_1 db00d_68 eb_9
theorem d_X11_ranked_2 : decode prog_1_method_78_code 2 = .ok (.invokevirtual 100, 3) := gq_2 db00d_68 eb_166
theorem d_X11_ranked_7 : decode prog_1_method_78_code 7 = .ok (.aload 4, 2) := gq_3 db00d_68 eb_355
theorem d_X11_ranked_9 : decode prog_1_method_78_code 9 = .ok (.ifnull 21, 3) := gq_4 db00d_68 eb_663
theorem d_X11_ranked_12 : decode prog_1_method_78_code 12 = .ok (.iload_n 2, 1) := gq_5 db00d_68 eb_13
theorem d_X11_ranked_13 : decode prog_1_method_78_code 13 = .ok (.iconst 0, 1) := gq_6 db00d_68 eb_21
theorem d_X11_ranked_14 : decode prog_1_method_78_code 14 = .ok (.bipush 30, 2) := gq_7 db00d_68 eb_92
theorem d_X11_ranked_16 : decode prog_1_method_78_code 16 = .ok (.invokestatic 96, 3) := gq_8 db00d_68 eb_606
theorem d_X11_ranked_19 : decode prog_1_method_78_code 19 = .ok (.ifCond .eq 11, 3) := gq_9 db00d_68 eb_715
theorem d_X11_ranked_22 : decode prog_1_method_78_code 22 = .ok (.aload_n 0, 1) := gq_10 db00d_68 eb_0
theorem d_X11_ranked_23 : decode prog_1_method_78_code 23 = .ok (.iload_n 3, 1) := gq_11 db00d_68 eb_29
theorem d_X11_ranked_24 : decode prog_1_method_78_code 24 = .ok (.invokevirtual 321, 3) := gq_12 db00d_68 eb_716
theorem d_X11_ranked_27 : decode prog_1_method_78_code 27 = .ok (.ifCond .ne 5, 3) := gq_13 db00d_68 eb_150
theorem d_X11_ranked_30 : decode prog_1_method_78_code 30 = .ok (.iconst (-1), 1) := gq_14 db00d_68 eb_26
theorem d_X11_ranked_31 : decode prog_1_method_78_code 31 = .ok (.ireturn, 1) := gq_15 db00d_68 eb_15
theorem d_X11_ranked_32 : decode prog_1_method_78_code 32 = .ok (.aload_n 0, 1) := gq_16 db00d_68 eb_0
theorem d_X11_ranked_33 : decode prog_1_method_78_code 33 = .ok (.getfield 84, 3) := gq_17 db00d_68 eb_732
theorem d_X11_ranked_36 : decode prog_1_method_78_code 36 = .ok (.aload 4, 2) := gq_18 db00d_68 eb_355
theorem d_X11_ranked_38 : decode prog_1_method_78_code 38 = .ok (.iload_n 2, 1) := gq_19 db00d_68 eb_13
theorem d_X11_ranked_39 : decode prog_1_method_78_code 39 = .ok (.iload_n 3, 1) := gq_20 db00d_68 eb_29
theorem d_X11_ranked_40 : decode prog_1_method_78_code 40 = .ok (.invokevirtual 361, 3) := gq_21 db00d_68 eb_733
theorem d_X11_ranked_43 : decode prog_1_method_78_code 43 = .ok (.ireturn, 1) := gq_22 db00d_68 eb_15
theorem d_X11_paid_5 : decode prog_1_method_79_code 5 = .ok (.astore 4, 2) := by decide +kernel
theorem db00d_69 : Pf_ prog_1_method_79_code [(0, [0x2a]), (1, [0x1b]), (2, [0xb6, 0x00, 0x64]), (7, [0x19, 0x04]), (9, [0xc6, 0x00, 0x1a]), (12, [0x2a]), (13, [0x1d]), (14, [0xb6, 0x01, 0x41]), (17, [0x99, 0x00, 0x12]), (20, [0x1c]), (21, [0x03]), (22, [0x1d]), (23, [0x11, 0x05, 0xa0]), (26, [0x6c]), (27, [0x04]), (28, [0x64]), (29, [0xb8, 0x00, 0x60]), (32, [0x9a, 0x00, 0x05]), (35, [0x02]), (36, [0xac]), (37, [0x2a]), (38, [0x19, 0x04]), (40, [0x1c]), (41, [0x1d])] := pf_ok prog_1_method_79_code _ 0 (by decide +kernel)
theorem d_X11_paid_0 : decode prog_1_method_79_code 0 = .ok (.aload_n 0, 1) := gq_0 db00d_69 eb_0
theorem d_X11_paid_1 : decode prog_1_method_79_code 1 = .ok (.iload_n 1, 1) := gq_1 db00d_69 eb_9
theorem d_X11_paid_2 : decode prog_1_method_79_code 2 = .ok (.invokevirtual 100, 3) := gq_2 db00d_69 eb_166
theorem d_X11_paid_7 : decode prog_1_method_79_code 7 = .ok (.aload 4, 2) := gq_3 db00d_69 eb_355
theorem d_X11_paid_9 : decode prog_1_method_79_code 9 = .ok (.ifnull 26, 3) := gq_4 db00d_69 eb_796
theorem d_X11_paid_12 : decode prog_1_method_79_code 12 = .ok (.aload_n 0, 1) := gq_5 db00d_69 eb_0
theorem d_X11_paid_13 : decode prog_1_method_79_code 13 = .ok (.iload_n 3, 1) := gq_6 db00d_69 eb_29
theorem d_X11_paid_14 : decode prog_1_method_79_code 14 = .ok (.invokevirtual 321, 3) := gq_7 db00d_69 eb_716
theorem d_X11_paid_17 : decode prog_1_method_79_code 17 = .ok (.ifCond .eq 18, 3) := gq_8 db00d_69 eb_138
theorem d_X11_paid_20 : decode prog_1_method_79_code 20 = .ok (.iload_n 2, 1) := gq_9 db00d_69 eb_13
theorem d_X11_paid_21 : decode prog_1_method_79_code 21 = .ok (.iconst 0, 1) := gq_10 db00d_69 eb_21
theorem d_X11_paid_22 : decode prog_1_method_79_code 22 = .ok (.iload_n 3, 1) := gq_11 db00d_69 eb_29
theorem d_X11_paid_23 : decode prog_1_method_79_code 23 = .ok (.sipush 1440, 3) := gq_12 db00d_69 eb_289
theorem d_X11_paid_26 : decode prog_1_method_79_code 26 = .ok (.idiv, 1) := gq_13 db00d_69 eb_219
theorem d_X11_paid_27 : decode prog_1_method_79_code 27 = .ok (.iconst 1, 1) := gq_14 db00d_69 eb_19
theorem d_X11_paid_28 : decode prog_1_method_79_code 28 = .ok (.isub, 1) := gq_15 db00d_69 eb_48
theorem d_X11_paid_29 : decode prog_1_method_79_code 29 = .ok (.invokestatic 96, 3) := gq_16 db00d_69 eb_606
theorem d_X11_paid_32 : decode prog_1_method_79_code 32 = .ok (.ifCond .ne 5, 3) := gq_17 db00d_69 eb_150
theorem d_X11_paid_35 : decode prog_1_method_79_code 35 = .ok (.iconst (-1), 1) := gq_18 db00d_69 eb_26
theorem d_X11_paid_36 : decode prog_1_method_79_code 36 = .ok (.ireturn, 1) := gq_19 db00d_69 eb_15
theorem d_X11_paid_37 : decode prog_1_method_79_code 37 = .ok (.aload_n 0, 1) := gq_20 db00d_69 eb_0
theorem d_X11_paid_38 : decode prog_1_method_79_code 38 = .ok (.aload 4, 2) := gq_21 db00d_69 eb_355
theorem d_X11_paid_40 : decode prog_1_method_79_code 40 = .ok (.iload_n 2, 1) := gq_22 db00d_69 eb_13
theorem d_X11_paid_41 : decode prog_1_method_79_code 41 = .ok (.iload_n 3, 1) := gq_23 db00d_69 eb_29
theorem db00d_70 : Pf_ prog_1_method_79_code [(42, [0xb6, 0x02, 0x14]), (45, [0xac])] := pf_ok prog_1_method_79_code _ 42 (by decide +kernel)
theorem d_X11_paid_42 : decode prog_1_method_79_code 42 = .ok (.invokevirtual 532, 3) := gq_0 db00d_70 eb_797
theorem d_X11_paid_45 : decode prog_1_method_79_code 45 = .ok (.ireturn, 1) := gq_1 db00d_70 eb_15
theorem d_X11_wageOf_13 : decode prog_1_method_80_code 13 = .ok (.astore 4, 2) := by decide +kernel
theorem db00d_71 : Pf_ prog_1_method_80_code [(0, [0x2b]), (1, [0xc7, 0x00, 0x05]), (4, [0x03]), (5, [0xac]), (6, [0x2a]), (7, [0xb4, 0x00, 0x54]), (10, [0xb4, 0x02, 0x17]), (15, [0x19, 0x04]), (17, [0x03]), (18, [0x2a]), (19, [0xb4, 0x00, 0x54]), (22, [0x2b]), (23, [0x1c]), (24, [0x1d]), (25, [0xb6, 0x01, 0x69]), (28, [0x4f]), (29, [0x19, 0x04]), (31, [0x04]), (32, [0x2b]), (33, [0xb4, 0x01, 0x39]), (36, [0x4f]), (37, [0x19, 0x04]), (39, [0x05]), (40, [0x2a])] := pf_ok prog_1_method_80_code _ 0 (by decide +kernel)
theorem d_X11_wageOf_0 : decode prog_1_method_80_code 0 = .ok (.aload_n 1, 1) := gq_0 db00d_71 eb_23
theorem d_X11_wageOf_1 : decode prog_1_method_80_code 1 = .ok (.ifnonnull 5, 3) := gq_1 db00d_71 eb_798
theorem d_X11_wageOf_4 : decode prog_1_method_80_code 4 = .ok (.iconst 0, 1) := gq_2 db00d_71 eb_21
theorem d_X11_wageOf_5 : decode prog_1_method_80_code 5 = .ok (.ireturn, 1) := gq_3 db00d_71 eb_15
theorem d_X11_wageOf_6 : decode prog_1_method_80_code 6 = .ok (.aload_n 0, 1) := gq_4 db00d_71 eb_0
theorem d_X11_wageOf_7 : decode prog_1_method_80_code 7 = .ok (.getfield 84, 3) := gq_5 db00d_71 eb_732
theorem d_X11_wageOf_10 : decode prog_1_method_80_code 10 = .ok (.getfield 535, 3) := gq_6 db00d_71 eb_799
theorem d_X11_wageOf_15 : decode prog_1_method_80_code 15 = .ok (.aload 4, 2) := gq_7 db00d_71 eb_355
theorem d_X11_wageOf_17 : decode prog_1_method_80_code 17 = .ok (.iconst 0, 1) := gq_8 db00d_71 eb_21
theorem d_X11_wageOf_18 : decode prog_1_method_80_code 18 = .ok (.aload_n 0, 1) := gq_9 db00d_71 eb_0
theorem d_X11_wageOf_19 : decode prog_1_method_80_code 19 = .ok (.getfield 84, 3) := gq_10 db00d_71 eb_732
theorem d_X11_wageOf_22 : decode prog_1_method_80_code 22 = .ok (.aload_n 1, 1) := gq_11 db00d_71 eb_23
theorem d_X11_wageOf_23 : decode prog_1_method_80_code 23 = .ok (.iload_n 2, 1) := gq_12 db00d_71 eb_13
theorem d_X11_wageOf_24 : decode prog_1_method_80_code 24 = .ok (.iload_n 3, 1) := gq_13 db00d_71 eb_29
theorem d_X11_wageOf_25 : decode prog_1_method_80_code 25 = .ok (.invokevirtual 361, 3) := gq_14 db00d_71 eb_733
theorem d_X11_wageOf_28 : decode prog_1_method_80_code 28 = .ok (.iastore, 1) := gq_15 db00d_71 eb_38
theorem d_X11_wageOf_29 : decode prog_1_method_80_code 29 = .ok (.aload 4, 2) := gq_16 db00d_71 eb_355
theorem d_X11_wageOf_31 : decode prog_1_method_80_code 31 = .ok (.iconst 1, 1) := gq_17 db00d_71 eb_19
theorem d_X11_wageOf_32 : decode prog_1_method_80_code 32 = .ok (.aload_n 1, 1) := gq_18 db00d_71 eb_23
theorem d_X11_wageOf_33 : decode prog_1_method_80_code 33 = .ok (.getfield 313, 3) := gq_19 db00d_71 eb_712
theorem d_X11_wageOf_36 : decode prog_1_method_80_code 36 = .ok (.iastore, 1) := gq_20 db00d_71 eb_38
theorem d_X11_wageOf_37 : decode prog_1_method_80_code 37 = .ok (.aload 4, 2) := gq_21 db00d_71 eb_355
theorem d_X11_wageOf_39 : decode prog_1_method_80_code 39 = .ok (.iconst 2, 1) := gq_22 db00d_71 eb_10
theorem d_X11_wageOf_40 : decode prog_1_method_80_code 40 = .ok (.aload_n 0, 1) := gq_23 db00d_71 eb_0
theorem db00d_72 : Pf_ prog_1_method_80_code [(41, [0xb4, 0x00, 0x31]), (44, [0x2b]), (45, [0xb4, 0x00, 0x7e]), (48, [0x1c]), (49, [0x1d]), (50, [0xb6, 0x02, 0x18]), (53, [0x4f]), (54, [0x19, 0x04]), (56, [0x06]), (57, [0x2a]), (58, [0xb4, 0x00, 0x31]), (61, [0x2b]), (62, [0xb4, 0x00, 0x7e]), (65, [0x1c]), (66, [0x1d]), (67, [0xb6, 0x02, 0x1b]), (70, [0x4f]), (71, [0x19, 0x04]), (73, [0x07]), (74, [0x2a]), (75, [0xb4, 0x00, 0x38]), (78, [0x2b]), (79, [0xb4, 0x00, 0x7e]), (82, [0x1c])] := pf_ok prog_1_method_80_code _ 41 (by decide +kernel)
theorem d_X11_wageOf_41 : decode prog_1_method_80_code 41 = .ok (.getfield 49, 3) := gq_0 db00d_72 eb_285
theorem d_X11_wageOf_44 : decode prog_1_method_80_code 44 = .ok (.aload_n 1, 1) := gq_1 db00d_72 eb_23
theorem d_X11_wageOf_45 : decode prog_1_method_80_code 45 = .ok (.getfield 126, 3) := gq_2 db00d_72 eb_613
theorem d_X11_wageOf_48 : decode prog_1_method_80_code 48 = .ok (.iload_n 2, 1) := gq_3 db00d_72 eb_13
theorem d_X11_wageOf_49 : decode prog_1_method_80_code 49 = .ok (.iload_n 3, 1) := gq_4 db00d_72 eb_29
theorem d_X11_wageOf_50 : decode prog_1_method_80_code 50 = .ok (.invokevirtual 536, 3) := gq_5 db00d_72 eb_800
theorem d_X11_wageOf_53 : decode prog_1_method_80_code 53 = .ok (.iastore, 1) := gq_6 db00d_72 eb_38
theorem d_X11_wageOf_54 : decode prog_1_method_80_code 54 = .ok (.aload 4, 2) := gq_7 db00d_72 eb_355
theorem d_X11_wageOf_56 : decode prog_1_method_80_code 56 = .ok (.iconst 3, 1) := gq_8 db00d_72 eb_54
theorem d_X11_wageOf_57 : decode prog_1_method_80_code 57 = .ok (.aload_n 0, 1) := gq_9 db00d_72 eb_0
theorem d_X11_wageOf_58 : decode prog_1_method_80_code 58 = .ok (.getfield 49, 3) := gq_10 db00d_72 eb_285
theorem d_X11_wageOf_61 : decode prog_1_method_80_code 61 = .ok (.aload_n 1, 1) := gq_11 db00d_72 eb_23
theorem d_X11_wageOf_62 : decode prog_1_method_80_code 62 = .ok (.getfield 126, 3) := gq_12 db00d_72 eb_613
theorem d_X11_wageOf_65 : decode prog_1_method_80_code 65 = .ok (.iload_n 2, 1) := gq_13 db00d_72 eb_13
theorem d_X11_wageOf_66 : decode prog_1_method_80_code 66 = .ok (.iload_n 3, 1) := gq_14 db00d_72 eb_29
theorem d_X11_wageOf_67 : decode prog_1_method_80_code 67 = .ok (.invokevirtual 539, 3) := gq_15 db00d_72 eb_801
theorem d_X11_wageOf_70 : decode prog_1_method_80_code 70 = .ok (.iastore, 1) := gq_16 db00d_72 eb_38
theorem d_X11_wageOf_71 : decode prog_1_method_80_code 71 = .ok (.aload 4, 2) := gq_17 db00d_72 eb_355
theorem d_X11_wageOf_73 : decode prog_1_method_80_code 73 = .ok (.iconst 4, 1) := gq_18 db00d_72 eb_291
theorem d_X11_wageOf_74 : decode prog_1_method_80_code 74 = .ok (.aload_n 0, 1) := gq_19 db00d_72 eb_0
theorem d_X11_wageOf_75 : decode prog_1_method_80_code 75 = .ok (.getfield 56, 3) := gq_20 db00d_72 eb_480
theorem d_X11_wageOf_78 : decode prog_1_method_80_code 78 = .ok (.aload_n 1, 1) := gq_21 db00d_72 eb_23
theorem d_X11_wageOf_79 : decode prog_1_method_80_code 79 = .ok (.getfield 126, 3) := gq_22 db00d_72 eb_613
theorem d_X11_wageOf_82 : decode prog_1_method_80_code 82 = .ok (.iload_n 2, 1) := gq_23 db00d_72 eb_13
theorem db00d_73 : Pf_ prog_1_method_80_code [(83, [0x2a]), (84, [0xb4, 0x00, 0x21]), (87, [0x1d]), (88, [0x04]), (89, [0xb6, 0x02, 0x1e]), (92, [0x4f]), (93, [0x19, 0x04]), (95, [0x08]), (96, [0x2a]), (97, [0xb4, 0x00, 0x38]), (100, [0x2b]), (101, [0xb4, 0x00, 0x7e]), (104, [0x1c]), (105, [0x2a]), (106, [0xb4, 0x00, 0x21]), (109, [0x1d]), (110, [0x03]), (111, [0xb6, 0x02, 0x1e]), (114, [0x4f]), (115, [0x2a]), (116, [0xb4, 0x00, 0x25]), (119, [0x2a]), (120, [0xb4, 0x00, 0x25]), (123, [0x1c])] := pf_ok prog_1_method_80_code _ 83 (by decide +kernel)
theorem d_X11_wageOf_83 : decode prog_1_method_80_code 83 = .ok (.aload_n 0, 1) := gq_0 db00d_73 eb_0
theorem d_X11_wageOf_84 : decode prog_1_method_80_code 84 = .ok (.getfield 33, 3) := gq_1 db00d_73 eb_109
theorem d_X11_wageOf_87 : decode prog_1_method_80_code 87 = .ok (.iload_n 3, 1) := gq_2 db00d_73 eb_29
theorem d_X11_wageOf_88 : decode prog_1_method_80_code 88 = .ok (.iconst 1, 1) := gq_3 db00d_73 eb_19
theorem d_X11_wageOf_89 : decode prog_1_method_80_code 89 = .ok (.invokevirtual 542, 3) := gq_4 db00d_73 eb_802
theorem d_X11_wageOf_92 : decode prog_1_method_80_code 92 = .ok (.iastore, 1) := gq_5 db00d_73 eb_38
theorem d_X11_wageOf_93 : decode prog_1_method_80_code 93 = .ok (.aload 4, 2) := gq_6 db00d_73 eb_355
theorem d_X11_wageOf_95 : decode prog_1_method_80_code 95 = .ok (.iconst 5, 1) := gq_7 db00d_73 eb_122
theorem d_X11_wageOf_96 : decode prog_1_method_80_code 96 = .ok (.aload_n 0, 1) := gq_8 db00d_73 eb_0
theorem d_X11_wageOf_97 : decode prog_1_method_80_code 97 = .ok (.getfield 56, 3) := gq_9 db00d_73 eb_480
theorem d_X11_wageOf_100 : decode prog_1_method_80_code 100 = .ok (.aload_n 1, 1) := gq_10 db00d_73 eb_23
theorem d_X11_wageOf_101 : decode prog_1_method_80_code 101 = .ok (.getfield 126, 3) := gq_11 db00d_73 eb_613
theorem d_X11_wageOf_104 : decode prog_1_method_80_code 104 = .ok (.iload_n 2, 1) := gq_12 db00d_73 eb_13
theorem d_X11_wageOf_105 : decode prog_1_method_80_code 105 = .ok (.aload_n 0, 1) := gq_13 db00d_73 eb_0
theorem d_X11_wageOf_106 : decode prog_1_method_80_code 106 = .ok (.getfield 33, 3) := gq_14 db00d_73 eb_109
theorem d_X11_wageOf_109 : decode prog_1_method_80_code 109 = .ok (.iload_n 3, 1) := gq_15 db00d_73 eb_29
theorem d_X11_wageOf_110 : decode prog_1_method_80_code 110 = .ok (.iconst 0, 1) := gq_16 db00d_73 eb_21
theorem d_X11_wageOf_111 : decode prog_1_method_80_code 111 = .ok (.invokevirtual 542, 3) := gq_17 db00d_73 eb_802
theorem d_X11_wageOf_114 : decode prog_1_method_80_code 114 = .ok (.iastore, 1) := gq_18 db00d_73 eb_38
theorem d_X11_wageOf_115 : decode prog_1_method_80_code 115 = .ok (.aload_n 0, 1) := gq_19 db00d_73 eb_0
theorem d_X11_wageOf_116 : decode prog_1_method_80_code 116 = .ok (.getfield 37, 3) := gq_20 db00d_73 eb_281
theorem d_X11_wageOf_119 : decode prog_1_method_80_code 119 = .ok (.aload_n 0, 1) := gq_21 db00d_73 eb_0
theorem d_X11_wageOf_120 : decode prog_1_method_80_code 120 = .ok (.getfield 37, 3) := gq_22 db00d_73 eb_281
theorem d_X11_wageOf_123 : decode prog_1_method_80_code 123 = .ok (.iload_n 2, 1) := gq_23 db00d_73 eb_13
theorem db00d_74 : Pf_ prog_1_method_80_code [(124, [0x1d]), (125, [0xb6, 0x01, 0x5b]), (128, [0x19, 0x04]), (130, [0x03]), (131, [0xb6, 0x01, 0x7f]), (134, [0x36, 0x05]), (136, [0x03]), (137, [0x15, 0x05]), (139, [0x11, 0x27, 0x10]), (142, [0xb8, 0x00, 0xef]), (145, [0xb8, 0x00, 0xf4]), (148, [0xac])] := pf_ok prog_1_method_80_code _ 124 (by decide +kernel)
theorem d_X11_wageOf_124 : decode prog_1_method_80_code 124 = .ok (.iload_n 3, 1) := gq_0 db00d_74 eb_29
theorem d_X11_wageOf_125 : decode prog_1_method_80_code 125 = .ok (.invokevirtual 347, 3) := gq_1 db00d_74 eb_727
theorem d_X11_wageOf_128 : decode prog_1_method_80_code 128 = .ok (.aload 4, 2) := gq_2 db00d_74 eb_355
theorem d_X11_wageOf_130 : decode prog_1_method_80_code 130 = .ok (.iconst 0, 1) := gq_3 db00d_74 eb_21
theorem d_X11_wageOf_131 : decode prog_1_method_80_code 131 = .ok (.invokevirtual 383, 3) := gq_4 db00d_74 eb_739
theorem d_X11_wageOf_134 : decode prog_1_method_80_code 134 = .ok (.istore 5, 2) := gq_5 db00d_74 eb_134
theorem d_X11_wageOf_136 : decode prog_1_method_80_code 136 = .ok (.iconst 0, 1) := gq_6 db00d_74 eb_21
theorem d_X11_wageOf_137 : decode prog_1_method_80_code 137 = .ok (.iload 5, 2) := gq_7 db00d_74 eb_125
theorem d_X11_wageOf_139 : decode prog_1_method_80_code 139 = .ok (.sipush 10000, 3) := gq_8 db00d_74 eb_803
theorem d_X11_wageOf_142 : decode prog_1_method_80_code 142 = .ok (.invokestatic 239, 3) := gq_9 db00d_74 eb_667
theorem d_X11_wageOf_145 : decode prog_1_method_80_code 145 = .ok (.invokestatic 244, 3) := gq_10 db00d_74 eb_668
theorem d_X11_wageOf_148 : decode prog_1_method_80_code 148 = .ok (.ireturn, 1) := gq_11 db00d_74 eb_15
theorem d_X11_book_38 : decode prog_1_method_81_code 38 = .ok (.aaload, 1) := by decide +kernel
theorem db00d_75 : Pf_ prog_1_method_81_code [(0, [0x2a]), (1, [0xb4, 0x00, 0x5c]), (4, [0x11, 0x05, 0xa0]), (7, [0x6c]), (8, [0x3c]), (9, [0x03]), (10, [0x3d]), (11, [0x1c]), (12, [0x1b]), (13, [0xa2, 0x00, 0x31]), (16, [0x03]), (17, [0x3e]), (18, [0x1d]), (19, [0x2a]), (20, [0xb4, 0x00, 0x68]), (23, [0xa2, 0x00, 0x21]), (26, [0x2a]), (27, [0xb4, 0x00, 0x54]), (30, [0x1d]), (31, [0x1c]), (32, [0x2a]), (33, [0x2a]), (34, [0xb4, 0x00, 0x2a]), (37, [0x1d])] := pf_ok prog_1_method_81_code _ 0 (by decide +kernel)
theorem d_X11_book_0 : decode prog_1_method_81_code 0 = .ok (.aload_n 0, 1) := gq_0 db00d_75 eb_0
theorem d_X11_book_1 : decode prog_1_method_81_code 1 = .ok (.getfield 92, 3) := gq_1 db00d_75 eb_605
theorem d_X11_book_4 : decode prog_1_method_81_code 4 = .ok (.sipush 1440, 3) := gq_2 db00d_75 eb_289
theorem d_X11_book_7 : decode prog_1_method_81_code 7 = .ok (.idiv, 1) := gq_3 db00d_75 eb_219
theorem d_X11_book_8 : decode prog_1_method_81_code 8 = .ok (.istore_n 1, 1) := gq_4 db00d_75 eb_222
theorem d_X11_book_9 : decode prog_1_method_81_code 9 = .ok (.iconst 0, 1) := gq_5 db00d_75 eb_21
theorem d_X11_book_10 : decode prog_1_method_81_code 10 = .ok (.istore_n 2, 1) := gq_6 db00d_75 eb_27
theorem d_X11_book_11 : decode prog_1_method_81_code 11 = .ok (.iload_n 2, 1) := gq_7 db00d_75 eb_13
theorem d_X11_book_12 : decode prog_1_method_81_code 12 = .ok (.iload_n 1, 1) := gq_8 db00d_75 eb_9
theorem d_X11_book_13 : decode prog_1_method_81_code 13 = .ok (.if_icmp .ge 49, 3) := gq_9 db00d_75 eb_224
theorem d_X11_book_16 : decode prog_1_method_81_code 16 = .ok (.iconst 0, 1) := gq_10 db00d_75 eb_21
theorem d_X11_book_17 : decode prog_1_method_81_code 17 = .ok (.istore_n 3, 1) := gq_11 db00d_75 eb_28
theorem d_X11_book_18 : decode prog_1_method_81_code 18 = .ok (.iload_n 3, 1) := gq_12 db00d_75 eb_29
theorem d_X11_book_19 : decode prog_1_method_81_code 19 = .ok (.aload_n 0, 1) := gq_13 db00d_75 eb_0
theorem d_X11_book_20 : decode prog_1_method_81_code 20 = .ok (.getfield 104, 3) := gq_14 db00d_75 eb_389
theorem d_X11_book_23 : decode prog_1_method_81_code 23 = .ok (.if_icmp .ge 33, 3) := gq_15 db00d_75 eb_804
theorem d_X11_book_26 : decode prog_1_method_81_code 26 = .ok (.aload_n 0, 1) := gq_16 db00d_75 eb_0
theorem d_X11_book_27 : decode prog_1_method_81_code 27 = .ok (.getfield 84, 3) := gq_17 db00d_75 eb_732
theorem d_X11_book_30 : decode prog_1_method_81_code 30 = .ok (.iload_n 3, 1) := gq_18 db00d_75 eb_29
theorem d_X11_book_31 : decode prog_1_method_81_code 31 = .ok (.iload_n 2, 1) := gq_19 db00d_75 eb_13
theorem d_X11_book_32 : decode prog_1_method_81_code 32 = .ok (.aload_n 0, 1) := gq_20 db00d_75 eb_0
theorem d_X11_book_33 : decode prog_1_method_81_code 33 = .ok (.aload_n 0, 1) := gq_21 db00d_75 eb_0
theorem d_X11_book_34 : decode prog_1_method_81_code 34 = .ok (.getfield 42, 3) := gq_22 db00d_75 eb_177
theorem d_X11_book_37 : decode prog_1_method_81_code 37 = .ok (.iload_n 3, 1) := gq_23 db00d_75 eb_29
theorem db00d_76 : Pf_ prog_1_method_81_code [(39, [0x1c]), (40, [0x2a]), (41, [0xb4, 0x00, 0x5c]), (44, [0xb6, 0x02, 0x14]), (47, [0xb6, 0x02, 0x22]), (50, [0x84, 0x03, 0x01]), (53, [0xa7, 0xff, 0xdd]), (56, [0x84, 0x02, 0x01]), (59, [0xa7, 0xff, 0xd0]), (62, [0x2a]), (63, [0xb4, 0x00, 0x54]), (66, [0x2a]), (67, [0xb4, 0x00, 0x68]), (70, [0x1b]), (71, [0x2a]), (72, [0xb4, 0x00, 0x5c]), (75, [0xb6, 0x02, 0x25]), (78, [0xac])] := pf_ok prog_1_method_81_code _ 39 (by decide +kernel)
theorem d_X11_book_39 : decode prog_1_method_81_code 39 = .ok (.iload_n 2, 1) := gq_0 db00d_76 eb_13
theorem d_X11_book_40 : decode prog_1_method_81_code 40 = .ok (.aload_n 0, 1) := gq_1 db00d_76 eb_0
theorem d_X11_book_41 : decode prog_1_method_81_code 41 = .ok (.getfield 92, 3) := gq_2 db00d_76 eb_605
theorem d_X11_book_44 : decode prog_1_method_81_code 44 = .ok (.invokevirtual 532, 3) := gq_3 db00d_76 eb_797
theorem d_X11_book_47 : decode prog_1_method_81_code 47 = .ok (.invokevirtual 546, 3) := gq_4 db00d_76 eb_805
theorem d_X11_book_50 : decode prog_1_method_81_code 50 = .ok (.iinc 3 1, 3) := gq_5 db00d_76 eb_42
theorem d_X11_book_53 : decode prog_1_method_81_code 53 = .ok (.goto (-35), 3) := gq_6 db00d_76 eb_149
theorem d_X11_book_56 : decode prog_1_method_81_code 56 = .ok (.iinc 2 1, 3) := gq_7 db00d_76 eb_41
theorem d_X11_book_59 : decode prog_1_method_81_code 59 = .ok (.goto (-48), 3) := gq_8 db00d_76 eb_43
theorem d_X11_book_62 : decode prog_1_method_81_code 62 = .ok (.aload_n 0, 1) := gq_9 db00d_76 eb_0
theorem d_X11_book_63 : decode prog_1_method_81_code 63 = .ok (.getfield 84, 3) := gq_10 db00d_76 eb_732
theorem d_X11_book_66 : decode prog_1_method_81_code 66 = .ok (.aload_n 0, 1) := gq_11 db00d_76 eb_0
theorem d_X11_book_67 : decode prog_1_method_81_code 67 = .ok (.getfield 104, 3) := gq_12 db00d_76 eb_389
theorem d_X11_book_70 : decode prog_1_method_81_code 70 = .ok (.iload_n 1, 1) := gq_13 db00d_76 eb_9
theorem d_X11_book_71 : decode prog_1_method_81_code 71 = .ok (.aload_n 0, 1) := gq_14 db00d_76 eb_0
theorem d_X11_book_72 : decode prog_1_method_81_code 72 = .ok (.getfield 92, 3) := gq_15 db00d_76 eb_605
theorem d_X11_book_75 : decode prog_1_method_81_code 75 = .ok (.invokevirtual 549, 3) := gq_16 db00d_76 eb_806
theorem d_X11_book_78 : decode prog_1_method_81_code 78 = .ok (.ireturn, 1) := gq_17 db00d_76 eb_15
theorem db00d_77 : Pf_ prog_1_method_82_code [(0, [0x2a]), (1, [0xb4, 0x00, 0x54]), (4, [0x1b]), (5, [0x1c]), (6, [0xb6, 0x02, 0x28]), (9, [0xac])] := pf_ok prog_1_method_82_code _ 0 (by decide +kernel)
theorem d_X11_line_0 : decode prog_1_method_82_code 0 = .ok (.aload_n 0, 1) := gq_0 db00d_77 eb_0
theorem d_X11_line_1 : decode prog_1_method_82_code 1 = .ok (.getfield 84, 3) := gq_1 db00d_77 eb_732
theorem d_X11_line_4 : decode prog_1_method_82_code 4 = .ok (.iload_n 1, 1) := gq_2 db00d_77 eb_9
theorem d_X11_line_5 : decode prog_1_method_82_code 5 = .ok (.iload_n 2, 1) := gq_3 db00d_77 eb_13
theorem d_X11_line_6 : decode prog_1_method_82_code 6 = .ok (.invokevirtual 552, 3) := gq_4 db00d_77 eb_807
theorem d_X11_line_9 : decode prog_1_method_82_code 9 = .ok (.ireturn, 1) := gq_5 db00d_77 eb_15
theorem db00d_78 : Pf_ prog_1_method_83_code [(0, [0x1b]), (1, [0x03]), (2, [0x06]), (3, [0xb8, 0x00, 0x60]), (6, [0x99, 0x00, 0x15]), (9, [0x2a]), (10, [0x1c]), (11, [0xb6, 0x01, 0x3e]), (14, [0x99, 0x00, 0x0d]), (17, [0x1d]), (18, [0x03]), (19, [0x10, 0x0a]), (21, [0xb8, 0x00, 0x60]), (24, [0x9a, 0x00, 0x05]), (27, [0x03]), (28, [0xac]), (29, [0x2a]), (30, [0xb4, 0x00, 0x54]), (33, [0x1b]), (34, [0x1c]), (35, [0x1d]), (36, [0xb6, 0x02, 0x2b]), (39, [0x04]), (40, [0xac])] := pf_ok prog_1_method_83_code _ 0 (by decide +kernel)
theorem d_X11_mark_0 : decode prog_1_method_83_code 0 = .ok (.iload_n 1, 1) := gq_0 db00d_78 eb_9
theorem d_X11_mark_1 : decode prog_1_method_83_code 1 = .ok (.iconst 0, 1) := gq_1 db00d_78 eb_21
theorem d_X11_mark_2 : decode prog_1_method_83_code 2 = .ok (.iconst 3, 1) := gq_2 db00d_78 eb_54
theorem d_X11_mark_3 : decode prog_1_method_83_code 3 = .ok (.invokestatic 96, 3) := gq_3 db00d_78 eb_606
theorem d_X11_mark_6 : decode prog_1_method_83_code 6 = .ok (.ifCond .eq 21, 3) := gq_4 db00d_78 eb_326
theorem d_X11_mark_9 : decode prog_1_method_83_code 9 = .ok (.aload_n 0, 1) := gq_5 db00d_78 eb_0
theorem d_X11_mark_10 : decode prog_1_method_83_code 10 = .ok (.iload_n 2, 1) := gq_6 db00d_78 eb_13
theorem d_X11_mark_11 : decode prog_1_method_83_code 11 = .ok (.invokevirtual 318, 3) := gq_7 db00d_78 eb_714
theorem d_X11_mark_14 : decode prog_1_method_83_code 14 = .ok (.ifCond .eq 13, 3) := gq_8 db00d_78 eb_119
theorem d_X11_mark_17 : decode prog_1_method_83_code 17 = .ok (.iload_n 3, 1) := gq_9 db00d_78 eb_29
theorem d_X11_mark_18 : decode prog_1_method_83_code 18 = .ok (.iconst 0, 1) := gq_10 db00d_78 eb_21
theorem d_X11_mark_19 : decode prog_1_method_83_code 19 = .ok (.bipush 10, 2) := gq_11 db00d_78 eb_93
theorem d_X11_mark_21 : decode prog_1_method_83_code 21 = .ok (.invokestatic 96, 3) := gq_12 db00d_78 eb_606
theorem d_X11_mark_24 : decode prog_1_method_83_code 24 = .ok (.ifCond .ne 5, 3) := gq_13 db00d_78 eb_150
theorem d_X11_mark_27 : decode prog_1_method_83_code 27 = .ok (.iconst 0, 1) := gq_14 db00d_78 eb_21
theorem d_X11_mark_28 : decode prog_1_method_83_code 28 = .ok (.ireturn, 1) := gq_15 db00d_78 eb_15
theorem d_X11_mark_29 : decode prog_1_method_83_code 29 = .ok (.aload_n 0, 1) := gq_16 db00d_78 eb_0
theorem d_X11_mark_30 : decode prog_1_method_83_code 30 = .ok (.getfield 84, 3) := gq_17 db00d_78 eb_732
theorem d_X11_mark_33 : decode prog_1_method_83_code 33 = .ok (.iload_n 1, 1) := gq_18 db00d_78 eb_9
theorem d_X11_mark_34 : decode prog_1_method_83_code 34 = .ok (.iload_n 2, 1) := gq_19 db00d_78 eb_13
theorem d_X11_mark_35 : decode prog_1_method_83_code 35 = .ok (.iload_n 3, 1) := gq_20 db00d_78 eb_29
theorem d_X11_mark_36 : decode prog_1_method_83_code 36 = .ok (.invokevirtual 555, 3) := gq_21 db00d_78 eb_808
theorem d_X11_mark_39 : decode prog_1_method_83_code 39 = .ok (.iconst 1, 1) := gq_22 db00d_78 eb_19
theorem d_X11_mark_40 : decode prog_1_method_83_code 40 = .ok (.ireturn, 1) := gq_23 db00d_78 eb_15
theorem db00d_79 : Pf_ prog_1_method_84_code [(0, [0x1b]), (1, [0x04]), (2, [0x10, 0x0c]), (4, [0xb8, 0x00, 0x60]), (7, [0x9a, 0x00, 0x05]), (10, [0x03]), (11, [0xac]), (12, [0x2a]), (13, [0xb4, 0x00, 0x54]), (16, [0x1b]), (17, [0xb5, 0x02, 0x2e]), (20, [0x04]), (21, [0xac])] := pf_ok prog_1_method_84_code _ 0 (by decide +kernel)
theorem d_X11_size_0 : decode prog_1_method_84_code 0 = .ok (.iload_n 1, 1) := gq_0 db00d_79 eb_9
theorem d_X11_size_1 : decode prog_1_method_84_code 1 = .ok (.iconst 1, 1) := gq_1 db00d_79 eb_19
theorem d_X11_size_2 : decode prog_1_method_84_code 2 = .ok (.bipush 12, 2) := gq_2 db00d_79 eb_4
theorem d_X11_size_4 : decode prog_1_method_84_code 4 = .ok (.invokestatic 96, 3) := gq_3 db00d_79 eb_606
theorem d_X11_size_7 : decode prog_1_method_84_code 7 = .ok (.ifCond .ne 5, 3) := gq_4 db00d_79 eb_150
theorem d_X11_size_10 : decode prog_1_method_84_code 10 = .ok (.iconst 0, 1) := gq_5 db00d_79 eb_21
theorem d_X11_size_11 : decode prog_1_method_84_code 11 = .ok (.ireturn, 1) := gq_6 db00d_79 eb_15
theorem d_X11_size_12 : decode prog_1_method_84_code 12 = .ok (.aload_n 0, 1) := gq_7 db00d_79 eb_0
theorem d_X11_size_13 : decode prog_1_method_84_code 13 = .ok (.getfield 84, 3) := gq_8 db00d_79 eb_732
theorem d_X11_size_16 : decode prog_1_method_84_code 16 = .ok (.iload_n 1, 1) := gq_9 db00d_79 eb_9
theorem d_X11_size_17 : decode prog_1_method_84_code 17 = .ok (.putfield 558, 3) := gq_10 db00d_79 eb_809
theorem d_X11_size_20 : decode prog_1_method_84_code 20 = .ok (.iconst 1, 1) := gq_11 db00d_79 eb_19
theorem d_X11_size_21 : decode prog_1_method_84_code 21 = .ok (.ireturn, 1) := gq_12 db00d_79 eb_15
theorem db00d_80 : Pf_ prog_1_method_85_code [(0, [0x1b]), (1, [0x03]), (2, [0x06]), (3, [0xb8, 0x00, 0x60]), (6, [0x99, 0x00, 0x11]), (9, [0x1c]), (10, [0x03]), (11, [0x06]), (12, [0xb8, 0x00, 0x60]), (15, [0x99, 0x00, 0x08]), (18, [0x1b]), (19, [0x1c]), (20, [0xa0, 0x00, 0x07]), (23, [0x13, 0x02, 0x31]), (26, [0xac]), (27, [0x2a]), (28, [0xb4, 0x00, 0x54]), (31, [0x1b]), (32, [0x1c]), (33, [0x2a]), (34, [0xb4, 0x00, 0x68]), (37, [0xb6, 0x02, 0x32]), (40, [0xac])] := pf_ok prog_1_method_85_code _ 0 (by decide +kernel)
theorem d_X11_habit_0 : decode prog_1_method_85_code 0 = .ok (.iload_n 1, 1) := gq_0 db00d_80 eb_9
theorem d_X11_habit_1 : decode prog_1_method_85_code 1 = .ok (.iconst 0, 1) := gq_1 db00d_80 eb_21
theorem d_X11_habit_2 : decode prog_1_method_85_code 2 = .ok (.iconst 3, 1) := gq_2 db00d_80 eb_54
theorem d_X11_habit_3 : decode prog_1_method_85_code 3 = .ok (.invokestatic 96, 3) := gq_3 db00d_80 eb_606
theorem d_X11_habit_6 : decode prog_1_method_85_code 6 = .ok (.ifCond .eq 17, 3) := gq_4 db00d_80 eb_112
theorem d_X11_habit_9 : decode prog_1_method_85_code 9 = .ok (.iload_n 2, 1) := gq_5 db00d_80 eb_13
theorem d_X11_habit_10 : decode prog_1_method_85_code 10 = .ok (.iconst 0, 1) := gq_6 db00d_80 eb_21
theorem d_X11_habit_11 : decode prog_1_method_85_code 11 = .ok (.iconst 3, 1) := gq_7 db00d_80 eb_54
theorem d_X11_habit_12 : decode prog_1_method_85_code 12 = .ok (.invokestatic 96, 3) := gq_8 db00d_80 eb_606
theorem d_X11_habit_15 : decode prog_1_method_85_code 15 = .ok (.ifCond .eq 8, 3) := gq_9 db00d_80 eb_489
theorem d_X11_habit_18 : decode prog_1_method_85_code 18 = .ok (.iload_n 1, 1) := gq_10 db00d_80 eb_9
theorem d_X11_habit_19 : decode prog_1_method_85_code 19 = .ok (.iload_n 2, 1) := gq_11 db00d_80 eb_13
theorem d_X11_habit_20 : decode prog_1_method_85_code 20 = .ok (.if_icmp .ne 7, 3) := gq_12 db00d_80 eb_135
theorem d_X11_habit_23 : decode prog_1_method_85_code 23 = .ok (.ldc_w 561, 3) := gq_13 db00d_80 eb_810
theorem d_X11_habit_26 : decode prog_1_method_85_code 26 = .ok (.ireturn, 1) := gq_14 db00d_80 eb_15
theorem d_X11_habit_27 : decode prog_1_method_85_code 27 = .ok (.aload_n 0, 1) := gq_15 db00d_80 eb_0
theorem d_X11_habit_28 : decode prog_1_method_85_code 28 = .ok (.getfield 84, 3) := gq_16 db00d_80 eb_732
theorem d_X11_habit_31 : decode prog_1_method_85_code 31 = .ok (.iload_n 1, 1) := gq_17 db00d_80 eb_9
theorem d_X11_habit_32 : decode prog_1_method_85_code 32 = .ok (.iload_n 2, 1) := gq_18 db00d_80 eb_13
theorem d_X11_habit_33 : decode prog_1_method_85_code 33 = .ok (.aload_n 0, 1) := gq_19 db00d_80 eb_0
theorem d_X11_habit_34 : decode prog_1_method_85_code 34 = .ok (.getfield 104, 3) := gq_20 db00d_80 eb_389
theorem d_X11_habit_37 : decode prog_1_method_85_code 37 = .ok (.invokevirtual 562, 3) := gq_21 db00d_80 eb_811
theorem d_X11_habit_40 : decode prog_1_method_85_code 40 = .ok (.ireturn, 1) := gq_22 db00d_80 eb_15
theorem db00d_81 : Pf_ prog_1_method_86_code [(0, [0x2a]), (1, [0x1b]), (2, [0xb6, 0x01, 0x3e]), (5, [0x99, 0x00, 0x1f]), (8, [0x1c]), (9, [0xb8, 0x00, 0x6b]), (12, [0x99, 0x00, 0x18]), (15, [0x2a]), (16, [0x1d]), (17, [0xb6, 0x01, 0x41]), (20, [0x99, 0x00, 0x10]), (23, [0x15, 0x04]), (25, [0x1d]), (26, [0x2a]), (27, [0xb4, 0x00, 0x5c]), (30, [0xb8, 0x00, 0x60]), (33, [0x9a, 0x00, 0x05]), (36, [0x02]), (37, [0xac]), (38, [0x15, 0x04]), (40, [0x1d]), (41, [0x64]), (42, [0x04]), (43, [0x60])] := pf_ok prog_1_method_86_code _ 0 (by decide +kernel)
theorem d_X11_complain_0 : decode prog_1_method_86_code 0 = .ok (.aload_n 0, 1) := gq_0 db00d_81 eb_0
theorem d_X11_complain_1 : decode prog_1_method_86_code 1 = .ok (.iload_n 1, 1) := gq_1 db00d_81 eb_9
theorem d_X11_complain_2 : decode prog_1_method_86_code 2 = .ok (.invokevirtual 318, 3) := gq_2 db00d_81 eb_714
theorem d_X11_complain_5 : decode prog_1_method_86_code 5 = .ok (.ifCond .eq 31, 3) := gq_3 db00d_81 eb_758
theorem d_X11_complain_8 : decode prog_1_method_86_code 8 = .ok (.iload_n 2, 1) := gq_4 db00d_81 eb_13
theorem d_X11_complain_9 : decode prog_1_method_86_code 9 = .ok (.invokestatic 107, 3) := gq_5 db00d_81 eb_608
theorem d_X11_complain_12 : decode prog_1_method_86_code 12 = .ok (.ifCond .eq 24, 3) := gq_6 db00d_81 eb_213
theorem d_X11_complain_15 : decode prog_1_method_86_code 15 = .ok (.aload_n 0, 1) := gq_7 db00d_81 eb_0
theorem d_X11_complain_16 : decode prog_1_method_86_code 16 = .ok (.iload_n 3, 1) := gq_8 db00d_81 eb_29
theorem d_X11_complain_17 : decode prog_1_method_86_code 17 = .ok (.invokevirtual 321, 3) := gq_9 db00d_81 eb_716
theorem d_X11_complain_20 : decode prog_1_method_86_code 20 = .ok (.ifCond .eq 16, 3) := gq_10 db00d_81 eb_136
theorem d_X11_complain_23 : decode prog_1_method_86_code 23 = .ok (.iload 4, 2) := gq_11 db00d_81 eb_76
theorem d_X11_complain_25 : decode prog_1_method_86_code 25 = .ok (.iload_n 3, 1) := gq_12 db00d_81 eb_29
theorem d_X11_complain_26 : decode prog_1_method_86_code 26 = .ok (.aload_n 0, 1) := gq_13 db00d_81 eb_0
theorem d_X11_complain_27 : decode prog_1_method_86_code 27 = .ok (.getfield 92, 3) := gq_14 db00d_81 eb_605
theorem d_X11_complain_30 : decode prog_1_method_86_code 30 = .ok (.invokestatic 96, 3) := gq_15 db00d_81 eb_606
theorem d_X11_complain_33 : decode prog_1_method_86_code 33 = .ok (.ifCond .ne 5, 3) := gq_16 db00d_81 eb_150
theorem d_X11_complain_36 : decode prog_1_method_86_code 36 = .ok (.iconst (-1), 1) := gq_17 db00d_81 eb_26
theorem d_X11_complain_37 : decode prog_1_method_86_code 37 = .ok (.ireturn, 1) := gq_18 db00d_81 eb_15
theorem d_X11_complain_38 : decode prog_1_method_86_code 38 = .ok (.iload 4, 2) := gq_19 db00d_81 eb_76
theorem d_X11_complain_40 : decode prog_1_method_86_code 40 = .ok (.iload_n 3, 1) := gq_20 db00d_81 eb_29
theorem d_X11_complain_41 : decode prog_1_method_86_code 41 = .ok (.isub, 1) := gq_21 db00d_81 eb_48
theorem d_X11_complain_42 : decode prog_1_method_86_code 42 = .ok (.iconst 1, 1) := gq_22 db00d_81 eb_19
theorem d_X11_complain_43 : decode prog_1_method_86_code 43 = .ok (.iadd, 1) := gq_23 db00d_81 eb_35
theorem db00d_82 : Pf_ prog_1_method_86_code [(44, [0x11, 0x05, 0xa0]), (47, [0xa4, 0x00, 0x05]), (50, [0x02]), (51, [0xac]), (52, [0x03]), (53, [0x36, 0x05]), (55, [0x1d]), (56, [0x36, 0x06]), (58, [0x15, 0x06]), (60, [0x15, 0x04]), (62, [0xa3, 0x00, 0x26]), (65, [0x2a]), (66, [0x1b]), (67, [0x15, 0x06]), (69, [0xb6, 0x01, 0x44]), (72, [0x36, 0x07]), (74, [0x15, 0x07]), (76, [0x1c]), (77, [0x04]), (78, [0x60]), (79, [0xa0, 0x00, 0x05]), (82, [0x04]), (83, [0xac]), (84, [0x15, 0x07])] := pf_ok prog_1_method_86_code _ 44 (by decide +kernel)
theorem d_X11_complain_44 : decode prog_1_method_86_code 44 = .ok (.sipush 1440, 3) := gq_0 db00d_82 eb_289
theorem d_X11_complain_47 : decode prog_1_method_86_code 47 = .ok (.if_icmp .le 5, 3) := gq_1 db00d_82 eb_334
theorem d_X11_complain_50 : decode prog_1_method_86_code 50 = .ok (.iconst (-1), 1) := gq_2 db00d_82 eb_26
theorem d_X11_complain_51 : decode prog_1_method_86_code 51 = .ok (.ireturn, 1) := gq_3 db00d_82 eb_15
theorem d_X11_complain_52 : decode prog_1_method_86_code 52 = .ok (.iconst 0, 1) := gq_4 db00d_82 eb_21
theorem d_X11_complain_53 : decode prog_1_method_86_code 53 = .ok (.istore 5, 2) := gq_5 db00d_82 eb_134
theorem d_X11_complain_55 : decode prog_1_method_86_code 55 = .ok (.iload_n 3, 1) := gq_6 db00d_82 eb_29
theorem d_X11_complain_56 : decode prog_1_method_86_code 56 = .ok (.istore 6, 2) := gq_7 db00d_82 eb_58
theorem d_X11_complain_58 : decode prog_1_method_86_code 58 = .ok (.iload 6, 2) := gq_8 db00d_82 eb_75
theorem d_X11_complain_60 : decode prog_1_method_86_code 60 = .ok (.iload 4, 2) := gq_9 db00d_82 eb_76
theorem d_X11_complain_62 : decode prog_1_method_86_code 62 = .ok (.if_icmp .gt 38, 3) := gq_10 db00d_82 eb_555
theorem d_X11_complain_65 : decode prog_1_method_86_code 65 = .ok (.aload_n 0, 1) := gq_11 db00d_82 eb_0
theorem d_X11_complain_66 : decode prog_1_method_86_code 66 = .ok (.iload_n 1, 1) := gq_12 db00d_82 eb_9
theorem d_X11_complain_67 : decode prog_1_method_86_code 67 = .ok (.iload 6, 2) := gq_13 db00d_82 eb_75
theorem d_X11_complain_69 : decode prog_1_method_86_code 69 = .ok (.invokevirtual 324, 3) := gq_14 db00d_82 eb_717
theorem d_X11_complain_72 : decode prog_1_method_86_code 72 = .ok (.istore 7, 2) := gq_15 db00d_82 eb_59
theorem d_X11_complain_74 : decode prog_1_method_86_code 74 = .ok (.iload 7, 2) := gq_16 db00d_82 eb_73
theorem d_X11_complain_76 : decode prog_1_method_86_code 76 = .ok (.iload_n 2, 1) := gq_17 db00d_82 eb_13
theorem d_X11_complain_77 : decode prog_1_method_86_code 77 = .ok (.iconst 1, 1) := gq_18 db00d_82 eb_19
theorem d_X11_complain_78 : decode prog_1_method_86_code 78 = .ok (.iadd, 1) := gq_19 db00d_82 eb_35
theorem d_X11_complain_79 : decode prog_1_method_86_code 79 = .ok (.if_icmp .ne 5, 3) := gq_20 db00d_82 eb_479
theorem d_X11_complain_82 : decode prog_1_method_86_code 82 = .ok (.iconst 1, 1) := gq_21 db00d_82 eb_19
theorem d_X11_complain_83 : decode prog_1_method_86_code 83 = .ok (.ireturn, 1) := gq_22 db00d_82 eb_15
theorem d_X11_complain_84 : decode prog_1_method_86_code 84 = .ok (.iload 7, 2) := gq_23 db00d_82 eb_73
theorem db00d_83 : Pf_ prog_1_method_86_code [(86, [0x10, 0x11]), (88, [0xa0, 0x00, 0x06]), (91, [0x05]), (92, [0x36, 0x05]), (94, [0x84, 0x06, 0x01]), (97, [0xa7, 0xff, 0xd9]), (100, [0x15, 0x05]), (102, [0xac])] := pf_ok prog_1_method_86_code _ 86 (by decide +kernel)
theorem d_X11_complain_86 : decode prog_1_method_86_code 86 = .ok (.bipush 17, 2) := gq_0 db00d_83 eb_718
theorem d_X11_complain_88 : decode prog_1_method_86_code 88 = .ok (.if_icmp .ne 6, 3) := gq_1 db00d_83 eb_40
theorem d_X11_complain_91 : decode prog_1_method_86_code 91 = .ok (.iconst 2, 1) := gq_2 db00d_83 eb_10
theorem d_X11_complain_92 : decode prog_1_method_86_code 92 = .ok (.istore 5, 2) := gq_3 db00d_83 eb_134
theorem d_X11_complain_94 : decode prog_1_method_86_code 94 = .ok (.iinc 6 1, 3) := gq_4 db00d_83 eb_72
theorem d_X11_complain_97 : decode prog_1_method_86_code 97 = .ok (.goto (-39), 3) := gq_5 db00d_83 eb_332
theorem d_X11_complain_100 : decode prog_1_method_86_code 100 = .ok (.iload 5, 2) := gq_6 db00d_83 eb_125
theorem d_X11_complain_102 : decode prog_1_method_86_code 102 = .ok (.ireturn, 1) := gq_7 db00d_83 eb_15
theorem d_X11_count_1 : decode prog_1_method_87_code 1 = .ok (.tableswitch 117 0 8 #[51, 56, 64, 69, 77, 85, 93, 101, 109], 51) := by decide +kernel
theorem db00d_84 : Pf_ prog_1_method_87_code [(0, [0x1b]), (52, [0x2a]), (53, [0xb4, 0x00, 0x5c]), (56, [0xac]), (57, [0x2a]), (58, [0xb4, 0x00, 0x0a]), (61, [0xb4, 0x02, 0x35]), (64, [0xac]), (65, [0x2a]), (66, [0xb4, 0x00, 0x68]), (69, [0xac]), (70, [0x2a]), (71, [0xb4, 0x00, 0x1a]), (74, [0xb4, 0x01, 0xd6]), (77, [0xac]), (78, [0x2a]), (79, [0xb4, 0x00, 0x31]), (82, [0xb4, 0x00, 0xad]), (85, [0xac]), (86, [0x2a]), (87, [0xb4, 0x00, 0x38]), (90, [0xb4, 0x01, 0x5e]), (93, [0xac]), (94, [0x2a])] := pf_ok prog_1_method_87_code _ 0 (by decide +kernel)
theorem d_X11_count_0 : decode prog_1_method_87_code 0 = .ok (.iload_n 1, 1) := gq_0 db00d_84 eb_9
theorem d_X11_count_52 : decode prog_1_method_87_code 52 = .ok (.aload_n 0, 1) := gq_1 db00d_84 eb_0
theorem d_X11_count_53 : decode prog_1_method_87_code 53 = .ok (.getfield 92, 3) := gq_2 db00d_84 eb_605
theorem d_X11_count_56 : decode prog_1_method_87_code 56 = .ok (.ireturn, 1) := gq_3 db00d_84 eb_15
theorem d_X11_count_57 : decode prog_1_method_87_code 57 = .ok (.aload_n 0, 1) := gq_4 db00d_84 eb_0
theorem d_X11_count_58 : decode prog_1_method_87_code 58 = .ok (.getfield 10, 3) := gq_5 db00d_84 eb_609
theorem d_X11_count_61 : decode prog_1_method_87_code 61 = .ok (.getfield 565, 3) := gq_6 db00d_84 eb_812
theorem d_X11_count_64 : decode prog_1_method_87_code 64 = .ok (.ireturn, 1) := gq_7 db00d_84 eb_15
theorem d_X11_count_65 : decode prog_1_method_87_code 65 = .ok (.aload_n 0, 1) := gq_8 db00d_84 eb_0
theorem d_X11_count_66 : decode prog_1_method_87_code 66 = .ok (.getfield 104, 3) := gq_9 db00d_84 eb_389
theorem d_X11_count_69 : decode prog_1_method_87_code 69 = .ok (.ireturn, 1) := gq_10 db00d_84 eb_15
theorem d_X11_count_70 : decode prog_1_method_87_code 70 = .ok (.aload_n 0, 1) := gq_11 db00d_84 eb_0
theorem d_X11_count_71 : decode prog_1_method_87_code 71 = .ok (.getfield 26, 3) := gq_12 db00d_84 eb_226
theorem d_X11_count_74 : decode prog_1_method_87_code 74 = .ok (.getfield 470, 3) := gq_13 db00d_84 eb_774
theorem d_X11_count_77 : decode prog_1_method_87_code 77 = .ok (.ireturn, 1) := gq_14 db00d_84 eb_15
theorem d_X11_count_78 : decode prog_1_method_87_code 78 = .ok (.aload_n 0, 1) := gq_15 db00d_84 eb_0
theorem d_X11_count_79 : decode prog_1_method_87_code 79 = .ok (.getfield 49, 3) := gq_16 db00d_84 eb_285
theorem d_X11_count_82 : decode prog_1_method_87_code 82 = .ok (.getfield 173, 3) := gq_17 db00d_84 eb_630
theorem d_X11_count_85 : decode prog_1_method_87_code 85 = .ok (.ireturn, 1) := gq_18 db00d_84 eb_15
theorem d_X11_count_86 : decode prog_1_method_87_code 86 = .ok (.aload_n 0, 1) := gq_19 db00d_84 eb_0
theorem d_X11_count_87 : decode prog_1_method_87_code 87 = .ok (.getfield 56, 3) := gq_20 db00d_84 eb_480
theorem d_X11_count_90 : decode prog_1_method_87_code 90 = .ok (.getfield 350, 3) := gq_21 db00d_84 eb_728
theorem d_X11_count_93 : decode prog_1_method_87_code 93 = .ok (.ireturn, 1) := gq_22 db00d_84 eb_15
theorem d_X11_count_94 : decode prog_1_method_87_code 94 = .ok (.aload_n 0, 1) := gq_23 db00d_84 eb_0
theorem db00d_85 : Pf_ prog_1_method_87_code [(95, [0xb4, 0x00, 0x38]), (98, [0xb4, 0x02, 0x38]), (101, [0xac]), (102, [0x2a]), (103, [0xb4, 0x00, 0x21]), (106, [0xb4, 0x02, 0x3b]), (109, [0xac]), (110, [0x2a]), (111, [0xb4, 0x00, 0x38]), (114, [0xb4, 0x02, 0x3e]), (117, [0xac]), (118, [0x2a]), (119, [0x1b]), (120, [0xb6, 0x02, 0x41]), (123, [0xac])] := pf_ok prog_1_method_87_code _ 95 (by decide +kernel)
theorem d_X11_count_95 : decode prog_1_method_87_code 95 = .ok (.getfield 56, 3) := gq_0 db00d_85 eb_480
theorem d_X11_count_98 : decode prog_1_method_87_code 98 = .ok (.getfield 568, 3) := gq_1 db00d_85 eb_813
theorem d_X11_count_101 : decode prog_1_method_87_code 101 = .ok (.ireturn, 1) := gq_2 db00d_85 eb_15
theorem d_X11_count_102 : decode prog_1_method_87_code 102 = .ok (.aload_n 0, 1) := gq_3 db00d_85 eb_0
theorem d_X11_count_103 : decode prog_1_method_87_code 103 = .ok (.getfield 33, 3) := gq_4 db00d_85 eb_109
theorem d_X11_count_106 : decode prog_1_method_87_code 106 = .ok (.getfield 571, 3) := gq_5 db00d_85 eb_814
theorem d_X11_count_109 : decode prog_1_method_87_code 109 = .ok (.ireturn, 1) := gq_6 db00d_85 eb_15
theorem d_X11_count_110 : decode prog_1_method_87_code 110 = .ok (.aload_n 0, 1) := gq_7 db00d_85 eb_0
theorem d_X11_count_111 : decode prog_1_method_87_code 111 = .ok (.getfield 56, 3) := gq_8 db00d_85 eb_480
theorem d_X11_count_114 : decode prog_1_method_87_code 114 = .ok (.getfield 574, 3) := gq_9 db00d_85 eb_815
theorem d_X11_count_117 : decode prog_1_method_87_code 117 = .ok (.ireturn, 1) := gq_10 db00d_85 eb_15
theorem d_X11_count_118 : decode prog_1_method_87_code 118 = .ok (.aload_n 0, 1) := gq_11 db00d_85 eb_0
theorem d_X11_count_119 : decode prog_1_method_87_code 119 = .ok (.iload_n 1, 1) := gq_12 db00d_85 eb_9
theorem d_X11_count_120 : decode prog_1_method_87_code 120 = .ok (.invokevirtual 577, 3) := gq_13 db00d_85 eb_816
theorem d_X11_count_123 : decode prog_1_method_87_code 123 = .ok (.ireturn, 1) := gq_14 db00d_85 eb_15
theorem d_X11_countMore_1 : decode prog_1_method_88_code 1 = .ok (.tableswitch 135 9 18 #[55, 63, 71, 79, 87, 95, 103, 111, 119, 127], 55) := by decide +kernel
theorem db00d_86 : Pf_ prog_1_method_88_code [(0, [0x1b]), (56, [0x2a]), (57, [0xb4, 0x00, 0x3f]), (60, [0xb4, 0x02, 0x44]), (63, [0xac]), (64, [0x2a]), (65, [0xb4, 0x00, 0x3f]), (68, [0xb4, 0x02, 0x47]), (71, [0xac]), (72, [0x2a]), (73, [0xb4, 0x00, 0x46]), (76, [0xb4, 0x02, 0x4a]), (79, [0xac]), (80, [0x2a]), (81, [0xb4, 0x00, 0x46]), (84, [0xb4, 0x02, 0x4d]), (87, [0xac]), (88, [0x2a]), (89, [0xb4, 0x00, 0x4d]), (92, [0xb4, 0x02, 0x50]), (95, [0xac]), (96, [0x2a]), (97, [0xb4, 0x00, 0x4d]), (100, [0xb4, 0x01, 0xf8])] := pf_ok prog_1_method_88_code _ 0 (by decide +kernel)
theorem d_X11_countMore_0 : decode prog_1_method_88_code 0 = .ok (.iload_n 1, 1) := gq_0 db00d_86 eb_9
theorem d_X11_countMore_56 : decode prog_1_method_88_code 56 = .ok (.aload_n 0, 1) := gq_1 db00d_86 eb_0
theorem d_X11_countMore_57 : decode prog_1_method_88_code 57 = .ok (.getfield 63, 3) := gq_2 db00d_86 eb_276
theorem d_X11_countMore_60 : decode prog_1_method_88_code 60 = .ok (.getfield 580, 3) := gq_3 db00d_86 eb_817
theorem d_X11_countMore_63 : decode prog_1_method_88_code 63 = .ok (.ireturn, 1) := gq_4 db00d_86 eb_15
theorem d_X11_countMore_64 : decode prog_1_method_88_code 64 = .ok (.aload_n 0, 1) := gq_5 db00d_86 eb_0
theorem d_X11_countMore_65 : decode prog_1_method_88_code 65 = .ok (.getfield 63, 3) := gq_6 db00d_86 eb_276
theorem d_X11_countMore_68 : decode prog_1_method_88_code 68 = .ok (.getfield 583, 3) := gq_7 db00d_86 eb_818
theorem d_X11_countMore_71 : decode prog_1_method_88_code 71 = .ok (.ireturn, 1) := gq_8 db00d_86 eb_15
theorem d_X11_countMore_72 : decode prog_1_method_88_code 72 = .ok (.aload_n 0, 1) := gq_9 db00d_86 eb_0
theorem d_X11_countMore_73 : decode prog_1_method_88_code 73 = .ok (.getfield 70, 3) := gq_10 db00d_86 eb_298
theorem d_X11_countMore_76 : decode prog_1_method_88_code 76 = .ok (.getfield 586, 3) := gq_11 db00d_86 eb_819
theorem d_X11_countMore_79 : decode prog_1_method_88_code 79 = .ok (.ireturn, 1) := gq_12 db00d_86 eb_15
theorem d_X11_countMore_80 : decode prog_1_method_88_code 80 = .ok (.aload_n 0, 1) := gq_13 db00d_86 eb_0
theorem d_X11_countMore_81 : decode prog_1_method_88_code 81 = .ok (.getfield 70, 3) := gq_14 db00d_86 eb_298
theorem d_X11_countMore_84 : decode prog_1_method_88_code 84 = .ok (.getfield 589, 3) := gq_15 db00d_86 eb_820
theorem d_X11_countMore_87 : decode prog_1_method_88_code 87 = .ok (.ireturn, 1) := gq_16 db00d_86 eb_15
theorem d_X11_countMore_88 : decode prog_1_method_88_code 88 = .ok (.aload_n 0, 1) := gq_17 db00d_86 eb_0
theorem d_X11_countMore_89 : decode prog_1_method_88_code 89 = .ok (.getfield 77, 3) := gq_18 db00d_86 eb_769
theorem d_X11_countMore_92 : decode prog_1_method_88_code 92 = .ok (.getfield 592, 3) := gq_19 db00d_86 eb_821
theorem d_X11_countMore_95 : decode prog_1_method_88_code 95 = .ok (.ireturn, 1) := gq_20 db00d_86 eb_15
theorem d_X11_countMore_96 : decode prog_1_method_88_code 96 = .ok (.aload_n 0, 1) := gq_21 db00d_86 eb_0
theorem d_X11_countMore_97 : decode prog_1_method_88_code 97 = .ok (.getfield 77, 3) := gq_22 db00d_86 eb_769
theorem d_X11_countMore_100 : decode prog_1_method_88_code 100 = .ok (.getfield 504, 3) := gq_23 db00d_86 eb_785
theorem db00d_87 : Pf_ prog_1_method_88_code [(103, [0xac]), (104, [0x2a]), (105, [0xb4, 0x00, 0x25]), (108, [0xb4, 0x02, 0x3b]), (111, [0xac]), (112, [0x2a]), (113, [0xb4, 0x00, 0x54]), (116, [0xb4, 0x02, 0x53]), (119, [0xac]), (120, [0x2a]), (121, [0xb4, 0x00, 0x54]), (124, [0xb4, 0x02, 0x56]), (127, [0xac]), (128, [0x2a]), (129, [0xb4, 0x00, 0x13]), (132, [0xb4, 0x02, 0x59]), (135, [0xac]), (136, [0x02]), (137, [0xac])] := pf_ok prog_1_method_88_code _ 103 (by decide +kernel)
theorem d_X11_countMore_103 : decode prog_1_method_88_code 103 = .ok (.ireturn, 1) := gq_0 db00d_87 eb_15
theorem d_X11_countMore_104 : decode prog_1_method_88_code 104 = .ok (.aload_n 0, 1) := gq_1 db00d_87 eb_0
theorem d_X11_countMore_105 : decode prog_1_method_88_code 105 = .ok (.getfield 37, 3) := gq_2 db00d_87 eb_281
theorem d_X11_countMore_108 : decode prog_1_method_88_code 108 = .ok (.getfield 571, 3) := gq_3 db00d_87 eb_814
theorem d_X11_countMore_111 : decode prog_1_method_88_code 111 = .ok (.ireturn, 1) := gq_4 db00d_87 eb_15
theorem d_X11_countMore_112 : decode prog_1_method_88_code 112 = .ok (.aload_n 0, 1) := gq_5 db00d_87 eb_0
theorem d_X11_countMore_113 : decode prog_1_method_88_code 113 = .ok (.getfield 84, 3) := gq_6 db00d_87 eb_732
theorem d_X11_countMore_116 : decode prog_1_method_88_code 116 = .ok (.getfield 595, 3) := gq_7 db00d_87 eb_822
theorem d_X11_countMore_119 : decode prog_1_method_88_code 119 = .ok (.ireturn, 1) := gq_8 db00d_87 eb_15
theorem d_X11_countMore_120 : decode prog_1_method_88_code 120 = .ok (.aload_n 0, 1) := gq_9 db00d_87 eb_0
theorem d_X11_countMore_121 : decode prog_1_method_88_code 121 = .ok (.getfield 84, 3) := gq_10 db00d_87 eb_732
theorem d_X11_countMore_124 : decode prog_1_method_88_code 124 = .ok (.getfield 598, 3) := gq_11 db00d_87 eb_823
theorem d_X11_countMore_127 : decode prog_1_method_88_code 127 = .ok (.ireturn, 1) := gq_12 db00d_87 eb_15
theorem d_X11_countMore_128 : decode prog_1_method_88_code 128 = .ok (.aload_n 0, 1) := gq_13 db00d_87 eb_0
theorem d_X11_countMore_129 : decode prog_1_method_88_code 129 = .ok (.getfield 19, 3) := gq_14 db00d_87 eb_614
theorem d_X11_countMore_132 : decode prog_1_method_88_code 132 = .ok (.getfield 601, 3) := gq_15 db00d_87 eb_824
theorem d_X11_countMore_135 : decode prog_1_method_88_code 135 = .ok (.ireturn, 1) := gq_16 db00d_87 eb_15
theorem d_X11_countMore_136 : decode prog_1_method_88_code 136 = .ok (.iconst (-1), 1) := gq_17 db00d_87 eb_26
theorem d_X11_countMore_137 : decode prog_1_method_88_code 137 = .ok (.ireturn, 1) := gq_18 db00d_87 eb_15
theorem db00d_88 : Pf_ prog_14_method_1_code [(0, [0x1a]), (1, [0x1b]), (2, [0xa1, 0x00, 0x0c]), (5, [0x1a]), (6, [0x1c]), (7, [0xa3, 0x00, 0x07]), (10, [0x04]), (11, [0xa7, 0x00, 0x04]), (14, [0x03]), (15, [0xac])] := pf_ok prog_14_method_1_code _ 0 (by decide +kernel)
theorem d_X12_in_0 : decode prog_14_method_1_code 0 = .ok (.iload_n 0, 1) := gq_0 db00d_88 eb_8
theorem d_X12_in_1 : decode prog_14_method_1_code 1 = .ok (.iload_n 1, 1) := gq_1 db00d_88 eb_9
theorem d_X12_in_2 : decode prog_14_method_1_code 2 = .ok (.if_icmp .lt 12, 3) := gq_2 db00d_88 eb_603
theorem d_X12_in_5 : decode prog_14_method_1_code 5 = .ok (.iload_n 0, 1) := gq_3 db00d_88 eb_8
theorem d_X12_in_6 : decode prog_14_method_1_code 6 = .ok (.iload_n 2, 1) := gq_4 db00d_88 eb_13
theorem d_X12_in_7 : decode prog_14_method_1_code 7 = .ok (.if_icmp .gt 7, 3) := gq_5 db00d_88 eb_113
theorem d_X12_in_10 : decode prog_14_method_1_code 10 = .ok (.iconst 1, 1) := gq_6 db00d_88 eb_19
theorem d_X12_in_11 : decode prog_14_method_1_code 11 = .ok (.goto 4, 3) := gq_7 db00d_88 eb_20
theorem d_X12_in_14 : decode prog_14_method_1_code 14 = .ok (.iconst 0, 1) := gq_8 db00d_88 eb_21
theorem d_X12_in_15 : decode prog_14_method_1_code 15 = .ok (.ireturn, 1) := gq_9 db00d_88 eb_15
theorem d_X12_init_7 : decode prog_14_method_2_code 7 = .ok (.newarray .int, 2) := by decide +kernel
theorem d_X12_init_15 : decode prog_14_method_2_code 15 = .ok (.newarray .int, 2) := by decide +kernel
theorem d_X12_init_23 : decode prog_14_method_2_code 23 = .ok (.newarray .int, 2) := by decide +kernel
theorem d_X12_init_31 : decode prog_14_method_2_code 31 = .ok (.newarray .int, 2) := by decide +kernel
theorem d_X12_init_39 : decode prog_14_method_2_code 39 = .ok (.newarray .int, 2) := by decide +kernel
theorem d_X12_init_47 : decode prog_14_method_2_code 47 = .ok (.newarray .int, 2) := by decide +kernel
theorem d_X12_init_55 : decode prog_14_method_2_code 55 = .ok (.newarray .int, 2) := by decide +kernel
theorem db00d_89 : Pf_ prog_14_method_2_code [(0, [0x2a]), (1, [0xb7, 0x00, 0x01]), (4, [0x2a]), (5, [0x10, 0x28]), (9, [0xb5, 0x00, 0x09]), (12, [0x2a]), (13, [0x10, 0x28]), (17, [0xb5, 0x00, 0x0d]), (20, [0x2a]), (21, [0x10, 0x28]), (25, [0xb5, 0x00, 0x10]), (28, [0x2a]), (29, [0x10, 0x10]), (33, [0xb5, 0x00, 0x13]), (36, [0x2a]), (37, [0x10, 0x0c]), (41, [0xb5, 0x00, 0x16]), (44, [0x2a]), (45, [0x10, 0x0c]), (49, [0xb5, 0x00, 0x19]), (52, [0x2a]), (53, [0x10, 0x0c]), (57, [0xb5, 0x00, 0x1c]), (60, [0x2a])] := pf_ok prog_14_method_2_code _ 0 (by decide +kernel)
theorem d_X12_init_0 : decode prog_14_method_2_code 0 = .ok (.aload_n 0, 1) := gq_0 db00d_89 eb_0
theorem d_X12_init_1 : decode prog_14_method_2_code 1 = .ok (.invokespecial 1, 3) := gq_1 db00d_89 eb_577
theorem d_X12_init_4 : decode prog_14_method_2_code 4 = .ok (.aload_n 0, 1) := gq_2 db00d_89 eb_0
theorem d_X12_init_5 : decode prog_14_method_2_code 5 = .ok (.bipush 40, 2) := gq_3 db00d_89 eb_314
theorem d_X12_init_9 : decode prog_14_method_2_code 9 = .ok (.putfield 9, 3) := gq_4 db00d_89 eb_194
theorem d_X12_init_12 : decode prog_14_method_2_code 12 = .ok (.aload_n 0, 1) := gq_5 db00d_89 eb_0
theorem d_X12_init_13 : decode prog_14_method_2_code 13 = .ok (.bipush 40, 2) := gq_6 db00d_89 eb_314
theorem d_X12_init_17 : decode prog_14_method_2_code 17 = .ok (.putfield 13, 3) := gq_7 db00d_89 eb_825
theorem d_X12_init_20 : decode prog_14_method_2_code 20 = .ok (.aload_n 0, 1) := gq_8 db00d_89 eb_0
theorem d_X12_init_21 : decode prog_14_method_2_code 21 = .ok (.bipush 40, 2) := gq_9 db00d_89 eb_314
theorem d_X12_init_25 : decode prog_14_method_2_code 25 = .ok (.putfield 16, 3) := gq_10 db00d_89 eb_826
theorem d_X12_init_28 : decode prog_14_method_2_code 28 = .ok (.aload_n 0, 1) := gq_11 db00d_89 eb_0
theorem d_X12_init_29 : decode prog_14_method_2_code 29 = .ok (.bipush 16, 2) := gq_12 db00d_89 eb_99
theorem d_X12_init_33 : decode prog_14_method_2_code 33 = .ok (.putfield 19, 3) := gq_13 db00d_89 eb_583
theorem d_X12_init_36 : decode prog_14_method_2_code 36 = .ok (.aload_n 0, 1) := gq_14 db00d_89 eb_0
theorem d_X12_init_37 : decode prog_14_method_2_code 37 = .ok (.bipush 12, 2) := gq_15 db00d_89 eb_4
theorem d_X12_init_41 : decode prog_14_method_2_code 41 = .ok (.putfield 22, 3) := gq_16 db00d_89 eb_196
theorem d_X12_init_44 : decode prog_14_method_2_code 44 = .ok (.aload_n 0, 1) := gq_17 db00d_89 eb_0
theorem d_X12_init_45 : decode prog_14_method_2_code 45 = .ok (.bipush 12, 2) := gq_18 db00d_89 eb_4
theorem d_X12_init_49 : decode prog_14_method_2_code 49 = .ok (.putfield 25, 3) := gq_19 db00d_89 eb_349
theorem d_X12_init_52 : decode prog_14_method_2_code 52 = .ok (.aload_n 0, 1) := gq_20 db00d_89 eb_0
theorem d_X12_init_53 : decode prog_14_method_2_code 53 = .ok (.bipush 12, 2) := gq_21 db00d_89 eb_4
theorem d_X12_init_57 : decode prog_14_method_2_code 57 = .ok (.putfield 28, 3) := gq_22 db00d_89 eb_350
theorem d_X12_init_60 : decode prog_14_method_2_code 60 = .ok (.aload_n 0, 1) := gq_23 db00d_89 eb_0
theorem d_X12_init_63 : decode prog_14_method_2_code 63 = .ok (.newarray .int, 2) := by decide +kernel
theorem d_X12_init_71 : decode prog_14_method_2_code 71 = .ok (.newarray .int, 2) := by decide +kernel
theorem d_X12_init_79 : decode prog_14_method_2_code 79 = .ok (.newarray .int, 2) := by decide +kernel
theorem d_X12_init_87 : decode prog_14_method_2_code 87 = .ok (.newarray .int, 2) := by decide +kernel
theorem d_X12_init_95 : decode prog_14_method_2_code 95 = .ok (.newarray .int, 2) := by decide +kernel
theorem d_X12_init_103 : decode prog_14_method_2_code 103 = .ok (.newarray .int, 2) := by decide +kernel
theorem d_X12_init_111 : decode prog_14_method_2_code 111 = .ok (.newarray .int, 2) := by decide +kernel
theorem d_X12_init_119 : decode prog_14_method_2_code 119 = .ok (.newarray .int, 2) := by decide +kernel
theorem db00d_90 : Pf_ prog_14_method_2_code [(61, [0x10, 0x0c]), (65, [0xb5, 0x00, 0x1f]), (68, [0x2a]), (69, [0x10, 0x0c]), (73, [0xb5, 0x00, 0x22]), (76, [0x2a]), (77, [0x10, 0x0c]), (81, [0xb5, 0x00, 0x25]), (84, [0x2a]), (85, [0x10, 0x0c]), (89, [0xb5, 0x00, 0x28]), (92, [0x2a]), (93, [0x10, 0x0c]), (97, [0xb5, 0x00, 0x2b]), (100, [0x2a]), (101, [0x10, 0x0c]), (105, [0xb5, 0x00, 0x2e]), (108, [0x2a]), (109, [0x10, 0x0c]), (113, [0xb5, 0x00, 0x31]), (116, [0x2a]), (117, [0x10, 0x0c]), (121, [0xb5, 0x00, 0x34]), (124, [0x2a])] := pf_ok prog_14_method_2_code _ 61 (by decide +kernel)
theorem d_X12_init_61 : decode prog_14_method_2_code 61 = .ok (.bipush 12, 2) := gq_0 db00d_90 eb_4
theorem d_X12_init_65 : decode prog_14_method_2_code 65 = .ok (.putfield 31, 3) := gq_1 db00d_90 eb_351
theorem d_X12_init_68 : decode prog_14_method_2_code 68 = .ok (.aload_n 0, 1) := gq_2 db00d_90 eb_0
theorem d_X12_init_69 : decode prog_14_method_2_code 69 = .ok (.bipush 12, 2) := gq_3 db00d_90 eb_4
theorem d_X12_init_73 : decode prog_14_method_2_code 73 = .ok (.putfield 34, 3) := gq_4 db00d_90 eb_265
theorem d_X12_init_76 : decode prog_14_method_2_code 76 = .ok (.aload_n 0, 1) := gq_5 db00d_90 eb_0
theorem d_X12_init_77 : decode prog_14_method_2_code 77 = .ok (.bipush 12, 2) := gq_6 db00d_90 eb_4
theorem d_X12_init_81 : decode prog_14_method_2_code 81 = .ok (.putfield 37, 3) := gq_7 db00d_90 eb_266
theorem d_X12_init_84 : decode prog_14_method_2_code 84 = .ok (.aload_n 0, 1) := gq_8 db00d_90 eb_0
theorem d_X12_init_85 : decode prog_14_method_2_code 85 = .ok (.bipush 12, 2) := gq_9 db00d_90 eb_4
theorem d_X12_init_89 : decode prog_14_method_2_code 89 = .ok (.putfield 40, 3) := gq_10 db00d_90 eb_267
theorem d_X12_init_92 : decode prog_14_method_2_code 92 = .ok (.aload_n 0, 1) := gq_11 db00d_90 eb_0
theorem d_X12_init_93 : decode prog_14_method_2_code 93 = .ok (.bipush 12, 2) := gq_12 db00d_90 eb_4
theorem d_X12_init_97 : decode prog_14_method_2_code 97 = .ok (.putfield 43, 3) := gq_13 db00d_90 eb_268
theorem d_X12_init_100 : decode prog_14_method_2_code 100 = .ok (.aload_n 0, 1) := gq_14 db00d_90 eb_0
theorem d_X12_init_101 : decode prog_14_method_2_code 101 = .ok (.bipush 12, 2) := gq_15 db00d_90 eb_4
theorem d_X12_init_105 : decode prog_14_method_2_code 105 = .ok (.putfield 46, 3) := gq_16 db00d_90 eb_269
theorem d_X12_init_108 : decode prog_14_method_2_code 108 = .ok (.aload_n 0, 1) := gq_17 db00d_90 eb_0
theorem d_X12_init_109 : decode prog_14_method_2_code 109 = .ok (.bipush 12, 2) := gq_18 db00d_90 eb_4
theorem d_X12_init_113 : decode prog_14_method_2_code 113 = .ok (.putfield 49, 3) := gq_19 db00d_90 eb_270
theorem d_X12_init_116 : decode prog_14_method_2_code 116 = .ok (.aload_n 0, 1) := gq_20 db00d_90 eb_0
theorem d_X12_init_117 : decode prog_14_method_2_code 117 = .ok (.bipush 12, 2) := gq_21 db00d_90 eb_4
theorem d_X12_init_121 : decode prog_14_method_2_code 121 = .ok (.putfield 52, 3) := gq_22 db00d_90 eb_272
theorem d_X12_init_124 : decode prog_14_method_2_code 124 = .ok (.aload_n 0, 1) := gq_23 db00d_90 eb_0
theorem d_X12_init_127 : decode prog_14_method_2_code 127 = .ok (.newarray .int, 2) := by decide +kernel
theorem d_X12_init_135 : decode prog_14_method_2_code 135 = .ok (.newarray .int, 2) := by decide +kernel
theorem d_X12_init_143 : decode prog_14_method_2_code 143 = .ok (.newarray .int, 2) := by decide +kernel
theorem d_X12_init_151 : decode prog_14_method_2_code 151 = .ok (.newarray .int, 2) := by decide +kernel
theorem d_X12_init_159 : decode prog_14_method_2_code 159 = .ok (.newarray .int, 2) := by decide +kernel
theorem d_X12_init_167 : decode prog_14_method_2_code 167 = .ok (.newarray .byte, 2) := by decide +kernel
theorem d_X12_init_175 : decode prog_14_method_2_code 175 = .ok (.newarray .int, 2) := by decide +kernel
theorem d_X12_init_183 : decode prog_14_method_2_code 183 = .ok (.newarray .int, 2) := by decide +kernel
theorem db00d_91 : Pf_ prog_14_method_2_code [(125, [0x10, 0x0c]), (129, [0xb5, 0x00, 0x37]), (132, [0x2a]), (133, [0x10, 0x0c]), (137, [0xb5, 0x00, 0x3a]), (140, [0x2a]), (141, [0x10, 0x0c]), (145, [0xb5, 0x00, 0x3d]), (148, [0x2a]), (149, [0x10, 0x0c]), (153, [0xb5, 0x00, 0x40]), (156, [0x2a]), (157, [0x10, 0x0c]), (161, [0xb5, 0x00, 0x43]), (164, [0x2a]), (165, [0x12, 0x46]), (169, [0xb5, 0x00, 0x47]), (172, [0x2a]), (173, [0x10, 0x28]), (177, [0xb5, 0x00, 0x4b]), (180, [0x2a]), (181, [0x10, 0x28]), (185, [0xb5, 0x00, 0x4e]), (188, [0x2a])] := pf_ok prog_14_method_2_code _ 125 (by decide +kernel)
theorem d_X12_init_125 : decode prog_14_method_2_code 125 = .ok (.bipush 12, 2) := gq_0 db00d_91 eb_4
theorem d_X12_init_129 : decode prog_14_method_2_code 129 = .ok (.putfield 55, 3) := gq_1 db00d_91 eb_274
theorem d_X12_init_132 : decode prog_14_method_2_code 132 = .ok (.aload_n 0, 1) := gq_2 db00d_91 eb_0
theorem d_X12_init_133 : decode prog_14_method_2_code 133 = .ok (.bipush 12, 2) := gq_3 db00d_91 eb_4
theorem d_X12_init_137 : decode prog_14_method_2_code 137 = .ok (.putfield 58, 3) := gq_4 db00d_91 eb_320
theorem d_X12_init_140 : decode prog_14_method_2_code 140 = .ok (.aload_n 0, 1) := gq_5 db00d_91 eb_0
theorem d_X12_init_141 : decode prog_14_method_2_code 141 = .ok (.bipush 12, 2) := gq_6 db00d_91 eb_4
theorem d_X12_init_145 : decode prog_14_method_2_code 145 = .ok (.putfield 61, 3) := gq_7 db00d_91 eb_827
theorem d_X12_init_148 : decode prog_14_method_2_code 148 = .ok (.aload_n 0, 1) := gq_8 db00d_91 eb_0
theorem d_X12_init_149 : decode prog_14_method_2_code 149 = .ok (.bipush 12, 2) := gq_9 db00d_91 eb_4
theorem d_X12_init_153 : decode prog_14_method_2_code 153 = .ok (.putfield 64, 3) := gq_10 db00d_91 eb_828
theorem d_X12_init_156 : decode prog_14_method_2_code 156 = .ok (.aload_n 0, 1) := gq_11 db00d_91 eb_0
theorem d_X12_init_157 : decode prog_14_method_2_code 157 = .ok (.bipush 12, 2) := gq_12 db00d_91 eb_4
theorem d_X12_init_161 : decode prog_14_method_2_code 161 = .ok (.putfield 67, 3) := gq_13 db00d_91 eb_375
theorem d_X12_init_164 : decode prog_14_method_2_code 164 = .ok (.aload_n 0, 1) := gq_14 db00d_91 eb_0
theorem d_X12_init_165 : decode prog_14_method_2_code 165 = .ok (.ldc 70, 2) := gq_15 db00d_91 eb_829
theorem d_X12_init_169 : decode prog_14_method_2_code 169 = .ok (.putfield 71, 3) := gq_16 db00d_91 eb_830
theorem d_X12_init_172 : decode prog_14_method_2_code 172 = .ok (.aload_n 0, 1) := gq_17 db00d_91 eb_0
theorem d_X12_init_173 : decode prog_14_method_2_code 173 = .ok (.bipush 40, 2) := gq_18 db00d_91 eb_314
theorem d_X12_init_177 : decode prog_14_method_2_code 177 = .ok (.putfield 75, 3) := gq_19 db00d_91 eb_831
theorem d_X12_init_180 : decode prog_14_method_2_code 180 = .ok (.aload_n 0, 1) := gq_20 db00d_91 eb_0
theorem d_X12_init_181 : decode prog_14_method_2_code 181 = .ok (.bipush 40, 2) := gq_21 db00d_91 eb_314
theorem d_X12_init_185 : decode prog_14_method_2_code 185 = .ok (.putfield 78, 3) := gq_22 db00d_91 eb_832
theorem d_X12_init_188 : decode prog_14_method_2_code 188 = .ok (.aload_n 0, 1) := gq_23 db00d_91 eb_0
theorem d_X12_init_191 : decode prog_14_method_2_code 191 = .ok (.newarray .int, 2) := by decide +kernel
theorem d_X12_init_199 : decode prog_14_method_2_code 199 = .ok (.newarray .int, 2) := by decide +kernel
theorem d_X12_init_208 : decode prog_14_method_2_code 208 = .ok (.newarray .int, 2) := by decide +kernel
theorem d_X12_init_217 : decode prog_14_method_2_code 217 = .ok (.newarray .int, 2) := by decide +kernel
theorem d_X12_init_225 : decode prog_14_method_2_code 225 = .ok (.newarray .int, 2) := by decide +kernel
theorem d_X12_init_234 : decode prog_14_method_2_code 234 = .ok (.newarray .int, 2) := by decide +kernel
theorem d_X12_init_243 : decode prog_14_method_2_code 243 = .ok (.newarray .int, 2) := by decide +kernel
theorem d_X12_init_252 : decode prog_14_method_2_code 252 = .ok (.newarray .int, 2) := by decide +kernel
theorem db00d_92 : Pf_ prog_14_method_2_code [(189, [0x10, 0x28]), (193, [0xb5, 0x00, 0x51]), (196, [0x2a]), (197, [0x10, 0x28]), (201, [0xb5, 0x00, 0x54]), (204, [0x2a]), (205, [0x11, 0x00, 0xa0]), (210, [0xb5, 0x00, 0x57]), (213, [0x2a]), (214, [0x11, 0x02, 0x30]), (219, [0xb5, 0x00, 0x5a]), (222, [0x2a]), (223, [0x10, 0x0c]), (227, [0xb5, 0x00, 0x5d]), (230, [0x2a]), (231, [0x11, 0x07, 0x08]), (236, [0xb5, 0x00, 0x60]), (239, [0x2a]), (240, [0x11, 0x07, 0x08]), (245, [0xb5, 0x00, 0x63]), (248, [0x2a]), (249, [0x11, 0x07, 0x08]), (254, [0xb5, 0x00, 0x66]), (257, [0x2a])] := pf_ok prog_14_method_2_code _ 189 (by decide +kernel)
theorem d_X12_init_189 : decode prog_14_method_2_code 189 = .ok (.bipush 40, 2) := gq_0 db00d_92 eb_314
theorem d_X12_init_193 : decode prog_14_method_2_code 193 = .ok (.putfield 81, 3) := gq_1 db00d_92 eb_833
theorem d_X12_init_196 : decode prog_14_method_2_code 196 = .ok (.aload_n 0, 1) := gq_2 db00d_92 eb_0
theorem d_X12_init_197 : decode prog_14_method_2_code 197 = .ok (.bipush 40, 2) := gq_3 db00d_92 eb_314
theorem d_X12_init_201 : decode prog_14_method_2_code 201 = .ok (.putfield 84, 3) := gq_4 db00d_92 eb_601
theorem d_X12_init_204 : decode prog_14_method_2_code 204 = .ok (.aload_n 0, 1) := gq_5 db00d_92 eb_0
theorem d_X12_init_205 : decode prog_14_method_2_code 205 = .ok (.sipush 160, 3) := gq_6 db00d_92 eb_434
theorem d_X12_init_210 : decode prog_14_method_2_code 210 = .ok (.putfield 87, 3) := gq_7 db00d_92 eb_834
theorem d_X12_init_213 : decode prog_14_method_2_code 213 = .ok (.aload_n 0, 1) := gq_8 db00d_92 eb_0
theorem d_X12_init_214 : decode prog_14_method_2_code 214 = .ok (.sipush 560, 3) := gq_9 db00d_92 eb_835
theorem d_X12_init_219 : decode prog_14_method_2_code 219 = .ok (.putfield 90, 3) := gq_10 db00d_92 eb_836
theorem d_X12_init_222 : decode prog_14_method_2_code 222 = .ok (.aload_n 0, 1) := gq_11 db00d_92 eb_0
theorem d_X12_init_223 : decode prog_14_method_2_code 223 = .ok (.bipush 12, 2) := gq_12 db00d_92 eb_4
theorem d_X12_init_227 : decode prog_14_method_2_code 227 = .ok (.putfield 93, 3) := gq_13 db00d_92 eb_837
theorem d_X12_init_230 : decode prog_14_method_2_code 230 = .ok (.aload_n 0, 1) := gq_14 db00d_92 eb_0
theorem d_X12_init_231 : decode prog_14_method_2_code 231 = .ok (.sipush 1800, 3) := gq_15 db00d_92 eb_2
theorem d_X12_init_236 : decode prog_14_method_2_code 236 = .ok (.putfield 96, 3) := gq_16 db00d_92 eb_838
theorem d_X12_init_239 : decode prog_14_method_2_code 239 = .ok (.aload_n 0, 1) := gq_17 db00d_92 eb_0
theorem d_X12_init_240 : decode prog_14_method_2_code 240 = .ok (.sipush 1800, 3) := gq_18 db00d_92 eb_2
theorem d_X12_init_245 : decode prog_14_method_2_code 245 = .ok (.putfield 99, 3) := gq_19 db00d_92 eb_839
theorem d_X12_init_248 : decode prog_14_method_2_code 248 = .ok (.aload_n 0, 1) := gq_20 db00d_92 eb_0
theorem d_X12_init_249 : decode prog_14_method_2_code 249 = .ok (.sipush 1800, 3) := gq_21 db00d_92 eb_2
theorem d_X12_init_254 : decode prog_14_method_2_code 254 = .ok (.putfield 102, 3) := gq_22 db00d_92 eb_840
theorem d_X12_init_257 : decode prog_14_method_2_code 257 = .ok (.aload_n 0, 1) := gq_23 db00d_92 eb_0
theorem d_X12_init_261 : decode prog_14_method_2_code 261 = .ok (.newarray .int, 2) := by decide +kernel
theorem d_X12_init_269 : decode prog_14_method_2_code 269 = .ok (.newarray .int, 2) := by decide +kernel
theorem d_X12_init_277 : decode prog_14_method_2_code 277 = .ok (.newarray .int, 2) := by decide +kernel
theorem d_X12_init_285 : decode prog_14_method_2_code 285 = .ok (.newarray .int, 2) := by decide +kernel
theorem d_X12_init_292 : decode prog_14_method_2_code 292 = .ok (.newarray .int, 2) := by decide +kernel
theorem d_X12_init_301 : decode prog_14_method_2_code 301 = .ok (.newarray .int, 2) := by decide +kernel
theorem d_X12_init_310 : decode prog_14_method_2_code 310 = .ok (.newarray .int, 2) := by decide +kernel
theorem d_X12_init_319 : decode prog_14_method_2_code 319 = .ok (.newarray .int, 2) := by decide +kernel
theorem db00d_93 : Pf_ prog_14_method_2_code [(258, [0x11, 0x57, 0x80]), (263, [0xb5, 0x00, 0x69]), (266, [0x2a]), (267, [0x10, 0x28]), (271, [0xb5, 0x00, 0x6c]), (274, [0x2a]), (275, [0x10, 0x28]), (279, [0xb5, 0x00, 0x6f]), (282, [0x2a]), (283, [0x10, 0x28]), (287, [0xb5, 0x00, 0x72]), (290, [0x2a]), (291, [0x05]), (294, [0xb5, 0x00, 0x75]), (297, [0x2a]), (298, [0x11, 0x00, 0x80]), (303, [0xb5, 0x00, 0x78]), (306, [0x2a]), (307, [0x11, 0x00, 0xc8]), (312, [0xb5, 0x00, 0x7b]), (315, [0x2a]), (316, [0x11, 0x01, 0x90]), (321, [0xb5, 0x00, 0x7e]), (324, [0x2a])] := pf_ok prog_14_method_2_code _ 258 (by decide +kernel)
theorem d_X12_init_258 : decode prog_14_method_2_code 258 = .ok (.sipush 22400, 3) := gq_0 db00d_93 eb_841
theorem d_X12_init_263 : decode prog_14_method_2_code 263 = .ok (.putfield 105, 3) := gq_1 db00d_93 eb_842
theorem d_X12_init_266 : decode prog_14_method_2_code 266 = .ok (.aload_n 0, 1) := gq_2 db00d_93 eb_0
theorem d_X12_init_267 : decode prog_14_method_2_code 267 = .ok (.bipush 40, 2) := gq_3 db00d_93 eb_314
theorem d_X12_init_271 : decode prog_14_method_2_code 271 = .ok (.putfield 108, 3) := gq_4 db00d_93 eb_843
theorem d_X12_init_274 : decode prog_14_method_2_code 274 = .ok (.aload_n 0, 1) := gq_5 db00d_93 eb_0
theorem d_X12_init_275 : decode prog_14_method_2_code 275 = .ok (.bipush 40, 2) := gq_6 db00d_93 eb_314
theorem d_X12_init_279 : decode prog_14_method_2_code 279 = .ok (.putfield 111, 3) := gq_7 db00d_93 eb_844
theorem d_X12_init_282 : decode prog_14_method_2_code 282 = .ok (.aload_n 0, 1) := gq_8 db00d_93 eb_0
theorem d_X12_init_283 : decode prog_14_method_2_code 283 = .ok (.bipush 40, 2) := gq_9 db00d_93 eb_314
theorem d_X12_init_287 : decode prog_14_method_2_code 287 = .ok (.putfield 114, 3) := gq_10 db00d_93 eb_845
theorem d_X12_init_290 : decode prog_14_method_2_code 290 = .ok (.aload_n 0, 1) := gq_11 db00d_93 eb_0
theorem d_X12_init_291 : decode prog_14_method_2_code 291 = .ok (.iconst 2, 1) := gq_12 db00d_93 eb_10
theorem d_X12_init_294 : decode prog_14_method_2_code 294 = .ok (.putfield 117, 3) := gq_13 db00d_93 eb_846
theorem d_X12_init_297 : decode prog_14_method_2_code 297 = .ok (.aload_n 0, 1) := gq_14 db00d_93 eb_0
theorem d_X12_init_298 : decode prog_14_method_2_code 298 = .ok (.sipush 128, 3) := gq_15 db00d_93 eb_847
theorem d_X12_init_303 : decode prog_14_method_2_code 303 = .ok (.putfield 120, 3) := gq_16 db00d_93 eb_848
theorem d_X12_init_306 : decode prog_14_method_2_code 306 = .ok (.aload_n 0, 1) := gq_17 db00d_93 eb_0
theorem d_X12_init_307 : decode prog_14_method_2_code 307 = .ok (.sipush 200, 3) := gq_18 db00d_93 eb_96
theorem d_X12_init_312 : decode prog_14_method_2_code 312 = .ok (.putfield 123, 3) := gq_19 db00d_93 eb_849
theorem d_X12_init_315 : decode prog_14_method_2_code 315 = .ok (.aload_n 0, 1) := gq_20 db00d_93 eb_0
theorem d_X12_init_316 : decode prog_14_method_2_code 316 = .ok (.sipush 400, 3) := gq_21 db00d_93 eb_413
theorem d_X12_init_321 : decode prog_14_method_2_code 321 = .ok (.putfield 126, 3) := gq_22 db00d_93 eb_850
theorem d_X12_init_324 : decode prog_14_method_2_code 324 = .ok (.aload_n 0, 1) := gq_23 db00d_93 eb_0
theorem d_X12_init_328 : decode prog_14_method_2_code 328 = .ok (.newarray .int, 2) := by decide +kernel
theorem d_X12_init_337 : decode prog_14_method_2_code 337 = .ok (.newarray .int, 2) := by decide +kernel
theorem d_X12_init_346 : decode prog_14_method_2_code 346 = .ok (.newarray .int, 2) := by decide +kernel
theorem d_X12_init_355 : decode prog_14_method_2_code 355 = .ok (.newarray .int, 2) := by decide +kernel
theorem d_X12_init_364 : decode prog_14_method_2_code 364 = .ok (.newarray .int, 2) := by decide +kernel
theorem d_X12_init_373 : decode prog_14_method_2_code 373 = .ok (.newarray .int, 2) := by decide +kernel
theorem d_X12_init_382 : decode prog_14_method_2_code 382 = .ok (.newarray .int, 2) := by decide +kernel
theorem d_X12_init_391 : decode prog_14_method_2_code 391 = .ok (.newarray .int, 2) := by decide +kernel
theorem db00d_94 : Pf_ prog_14_method_2_code [(325, [0x11, 0x01, 0x90]), (330, [0xb5, 0x00, 0x81]), (333, [0x2a]), (334, [0x11, 0x01, 0x90]), (339, [0xb5, 0x00, 0x84]), (342, [0x2a]), (343, [0x11, 0x01, 0x90]), (348, [0xb5, 0x00, 0x87]), (351, [0x2a]), (352, [0x11, 0x01, 0x90]), (357, [0xb5, 0x00, 0x8a]), (360, [0x2a]), (361, [0x11, 0x01, 0x90]), (366, [0xb5, 0x00, 0x8d]), (369, [0x2a]), (370, [0x11, 0x01, 0x90]), (375, [0xb5, 0x00, 0x90]), (378, [0x2a]), (379, [0x11, 0x00, 0xc8]), (384, [0xb5, 0x00, 0x93]), (387, [0x2a]), (388, [0x11, 0x00, 0xc8]), (393, [0xb5, 0x00, 0x96]), (396, [0x2a])] := pf_ok prog_14_method_2_code _ 325 (by decide +kernel)
theorem d_X12_init_325 : decode prog_14_method_2_code 325 = .ok (.sipush 400, 3) := gq_0 db00d_94 eb_413
theorem d_X12_init_330 : decode prog_14_method_2_code 330 = .ok (.putfield 129, 3) := gq_1 db00d_94 eb_851
theorem d_X12_init_333 : decode prog_14_method_2_code 333 = .ok (.aload_n 0, 1) := gq_2 db00d_94 eb_0
theorem d_X12_init_334 : decode prog_14_method_2_code 334 = .ok (.sipush 400, 3) := gq_3 db00d_94 eb_413
theorem d_X12_init_339 : decode prog_14_method_2_code 339 = .ok (.putfield 132, 3) := gq_4 db00d_94 eb_852
theorem d_X12_init_342 : decode prog_14_method_2_code 342 = .ok (.aload_n 0, 1) := gq_5 db00d_94 eb_0
theorem d_X12_init_343 : decode prog_14_method_2_code 343 = .ok (.sipush 400, 3) := gq_6 db00d_94 eb_413
theorem d_X12_init_348 : decode prog_14_method_2_code 348 = .ok (.putfield 135, 3) := gq_7 db00d_94 eb_853
theorem d_X12_init_351 : decode prog_14_method_2_code 351 = .ok (.aload_n 0, 1) := gq_8 db00d_94 eb_0
theorem d_X12_init_352 : decode prog_14_method_2_code 352 = .ok (.sipush 400, 3) := gq_9 db00d_94 eb_413
theorem d_X12_init_357 : decode prog_14_method_2_code 357 = .ok (.putfield 138, 3) := gq_10 db00d_94 eb_854
theorem d_X12_init_360 : decode prog_14_method_2_code 360 = .ok (.aload_n 0, 1) := gq_11 db00d_94 eb_0
theorem d_X12_init_361 : decode prog_14_method_2_code 361 = .ok (.sipush 400, 3) := gq_12 db00d_94 eb_413
theorem d_X12_init_366 : decode prog_14_method_2_code 366 = .ok (.putfield 141, 3) := gq_13 db00d_94 eb_855
theorem d_X12_init_369 : decode prog_14_method_2_code 369 = .ok (.aload_n 0, 1) := gq_14 db00d_94 eb_0
theorem d_X12_init_370 : decode prog_14_method_2_code 370 = .ok (.sipush 400, 3) := gq_15 db00d_94 eb_413
theorem d_X12_init_375 : decode prog_14_method_2_code 375 = .ok (.putfield 144, 3) := gq_16 db00d_94 eb_856
theorem d_X12_init_378 : decode prog_14_method_2_code 378 = .ok (.aload_n 0, 1) := gq_17 db00d_94 eb_0
theorem d_X12_init_379 : decode prog_14_method_2_code 379 = .ok (.sipush 200, 3) := gq_18 db00d_94 eb_96
theorem d_X12_init_384 : decode prog_14_method_2_code 384 = .ok (.putfield 147, 3) := gq_19 db00d_94 eb_857
theorem d_X12_init_387 : decode prog_14_method_2_code 387 = .ok (.aload_n 0, 1) := gq_20 db00d_94 eb_0
theorem d_X12_init_388 : decode prog_14_method_2_code 388 = .ok (.sipush 200, 3) := gq_21 db00d_94 eb_96
theorem d_X12_init_393 : decode prog_14_method_2_code 393 = .ok (.putfield 150, 3) := gq_22 db00d_94 eb_858
theorem d_X12_init_396 : decode prog_14_method_2_code 396 = .ok (.aload_n 0, 1) := gq_23 db00d_94 eb_0
theorem d_X12_init_400 : decode prog_14_method_2_code 400 = .ok (.newarray .int, 2) := by decide +kernel
theorem d_X12_init_408 : decode prog_14_method_2_code 408 = .ok (.newarray .boolean, 2) := by decide +kernel
theorem d_X12_init_416 : decode prog_14_method_2_code 416 = .ok (.newarray .int, 2) := by decide +kernel
theorem d_X12_init_424 : decode prog_14_method_2_code 424 = .ok (.newarray .int, 2) := by decide +kernel
theorem d_X12_init_432 : decode prog_14_method_2_code 432 = .ok (.newarray .int, 2) := by decide +kernel
theorem d_X12_init_440 : decode prog_14_method_2_code 440 = .ok (.newarray .int, 2) := by decide +kernel
theorem d_X12_init_448 : decode prog_14_method_2_code 448 = .ok (.newarray .int, 2) := by decide +kernel
theorem d_X12_init_456 : decode prog_14_method_2_code 456 = .ok (.newarray .boolean, 2) := by decide +kernel
theorem db00d_95 : Pf_ prog_14_method_2_code [(397, [0x11, 0x00, 0xc8]), (402, [0xb5, 0x00, 0x99]), (405, [0x2a]), (406, [0x10, 0x0c]), (410, [0xb5, 0x00, 0x9c]), (413, [0x2a]), (414, [0x10, 0x50]), (418, [0xb5, 0x00, 0xa0]), (421, [0x2a]), (422, [0x10, 0x50]), (426, [0xb5, 0x00, 0xa3]), (429, [0x2a]), (430, [0x10, 0x50]), (434, [0xb5, 0x00, 0xa6]), (437, [0x2a]), (438, [0x10, 0x50]), (442, [0xb5, 0x00, 0xa9]), (445, [0x2a]), (446, [0x10, 0x50]), (450, [0xb5, 0x00, 0xac]), (453, [0x2a]), (454, [0x10, 0x50]), (458, [0xb5, 0x00, 0xaf]), (461, [0x2a])] := pf_ok prog_14_method_2_code _ 397 (by decide +kernel)
theorem d_X12_init_397 : decode prog_14_method_2_code 397 = .ok (.sipush 200, 3) := gq_0 db00d_95 eb_96
theorem d_X12_init_402 : decode prog_14_method_2_code 402 = .ok (.putfield 153, 3) := gq_1 db00d_95 eb_859
theorem d_X12_init_405 : decode prog_14_method_2_code 405 = .ok (.aload_n 0, 1) := gq_2 db00d_95 eb_0
theorem d_X12_init_406 : decode prog_14_method_2_code 406 = .ok (.bipush 12, 2) := gq_3 db00d_95 eb_4
theorem d_X12_init_410 : decode prog_14_method_2_code 410 = .ok (.putfield 156, 3) := gq_4 db00d_95 eb_860
theorem d_X12_init_413 : decode prog_14_method_2_code 413 = .ok (.aload_n 0, 1) := gq_5 db00d_95 eb_0
theorem d_X12_init_414 : decode prog_14_method_2_code 414 = .ok (.bipush 80, 2) := gq_6 db00d_95 eb_263
theorem d_X12_init_418 : decode prog_14_method_2_code 418 = .ok (.putfield 160, 3) := gq_7 db00d_95 eb_861
theorem d_X12_init_421 : decode prog_14_method_2_code 421 = .ok (.aload_n 0, 1) := gq_8 db00d_95 eb_0
theorem d_X12_init_422 : decode prog_14_method_2_code 422 = .ok (.bipush 80, 2) := gq_9 db00d_95 eb_263
theorem d_X12_init_426 : decode prog_14_method_2_code 426 = .ok (.putfield 163, 3) := gq_10 db00d_95 eb_862
theorem d_X12_init_429 : decode prog_14_method_2_code 429 = .ok (.aload_n 0, 1) := gq_11 db00d_95 eb_0
theorem d_X12_init_430 : decode prog_14_method_2_code 430 = .ok (.bipush 80, 2) := gq_12 db00d_95 eb_263
theorem d_X12_init_434 : decode prog_14_method_2_code 434 = .ok (.putfield 166, 3) := gq_13 db00d_95 eb_863
theorem d_X12_init_437 : decode prog_14_method_2_code 437 = .ok (.aload_n 0, 1) := gq_14 db00d_95 eb_0
theorem d_X12_init_438 : decode prog_14_method_2_code 438 = .ok (.bipush 80, 2) := gq_15 db00d_95 eb_263
theorem d_X12_init_442 : decode prog_14_method_2_code 442 = .ok (.putfield 169, 3) := gq_16 db00d_95 eb_864
theorem d_X12_init_445 : decode prog_14_method_2_code 445 = .ok (.aload_n 0, 1) := gq_17 db00d_95 eb_0
theorem d_X12_init_446 : decode prog_14_method_2_code 446 = .ok (.bipush 80, 2) := gq_18 db00d_95 eb_263
theorem d_X12_init_450 : decode prog_14_method_2_code 450 = .ok (.putfield 172, 3) := gq_19 db00d_95 eb_865
theorem d_X12_init_453 : decode prog_14_method_2_code 453 = .ok (.aload_n 0, 1) := gq_20 db00d_95 eb_0
theorem d_X12_init_454 : decode prog_14_method_2_code 454 = .ok (.bipush 80, 2) := gq_21 db00d_95 eb_263
theorem d_X12_init_458 : decode prog_14_method_2_code 458 = .ok (.putfield 175, 3) := gq_22 db00d_95 eb_866
theorem d_X12_init_461 : decode prog_14_method_2_code 461 = .ok (.aload_n 0, 1) := gq_23 db00d_95 eb_0
theorem d_X12_init_465 : decode prog_14_method_2_code 465 = .ok (.newarray .int, 2) := by decide +kernel
theorem d_X12_init_474 : decode prog_14_method_2_code 474 = .ok (.newarray .int, 2) := by decide +kernel
theorem d_X12_init_483 : decode prog_14_method_2_code 483 = .ok (.newarray .int, 2) := by decide +kernel
theorem d_X12_init_492 : decode prog_14_method_2_code 492 = .ok (.newarray .int, 2) := by decide +kernel
theorem d_X12_init_501 : decode prog_14_method_2_code 501 = .ok (.newarray .int, 2) := by decide +kernel
theorem d_X12_init_510 : decode prog_14_method_2_code 510 = .ok (.newarray .int, 2) := by decide +kernel
theorem d_X12_init_519 : decode prog_14_method_2_code 519 = .ok (.newarray .int, 2) := by decide +kernel
theorem d_X12_init_527 : decode prog_14_method_2_code 527 = .ok (.newarray .int, 2) := by decide +kernel
theorem db00d_96 : Pf_ prog_14_method_2_code [(462, [0x11, 0x01, 0x2c]), (467, [0xb5, 0x00, 0xb2]), (470, [0x2a]), (471, [0x11, 0x01, 0x2c]), (476, [0xb5, 0x00, 0xb5]), (479, [0x2a]), (480, [0x11, 0x01, 0x2c]), (485, [0xb5, 0x00, 0xb8]), (488, [0x2a]), (489, [0x11, 0x01, 0x2c]), (494, [0xb5, 0x00, 0xbb]), (497, [0x2a]), (498, [0x11, 0x01, 0x2c]), (503, [0xb5, 0x00, 0xbe]), (506, [0x2a]), (507, [0x11, 0x01, 0x2c]), (512, [0xb5, 0x00, 0xc1]), (515, [0x2a]), (516, [0x11, 0x0a, 0x8c]), (521, [0xb5, 0x00, 0xc4]), (524, [0x2a]), (525, [0x10, 0x1e]), (529, [0xb5, 0x00, 0xc7]), (532, [0x2a])] := pf_ok prog_14_method_2_code _ 462 (by decide +kernel)
theorem d_X12_init_462 : decode prog_14_method_2_code 462 = .ok (.sipush 300, 3) := gq_0 db00d_96 eb_264
theorem d_X12_init_467 : decode prog_14_method_2_code 467 = .ok (.putfield 178, 3) := gq_1 db00d_96 eb_867
theorem d_X12_init_470 : decode prog_14_method_2_code 470 = .ok (.aload_n 0, 1) := gq_2 db00d_96 eb_0
theorem d_X12_init_471 : decode prog_14_method_2_code 471 = .ok (.sipush 300, 3) := gq_3 db00d_96 eb_264
theorem d_X12_init_476 : decode prog_14_method_2_code 476 = .ok (.putfield 181, 3) := gq_4 db00d_96 eb_868
theorem d_X12_init_479 : decode prog_14_method_2_code 479 = .ok (.aload_n 0, 1) := gq_5 db00d_96 eb_0
theorem d_X12_init_480 : decode prog_14_method_2_code 480 = .ok (.sipush 300, 3) := gq_6 db00d_96 eb_264
theorem d_X12_init_485 : decode prog_14_method_2_code 485 = .ok (.putfield 184, 3) := gq_7 db00d_96 eb_869
theorem d_X12_init_488 : decode prog_14_method_2_code 488 = .ok (.aload_n 0, 1) := gq_8 db00d_96 eb_0
theorem d_X12_init_489 : decode prog_14_method_2_code 489 = .ok (.sipush 300, 3) := gq_9 db00d_96 eb_264
theorem d_X12_init_494 : decode prog_14_method_2_code 494 = .ok (.putfield 187, 3) := gq_10 db00d_96 eb_870
theorem d_X12_init_497 : decode prog_14_method_2_code 497 = .ok (.aload_n 0, 1) := gq_11 db00d_96 eb_0
theorem d_X12_init_498 : decode prog_14_method_2_code 498 = .ok (.sipush 300, 3) := gq_12 db00d_96 eb_264
theorem d_X12_init_503 : decode prog_14_method_2_code 503 = .ok (.putfield 190, 3) := gq_13 db00d_96 eb_871
theorem d_X12_init_506 : decode prog_14_method_2_code 506 = .ok (.aload_n 0, 1) := gq_14 db00d_96 eb_0
theorem d_X12_init_507 : decode prog_14_method_2_code 507 = .ok (.sipush 300, 3) := gq_15 db00d_96 eb_264
theorem d_X12_init_512 : decode prog_14_method_2_code 512 = .ok (.putfield 193, 3) := gq_16 db00d_96 eb_872
theorem d_X12_init_515 : decode prog_14_method_2_code 515 = .ok (.aload_n 0, 1) := gq_17 db00d_96 eb_0
theorem d_X12_init_516 : decode prog_14_method_2_code 516 = .ok (.sipush 2700, 3) := gq_18 db00d_96 eb_271
theorem d_X12_init_521 : decode prog_14_method_2_code 521 = .ok (.putfield 196, 3) := gq_19 db00d_96 eb_873
theorem d_X12_init_524 : decode prog_14_method_2_code 524 = .ok (.aload_n 0, 1) := gq_20 db00d_96 eb_0
theorem d_X12_init_525 : decode prog_14_method_2_code 525 = .ok (.bipush 30, 2) := gq_21 db00d_96 eb_92
theorem d_X12_init_529 : decode prog_14_method_2_code 529 = .ok (.putfield 199, 3) := gq_22 db00d_96 eb_874
theorem d_X12_init_532 : decode prog_14_method_2_code 532 = .ok (.aload_n 0, 1) := gq_23 db00d_96 eb_0
theorem d_X12_init_535 : decode prog_14_method_2_code 535 = .ok (.newarray .int, 2) := by decide +kernel
theorem d_X12_init_543 : decode prog_14_method_2_code 543 = .ok (.newarray .int, 2) := by decide +kernel
theorem d_X12_init_551 : decode prog_14_method_2_code 551 = .ok (.newarray .int, 2) := by decide +kernel
theorem d_X12_init_560 : decode prog_14_method_2_code 560 = .ok (.newarray .int, 2) := by decide +kernel
theorem d_X12_init_569 : decode prog_14_method_2_code 569 = .ok (.newarray .int, 2) := by decide +kernel
theorem d_X12_init_578 : decode prog_14_method_2_code 578 = .ok (.newarray .int, 2) := by decide +kernel
theorem d_X12_init_587 : decode prog_14_method_2_code 587 = .ok (.newarray .int, 2) := by decide +kernel
theorem d_X12_init_596 : decode prog_14_method_2_code 596 = .ok (.newarray .boolean, 2) := by decide +kernel
theorem db00d_97 : Pf_ prog_14_method_2_code [(533, [0x10, 0x1e]), (537, [0xb5, 0x00, 0xca]), (540, [0x2a]), (541, [0x10, 0x0a]), (545, [0xb5, 0x00, 0xcd]), (548, [0x2a]), (549, [0x10, 0x08]), (553, [0xb5, 0x00, 0xd0]), (556, [0x2a]), (557, [0x11, 0x00, 0xc8]), (562, [0xb5, 0x00, 0xd3]), (565, [0x2a]), (566, [0x11, 0x00, 0xc8]), (571, [0xb5, 0x00, 0xd6]), (574, [0x2a]), (575, [0x11, 0x00, 0xc8]), (580, [0xb5, 0x00, 0xd9]), (583, [0x2a]), (584, [0x11, 0x00, 0xc8]), (589, [0xb5, 0x00, 0xdc]), (592, [0x2a]), (593, [0x11, 0x00, 0xc8]), (598, [0xb5, 0x00, 0xdf]), (601, [0x2a])] := pf_ok prog_14_method_2_code _ 533 (by decide +kernel)
theorem d_X12_init_533 : decode prog_14_method_2_code 533 = .ok (.bipush 30, 2) := gq_0 db00d_97 eb_92
theorem d_X12_init_537 : decode prog_14_method_2_code 537 = .ok (.putfield 202, 3) := gq_1 db00d_97 eb_875
theorem d_X12_init_540 : decode prog_14_method_2_code 540 = .ok (.aload_n 0, 1) := gq_2 db00d_97 eb_0
theorem d_X12_init_541 : decode prog_14_method_2_code 541 = .ok (.bipush 10, 2) := gq_3 db00d_97 eb_93
theorem d_X12_init_545 : decode prog_14_method_2_code 545 = .ok (.putfield 205, 3) := gq_4 db00d_97 eb_876
theorem d_X12_init_548 : decode prog_14_method_2_code 548 = .ok (.aload_n 0, 1) := gq_5 db00d_97 eb_0
theorem d_X12_init_549 : decode prog_14_method_2_code 549 = .ok (.bipush 8, 2) := gq_6 db00d_97 eb_94
theorem d_X12_init_553 : decode prog_14_method_2_code 553 = .ok (.putfield 208, 3) := gq_7 db00d_97 eb_877
theorem d_X12_init_556 : decode prog_14_method_2_code 556 = .ok (.aload_n 0, 1) := gq_8 db00d_97 eb_0
theorem d_X12_init_557 : decode prog_14_method_2_code 557 = .ok (.sipush 200, 3) := gq_9 db00d_97 eb_96
theorem d_X12_init_562 : decode prog_14_method_2_code 562 = .ok (.putfield 211, 3) := gq_10 db00d_97 eb_878
theorem d_X12_init_565 : decode prog_14_method_2_code 565 = .ok (.aload_n 0, 1) := gq_11 db00d_97 eb_0
theorem d_X12_init_566 : decode prog_14_method_2_code 566 = .ok (.sipush 200, 3) := gq_12 db00d_97 eb_96
theorem d_X12_init_571 : decode prog_14_method_2_code 571 = .ok (.putfield 214, 3) := gq_13 db00d_97 eb_879
theorem d_X12_init_574 : decode prog_14_method_2_code 574 = .ok (.aload_n 0, 1) := gq_14 db00d_97 eb_0
theorem d_X12_init_575 : decode prog_14_method_2_code 575 = .ok (.sipush 200, 3) := gq_15 db00d_97 eb_96
theorem d_X12_init_580 : decode prog_14_method_2_code 580 = .ok (.putfield 217, 3) := gq_16 db00d_97 eb_880
theorem d_X12_init_583 : decode prog_14_method_2_code 583 = .ok (.aload_n 0, 1) := gq_17 db00d_97 eb_0
theorem d_X12_init_584 : decode prog_14_method_2_code 584 = .ok (.sipush 200, 3) := gq_18 db00d_97 eb_96
theorem d_X12_init_589 : decode prog_14_method_2_code 589 = .ok (.putfield 220, 3) := gq_19 db00d_97 eb_881
theorem d_X12_init_592 : decode prog_14_method_2_code 592 = .ok (.aload_n 0, 1) := gq_20 db00d_97 eb_0
theorem d_X12_init_593 : decode prog_14_method_2_code 593 = .ok (.sipush 200, 3) := gq_21 db00d_97 eb_96
theorem d_X12_init_598 : decode prog_14_method_2_code 598 = .ok (.putfield 223, 3) := gq_22 db00d_97 eb_882
theorem d_X12_init_601 : decode prog_14_method_2_code 601 = .ok (.aload_n 0, 1) := gq_23 db00d_97 eb_0
theorem d_X12_init_604 : decode prog_14_method_2_code 604 = .ok (.newarray .int, 2) := by decide +kernel
theorem d_X12_init_612 : decode prog_14_method_2_code 612 = .ok (.newarray .boolean, 2) := by decide +kernel
theorem d_X12_init_621 : decode prog_14_method_2_code 621 = .ok (.newarray .int, 2) := by decide +kernel
theorem d_X12_init_630 : decode prog_14_method_2_code 630 = .ok (.newarray .int, 2) := by decide +kernel
theorem d_X12_init_639 : decode prog_14_method_2_code 639 = .ok (.newarray .int, 2) := by decide +kernel
theorem d_X12_init_647 : decode prog_14_method_2_code 647 = .ok (.newarray .int, 2) := by decide +kernel
theorem d_X12_init_655 : decode prog_14_method_2_code 655 = .ok (.newarray .int, 2) := by decide +kernel
theorem d_X12_init_663 : decode prog_14_method_2_code 663 = .ok (.newarray .int, 2) := by decide +kernel
theorem db00d_98 : Pf_ prog_14_method_2_code [(602, [0x10, 0x10]), (606, [0xb5, 0x00, 0xe2]), (609, [0x2a]), (610, [0x10, 0x10]), (614, [0xb5, 0x00, 0xe5]), (617, [0x2a]), (618, [0x11, 0x00, 0xb4]), (623, [0xb5, 0x00, 0xe8]), (626, [0x2a]), (627, [0x11, 0x00, 0xb4]), (632, [0xb5, 0x00, 0xeb]), (635, [0x2a]), (636, [0x11, 0x00, 0xb4]), (641, [0xb5, 0x00, 0xee]), (644, [0x2a]), (645, [0x10, 0x1e]), (649, [0xb5, 0x00, 0xf1]), (652, [0x2a]), (653, [0x10, 0x1e]), (657, [0xb5, 0x00, 0xf4]), (660, [0x2a]), (661, [0x10, 0x08]), (665, [0xb5, 0x00, 0xf7]), (668, [0x2a])] := pf_ok prog_14_method_2_code _ 602 (by decide +kernel)
theorem d_X12_init_602 : decode prog_14_method_2_code 602 = .ok (.bipush 16, 2) := gq_0 db00d_98 eb_99
theorem d_X12_init_606 : decode prog_14_method_2_code 606 = .ok (.putfield 226, 3) := gq_1 db00d_98 eb_883
theorem d_X12_init_609 : decode prog_14_method_2_code 609 = .ok (.aload_n 0, 1) := gq_2 db00d_98 eb_0
theorem d_X12_init_610 : decode prog_14_method_2_code 610 = .ok (.bipush 16, 2) := gq_3 db00d_98 eb_99
theorem d_X12_init_614 : decode prog_14_method_2_code 614 = .ok (.putfield 229, 3) := gq_4 db00d_98 eb_884
theorem d_X12_init_617 : decode prog_14_method_2_code 617 = .ok (.aload_n 0, 1) := gq_5 db00d_98 eb_0
theorem d_X12_init_618 : decode prog_14_method_2_code 618 = .ok (.sipush 180, 3) := gq_6 db00d_98 eb_101
theorem d_X12_init_623 : decode prog_14_method_2_code 623 = .ok (.putfield 232, 3) := gq_7 db00d_98 eb_706
theorem d_X12_init_626 : decode prog_14_method_2_code 626 = .ok (.aload_n 0, 1) := gq_8 db00d_98 eb_0
theorem d_X12_init_627 : decode prog_14_method_2_code 627 = .ok (.sipush 180, 3) := gq_9 db00d_98 eb_101
theorem d_X12_init_632 : decode prog_14_method_2_code 632 = .ok (.putfield 235, 3) := gq_10 db00d_98 eb_885
theorem d_X12_init_635 : decode prog_14_method_2_code 635 = .ok (.aload_n 0, 1) := gq_11 db00d_98 eb_0
theorem d_X12_init_636 : decode prog_14_method_2_code 636 = .ok (.sipush 180, 3) := gq_12 db00d_98 eb_101
theorem d_X12_init_641 : decode prog_14_method_2_code 641 = .ok (.putfield 238, 3) := gq_13 db00d_98 eb_886
theorem d_X12_init_644 : decode prog_14_method_2_code 644 = .ok (.aload_n 0, 1) := gq_14 db00d_98 eb_0
theorem d_X12_init_645 : decode prog_14_method_2_code 645 = .ok (.bipush 30, 2) := gq_15 db00d_98 eb_92
theorem d_X12_init_649 : decode prog_14_method_2_code 649 = .ok (.putfield 241, 3) := gq_16 db00d_98 eb_887
theorem d_X12_init_652 : decode prog_14_method_2_code 652 = .ok (.aload_n 0, 1) := gq_17 db00d_98 eb_0
theorem d_X12_init_653 : decode prog_14_method_2_code 653 = .ok (.bipush 30, 2) := gq_18 db00d_98 eb_92
theorem d_X12_init_657 : decode prog_14_method_2_code 657 = .ok (.putfield 244, 3) := gq_19 db00d_98 eb_888
theorem d_X12_init_660 : decode prog_14_method_2_code 660 = .ok (.aload_n 0, 1) := gq_20 db00d_98 eb_0
theorem d_X12_init_661 : decode prog_14_method_2_code 661 = .ok (.bipush 8, 2) := gq_21 db00d_98 eb_94
theorem d_X12_init_665 : decode prog_14_method_2_code 665 = .ok (.putfield 247, 3) := gq_22 db00d_98 eb_889
theorem d_X12_init_668 : decode prog_14_method_2_code 668 = .ok (.aload_n 0, 1) := gq_23 db00d_98 eb_0
theorem d_X12_init_671 : decode prog_14_method_2_code 671 = .ok (.newarray .int, 2) := by decide +kernel
theorem d_X12_init_685 : decode prog_14_method_2_code 685 = .ok (.newarray .int, 2) := by decide +kernel
theorem d_X12_init_693 : decode prog_14_method_2_code 693 = .ok (.newarray .int, 2) := by decide +kernel
theorem d_X12_init_701 : decode prog_14_method_2_code 701 = .ok (.newarray .int, 2) := by decide +kernel
theorem d_X12_init_709 : decode prog_14_method_2_code 709 = .ok (.newarray .int, 2) := by decide +kernel
theorem d_X12_init_716 : decode prog_14_method_2_code 716 = .ok (.newarray .int, 2) := by decide +kernel
theorem d_X12_init_723 : decode prog_14_method_2_code 723 = .ok (.newarray .int, 2) := by decide +kernel
theorem db00d_99 : Pf_ prog_14_method_2_code [(669, [0x10, 0x08]), (673, [0xb5, 0x00, 0xfa]), (676, [0x2a]), (677, [0x06]), (678, [0xb5, 0x00, 0xfd]), (681, [0x2a]), (682, [0x11, 0x09, 0x00]), (687, [0xb5, 0x01, 0x01]), (690, [0x2a]), (691, [0x10, 0x08]), (695, [0xb5, 0x01, 0x04]), (698, [0x2a]), (699, [0x10, 0x08]), (703, [0xb5, 0x01, 0x07]), (706, [0x2a]), (707, [0x10, 0x08]), (711, [0xb5, 0x01, 0x0a]), (714, [0x2a]), (715, [0x08]), (718, [0xb5, 0x01, 0x0d]), (721, [0x2a]), (722, [0x08]), (725, [0xb5, 0x01, 0x10]), (728, [0x2a])] := pf_ok prog_14_method_2_code _ 669 (by decide +kernel)
theorem d_X12_init_669 : decode prog_14_method_2_code 669 = .ok (.bipush 8, 2) := gq_0 db00d_99 eb_94
theorem d_X12_init_673 : decode prog_14_method_2_code 673 = .ok (.putfield 250, 3) := gq_1 db00d_99 eb_890
theorem d_X12_init_676 : decode prog_14_method_2_code 676 = .ok (.aload_n 0, 1) := gq_2 db00d_99 eb_0
theorem d_X12_init_677 : decode prog_14_method_2_code 677 = .ok (.iconst 3, 1) := gq_3 db00d_99 eb_54
theorem d_X12_init_678 : decode prog_14_method_2_code 678 = .ok (.putfield 253, 3) := gq_4 db00d_99 eb_891
theorem d_X12_init_681 : decode prog_14_method_2_code 681 = .ok (.aload_n 0, 1) := gq_5 db00d_99 eb_0
theorem d_X12_init_682 : decode prog_14_method_2_code 682 = .ok (.sipush 2304, 3) := gq_6 db00d_99 eb_199
theorem d_X12_init_687 : decode prog_14_method_2_code 687 = .ok (.putfield 257, 3) := gq_7 db00d_99 eb_892
theorem d_X12_init_690 : decode prog_14_method_2_code 690 = .ok (.aload_n 0, 1) := gq_8 db00d_99 eb_0
theorem d_X12_init_691 : decode prog_14_method_2_code 691 = .ok (.bipush 8, 2) := gq_9 db00d_99 eb_94
theorem d_X12_init_695 : decode prog_14_method_2_code 695 = .ok (.putfield 260, 3) := gq_10 db00d_99 eb_893
theorem d_X12_init_698 : decode prog_14_method_2_code 698 = .ok (.aload_n 0, 1) := gq_11 db00d_99 eb_0
theorem d_X12_init_699 : decode prog_14_method_2_code 699 = .ok (.bipush 8, 2) := gq_12 db00d_99 eb_94
theorem d_X12_init_703 : decode prog_14_method_2_code 703 = .ok (.putfield 263, 3) := gq_13 db00d_99 eb_894
theorem d_X12_init_706 : decode prog_14_method_2_code 706 = .ok (.aload_n 0, 1) := gq_14 db00d_99 eb_0
theorem d_X12_init_707 : decode prog_14_method_2_code 707 = .ok (.bipush 8, 2) := gq_15 db00d_99 eb_94
theorem d_X12_init_711 : decode prog_14_method_2_code 711 = .ok (.putfield 266, 3) := gq_16 db00d_99 eb_895
theorem d_X12_init_714 : decode prog_14_method_2_code 714 = .ok (.aload_n 0, 1) := gq_17 db00d_99 eb_0
theorem d_X12_init_715 : decode prog_14_method_2_code 715 = .ok (.iconst 5, 1) := gq_18 db00d_99 eb_122
theorem d_X12_init_718 : decode prog_14_method_2_code 718 = .ok (.putfield 269, 3) := gq_19 db00d_99 eb_896
theorem d_X12_init_721 : decode prog_14_method_2_code 721 = .ok (.aload_n 0, 1) := gq_20 db00d_99 eb_0
theorem d_X12_init_722 : decode prog_14_method_2_code 722 = .ok (.iconst 5, 1) := gq_21 db00d_99 eb_122
theorem d_X12_init_725 : decode prog_14_method_2_code 725 = .ok (.putfield 272, 3) := gq_22 db00d_99 eb_897
theorem d_X12_init_728 : decode prog_14_method_2_code 728 = .ok (.aload_n 0, 1) := gq_23 db00d_99 eb_0
theorem d_X12_init_730 : decode prog_14_method_2_code 730 = .ok (.newarray .int, 2) := by decide +kernel
theorem d_X12_init_737 : decode prog_14_method_2_code 737 = .ok (.newarray .int, 2) := by decide +kernel
theorem d_X12_init_744 : decode prog_14_method_2_code 744 = .ok (.newarray .int, 2) := by decide +kernel
theorem d_X12_init_751 : decode prog_14_method_2_code 751 = .ok (.newarray .int, 2) := by decide +kernel
theorem d_X12_init_758 : decode prog_14_method_2_code 758 = .ok (.newarray .int, 2) := by decide +kernel
theorem d_X12_init_767 : decode prog_14_method_2_code 767 = .ok (.newarray .int, 2) := by decide +kernel
theorem d_X12_init_775 : decode prog_14_method_2_code 775 = .ok (.newarray .int, 2) := by decide +kernel
theorem d_X12_init_784 : decode prog_14_method_2_code 784 = .ok (.newarray .int, 2) := by decide +kernel
theorem db00d_100 : Pf_ prog_14_method_2_code [(729, [0x08]), (732, [0xb5, 0x01, 0x13]), (735, [0x2a]), (736, [0x08]), (739, [0xb5, 0x01, 0x16]), (742, [0x2a]), (743, [0x07]), (746, [0xb5, 0x01, 0x19]), (749, [0x2a]), (750, [0x07]), (753, [0xb5, 0x01, 0x1c]), (756, [0x2a]), (757, [0x07]), (760, [0xb5, 0x01, 0x1f]), (763, [0x2a]), (764, [0x11, 0x0d, 0x00]), (769, [0xb5, 0x01, 0x22]), (772, [0x2a]), (773, [0x10, 0x30]), (777, [0xb5, 0x01, 0x25]), (780, [0x2a]), (781, [0x11, 0x01, 0x74]), (786, [0xb5, 0x01, 0x28]), (789, [0x2a])] := pf_ok prog_14_method_2_code _ 729 (by decide +kernel)
theorem d_X12_init_729 : decode prog_14_method_2_code 729 = .ok (.iconst 5, 1) := gq_0 db00d_100 eb_122
theorem d_X12_init_732 : decode prog_14_method_2_code 732 = .ok (.putfield 275, 3) := gq_1 db00d_100 eb_898
theorem d_X12_init_735 : decode prog_14_method_2_code 735 = .ok (.aload_n 0, 1) := gq_2 db00d_100 eb_0
theorem d_X12_init_736 : decode prog_14_method_2_code 736 = .ok (.iconst 5, 1) := gq_3 db00d_100 eb_122
theorem d_X12_init_739 : decode prog_14_method_2_code 739 = .ok (.putfield 278, 3) := gq_4 db00d_100 eb_899
theorem d_X12_init_742 : decode prog_14_method_2_code 742 = .ok (.aload_n 0, 1) := gq_5 db00d_100 eb_0
theorem d_X12_init_743 : decode prog_14_method_2_code 743 = .ok (.iconst 4, 1) := gq_6 db00d_100 eb_291
theorem d_X12_init_746 : decode prog_14_method_2_code 746 = .ok (.putfield 281, 3) := gq_7 db00d_100 eb_900
theorem d_X12_init_749 : decode prog_14_method_2_code 749 = .ok (.aload_n 0, 1) := gq_8 db00d_100 eb_0
theorem d_X12_init_750 : decode prog_14_method_2_code 750 = .ok (.iconst 4, 1) := gq_9 db00d_100 eb_291
theorem d_X12_init_753 : decode prog_14_method_2_code 753 = .ok (.putfield 284, 3) := gq_10 db00d_100 eb_901
theorem d_X12_init_756 : decode prog_14_method_2_code 756 = .ok (.aload_n 0, 1) := gq_11 db00d_100 eb_0
theorem d_X12_init_757 : decode prog_14_method_2_code 757 = .ok (.iconst 4, 1) := gq_12 db00d_100 eb_291
theorem d_X12_init_760 : decode prog_14_method_2_code 760 = .ok (.putfield 287, 3) := gq_13 db00d_100 eb_695
theorem d_X12_init_763 : decode prog_14_method_2_code 763 = .ok (.aload_n 0, 1) := gq_14 db00d_100 eb_0
theorem d_X12_init_764 : decode prog_14_method_2_code 764 = .ok (.sipush 3328, 3) := gq_15 db00d_100 eb_352
theorem d_X12_init_769 : decode prog_14_method_2_code 769 = .ok (.putfield 290, 3) := gq_16 db00d_100 eb_697
theorem d_X12_init_772 : decode prog_14_method_2_code 772 = .ok (.aload_n 0, 1) := gq_17 db00d_100 eb_0
theorem d_X12_init_773 : decode prog_14_method_2_code 773 = .ok (.bipush 48, 2) := gq_18 db00d_100 eb_317
theorem d_X12_init_777 : decode prog_14_method_2_code 777 = .ok (.putfield 293, 3) := gq_19 db00d_100 eb_902
theorem d_X12_init_780 : decode prog_14_method_2_code 780 = .ok (.aload_n 0, 1) := gq_20 db00d_100 eb_0
theorem d_X12_init_781 : decode prog_14_method_2_code 781 = .ok (.sipush 372, 3) := gq_21 db00d_100 eb_903
theorem d_X12_init_786 : decode prog_14_method_2_code 786 = .ok (.putfield 296, 3) := gq_22 db00d_100 eb_904
theorem d_X12_init_789 : decode prog_14_method_2_code 789 = .ok (.aload_n 0, 1) := gq_23 db00d_100 eb_0
theorem d_X12_init_793 : decode prog_14_method_2_code 793 = .ok (.newarray .int, 2) := by decide +kernel
theorem d_X12_init_802 : decode prog_14_method_2_code 802 = .ok (.newarray .int, 2) := by decide +kernel
theorem d_X12_init_811 : decode prog_14_method_2_code 811 = .ok (.newarray .int, 2) := by decide +kernel
theorem d_X12_init_820 : decode prog_14_method_2_code 820 = .ok (.newarray .int, 2) := by decide +kernel
theorem d_X12_init_828 : decode prog_14_method_2_code 828 = .ok (.newarray .int, 2) := by decide +kernel
theorem d_X12_init_836 : decode prog_14_method_2_code 836 = .ok (.newarray .boolean, 2) := by decide +kernel
theorem db00d_101 : Pf_ prog_14_method_2_code [(790, [0x11, 0x02, 0x58]), (795, [0xb5, 0x01, 0x2b]), (798, [0x2a]), (799, [0x11, 0x02, 0x58]), (804, [0xb5, 0x01, 0x2e]), (807, [0x2a]), (808, [0x11, 0x02, 0x58]), (813, [0xb5, 0x01, 0x31]), (816, [0x2a]), (817, [0x11, 0x02, 0x58]), (822, [0xb5, 0x01, 0x34]), (825, [0x2a]), (826, [0x10, 0x30]), (830, [0xb5, 0x01, 0x37]), (833, [0x2a]), (834, [0x10, 0x30]), (838, [0xb5, 0x01, 0x3a]), (841, [0x2a]), (842, [0x06]), (843, [0xb5, 0x01, 0x3d]), (846, [0x03]), (847, [0x3c]), (848, [0x1b]), (849, [0x10, 0x08])] := pf_ok prog_14_method_2_code _ 790 (by decide +kernel)
theorem d_X12_init_790 : decode prog_14_method_2_code 790 = .ok (.sipush 600, 3) := gq_0 db00d_101 eb_316
theorem d_X12_init_795 : decode prog_14_method_2_code 795 = .ok (.putfield 299, 3) := gq_1 db00d_101 eb_905
theorem d_X12_init_798 : decode prog_14_method_2_code 798 = .ok (.aload_n 0, 1) := gq_2 db00d_101 eb_0
theorem d_X12_init_799 : decode prog_14_method_2_code 799 = .ok (.sipush 600, 3) := gq_3 db00d_101 eb_316
theorem d_X12_init_804 : decode prog_14_method_2_code 804 = .ok (.putfield 302, 3) := gq_4 db00d_101 eb_906
theorem d_X12_init_807 : decode prog_14_method_2_code 807 = .ok (.aload_n 0, 1) := gq_5 db00d_101 eb_0
theorem d_X12_init_808 : decode prog_14_method_2_code 808 = .ok (.sipush 600, 3) := gq_6 db00d_101 eb_316
theorem d_X12_init_813 : decode prog_14_method_2_code 813 = .ok (.putfield 305, 3) := gq_7 db00d_101 eb_907
theorem d_X12_init_816 : decode prog_14_method_2_code 816 = .ok (.aload_n 0, 1) := gq_8 db00d_101 eb_0
theorem d_X12_init_817 : decode prog_14_method_2_code 817 = .ok (.sipush 600, 3) := gq_9 db00d_101 eb_316
theorem d_X12_init_822 : decode prog_14_method_2_code 822 = .ok (.putfield 308, 3) := gq_10 db00d_101 eb_908
theorem d_X12_init_825 : decode prog_14_method_2_code 825 = .ok (.aload_n 0, 1) := gq_11 db00d_101 eb_0
theorem d_X12_init_826 : decode prog_14_method_2_code 826 = .ok (.bipush 48, 2) := gq_12 db00d_101 eb_317
theorem d_X12_init_830 : decode prog_14_method_2_code 830 = .ok (.putfield 311, 3) := gq_13 db00d_101 eb_909
theorem d_X12_init_833 : decode prog_14_method_2_code 833 = .ok (.aload_n 0, 1) := gq_14 db00d_101 eb_0
theorem d_X12_init_834 : decode prog_14_method_2_code 834 = .ok (.bipush 48, 2) := gq_15 db00d_101 eb_317
theorem d_X12_init_838 : decode prog_14_method_2_code 838 = .ok (.putfield 314, 3) := gq_16 db00d_101 eb_910
theorem d_X12_init_841 : decode prog_14_method_2_code 841 = .ok (.aload_n 0, 1) := gq_17 db00d_101 eb_0
theorem d_X12_init_842 : decode prog_14_method_2_code 842 = .ok (.iconst 3, 1) := gq_18 db00d_101 eb_54
theorem d_X12_init_843 : decode prog_14_method_2_code 843 = .ok (.putfield 317, 3) := gq_19 db00d_101 eb_911
theorem d_X12_init_846 : decode prog_14_method_2_code 846 = .ok (.iconst 0, 1) := gq_20 db00d_101 eb_21
theorem d_X12_init_847 : decode prog_14_method_2_code 847 = .ok (.istore_n 1, 1) := gq_21 db00d_101 eb_222
theorem d_X12_init_848 : decode prog_14_method_2_code 848 = .ok (.iload_n 1, 1) := gq_22 db00d_101 eb_9
theorem d_X12_init_849 : decode prog_14_method_2_code 849 = .ok (.bipush 8, 2) := gq_23 db00d_101 eb_94
theorem db00d_102 : Pf_ prog_14_method_2_code [(851, [0xa2, 0x00, 0x10]), (854, [0x2a]), (855, [0xb4, 0x00, 0xd0]), (858, [0x1b]), (859, [0x04]), (860, [0x4f]), (861, [0x84, 0x01, 0x01]), (864, [0xa7, 0xff, 0xf0]), (867, [0xb1])] := pf_ok prog_14_method_2_code _ 851 (by decide +kernel)
theorem d_X12_init_851 : decode prog_14_method_2_code 851 = .ok (.if_icmp .ge 16, 3) := gq_0 db00d_102 eb_243
theorem d_X12_init_854 : decode prog_14_method_2_code 854 = .ok (.aload_n 0, 1) := gq_1 db00d_102 eb_0
theorem d_X12_init_855 : decode prog_14_method_2_code 855 = .ok (.getfield 208, 3) := gq_2 db00d_102 eb_912
theorem d_X12_init_858 : decode prog_14_method_2_code 858 = .ok (.iload_n 1, 1) := gq_3 db00d_102 eb_9
theorem d_X12_init_859 : decode prog_14_method_2_code 859 = .ok (.iconst 1, 1) := gq_4 db00d_102 eb_19
theorem d_X12_init_860 : decode prog_14_method_2_code 860 = .ok (.iastore, 1) := gq_5 db00d_102 eb_38
theorem d_X12_init_861 : decode prog_14_method_2_code 861 = .ok (.iinc 1 1, 3) := gq_6 db00d_102 eb_228
theorem d_X12_init_864 : decode prog_14_method_2_code 864 = .ok (.goto (-16), 3) := gq_7 db00d_102 eb_699
theorem d_X12_init_867 : decode prog_14_method_2_code 867 = .ok (.return_, 1) := gq_8 db00d_102 eb_7
theorem db00d_103 : Pf_ prog_14_method_4_code [(0, [0x1a]), (1, [0x03]), (2, [0x10, 0x0f]), (4, [0xb8, 0x01, 0x43]), (7, [0xac])] := pf_ok prog_14_method_4_code _ 0 (by decide +kernel)
theorem d_X12_isPlace_0 : decode prog_14_method_4_code 0 = .ok (.iload_n 0, 1) := gq_0 db00d_103 eb_8
theorem d_X12_isPlace_1 : decode prog_14_method_4_code 1 = .ok (.iconst 0, 1) := gq_1 db00d_103 eb_21
theorem d_X12_isPlace_2 : decode prog_14_method_4_code 2 = .ok (.bipush 15, 2) := gq_2 db00d_103 eb_57
theorem d_X12_isPlace_4 : decode prog_14_method_4_code 4 = .ok (.invokestatic 323, 3) := gq_3 db00d_103 eb_913
theorem d_X12_isPlace_7 : decode prog_14_method_4_code 7 = .ok (.ireturn, 1) := gq_4 db00d_103 eb_15
theorem db00d_104 : Pf_ prog_14_method_5_code [(0, [0x1b]), (1, [0xb8, 0x01, 0x47]), (4, [0x99, 0x00, 0x22]), (7, [0x1c]), (8, [0xb8, 0x01, 0x47]), (11, [0x99, 0x00, 0x1b]), (14, [0x1b]), (15, [0x1c]), (16, [0x9f, 0x00, 0x16]), (19, [0x1d]), (20, [0x04]), (21, [0x10, 0x3c]), (23, [0xb8, 0x01, 0x43]), (26, [0x99, 0x00, 0x0c]), (29, [0x2a])] := pf_ok prog_14_method_5_code _ 0 (by decide +kernel)
theorem d_X12_path_0 : decode prog_14_method_5_code 0 = .ok (.iload_n 1, 1) := gq_0 db00d_104 eb_9
theorem d_X12_path_1 : decode prog_14_method_5_code 1 = .ok (.invokestatic 327, 3) := gq_1 db00d_104 eb_914
theorem d_X12_path_4 : decode prog_14_method_5_code 4 = .ok (.ifCond .eq 34, 3) := gq_2 db00d_104 eb_467
theorem d_X12_path_7 : decode prog_14_method_5_code 7 = .ok (.iload_n 2, 1) := gq_3 db00d_104 eb_13
theorem d_X12_path_8 : decode prog_14_method_5_code 8 = .ok (.invokestatic 327, 3) := gq_4 db00d_104 eb_914
theorem d_X12_path_11 : decode prog_14_method_5_code 11 = .ok (.ifCond .eq 27, 3) := gq_5 db00d_104 eb_430
theorem d_X12_path_14 : decode prog_14_method_5_code 14 = .ok (.iload_n 1, 1) := gq_6 db00d_104 eb_9
theorem d_X12_path_15 : decode prog_14_method_5_code 15 = .ok (.iload_n 2, 1) := gq_7 db00d_104 eb_13
theorem d_X12_path_16 : decode prog_14_method_5_code 16 = .ok (.if_icmp .eq 22, 3) := gq_8 db00d_104 eb_347
theorem d_X12_path_19 : decode prog_14_method_5_code 19 = .ok (.iload_n 3, 1) := gq_9 db00d_104 eb_29
theorem d_X12_path_20 : decode prog_14_method_5_code 20 = .ok (.iconst 1, 1) := gq_10 db00d_104 eb_19
theorem d_X12_path_21 : decode prog_14_method_5_code 21 = .ok (.bipush 60, 2) := gq_11 db00d_104 eb_290
theorem d_X12_path_23 : decode prog_14_method_5_code 23 = .ok (.invokestatic 323, 3) := gq_12 db00d_104 eb_913
theorem d_X12_path_26 : decode prog_14_method_5_code 26 = .ok (.ifCond .eq 12, 3) := gq_13 db00d_104 eb_50
theorem d_X12_path_29 : decode prog_14_method_5_code 29 = .ok (.aload_n 0, 1) := gq_14 db00d_104 eb_0
