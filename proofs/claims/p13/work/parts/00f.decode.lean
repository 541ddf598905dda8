theorem d_X12_drop_11 : decode prog_14_method_53_code 11 = .ok (.iaload, 1) := by decide +kernel
theorem d_X12_drop_12 : decode prog_14_method_53_code 12 = .ok (.if_icmp .ge 57, 3) := by decide +kernel
theorem d_X12_drop_15 : decode prog_14_method_53_code 15 = .ok (.aload_n 0, 1) := by decide +kernel
theorem d_X12_drop_16 : decode prog_14_method_53_code 16 = .ok (.getfield 135, 3) := by decide +kernel
theorem d_X12_drop_19 : decode prog_14_method_53_code 19 = .ok (.aload_n 0, 1) := by decide +kernel
theorem d_X12_drop_20 : decode prog_14_method_53_code 20 = .ok (.getfield 58, 3) := by decide +kernel
theorem d_X12_drop_23 : decode prog_14_method_53_code 23 = .ok (.iload_n 1, 1) := by decide +kernel
theorem d_X12_drop_24 : decode prog_14_method_53_code 24 = .ok (.iaload, 1) := by decide +kernel
theorem d_X12_drop_25 : decode prog_14_method_53_code 25 = .ok (.iaload, 1) := by decide +kernel
theorem d_X12_drop_26 : decode prog_14_method_53_code 26 = .ok (.iconst (-1), 1) := by decide +kernel
theorem d_X12_drop_27 : decode prog_14_method_53_code 27 = .ok (.if_icmp .ne 29, 3) := by decide +kernel
theorem d_X12_drop_30 : decode prog_14_method_53_code 30 = .ok (.aload_n 0, 1) := by decide +kernel
theorem d_X12_drop_31 : decode prog_14_method_53_code 31 = .ok (.getfield 138, 3) := by decide +kernel
theorem d_X12_drop_34 : decode prog_14_method_53_code 34 = .ok (.aload_n 0, 1) := by decide +kernel
theorem d_X12_drop_35 : decode prog_14_method_53_code 35 = .ok (.getfield 58, 3) := by decide +kernel
theorem d_X12_drop_38 : decode prog_14_method_53_code 38 = .ok (.iload_n 1, 1) := by decide +kernel
theorem d_X12_drop_39 : decode prog_14_method_53_code 39 = .ok (.iaload, 1) := by decide +kernel
theorem d_X12_drop_40 : decode prog_14_method_53_code 40 = .ok (.iaload, 1) := by decide +kernel
theorem d_X12_drop_41 : decode prog_14_method_53_code 41 = .ok (.iconst (-1), 1) := by decide +kernel
theorem d_X12_drop_42 : decode prog_14_method_53_code 42 = .ok (.if_icmp .ne 14, 3) := by decide +kernel
theorem d_X12_drop_45 : decode prog_14_method_53_code 45 = .ok (.aload_n 0, 1) := by decide +kernel
theorem d_X12_drop_46 : decode prog_14_method_53_code 46 = .ok (.aload_n 0, 1) := by decide +kernel
theorem d_X12_drop_47 : decode prog_14_method_53_code 47 = .ok (.getfield 58, 3) := by decide +kernel
theorem d_X12_drop_50 : decode prog_14_method_53_code 50 = .ok (.iload_n 1, 1) := by decide +kernel
theorem d_X12_drop_51 : decode prog_14_method_53_code 51 = .ok (.iaload, 1) := by decide +kernel
theorem d_X12_drop_52 : decode prog_14_method_53_code 52 = .ok (.iload_n 2, 1) := by decide +kernel
theorem d_X12_drop_53 : decode prog_14_method_53_code 53 = .ok (.invokevirtual 500, 3) := by decide +kernel
theorem d_X12_drop_56 : decode prog_14_method_53_code 56 = .ok (.aload_n 0, 1) := by decide +kernel
theorem d_X12_drop_57 : decode prog_14_method_53_code 57 = .ok (.getfield 58, 3) := by decide +kernel
theorem d_X12_drop_60 : decode prog_14_method_53_code 60 = .ok (.iload_n 1, 1) := by decide +kernel
theorem d_X12_drop_61 : decode prog_14_method_53_code 61 = .ok (.dup2, 1) := by decide +kernel
theorem d_X12_drop_62 : decode prog_14_method_53_code 62 = .ok (.iaload, 1) := by decide +kernel
theorem d_X12_drop_63 : decode prog_14_method_53_code 63 = .ok (.iconst 1, 1) := by decide +kernel
theorem d_X12_drop_64 : decode prog_14_method_53_code 64 = .ok (.iadd, 1) := by decide +kernel
theorem d_X12_drop_65 : decode prog_14_method_53_code 65 = .ok (.iastore, 1) := by decide +kernel
theorem d_X12_drop_66 : decode prog_14_method_53_code 66 = .ok (.goto (-66), 3) := by decide +kernel
theorem d_X12_drop_69 : decode prog_14_method_53_code 69 = .ok (.aload_n 0, 1) := by decide +kernel
theorem d_X12_drop_70 : decode prog_14_method_53_code 70 = .ok (.getfield 49, 3) := by decide +kernel
theorem d_X12_drop_73 : decode prog_14_method_53_code 73 = .ok (.iload_n 1, 1) := by decide +kernel
theorem d_X12_drop_74 : decode prog_14_method_53_code 74 = .ok (.iconst (-1), 1) := by decide +kernel
theorem d_X12_drop_75 : decode prog_14_method_53_code 75 = .ok (.iastore, 1) := by decide +kernel
theorem d_X12_drop_76 : decode prog_14_method_53_code 76 = .ok (.return_, 1) := by decide +kernel
theorem d_X12_stateOf_0 : decode prog_14_method_54_code 0 = .ok (.aload_n 0, 1) := by decide +kernel
theorem d_X12_stateOf_1 : decode prog_14_method_54_code 1 = .ok (.getfield 135, 3) := by decide +kernel
theorem d_X12_stateOf_4 : decode prog_14_method_54_code 4 = .ok (.iload_n 1, 1) := by decide +kernel
theorem d_X12_stateOf_5 : decode prog_14_method_54_code 5 = .ok (.iaload, 1) := by decide +kernel
theorem d_X12_stateOf_6 : decode prog_14_method_54_code 6 = .ok (.iconst (-1), 1) := by decide +kernel
theorem d_X12_stateOf_7 : decode prog_14_method_54_code 7 = .ok (.if_icmp .eq 15, 3) := by decide +kernel
theorem d_X12_stateOf_10 : decode prog_14_method_54_code 10 = .ok (.aload_n 0, 1) := by decide +kernel
theorem d_X12_stateOf_11 : decode prog_14_method_54_code 11 = .ok (.getfield 135, 3) := by decide +kernel
theorem d_X12_stateOf_14 : decode prog_14_method_54_code 14 = .ok (.iload_n 1, 1) := by decide +kernel
theorem d_X12_stateOf_15 : decode prog_14_method_54_code 15 = .ok (.iaload, 1) := by decide +kernel
theorem d_X12_stateOf_16 : decode prog_14_method_54_code 16 = .ok (.iload_n 2, 1) := by decide +kernel
theorem d_X12_stateOf_17 : decode prog_14_method_54_code 17 = .ok (.if_icmp .gt 5, 3) := by decide +kernel
theorem d_X12_stateOf_20 : decode prog_14_method_54_code 20 = .ok (.iconst 1, 1) := by decide +kernel
theorem d_X12_stateOf_21 : decode prog_14_method_54_code 21 = .ok (.ireturn, 1) := by decide +kernel
theorem d_X12_stateOf_22 : decode prog_14_method_54_code 22 = .ok (.aload_n 0, 1) := by decide +kernel
theorem d_X12_stateOf_23 : decode prog_14_method_54_code 23 = .ok (.getfield 138, 3) := by decide +kernel
theorem d_X12_stateOf_26 : decode prog_14_method_54_code 26 = .ok (.iload_n 1, 1) := by decide +kernel
theorem d_X12_stateOf_27 : decode prog_14_method_54_code 27 = .ok (.iaload, 1) := by decide +kernel
theorem d_X12_stateOf_28 : decode prog_14_method_54_code 28 = .ok (.iconst (-1), 1) := by decide +kernel
theorem d_X12_stateOf_29 : decode prog_14_method_54_code 29 = .ok (.if_icmp .eq 17, 3) := by decide +kernel
theorem d_X12_stateOf_32 : decode prog_14_method_54_code 32 = .ok (.aload_n 0, 1) := by decide +kernel
theorem d_X12_stateOf_33 : decode prog_14_method_54_code 33 = .ok (.getfield 138, 3) := by decide +kernel
theorem d_X12_stateOf_36 : decode prog_14_method_54_code 36 = .ok (.iload_n 1, 1) := by decide +kernel
theorem d_X12_stateOf_37 : decode prog_14_method_54_code 37 = .ok (.iaload, 1) := by decide +kernel
theorem d_X12_stateOf_38 : decode prog_14_method_54_code 38 = .ok (.iload_n 2, 1) := by decide +kernel
theorem d_X12_stateOf_39 : decode prog_14_method_54_code 39 = .ok (.if_icmp .gt 7, 3) := by decide +kernel
theorem d_X12_stateOf_42 : decode prog_14_method_54_code 42 = .ok (.iconst 2, 1) := by decide +kernel
theorem d_X12_stateOf_43 : decode prog_14_method_54_code 43 = .ok (.goto 4, 3) := by decide +kernel
theorem d_X12_stateOf_46 : decode prog_14_method_54_code 46 = .ok (.iconst 0, 1) := by decide +kernel
theorem d_X12_stateOf_47 : decode prog_14_method_54_code 47 = .ok (.ireturn, 1) := by decide +kernel
theorem d_X12_causeOf_0 : decode prog_14_method_55_code 0 = .ok (.aload_n 0, 1) := by decide +kernel
theorem d_X12_causeOf_1 : decode prog_14_method_55_code 1 = .ok (.getfield 141, 3) := by decide +kernel
theorem d_X12_causeOf_4 : decode prog_14_method_55_code 4 = .ok (.iload_n 1, 1) := by decide +kernel
theorem d_X12_causeOf_5 : decode prog_14_method_55_code 5 = .ok (.iaload, 1) := by decide +kernel
theorem d_X12_causeOf_6 : decode prog_14_method_55_code 6 = .ok (.istore_n 3, 1) := by decide +kernel
theorem d_X12_causeOf_7 : decode prog_14_method_55_code 7 = .ok (.iconst 0, 1) := by decide +kernel
theorem d_X12_causeOf_8 : decode prog_14_method_55_code 8 = .ok (.istore 4, 2) := by decide +kernel
theorem d_X12_causeOf_10 : decode prog_14_method_55_code 10 = .ok (.iload 4, 2) := by decide +kernel
theorem d_X12_causeOf_12 : decode prog_14_method_55_code 12 = .ok (.aload_n 0, 1) := by decide +kernel
theorem d_X12_causeOf_13 : decode prog_14_method_55_code 13 = .ok (.getfield 504, 3) := by decide +kernel
theorem d_X12_causeOf_16 : decode prog_14_method_55_code 16 = .ok (.if_icmp .ge 39, 3) := by decide +kernel
theorem d_X12_causeOf_19 : decode prog_14_method_55_code 19 = .ok (.aload_n 0, 1) := by decide +kernel
theorem d_X12_causeOf_20 : decode prog_14_method_55_code 20 = .ok (.getfield 147, 3) := by decide +kernel
theorem d_X12_causeOf_23 : decode prog_14_method_55_code 23 = .ok (.iload 4, 2) := by decide +kernel
theorem d_X12_causeOf_25 : decode prog_14_method_55_code 25 = .ok (.iaload, 1) := by decide +kernel
theorem d_X12_causeOf_26 : decode prog_14_method_55_code 26 = .ok (.iload_n 1, 1) := by decide +kernel
theorem d_X12_causeOf_27 : decode prog_14_method_55_code 27 = .ok (.if_icmp .ne 22, 3) := by decide +kernel
theorem d_X12_causeOf_30 : decode prog_14_method_55_code 30 = .ok (.aload_n 0, 1) := by decide +kernel
theorem d_X12_causeOf_31 : decode prog_14_method_55_code 31 = .ok (.getfield 153, 3) := by decide +kernel
theorem d_X12_causeOf_34 : decode prog_14_method_55_code 34 = .ok (.iload 4, 2) := by decide +kernel
theorem d_X12_causeOf_36 : decode prog_14_method_55_code 36 = .ok (.iaload, 1) := by decide +kernel
theorem d_X12_causeOf_37 : decode prog_14_method_55_code 37 = .ok (.iload_n 2, 1) := by decide +kernel
theorem d_X12_causeOf_38 : decode prog_14_method_55_code 38 = .ok (.if_icmp .gt 11, 3) := by decide +kernel
theorem d_X12_causeOf_41 : decode prog_14_method_55_code 41 = .ok (.aload_n 0, 1) := by decide +kernel
theorem d_X12_causeOf_42 : decode prog_14_method_55_code 42 = .ok (.getfield 150, 3) := by decide +kernel
theorem d_X12_causeOf_45 : decode prog_14_method_55_code 45 = .ok (.iload 4, 2) := by decide +kernel
theorem d_X12_causeOf_47 : decode prog_14_method_55_code 47 = .ok (.iaload, 1) := by decide +kernel
theorem d_X12_causeOf_48 : decode prog_14_method_55_code 48 = .ok (.istore_n 3, 1) := by decide +kernel
theorem d_X12_causeOf_49 : decode prog_14_method_55_code 49 = .ok (.iinc 4 1, 3) := by decide +kernel
theorem d_X12_causeOf_52 : decode prog_14_method_55_code 52 = .ok (.goto (-42), 3) := by decide +kernel
theorem d_X12_causeOf_55 : decode prog_14_method_55_code 55 = .ok (.iload_n 3, 1) := by decide +kernel
theorem d_X12_causeOf_56 : decode prog_14_method_55_code 56 = .ok (.ireturn, 1) := by decide +kernel
theorem d_X12_point_0 : decode prog_14_method_56_code 0 = .ok (.iload_n 1, 1) := by decide +kernel
theorem d_X12_point_1 : decode prog_14_method_56_code 1 = .ok (.iconst 0, 1) := by decide +kernel
theorem d_X12_point_2 : decode prog_14_method_56_code 2 = .ok (.aload_n 0, 1) := by decide +kernel
theorem d_X12_point_3 : decode prog_14_method_56_code 3 = .ok (.getfield 507, 3) := by decide +kernel
theorem d_X12_point_6 : decode prog_14_method_56_code 6 = .ok (.iconst 1, 1) := by decide +kernel
theorem d_X12_point_7 : decode prog_14_method_56_code 7 = .ok (.isub, 1) := by decide +kernel
theorem d_X12_point_8 : decode prog_14_method_56_code 8 = .ok (.invokestatic 323, 3) := by decide +kernel
theorem d_X12_point_11 : decode prog_14_method_56_code 11 = .ok (.ifCond .eq 21, 3) := by decide +kernel
theorem d_X12_point_14 : decode prog_14_method_56_code 14 = .ok (.aload_n 0, 1) := by decide +kernel
theorem d_X12_point_15 : decode prog_14_method_56_code 15 = .ok (.iload_n 2, 1) := by decide +kernel
theorem d_X12_point_16 : decode prog_14_method_56_code 16 = .ok (.invokevirtual 351, 3) := by decide +kernel
theorem d_X12_point_19 : decode prog_14_method_56_code 19 = .ok (.ifCond .eq 13, 3) := by decide +kernel
theorem d_X12_point_22 : decode prog_14_method_56_code 22 = .ok (.aload_n 0, 1) := by decide +kernel
theorem d_X12_point_23 : decode prog_14_method_56_code 23 = .ok (.getfield 144, 3) := by decide +kernel
theorem d_X12_point_26 : decode prog_14_method_56_code 26 = .ok (.iload_n 1, 1) := by decide +kernel
theorem d_X12_point_27 : decode prog_14_method_56_code 27 = .ok (.iaload, 1) := by decide +kernel
theorem d_X12_point_28 : decode prog_14_method_56_code 28 = .ok (.iload_n 2, 1) := by decide +kernel
theorem d_X12_point_29 : decode prog_14_method_56_code 29 = .ok (.if_icmp .le 5, 3) := by decide +kernel
theorem d_X12_point_32 : decode prog_14_method_56_code 32 = .ok (.iconst (-1), 1) := by decide +kernel
theorem d_X12_point_33 : decode prog_14_method_56_code 33 = .ok (.ireturn, 1) := by decide +kernel
theorem d_X12_point_34 : decode prog_14_method_56_code 34 = .ok (.iload_n 3, 1) := by decide +kernel
theorem d_X12_point_35 : decode prog_14_method_56_code 35 = .ok (.tableswitch 82 0 4 #[33, 40, 47, 54, 61], 33) := by decide +kernel
theorem d_X12_point_68 : decode prog_14_method_56_code 68 = .ok (.aload_n 0, 1) := by decide +kernel
theorem d_X12_point_69 : decode prog_14_method_56_code 69 = .ok (.getfield 126, 3) := by decide +kernel
theorem d_X12_point_72 : decode prog_14_method_56_code 72 = .ok (.iload_n 1, 1) := by decide +kernel
theorem d_X12_point_73 : decode prog_14_method_56_code 73 = .ok (.iaload, 1) := by decide +kernel
theorem d_X12_point_74 : decode prog_14_method_56_code 74 = .ok (.ireturn, 1) := by decide +kernel
theorem d_X12_point_75 : decode prog_14_method_56_code 75 = .ok (.aload_n 0, 1) := by decide +kernel
theorem d_X12_point_76 : decode prog_14_method_56_code 76 = .ok (.getfield 129, 3) := by decide +kernel
theorem d_X12_point_79 : decode prog_14_method_56_code 79 = .ok (.iload_n 1, 1) := by decide +kernel
theorem d_X12_point_80 : decode prog_14_method_56_code 80 = .ok (.iaload, 1) := by decide +kernel
theorem d_X12_point_81 : decode prog_14_method_56_code 81 = .ok (.ireturn, 1) := by decide +kernel
theorem d_X12_point_82 : decode prog_14_method_56_code 82 = .ok (.aload_n 0, 1) := by decide +kernel
theorem d_X12_point_83 : decode prog_14_method_56_code 83 = .ok (.getfield 132, 3) := by decide +kernel
theorem d_X12_point_86 : decode prog_14_method_56_code 86 = .ok (.iload_n 1, 1) := by decide +kernel
theorem d_X12_point_87 : decode prog_14_method_56_code 87 = .ok (.iaload, 1) := by decide +kernel
theorem d_X12_point_88 : decode prog_14_method_56_code 88 = .ok (.ireturn, 1) := by decide +kernel
theorem d_X12_point_89 : decode prog_14_method_56_code 89 = .ok (.aload_n 0, 1) := by decide +kernel
theorem d_X12_point_90 : decode prog_14_method_56_code 90 = .ok (.iload_n 1, 1) := by decide +kernel
theorem d_X12_point_91 : decode prog_14_method_56_code 91 = .ok (.iload_n 2, 1) := by decide +kernel
theorem d_X12_point_92 : decode prog_14_method_56_code 92 = .ok (.invokevirtual 510, 3) := by decide +kernel
theorem d_X12_point_95 : decode prog_14_method_56_code 95 = .ok (.ireturn, 1) := by decide +kernel
theorem d_X12_point_96 : decode prog_14_method_56_code 96 = .ok (.aload_n 0, 1) := by decide +kernel
theorem d_X12_point_97 : decode prog_14_method_56_code 97 = .ok (.iload_n 1, 1) := by decide +kernel
theorem d_X12_point_98 : decode prog_14_method_56_code 98 = .ok (.iload_n 2, 1) := by decide +kernel
theorem d_X12_point_99 : decode prog_14_method_56_code 99 = .ok (.invokevirtual 510, 3) := by decide +kernel
theorem d_X12_point_102 : decode prog_14_method_56_code 102 = .ok (.iconst 2, 1) := by decide +kernel
theorem d_X12_point_103 : decode prog_14_method_56_code 103 = .ok (.if_icmp .ne 12, 3) := by decide +kernel
theorem d_X12_point_106 : decode prog_14_method_56_code 106 = .ok (.aload_n 0, 1) := by decide +kernel
theorem d_X12_point_107 : decode prog_14_method_56_code 107 = .ok (.iload_n 1, 1) := by decide +kernel
theorem d_X12_point_108 : decode prog_14_method_56_code 108 = .ok (.iload_n 2, 1) := by decide +kernel
theorem d_X12_point_109 : decode prog_14_method_56_code 109 = .ok (.invokevirtual 513, 3) := by decide +kernel
theorem d_X12_point_112 : decode prog_14_method_56_code 112 = .ok (.goto 4, 3) := by decide +kernel
theorem d_X12_point_115 : decode prog_14_method_56_code 115 = .ok (.iconst (-1), 1) := by decide +kernel
theorem d_X12_point_116 : decode prog_14_method_56_code 116 = .ok (.ireturn, 1) := by decide +kernel
theorem d_X12_point_117 : decode prog_14_method_56_code 117 = .ok (.iconst (-1), 1) := by decide +kernel
theorem d_X12_point_118 : decode prog_14_method_56_code 118 = .ok (.ireturn, 1) := by decide +kernel
theorem d_X12_cause_0 : decode prog_14_method_57_code 0 = .ok (.iload_n 1, 1) := by decide +kernel
theorem d_X12_cause_1 : decode prog_14_method_57_code 1 = .ok (.iconst 0, 1) := by decide +kernel
theorem d_X12_cause_2 : decode prog_14_method_57_code 2 = .ok (.aload_n 0, 1) := by decide +kernel
theorem d_X12_cause_3 : decode prog_14_method_57_code 3 = .ok (.getfield 507, 3) := by decide +kernel
theorem d_X12_cause_6 : decode prog_14_method_57_code 6 = .ok (.iconst 1, 1) := by decide +kernel
theorem d_X12_cause_7 : decode prog_14_method_57_code 7 = .ok (.isub, 1) := by decide +kernel
theorem d_X12_cause_8 : decode prog_14_method_57_code 8 = .ok (.invokestatic 323, 3) := by decide +kernel
theorem d_X12_cause_11 : decode prog_14_method_57_code 11 = .ok (.ifCond .eq 36, 3) := by decide +kernel
theorem d_X12_cause_14 : decode prog_14_method_57_code 14 = .ok (.aload_n 0, 1) := by decide +kernel
theorem d_X12_cause_15 : decode prog_14_method_57_code 15 = .ok (.iload_n 1, 1) := by decide +kernel
theorem d_X12_cause_16 : decode prog_14_method_57_code 16 = .ok (.aload_n 0, 1) := by decide +kernel
theorem d_X12_cause_17 : decode prog_14_method_57_code 17 = .ok (.getfield 342, 3) := by decide +kernel
theorem d_X12_cause_20 : decode prog_14_method_57_code 20 = .ok (.invokevirtual 510, 3) := by decide +kernel
theorem d_X12_cause_23 : decode prog_14_method_57_code 23 = .ok (.iconst 2, 1) := by decide +kernel
theorem d_X12_cause_24 : decode prog_14_method_57_code 24 = .ok (.if_icmp .ne 23, 3) := by decide +kernel
theorem d_X12_cause_27 : decode prog_14_method_57_code 27 = .ok (.iload_n 2, 1) := by decide +kernel
theorem d_X12_cause_28 : decode prog_14_method_57_code 28 = .ok (.iconst 1, 1) := by decide +kernel
theorem d_X12_cause_29 : decode prog_14_method_57_code 29 = .ok (.bipush 9, 2) := by decide +kernel
theorem d_X12_cause_31 : decode prog_14_method_57_code 31 = .ok (.invokestatic 323, 3) := by decide +kernel
theorem d_X12_cause_34 : decode prog_14_method_57_code 34 = .ok (.ifCond .eq 13, 3) := by decide +kernel
theorem d_X12_cause_37 : decode prog_14_method_57_code 37 = .ok (.aload_n 0, 1) := by decide +kernel
theorem d_X12_cause_38 : decode prog_14_method_57_code 38 = .ok (.getfield 504, 3) := by decide +kernel
theorem d_X12_cause_41 : decode prog_14_method_57_code 41 = .ok (.sipush 200, 3) := by decide +kernel
theorem d_X12_cause_44 : decode prog_14_method_57_code 44 = .ok (.if_icmp .ne 5, 3) := by decide +kernel
theorem d_X12_cause_47 : decode prog_14_method_57_code 47 = .ok (.iconst 0, 1) := by decide +kernel
theorem d_X12_cause_48 : decode prog_14_method_57_code 48 = .ok (.ireturn, 1) := by decide +kernel
theorem d_X12_cause_49 : decode prog_14_method_57_code 49 = .ok (.aload_n 0, 1) := by decide +kernel
theorem d_X12_cause_50 : decode prog_14_method_57_code 50 = .ok (.getfield 147, 3) := by decide +kernel
theorem d_X12_cause_53 : decode prog_14_method_57_code 53 = .ok (.aload_n 0, 1) := by decide +kernel
theorem d_X12_cause_54 : decode prog_14_method_57_code 54 = .ok (.getfield 504, 3) := by decide +kernel
theorem d_X12_cause_57 : decode prog_14_method_57_code 57 = .ok (.iload_n 1, 1) := by decide +kernel
theorem d_X12_cause_58 : decode prog_14_method_57_code 58 = .ok (.iastore, 1) := by decide +kernel
theorem d_X12_cause_59 : decode prog_14_method_57_code 59 = .ok (.aload_n 0, 1) := by decide +kernel
theorem d_X12_cause_60 : decode prog_14_method_57_code 60 = .ok (.getfield 150, 3) := by decide +kernel
theorem d_X12_cause_63 : decode prog_14_method_57_code 63 = .ok (.aload_n 0, 1) := by decide +kernel
theorem d_X12_cause_64 : decode prog_14_method_57_code 64 = .ok (.getfield 504, 3) := by decide +kernel
theorem d_X12_cause_67 : decode prog_14_method_57_code 67 = .ok (.iload_n 2, 1) := by decide +kernel
theorem d_X12_cause_68 : decode prog_14_method_57_code 68 = .ok (.iastore, 1) := by decide +kernel
theorem d_X12_cause_69 : decode prog_14_method_57_code 69 = .ok (.aload_n 0, 1) := by decide +kernel
theorem d_X12_cause_70 : decode prog_14_method_57_code 70 = .ok (.getfield 153, 3) := by decide +kernel
theorem d_X12_cause_73 : decode prog_14_method_57_code 73 = .ok (.aload_n 0, 1) := by decide +kernel
theorem d_X12_cause_74 : decode prog_14_method_57_code 74 = .ok (.getfield 504, 3) := by decide +kernel
theorem d_X12_cause_77 : decode prog_14_method_57_code 77 = .ok (.aload_n 0, 1) := by decide +kernel
theorem d_X12_cause_78 : decode prog_14_method_57_code 78 = .ok (.getfield 342, 3) := by decide +kernel
theorem d_X12_cause_81 : decode prog_14_method_57_code 81 = .ok (.iastore, 1) := by decide +kernel
theorem d_X12_cause_82 : decode prog_14_method_57_code 82 = .ok (.aload_n 0, 1) := by decide +kernel
theorem d_X12_cause_83 : decode prog_14_method_57_code 83 = .ok (.dup, 1) := by decide +kernel
theorem d_X12_cause_84 : decode prog_14_method_57_code 84 = .ok (.getfield 504, 3) := by decide +kernel
theorem d_X12_cause_87 : decode prog_14_method_57_code 87 = .ok (.iconst 1, 1) := by decide +kernel
theorem d_X12_cause_88 : decode prog_14_method_57_code 88 = .ok (.iadd, 1) := by decide +kernel
theorem d_X12_cause_89 : decode prog_14_method_57_code 89 = .ok (.putfield 504, 3) := by decide +kernel
theorem d_X12_cause_92 : decode prog_14_method_57_code 92 = .ok (.iconst 1, 1) := by decide +kernel
theorem d_X12_cause_93 : decode prog_14_method_57_code 93 = .ok (.ireturn, 1) := by decide +kernel
theorem d_X12_causes_0 : decode prog_14_method_58_code 0 = .ok (.iload_n 1, 1) := by decide +kernel
theorem d_X12_causes_1 : decode prog_14_method_58_code 1 = .ok (.iconst 1, 1) := by decide +kernel
theorem d_X12_causes_2 : decode prog_14_method_58_code 2 = .ok (.bipush 9, 2) := by decide +kernel
theorem d_X12_causes_4 : decode prog_14_method_58_code 4 = .ok (.invokestatic 323, 3) := by decide +kernel
theorem d_X12_causes_7 : decode prog_14_method_58_code 7 = .ok (.ifCond .eq 11, 3) := by decide +kernel
theorem d_X12_causes_10 : decode prog_14_method_58_code 10 = .ok (.aload_n 0, 1) := by decide +kernel
theorem d_X12_causes_11 : decode prog_14_method_58_code 11 = .ok (.iload_n 2, 1) := by decide +kernel
theorem d_X12_causes_12 : decode prog_14_method_58_code 12 = .ok (.invokevirtual 351, 3) := by decide +kernel
theorem d_X12_causes_15 : decode prog_14_method_58_code 15 = .ok (.ifCond .ne 5, 3) := by decide +kernel
theorem d_X12_causes_18 : decode prog_14_method_58_code 18 = .ok (.iconst (-1), 1) := by decide +kernel
theorem d_X12_causes_19 : decode prog_14_method_58_code 19 = .ok (.ireturn, 1) := by decide +kernel
theorem d_X12_causes_20 : decode prog_14_method_58_code 20 = .ok (.iconst 0, 1) := by decide +kernel
theorem d_X12_causes_21 : decode prog_14_method_58_code 21 = .ok (.istore_n 3, 1) := by decide +kernel
theorem d_X12_causes_22 : decode prog_14_method_58_code 22 = .ok (.iconst 0, 1) := by decide +kernel
theorem d_X12_causes_23 : decode prog_14_method_58_code 23 = .ok (.istore 4, 2) := by decide +kernel
theorem d_X12_causes_25 : decode prog_14_method_58_code 25 = .ok (.iload 4, 2) := by decide +kernel
theorem d_X12_causes_27 : decode prog_14_method_58_code 27 = .ok (.aload_n 0, 1) := by decide +kernel
theorem d_X12_causes_28 : decode prog_14_method_58_code 28 = .ok (.getfield 507, 3) := by decide +kernel
theorem d_X12_causes_31 : decode prog_14_method_58_code 31 = .ok (.if_icmp .ge 39, 3) := by decide +kernel
theorem d_X12_causes_34 : decode prog_14_method_58_code 34 = .ok (.iload_n 3, 1) := by decide +kernel
theorem d_X12_causes_35 : decode prog_14_method_58_code 35 = .ok (.aload_n 0, 1) := by decide +kernel
theorem d_X12_causes_36 : decode prog_14_method_58_code 36 = .ok (.iload 4, 2) := by decide +kernel
theorem d_X12_causes_38 : decode prog_14_method_58_code 38 = .ok (.iload_n 2, 1) := by decide +kernel
theorem d_X12_causes_39 : decode prog_14_method_58_code 39 = .ok (.invokevirtual 510, 3) := by decide +kernel
theorem d_X12_causes_42 : decode prog_14_method_58_code 42 = .ok (.iconst 2, 1) := by decide +kernel
theorem d_X12_causes_43 : decode prog_14_method_58_code 43 = .ok (.if_icmp .ne 18, 3) := by decide +kernel
theorem d_X12_causes_46 : decode prog_14_method_58_code 46 = .ok (.aload_n 0, 1) := by decide +kernel
theorem d_X12_causes_47 : decode prog_14_method_58_code 47 = .ok (.iload 4, 2) := by decide +kernel
theorem d_X12_causes_49 : decode prog_14_method_58_code 49 = .ok (.iload_n 2, 1) := by decide +kernel
theorem d_X12_causes_50 : decode prog_14_method_58_code 50 = .ok (.invokevirtual 513, 3) := by decide +kernel
theorem d_X12_causes_53 : decode prog_14_method_58_code 53 = .ok (.iload_n 1, 1) := by decide +kernel
theorem d_X12_causes_54 : decode prog_14_method_58_code 54 = .ok (.if_icmp .ne 7, 3) := by decide +kernel
theorem d_X12_causes_57 : decode prog_14_method_58_code 57 = .ok (.iconst 1, 1) := by decide +kernel
theorem d_X12_causes_58 : decode prog_14_method_58_code 58 = .ok (.goto 4, 3) := by decide +kernel
theorem d_X12_causes_61 : decode prog_14_method_58_code 61 = .ok (.iconst 0, 1) := by decide +kernel
theorem d_X12_causes_62 : decode prog_14_method_58_code 62 = .ok (.iadd, 1) := by decide +kernel
theorem d_X12_causes_63 : decode prog_14_method_58_code 63 = .ok (.istore_n 3, 1) := by decide +kernel
theorem d_X12_causes_64 : decode prog_14_method_58_code 64 = .ok (.iinc 4 1, 3) := by decide +kernel
theorem d_X12_causes_67 : decode prog_14_method_58_code 67 = .ok (.goto (-42), 3) := by decide +kernel
theorem d_X12_causes_70 : decode prog_14_method_58_code 70 = .ok (.iload_n 3, 1) := by decide +kernel
theorem d_X12_causes_71 : decode prog_14_method_58_code 71 = .ok (.ireturn, 1) := by decide +kernel
theorem d_X12_free_0 : decode prog_14_method_59_code 0 = .ok (.aload_n 0, 1) := by decide +kernel
theorem d_X12_free_1 : decode prog_14_method_59_code 1 = .ok (.getfield 34, 3) := by decide +kernel
theorem d_X12_free_4 : decode prog_14_method_59_code 4 = .ok (.iload_n 1, 1) := by decide +kernel
theorem d_X12_free_5 : decode prog_14_method_59_code 5 = .ok (.iconst 0, 1) := by decide +kernel
theorem d_X12_free_6 : decode prog_14_method_59_code 6 = .ok (.iastore, 1) := by decide +kernel
theorem d_X12_free_7 : decode prog_14_method_59_code 7 = .ok (.aload_n 0, 1) := by decide +kernel
theorem d_X12_free_8 : decode prog_14_method_59_code 8 = .ok (.getfield 37, 3) := by decide +kernel
theorem d_X12_free_11 : decode prog_14_method_59_code 11 = .ok (.iload_n 1, 1) := by decide +kernel
theorem d_X12_free_12 : decode prog_14_method_59_code 12 = .ok (.aload_n 0, 1) := by decide +kernel
theorem d_X12_free_13 : decode prog_14_method_59_code 13 = .ok (.getfield 28, 3) := by decide +kernel
theorem d_X12_free_16 : decode prog_14_method_59_code 16 = .ok (.iload_n 1, 1) := by decide +kernel
theorem d_X12_free_17 : decode prog_14_method_59_code 17 = .ok (.iaload, 1) := by decide +kernel
theorem d_X12_free_18 : decode prog_14_method_59_code 18 = .ok (.iastore, 1) := by decide +kernel
theorem d_X12_free_19 : decode prog_14_method_59_code 19 = .ok (.aload_n 0, 1) := by decide +kernel
theorem d_X12_free_20 : decode prog_14_method_59_code 20 = .ok (.getfield 40, 3) := by decide +kernel
theorem d_X12_free_23 : decode prog_14_method_59_code 23 = .ok (.iload_n 1, 1) := by decide +kernel
theorem d_X12_free_24 : decode prog_14_method_59_code 24 = .ok (.iconst (-1), 1) := by decide +kernel
theorem d_X12_free_25 : decode prog_14_method_59_code 25 = .ok (.iastore, 1) := by decide +kernel
theorem d_X12_free_26 : decode prog_14_method_59_code 26 = .ok (.aload_n 0, 1) := by decide +kernel
theorem d_X12_free_27 : decode prog_14_method_59_code 27 = .ok (.getfield 43, 3) := by decide +kernel
theorem d_X12_free_30 : decode prog_14_method_59_code 30 = .ok (.iload_n 1, 1) := by decide +kernel
theorem d_X12_free_31 : decode prog_14_method_59_code 31 = .ok (.iconst (-1), 1) := by decide +kernel
theorem d_X12_free_32 : decode prog_14_method_59_code 32 = .ok (.iastore, 1) := by decide +kernel
theorem d_X12_free_33 : decode prog_14_method_59_code 33 = .ok (.aload_n 0, 1) := by decide +kernel
theorem d_X12_free_34 : decode prog_14_method_59_code 34 = .ok (.getfield 49, 3) := by decide +kernel
theorem d_X12_free_37 : decode prog_14_method_59_code 37 = .ok (.iload_n 1, 1) := by decide +kernel
theorem d_X12_free_38 : decode prog_14_method_59_code 38 = .ok (.iconst (-1), 1) := by decide +kernel
theorem d_X12_free_39 : decode prog_14_method_59_code 39 = .ok (.iastore, 1) := by decide +kernel
theorem d_X12_free_40 : decode prog_14_method_59_code 40 = .ok (.iconst 0, 1) := by decide +kernel
theorem d_X12_free_41 : decode prog_14_method_59_code 41 = .ok (.istore_n 2, 1) := by decide +kernel
theorem d_X12_free_42 : decode prog_14_method_59_code 42 = .ok (.iload_n 2, 1) := by decide +kernel
theorem d_X12_free_43 : decode prog_14_method_59_code 43 = .ok (.aload_n 0, 1) := by decide +kernel
theorem d_X12_free_44 : decode prog_14_method_59_code 44 = .ok (.getfield 516, 3) := by decide +kernel
theorem d_X12_free_47 : decode prog_14_method_59_code 47 = .ok (.if_icmp .ge 49, 3) := by decide +kernel
theorem d_X12_free_50 : decode prog_14_method_59_code 50 = .ok (.aload_n 0, 1) := by decide +kernel
theorem d_X12_free_51 : decode prog_14_method_59_code 51 = .ok (.getfield 178, 3) := by decide +kernel
theorem d_X12_free_54 : decode prog_14_method_59_code 54 = .ok (.iload_n 2, 1) := by decide +kernel
theorem d_X12_free_55 : decode prog_14_method_59_code 55 = .ok (.iaload, 1) := by decide +kernel
theorem d_X12_free_56 : decode prog_14_method_59_code 56 = .ok (.iload_n 1, 1) := by decide +kernel
theorem d_X12_free_57 : decode prog_14_method_59_code 57 = .ok (.if_icmp .ne 33, 3) := by decide +kernel
theorem d_X12_free_60 : decode prog_14_method_59_code 60 = .ok (.aload_n 0, 1) := by decide +kernel
theorem d_X12_free_61 : decode prog_14_method_59_code 61 = .ok (.getfield 187, 3) := by decide +kernel
theorem d_X12_free_64 : decode prog_14_method_59_code 64 = .ok (.iload_n 2, 1) := by decide +kernel
theorem d_X12_free_65 : decode prog_14_method_59_code 65 = .ok (.iaload, 1) := by decide +kernel
theorem d_X12_free_66 : decode prog_14_method_59_code 66 = .ok (.iconst 1, 1) := by decide +kernel
theorem d_X12_free_67 : decode prog_14_method_59_code 67 = .ok (.if_icmp .ne 23, 3) := by decide +kernel
theorem d_X12_free_70 : decode prog_14_method_59_code 70 = .ok (.aload_n 0, 1) := by decide +kernel
theorem d_X12_free_71 : decode prog_14_method_59_code 71 = .ok (.getfield 193, 3) := by decide +kernel
theorem d_X12_free_74 : decode prog_14_method_59_code 74 = .ok (.iload_n 2, 1) := by decide +kernel
theorem d_X12_free_75 : decode prog_14_method_59_code 75 = .ok (.iaload, 1) := by decide +kernel
theorem d_X12_free_76 : decode prog_14_method_59_code 76 = .ok (.iconst (-1), 1) := by decide +kernel
theorem d_X12_free_77 : decode prog_14_method_59_code 77 = .ok (.if_icmp .ne 13, 3) := by decide +kernel
theorem d_X12_free_80 : decode prog_14_method_59_code 80 = .ok (.aload_n 0, 1) := by decide +kernel
theorem d_X12_free_81 : decode prog_14_method_59_code 81 = .ok (.getfield 193, 3) := by decide +kernel
theorem d_X12_free_84 : decode prog_14_method_59_code 84 = .ok (.iload_n 2, 1) := by decide +kernel
theorem d_X12_free_85 : decode prog_14_method_59_code 85 = .ok (.aload_n 0, 1) := by decide +kernel
theorem d_X12_free_86 : decode prog_14_method_59_code 86 = .ok (.getfield 342, 3) := by decide +kernel
theorem d_X12_free_89 : decode prog_14_method_59_code 89 = .ok (.iastore, 1) := by decide +kernel
theorem d_X12_free_90 : decode prog_14_method_59_code 90 = .ok (.iinc 2 1, 3) := by decide +kernel
theorem d_X12_free_93 : decode prog_14_method_59_code 93 = .ok (.goto (-51), 3) := by decide +kernel
theorem d_X12_free_96 : decode prog_14_method_59_code 96 = .ok (.return_, 1) := by decide +kernel
theorem d_X12_setOut_0 : decode prog_14_method_60_code 0 = .ok (.aload_n 0, 1) := by decide +kernel
theorem d_X12_setOut_1 : decode prog_14_method_60_code 1 = .ok (.aload_n 0, 1) := by decide +kernel
theorem d_X12_setOut_2 : decode prog_14_method_60_code 2 = .ok (.getfield 37, 3) := by decide +kernel
theorem d_X12_setOut_5 : decode prog_14_method_60_code 5 = .ok (.iload_n 1, 1) := by decide +kernel
theorem d_X12_setOut_6 : decode prog_14_method_60_code 6 = .ok (.iaload, 1) := by decide +kernel
theorem d_X12_setOut_7 : decode prog_14_method_60_code 7 = .ok (.iload_n 2, 1) := by decide +kernel
theorem d_X12_setOut_8 : decode prog_14_method_60_code 8 = .ok (.invokevirtual 335, 3) := by decide +kernel
theorem d_X12_setOut_11 : decode prog_14_method_60_code 11 = .ok (.istore_n 3, 1) := by decide +kernel
theorem d_X12_setOut_12 : decode prog_14_method_60_code 12 = .ok (.iload_n 3, 1) := by decide +kernel
theorem d_X12_setOut_13 : decode prog_14_method_60_code 13 = .ok (.ifCond .ne 4, 3) := by decide +kernel
theorem d_X12_setOut_16 : decode prog_14_method_60_code 16 = .ok (.return_, 1) := by decide +kernel
theorem d_X12_setOut_17 : decode prog_14_method_60_code 17 = .ok (.aload_n 0, 1) := by decide +kernel
theorem d_X12_setOut_18 : decode prog_14_method_60_code 18 = .ok (.getfield 37, 3) := by decide +kernel
theorem d_X12_setOut_21 : decode prog_14_method_60_code 21 = .ok (.iload_n 1, 1) := by decide +kernel
theorem d_X12_setOut_22 : decode prog_14_method_60_code 22 = .ok (.iconst (-1), 1) := by decide +kernel
theorem d_X12_setOut_23 : decode prog_14_method_60_code 23 = .ok (.iastore, 1) := by decide +kernel
theorem d_X12_setOut_24 : decode prog_14_method_60_code 24 = .ok (.aload_n 0, 1) := by decide +kernel
theorem d_X12_setOut_25 : decode prog_14_method_60_code 25 = .ok (.getfield 40, 3) := by decide +kernel
theorem d_X12_setOut_28 : decode prog_14_method_60_code 28 = .ok (.iload_n 1, 1) := by decide +kernel
theorem d_X12_setOut_29 : decode prog_14_method_60_code 29 = .ok (.iload_n 2, 1) := by decide +kernel
theorem d_X12_setOut_30 : decode prog_14_method_60_code 30 = .ok (.iastore, 1) := by decide +kernel
theorem d_X12_setOut_31 : decode prog_14_method_60_code 31 = .ok (.aload_n 0, 1) := by decide +kernel
theorem d_X12_setOut_32 : decode prog_14_method_60_code 32 = .ok (.getfield 43, 3) := by decide +kernel
theorem d_X12_setOut_35 : decode prog_14_method_60_code 35 = .ok (.iload_n 1, 1) := by decide +kernel
theorem d_X12_setOut_36 : decode prog_14_method_60_code 36 = .ok (.aload_n 0, 1) := by decide +kernel
theorem d_X12_setOut_37 : decode prog_14_method_60_code 37 = .ok (.getfield 342, 3) := by decide +kernel
theorem d_X12_setOut_40 : decode prog_14_method_60_code 40 = .ok (.iload_n 3, 1) := by decide +kernel
theorem d_X12_setOut_41 : decode prog_14_method_60_code 41 = .ok (.iadd, 1) := by decide +kernel
theorem d_X12_setOut_42 : decode prog_14_method_60_code 42 = .ok (.iastore, 1) := by decide +kernel
theorem d_X12_setOut_43 : decode prog_14_method_60_code 43 = .ok (.return_, 1) := by decide +kernel
theorem d_X12_goHome_0 : decode prog_14_method_61_code 0 = .ok (.aload_n 0, 1) := by decide +kernel
theorem d_X12_goHome_1 : decode prog_14_method_61_code 1 = .ok (.getfield 34, 3) := by decide +kernel
theorem d_X12_goHome_4 : decode prog_14_method_61_code 4 = .ok (.iload_n 1, 1) := by decide +kernel
theorem d_X12_goHome_5 : decode prog_14_method_61_code 5 = .ok (.iconst 2, 1) := by decide +kernel
theorem d_X12_goHome_6 : decode prog_14_method_61_code 6 = .ok (.iastore, 1) := by decide +kernel
theorem d_X12_goHome_7 : decode prog_14_method_61_code 7 = .ok (.aload_n 0, 1) := by decide +kernel
theorem d_X12_goHome_8 : decode prog_14_method_61_code 8 = .ok (.getfield 49, 3) := by decide +kernel
theorem d_X12_goHome_11 : decode prog_14_method_61_code 11 = .ok (.iload_n 1, 1) := by decide +kernel
theorem d_X12_goHome_12 : decode prog_14_method_61_code 12 = .ok (.iconst (-1), 1) := by decide +kernel
theorem d_X12_goHome_13 : decode prog_14_method_61_code 13 = .ok (.iastore, 1) := by decide +kernel
theorem d_X12_goHome_14 : decode prog_14_method_61_code 14 = .ok (.aload_n 0, 1) := by decide +kernel
theorem d_X12_goHome_15 : decode prog_14_method_61_code 15 = .ok (.getfield 43, 3) := by decide +kernel
theorem d_X12_goHome_18 : decode prog_14_method_61_code 18 = .ok (.iload_n 1, 1) := by decide +kernel
theorem d_X12_goHome_19 : decode prog_14_method_61_code 19 = .ok (.iconst (-1), 1) := by decide +kernel
theorem d_X12_goHome_20 : decode prog_14_method_61_code 20 = .ok (.iastore, 1) := by decide +kernel
theorem d_X12_goHome_21 : decode prog_14_method_61_code 21 = .ok (.aload_n 0, 1) := by decide +kernel
theorem d_X12_goHome_22 : decode prog_14_method_61_code 22 = .ok (.aload_n 0, 1) := by decide +kernel
theorem d_X12_goHome_23 : decode prog_14_method_61_code 23 = .ok (.getfield 37, 3) := by decide +kernel
theorem d_X12_goHome_26 : decode prog_14_method_61_code 26 = .ok (.iload_n 1, 1) := by decide +kernel
theorem d_X12_goHome_27 : decode prog_14_method_61_code 27 = .ok (.iaload, 1) := by decide +kernel
theorem d_X12_goHome_28 : decode prog_14_method_61_code 28 = .ok (.aload_n 0, 1) := by decide +kernel
theorem d_X12_goHome_29 : decode prog_14_method_61_code 29 = .ok (.getfield 28, 3) := by decide +kernel
theorem d_X12_goHome_32 : decode prog_14_method_61_code 32 = .ok (.iload_n 1, 1) := by decide +kernel
theorem d_X12_goHome_33 : decode prog_14_method_61_code 33 = .ok (.iaload, 1) := by decide +kernel
theorem d_X12_goHome_34 : decode prog_14_method_61_code 34 = .ok (.invokevirtual 335, 3) := by decide +kernel
theorem d_X12_goHome_37 : decode prog_14_method_61_code 37 = .ok (.istore_n 2, 1) := by decide +kernel
theorem d_X12_goHome_38 : decode prog_14_method_61_code 38 = .ok (.iload_n 2, 1) := by decide +kernel
theorem d_X12_goHome_39 : decode prog_14_method_61_code 39 = .ok (.iconst (-1), 1) := by decide +kernel
theorem d_X12_goHome_40 : decode prog_14_method_61_code 40 = .ok (.if_icmp .eq 7, 3) := by decide +kernel
theorem d_X12_goHome_43 : decode prog_14_method_61_code 43 = .ok (.iload_n 2, 1) := by decide +kernel
theorem d_X12_goHome_44 : decode prog_14_method_61_code 44 = .ok (.ifCond .ne 9, 3) := by decide +kernel
theorem d_X12_goHome_47 : decode prog_14_method_61_code 47 = .ok (.aload_n 0, 1) := by decide +kernel
theorem d_X12_goHome_48 : decode prog_14_method_61_code 48 = .ok (.iload_n 1, 1) := by decide +kernel
theorem d_X12_goHome_49 : decode prog_14_method_61_code 49 = .ok (.invokevirtual 519, 3) := by decide +kernel
theorem d_X12_goHome_52 : decode prog_14_method_61_code 52 = .ok (.return_, 1) := by decide +kernel
theorem d_X12_goHome_53 : decode prog_14_method_61_code 53 = .ok (.aload_n 0, 1) := by decide +kernel
theorem d_X12_goHome_54 : decode prog_14_method_61_code 54 = .ok (.iload_n 1, 1) := by decide +kernel
theorem d_X12_goHome_55 : decode prog_14_method_61_code 55 = .ok (.aload_n 0, 1) := by decide +kernel
theorem d_X12_goHome_56 : decode prog_14_method_61_code 56 = .ok (.getfield 28, 3) := by decide +kernel
theorem d_X12_goHome_59 : decode prog_14_method_61_code 59 = .ok (.iload_n 1, 1) := by decide +kernel
theorem d_X12_goHome_60 : decode prog_14_method_61_code 60 = .ok (.iaload, 1) := by decide +kernel
theorem d_X12_goHome_61 : decode prog_14_method_61_code 61 = .ok (.invokevirtual 522, 3) := by decide +kernel
theorem d_X12_goHome_64 : decode prog_14_method_61_code 64 = .ok (.return_, 1) := by decide +kernel
theorem d_X12_stay_0 : decode prog_14_method_62_code 0 = .ok (.aload_n 0, 1) := by decide +kernel
theorem d_X12_stay_1 : decode prog_14_method_62_code 1 = .ok (.getfield 67, 3) := by decide +kernel
theorem d_X12_stay_4 : decode prog_14_method_62_code 4 = .ok (.iload_n 1, 1) := by decide +kernel
theorem d_X12_stay_5 : decode prog_14_method_62_code 5 = .ok (.iaload, 1) := by decide +kernel
theorem d_X12_stay_6 : decode prog_14_method_62_code 6 = .ok (.aload_n 0, 1) := by decide +kernel
theorem d_X12_stay_7 : decode prog_14_method_62_code 7 = .ok (.getfield 342, 3) := by decide +kernel
theorem d_X12_stay_10 : decode prog_14_method_62_code 10 = .ok (.if_icmp .gt 11, 3) := by decide +kernel
theorem d_X12_stay_13 : decode prog_14_method_62_code 13 = .ok (.aload_n 0, 1) := by decide +kernel
theorem d_X12_stay_14 : decode prog_14_method_62_code 14 = .ok (.iload_n 1, 1) := by decide +kernel
theorem d_X12_stay_15 : decode prog_14_method_62_code 15 = .ok (.invokevirtual 525, 3) := by decide +kernel
theorem d_X12_stay_18 : decode prog_14_method_62_code 18 = .ok (.goto 15, 3) := by decide +kernel
theorem d_X12_stay_21 : decode prog_14_method_62_code 21 = .ok (.aload_n 0, 1) := by decide +kernel
theorem d_X12_stay_22 : decode prog_14_method_62_code 22 = .ok (.getfield 43, 3) := by decide +kernel
theorem d_X12_stay_25 : decode prog_14_method_62_code 25 = .ok (.iload_n 1, 1) := by decide +kernel
theorem d_X12_stay_26 : decode prog_14_method_62_code 26 = .ok (.aload_n 0, 1) := by decide +kernel
theorem d_X12_stay_27 : decode prog_14_method_62_code 27 = .ok (.getfield 67, 3) := by decide +kernel
theorem d_X12_stay_30 : decode prog_14_method_62_code 30 = .ok (.iload_n 1, 1) := by decide +kernel
theorem d_X12_stay_31 : decode prog_14_method_62_code 31 = .ok (.iaload, 1) := by decide +kernel
theorem d_X12_stay_32 : decode prog_14_method_62_code 32 = .ok (.iastore, 1) := by decide +kernel
theorem d_X12_stay_33 : decode prog_14_method_62_code 33 = .ok (.return_, 1) := by decide +kernel
theorem d_X12_goDrawn_0 : decode prog_14_method_63_code 0 = .ok (.aload_n 0, 1) := by decide +kernel
theorem d_X12_goDrawn_1 : decode prog_14_method_63_code 1 = .ok (.getfield 43, 3) := by decide +kernel
theorem d_X12_goDrawn_4 : decode prog_14_method_63_code 4 = .ok (.iload_n 1, 1) := by decide +kernel
theorem d_X12_goDrawn_5 : decode prog_14_method_63_code 5 = .ok (.iconst (-1), 1) := by decide +kernel
theorem d_X12_goDrawn_6 : decode prog_14_method_63_code 6 = .ok (.iastore, 1) := by decide +kernel
theorem d_X12_goDrawn_7 : decode prog_14_method_63_code 7 = .ok (.aload_n 0, 1) := by decide +kernel
theorem d_X12_goDrawn_8 : decode prog_14_method_63_code 8 = .ok (.iload_n 1, 1) := by decide +kernel
theorem d_X12_goDrawn_9 : decode prog_14_method_63_code 9 = .ok (.aload_n 0, 1) := by decide +kernel
theorem d_X12_goDrawn_10 : decode prog_14_method_63_code 10 = .ok (.getfield 64, 3) := by decide +kernel
theorem d_X12_goDrawn_13 : decode prog_14_method_63_code 13 = .ok (.iload_n 1, 1) := by decide +kernel
theorem d_X12_goDrawn_14 : decode prog_14_method_63_code 14 = .ok (.iaload, 1) := by decide +kernel
theorem d_X12_goDrawn_15 : decode prog_14_method_63_code 15 = .ok (.invokevirtual 522, 3) := by decide +kernel
theorem d_X12_goDrawn_18 : decode prog_14_method_63_code 18 = .ok (.aload_n 0, 1) := by decide +kernel
theorem d_X12_goDrawn_19 : decode prog_14_method_63_code 19 = .ok (.getfield 40, 3) := by decide +kernel
theorem d_X12_goDrawn_22 : decode prog_14_method_63_code 22 = .ok (.iload_n 1, 1) := by decide +kernel
theorem d_X12_goDrawn_23 : decode prog_14_method_63_code 23 = .ok (.iaload, 1) := by decide +kernel
theorem d_X12_goDrawn_24 : decode prog_14_method_63_code 24 = .ok (.iconst (-1), 1) := by decide +kernel
theorem d_X12_goDrawn_25 : decode prog_14_method_63_code 25 = .ok (.if_icmp .ne 8, 3) := by decide +kernel
theorem d_X12_goDrawn_28 : decode prog_14_method_63_code 28 = .ok (.aload_n 0, 1) := by decide +kernel
theorem d_X12_goDrawn_29 : decode prog_14_method_63_code 29 = .ok (.iload_n 1, 1) := by decide +kernel
theorem d_X12_goDrawn_30 : decode prog_14_method_63_code 30 = .ok (.invokevirtual 528, 3) := by decide +kernel
theorem d_X12_goDrawn_33 : decode prog_14_method_63_code 33 = .ok (.return_, 1) := by decide +kernel
theorem d_X12_comes_0 : decode prog_14_method_64_code 0 = .ok (.aload_n 0, 1) := by decide +kernel
theorem d_X12_comes_1 : decode prog_14_method_64_code 1 = .ok (.getfield 52, 3) := by decide +kernel
theorem d_X12_comes_4 : decode prog_14_method_64_code 4 = .ok (.iload_n 1, 1) := by decide +kernel
theorem d_X12_comes_5 : decode prog_14_method_64_code 5 = .ok (.iaload, 1) := by decide +kernel
theorem d_X12_comes_6 : decode prog_14_method_64_code 6 = .ok (.iload_n 2, 1) := by decide +kernel
theorem d_X12_comes_7 : decode prog_14_method_64_code 7 = .ok (.iadd, 1) := by decide +kernel
theorem d_X12_comes_8 : decode prog_14_method_64_code 8 = .ok (.istore_n 3, 1) := by decide +kernel
theorem d_X12_comes_9 : decode prog_14_method_64_code 9 = .ok (.aload_n 0, 1) := by decide +kernel
theorem d_X12_comes_10 : decode prog_14_method_64_code 10 = .ok (.getfield 58, 3) := by decide +kernel
theorem d_X12_comes_13 : decode prog_14_method_64_code 13 = .ok (.iload_n 1, 1) := by decide +kernel
theorem d_X12_comes_14 : decode prog_14_method_64_code 14 = .ok (.iaload, 1) := by decide +kernel
theorem d_X12_comes_15 : decode prog_14_method_64_code 15 = .ok (.istore 4, 2) := by decide +kernel
theorem d_X12_comes_17 : decode prog_14_method_64_code 17 = .ok (.aload_n 0, 1) := by decide +kernel
theorem d_X12_comes_18 : decode prog_14_method_64_code 18 = .ok (.getfield 58, 3) := by decide +kernel
theorem d_X12_comes_21 : decode prog_14_method_64_code 21 = .ok (.iload_n 1, 1) := by decide +kernel
theorem d_X12_comes_22 : decode prog_14_method_64_code 22 = .ok (.dup2, 1) := by decide +kernel
theorem d_X12_comes_23 : decode prog_14_method_64_code 23 = .ok (.iaload, 1) := by decide +kernel
theorem d_X12_comes_24 : decode prog_14_method_64_code 24 = .ok (.iconst 1, 1) := by decide +kernel
theorem d_X12_comes_25 : decode prog_14_method_64_code 25 = .ok (.iadd, 1) := by decide +kernel
theorem d_X12_comes_26 : decode prog_14_method_64_code 26 = .ok (.iastore, 1) := by decide +kernel
theorem d_X12_comes_27 : decode prog_14_method_64_code 27 = .ok (.aload_n 0, 1) := by decide +kernel
theorem d_X12_comes_28 : decode prog_14_method_64_code 28 = .ok (.getfield 342, 3) := by decide +kernel
theorem d_X12_comes_31 : decode prog_14_method_64_code 31 = .ok (.iload_n 3, 1) := by decide +kernel
theorem d_X12_comes_32 : decode prog_14_method_64_code 32 = .ok (.if_icmp .le 12, 3) := by decide +kernel
theorem d_X12_comes_35 : decode prog_14_method_64_code 35 = .ok (.aload_n 0, 1) := by decide +kernel
theorem d_X12_comes_36 : decode prog_14_method_64_code 36 = .ok (.iload 4, 2) := by decide +kernel
theorem d_X12_comes_38 : decode prog_14_method_64_code 38 = .ok (.iconst 1, 1) := by decide +kernel
theorem d_X12_comes_39 : decode prog_14_method_64_code 39 = .ok (.invokevirtual 500, 3) := by decide +kernel
theorem d_X12_comes_42 : decode prog_14_method_64_code 42 = .ok (.iconst 0, 1) := by decide +kernel
theorem d_X12_comes_43 : decode prog_14_method_64_code 43 = .ok (.ireturn, 1) := by decide +kernel
theorem d_X12_comes_44 : decode prog_14_method_64_code 44 = .ok (.aload_n 0, 1) := by decide +kernel
theorem d_X12_comes_45 : decode prog_14_method_64_code 45 = .ok (.getfield 135, 3) := by decide +kernel
theorem d_X12_comes_48 : decode prog_14_method_64_code 48 = .ok (.iload 4, 2) := by decide +kernel
theorem d_X12_comes_50 : decode prog_14_method_64_code 50 = .ok (.aload_n 0, 1) := by decide +kernel
theorem d_X12_comes_51 : decode prog_14_method_64_code 51 = .ok (.getfield 342, 3) := by decide +kernel
theorem d_X12_comes_54 : decode prog_14_method_64_code 54 = .ok (.iastore, 1) := by decide +kernel
theorem d_X12_comes_55 : decode prog_14_method_64_code 55 = .ok (.aload_n 0, 1) := by decide +kernel
theorem d_X12_comes_56 : decode prog_14_method_64_code 56 = .ok (.getfield 342, 3) := by decide +kernel
theorem d_X12_comes_59 : decode prog_14_method_64_code 59 = .ok (.iload_n 3, 1) := by decide +kernel
theorem d_X12_comes_60 : decode prog_14_method_64_code 60 = .ok (.if_icmp .ge 12, 3) := by decide +kernel
theorem d_X12_comes_63 : decode prog_14_method_64_code 63 = .ok (.aload_n 0, 1) := by decide +kernel
theorem d_X12_comes_64 : decode prog_14_method_64_code 64 = .ok (.getfield 43, 3) := by decide +kernel
theorem d_X12_comes_67 : decode prog_14_method_64_code 67 = .ok (.iload_n 1, 1) := by decide +kernel
theorem d_X12_comes_68 : decode prog_14_method_64_code 68 = .ok (.iload_n 3, 1) := by decide +kernel
theorem d_X12_comes_69 : decode prog_14_method_64_code 69 = .ok (.iastore, 1) := by decide +kernel
theorem d_X12_comes_70 : decode prog_14_method_64_code 70 = .ok (.iconst 1, 1) := by decide +kernel
theorem d_X12_comes_71 : decode prog_14_method_64_code 71 = .ok (.ireturn, 1) := by decide +kernel
theorem d_X12_comes_72 : decode prog_14_method_64_code 72 = .ok (.iconst 0, 1) := by decide +kernel
theorem d_X12_comes_73 : decode prog_14_method_64_code 73 = .ok (.ireturn, 1) := by decide +kernel
theorem d_X12_goOn_0 : decode prog_14_method_65_code 0 = .ok (.aload_n 0, 1) := by decide +kernel
theorem d_X12_goOn_1 : decode prog_14_method_65_code 1 = .ok (.getfield 34, 3) := by decide +kernel
theorem d_X12_goOn_4 : decode prog_14_method_65_code 4 = .ok (.iload_n 1, 1) := by decide +kernel
theorem d_X12_goOn_5 : decode prog_14_method_65_code 5 = .ok (.iaload, 1) := by decide +kernel
theorem d_X12_goOn_6 : decode prog_14_method_65_code 6 = .ok (.iconst 1, 1) := by decide +kernel
theorem d_X12_goOn_7 : decode prog_14_method_65_code 7 = .ok (.if_icmp .ne 203, 3) := by decide +kernel
theorem d_X12_goOn_10 : decode prog_14_method_65_code 10 = .ok (.aload_n 0, 1) := by decide +kernel
theorem d_X12_goOn_11 : decode prog_14_method_65_code 11 = .ok (.getfield 49, 3) := by decide +kernel
theorem d_X12_goOn_14 : decode prog_14_method_65_code 14 = .ok (.iload_n 1, 1) := by decide +kernel
theorem d_X12_goOn_15 : decode prog_14_method_65_code 15 = .ok (.iaload, 1) := by decide +kernel
theorem d_X12_goOn_16 : decode prog_14_method_65_code 16 = .ok (.aload_n 0, 1) := by decide +kernel
theorem d_X12_goOn_17 : decode prog_14_method_65_code 17 = .ok (.getfield 93, 3) := by decide +kernel
theorem d_X12_goOn_20 : decode prog_14_method_65_code 20 = .ok (.aload_n 0, 1) := by decide +kernel
theorem d_X12_goOn_21 : decode prog_14_method_65_code 21 = .ok (.getfield 46, 3) := by decide +kernel
theorem d_X12_goOn_24 : decode prog_14_method_65_code 24 = .ok (.iload_n 1, 1) := by decide +kernel
theorem d_X12_goOn_25 : decode prog_14_method_65_code 25 = .ok (.iaload, 1) := by decide +kernel
theorem d_X12_goOn_26 : decode prog_14_method_65_code 26 = .ok (.iaload, 1) := by decide +kernel
theorem d_X12_goOn_27 : decode prog_14_method_65_code 27 = .ok (.if_icmp .ne 9, 3) := by decide +kernel
theorem d_X12_goOn_30 : decode prog_14_method_65_code 30 = .ok (.aload_n 0, 1) := by decide +kernel
theorem d_X12_goOn_31 : decode prog_14_method_65_code 31 = .ok (.iload_n 1, 1) := by decide +kernel
theorem d_X12_goOn_32 : decode prog_14_method_65_code 32 = .ok (.invokevirtual 525, 3) := by decide +kernel
theorem d_X12_goOn_35 : decode prog_14_method_65_code 35 = .ok (.return_, 1) := by decide +kernel
theorem d_X12_goOn_36 : decode prog_14_method_65_code 36 = .ok (.sipush 150, 3) := by decide +kernel
theorem d_X12_goOn_39 : decode prog_14_method_65_code 39 = .ok (.aload_n 0, 1) := by decide +kernel
theorem d_X12_goOn_40 : decode prog_14_method_65_code 40 = .ok (.getfield 46, 3) := by decide +kernel
theorem d_X12_goOn_43 : decode prog_14_method_65_code 43 = .ok (.iload_n 1, 1) := by decide +kernel
theorem d_X12_goOn_44 : decode prog_14_method_65_code 44 = .ok (.iaload, 1) := by decide +kernel
theorem d_X12_goOn_45 : decode prog_14_method_65_code 45 = .ok (.imul, 1) := by decide +kernel
theorem d_X12_goOn_46 : decode prog_14_method_65_code 46 = .ok (.aload_n 0, 1) := by decide +kernel
theorem d_X12_goOn_47 : decode prog_14_method_65_code 47 = .ok (.getfield 49, 3) := by decide +kernel
theorem d_X12_goOn_50 : decode prog_14_method_65_code 50 = .ok (.iload_n 1, 1) := by decide +kernel
theorem d_X12_goOn_51 : decode prog_14_method_65_code 51 = .ok (.iaload, 1) := by decide +kernel
theorem d_X12_goOn_52 : decode prog_14_method_65_code 52 = .ok (.iadd, 1) := by decide +kernel
theorem d_X12_goOn_53 : decode prog_14_method_65_code 53 = .ok (.istore_n 2, 1) := by decide +kernel
theorem d_X12_goOn_54 : decode prog_14_method_65_code 54 = .ok (.aload_n 0, 1) := by decide +kernel
theorem d_X12_goOn_55 : decode prog_14_method_65_code 55 = .ok (.getfield 96, 3) := by decide +kernel
theorem d_X12_goOn_58 : decode prog_14_method_65_code 58 = .ok (.iload_n 2, 1) := by decide +kernel
theorem d_X12_goOn_59 : decode prog_14_method_65_code 59 = .ok (.iaload, 1) := by decide +kernel
theorem d_X12_goOn_60 : decode prog_14_method_65_code 60 = .ok (.istore_n 3, 1) := by decide +kernel
theorem d_X12_goOn_61 : decode prog_14_method_65_code 61 = .ok (.aload_n 0, 1) := by decide +kernel
theorem d_X12_goOn_62 : decode prog_14_method_65_code 62 = .ok (.getfield 43, 3) := by decide +kernel
theorem d_X12_goOn_65 : decode prog_14_method_65_code 65 = .ok (.iload_n 1, 1) := by decide +kernel
theorem d_X12_goOn_66 : decode prog_14_method_65_code 66 = .ok (.iconst (-1), 1) := by decide +kernel
theorem d_X12_goOn_67 : decode prog_14_method_65_code 67 = .ok (.iastore, 1) := by decide +kernel
theorem d_X12_goOn_68 : decode prog_14_method_65_code 68 = .ok (.iload_n 3, 1) := by decide +kernel
theorem d_X12_goOn_69 : decode prog_14_method_65_code 69 = .ok (.ifCond .eq 8, 3) := by decide +kernel
theorem d_X12_goOn_72 : decode prog_14_method_65_code 72 = .ok (.iload_n 3, 1) := by decide +kernel
theorem d_X12_goOn_73 : decode prog_14_method_65_code 73 = .ok (.iconst 2, 1) := by decide +kernel
theorem d_X12_goOn_74 : decode prog_14_method_65_code 74 = .ok (.if_icmp .ne 96, 3) := by decide +kernel
theorem d_X12_goOn_77 : decode prog_14_method_65_code 77 = .ok (.aload_n 0, 1) := by decide +kernel
theorem d_X12_goOn_78 : decode prog_14_method_65_code 78 = .ok (.aload_n 0, 1) := by decide +kernel
theorem d_X12_goOn_79 : decode prog_14_method_65_code 79 = .ok (.getfield 37, 3) := by decide +kernel
theorem d_X12_goOn_82 : decode prog_14_method_65_code 82 = .ok (.iload_n 1, 1) := by decide +kernel
theorem d_X12_goOn_83 : decode prog_14_method_65_code 83 = .ok (.iaload, 1) := by decide +kernel
theorem d_X12_goOn_84 : decode prog_14_method_65_code 84 = .ok (.aload_n 0, 1) := by decide +kernel
theorem d_X12_goOn_85 : decode prog_14_method_65_code 85 = .ok (.getfield 99, 3) := by decide +kernel
theorem d_X12_goOn_88 : decode prog_14_method_65_code 88 = .ok (.iload_n 2, 1) := by decide +kernel
theorem d_X12_goOn_89 : decode prog_14_method_65_code 89 = .ok (.iaload, 1) := by decide +kernel
theorem d_X12_goOn_90 : decode prog_14_method_65_code 90 = .ok (.invokevirtual 335, 3) := by decide +kernel
theorem d_X12_goOn_93 : decode prog_14_method_65_code 93 = .ok (.istore 4, 2) := by decide +kernel
theorem d_X12_goOn_95 : decode prog_14_method_65_code 95 = .ok (.iload 4, 2) := by decide +kernel
theorem d_X12_goOn_97 : decode prog_14_method_65_code 97 = .ok (.ifCond .le 15, 3) := by decide +kernel
theorem d_X12_goOn_100 : decode prog_14_method_65_code 100 = .ok (.aload_n 0, 1) := by decide +kernel
theorem d_X12_goOn_101 : decode prog_14_method_65_code 101 = .ok (.iload_n 1, 1) := by decide +kernel
theorem d_X12_goOn_102 : decode prog_14_method_65_code 102 = .ok (.aload_n 0, 1) := by decide +kernel
theorem d_X12_goOn_103 : decode prog_14_method_65_code 103 = .ok (.getfield 99, 3) := by decide +kernel
theorem d_X12_goOn_106 : decode prog_14_method_65_code 106 = .ok (.iload_n 2, 1) := by decide +kernel
theorem d_X12_goOn_107 : decode prog_14_method_65_code 107 = .ok (.iaload, 1) := by decide +kernel
theorem d_X12_goOn_108 : decode prog_14_method_65_code 108 = .ok (.invokevirtual 522, 3) := by decide +kernel
theorem d_X12_goOn_111 : decode prog_14_method_65_code 111 = .ok (.return_, 1) := by decide +kernel
theorem d_X12_goOn_112 : decode prog_14_method_65_code 112 = .ok (.iload_n 3, 1) := by decide +kernel
theorem d_X12_goOn_113 : decode prog_14_method_65_code 113 = .ok (.iconst 2, 1) := by decide +kernel
theorem d_X12_goOn_114 : decode prog_14_method_65_code 114 = .ok (.if_icmp .ne 33, 3) := by decide +kernel
theorem d_X12_goOn_117 : decode prog_14_method_65_code 117 = .ok (.iload 4, 2) := by decide +kernel
theorem d_X12_goOn_119 : decode prog_14_method_65_code 119 = .ok (.iconst (-1), 1) := by decide +kernel
theorem d_X12_goOn_120 : decode prog_14_method_65_code 120 = .ok (.if_icmp .ne 27, 3) := by decide +kernel
theorem d_X12_goOn_123 : decode prog_14_method_65_code 123 = .ok (.aload_n 0, 1) := by decide +kernel
theorem d_X12_goOn_124 : decode prog_14_method_65_code 124 = .ok (.aload_n 0, 1) := by decide +kernel
theorem d_X12_goOn_125 : decode prog_14_method_65_code 125 = .ok (.getfield 58, 3) := by decide +kernel
theorem d_X12_goOn_128 : decode prog_14_method_65_code 128 = .ok (.iload_n 1, 1) := by decide +kernel
theorem d_X12_goOn_129 : decode prog_14_method_65_code 129 = .ok (.iaload, 1) := by decide +kernel
theorem d_X12_goOn_130 : decode prog_14_method_65_code 130 = .ok (.iconst 2, 1) := by decide +kernel
theorem d_X12_goOn_131 : decode prog_14_method_65_code 131 = .ok (.invokevirtual 500, 3) := by decide +kernel
theorem d_X12_goOn_134 : decode prog_14_method_65_code 134 = .ok (.aload_n 0, 1) := by decide +kernel
theorem d_X12_goOn_135 : decode prog_14_method_65_code 135 = .ok (.getfield 58, 3) := by decide +kernel
theorem d_X12_goOn_138 : decode prog_14_method_65_code 138 = .ok (.iload_n 1, 1) := by decide +kernel
theorem d_X12_goOn_139 : decode prog_14_method_65_code 139 = .ok (.dup2, 1) := by decide +kernel
theorem d_X12_goOn_140 : decode prog_14_method_65_code 140 = .ok (.iaload, 1) := by decide +kernel
theorem d_X12_goOn_141 : decode prog_14_method_65_code 141 = .ok (.iconst 1, 1) := by decide +kernel
theorem d_X12_goOn_142 : decode prog_14_method_65_code 142 = .ok (.iadd, 1) := by decide +kernel
theorem d_X12_goOn_143 : decode prog_14_method_65_code 143 = .ok (.iastore, 1) := by decide +kernel
theorem d_X12_goOn_144 : decode prog_14_method_65_code 144 = .ok (.goto 23, 3) := by decide +kernel
theorem d_X12_goOn_147 : decode prog_14_method_65_code 147 = .ok (.iload_n 3, 1) := by decide +kernel
theorem d_X12_goOn_148 : decode prog_14_method_65_code 148 = .ok (.iconst 2, 1) := by decide +kernel
theorem d_X12_goOn_149 : decode prog_14_method_65_code 149 = .ok (.if_icmp .ne 18, 3) := by decide +kernel
theorem d_X12_goOn_152 : decode prog_14_method_65_code 152 = .ok (.aload_n 0, 1) := by decide +kernel
theorem d_X12_goOn_153 : decode prog_14_method_65_code 153 = .ok (.iload_n 1, 1) := by decide +kernel
theorem d_X12_goOn_154 : decode prog_14_method_65_code 154 = .ok (.aload_n 0, 1) := by decide +kernel
theorem d_X12_goOn_155 : decode prog_14_method_65_code 155 = .ok (.getfield 102, 3) := by decide +kernel
theorem d_X12_goOn_158 : decode prog_14_method_65_code 158 = .ok (.iload_n 2, 1) := by decide +kernel
theorem d_X12_goOn_159 : decode prog_14_method_65_code 159 = .ok (.iaload, 1) := by decide +kernel
theorem d_X12_goOn_160 : decode prog_14_method_65_code 160 = .ok (.invokevirtual 531, 3) := by decide +kernel
theorem d_X12_goOn_163 : decode prog_14_method_65_code 163 = .ok (.ifCond .eq 4, 3) := by decide +kernel
theorem d_X12_goOn_166 : decode prog_14_method_65_code 166 = .ok (.return_, 1) := by decide +kernel
theorem d_X12_goOn_167 : decode prog_14_method_65_code 167 = .ok (.goto 30, 3) := by decide +kernel
theorem d_X12_goOn_170 : decode prog_14_method_65_code 170 = .ok (.aload_n 0, 1) := by decide +kernel
theorem d_X12_goOn_171 : decode prog_14_method_65_code 171 = .ok (.getfield 43, 3) := by decide +kernel
theorem d_X12_goOn_174 : decode prog_14_method_65_code 174 = .ok (.iload_n 1, 1) := by decide +kernel
theorem d_X12_goOn_175 : decode prog_14_method_65_code 175 = .ok (.aload_n 0, 1) := by decide +kernel
theorem d_X12_goOn_176 : decode prog_14_method_65_code 176 = .ok (.getfield 342, 3) := by decide +kernel
theorem d_X12_goOn_179 : decode prog_14_method_65_code 179 = .ok (.iload_n 3, 1) := by decide +kernel
theorem d_X12_goOn_180 : decode prog_14_method_65_code 180 = .ok (.iconst 1, 1) := by decide +kernel
theorem d_X12_goOn_181 : decode prog_14_method_65_code 181 = .ok (.if_icmp .ne 12, 3) := by decide +kernel
theorem d_X12_goOn_184 : decode prog_14_method_65_code 184 = .ok (.aload_n 0, 1) := by decide +kernel
theorem d_X12_goOn_185 : decode prog_14_method_65_code 185 = .ok (.getfield 99, 3) := by decide +kernel
theorem d_X12_goOn_188 : decode prog_14_method_65_code 188 = .ok (.iload_n 2, 1) := by decide +kernel
theorem d_X12_goOn_189 : decode prog_14_method_65_code 189 = .ok (.iaload, 1) := by decide +kernel
theorem d_X12_goOn_190 : decode prog_14_method_65_code 190 = .ok (.goto 4, 3) := by decide +kernel
theorem d_X12_goOn_193 : decode prog_14_method_65_code 193 = .ok (.iconst 1, 1) := by decide +kernel
theorem d_X12_goOn_194 : decode prog_14_method_65_code 194 = .ok (.iadd, 1) := by decide +kernel
theorem d_X12_goOn_195 : decode prog_14_method_65_code 195 = .ok (.iastore, 1) := by decide +kernel
theorem d_X12_goOn_196 : decode prog_14_method_65_code 196 = .ok (.return_, 1) := by decide +kernel
theorem d_X12_goOn_197 : decode prog_14_method_65_code 197 = .ok (.aload_n 0, 1) := by decide +kernel
theorem d_X12_goOn_198 : decode prog_14_method_65_code 198 = .ok (.getfield 49, 3) := by decide +kernel
theorem d_X12_goOn_201 : decode prog_14_method_65_code 201 = .ok (.iload_n 1, 1) := by decide +kernel
theorem d_X12_goOn_202 : decode prog_14_method_65_code 202 = .ok (.dup2, 1) := by decide +kernel
theorem d_X12_goOn_203 : decode prog_14_method_65_code 203 = .ok (.iaload, 1) := by decide +kernel
theorem d_X12_goOn_204 : decode prog_14_method_65_code 204 = .ok (.iconst 1, 1) := by decide +kernel
theorem d_X12_goOn_205 : decode prog_14_method_65_code 205 = .ok (.iadd, 1) := by decide +kernel
theorem d_X12_goOn_206 : decode prog_14_method_65_code 206 = .ok (.iastore, 1) := by decide +kernel
theorem d_X12_goOn_207 : decode prog_14_method_65_code 207 = .ok (.goto (-207), 3) := by decide +kernel
theorem d_X12_goOn_210 : decode prog_14_method_65_code 210 = .ok (.return_, 1) := by decide +kernel
theorem d_X12_begin_0 : decode prog_14_method_66_code 0 = .ok (.aload_n 0, 1) := by decide +kernel
theorem d_X12_begin_1 : decode prog_14_method_66_code 1 = .ok (.iload_n 1, 1) := by decide +kernel
theorem d_X12_begin_2 : decode prog_14_method_66_code 2 = .ok (.invokevirtual 345, 3) := by decide +kernel
theorem d_X12_begin_5 : decode prog_14_method_66_code 5 = .ok (.ifCond .eq 42, 3) := by decide +kernel
theorem d_X12_begin_8 : decode prog_14_method_66_code 8 = .ok (.iload_n 2, 1) := by decide +kernel
theorem d_X12_begin_9 : decode prog_14_method_66_code 9 = .ok (.iconst 0, 1) := by decide +kernel
theorem d_X12_begin_10 : decode prog_14_method_66_code 10 = .ok (.aload_n 0, 1) := by decide +kernel
theorem d_X12_begin_11 : decode prog_14_method_66_code 11 = .ok (.getfield 413, 3) := by decide +kernel
theorem d_X12_begin_14 : decode prog_14_method_66_code 14 = .ok (.iconst 1, 1) := by decide +kernel
theorem d_X12_begin_15 : decode prog_14_method_66_code 15 = .ok (.isub, 1) := by decide +kernel
theorem d_X12_begin_16 : decode prog_14_method_66_code 16 = .ok (.invokestatic 323, 3) := by decide +kernel
theorem d_X12_begin_19 : decode prog_14_method_66_code 19 = .ok (.ifCond .eq 28, 3) := by decide +kernel
theorem d_X12_begin_22 : decode prog_14_method_66_code 22 = .ok (.aload_n 0, 1) := by decide +kernel
theorem d_X12_begin_23 : decode prog_14_method_66_code 23 = .ok (.getfield 34, 3) := by decide +kernel
theorem d_X12_begin_26 : decode prog_14_method_66_code 26 = .ok (.iload_n 1, 1) := by decide +kernel
theorem d_X12_begin_27 : decode prog_14_method_66_code 27 = .ok (.iaload, 1) := by decide +kernel
theorem d_X12_begin_28 : decode prog_14_method_66_code 28 = .ok (.ifCond .ne 19, 3) := by decide +kernel
theorem d_X12_begin_31 : decode prog_14_method_66_code 31 = .ok (.aload_n 0, 1) := by decide +kernel
theorem d_X12_begin_32 : decode prog_14_method_66_code 32 = .ok (.getfield 507, 3) := by decide +kernel
theorem d_X12_begin_35 : decode prog_14_method_66_code 35 = .ok (.aload_n 0, 1) := by decide +kernel
theorem d_X12_begin_36 : decode prog_14_method_66_code 36 = .ok (.iload_n 2, 1) := by decide +kernel
theorem d_X12_begin_37 : decode prog_14_method_66_code 37 = .ok (.invokevirtual 420, 3) := by decide +kernel
theorem d_X12_begin_40 : decode prog_14_method_66_code 40 = .ok (.iadd, 1) := by decide +kernel
theorem d_X12_begin_41 : decode prog_14_method_66_code 41 = .ok (.sipush 400, 3) := by decide +kernel
theorem d_X12_begin_44 : decode prog_14_method_66_code 44 = .ok (.if_icmp .le 5, 3) := by decide +kernel
theorem d_X12_begin_47 : decode prog_14_method_66_code 47 = .ok (.iconst 0, 1) := by decide +kernel
theorem d_X12_begin_48 : decode prog_14_method_66_code 48 = .ok (.ireturn, 1) := by decide +kernel
theorem d_X12_begin_49 : decode prog_14_method_66_code 49 = .ok (.aload_n 0, 1) := by decide +kernel
theorem d_X12_begin_50 : decode prog_14_method_66_code 50 = .ok (.getfield 34, 3) := by decide +kernel
theorem d_X12_begin_53 : decode prog_14_method_66_code 53 = .ok (.iload_n 1, 1) := by decide +kernel
theorem d_X12_begin_54 : decode prog_14_method_66_code 54 = .ok (.iconst 1, 1) := by decide +kernel
theorem d_X12_begin_55 : decode prog_14_method_66_code 55 = .ok (.iastore, 1) := by decide +kernel
theorem d_X12_begin_56 : decode prog_14_method_66_code 56 = .ok (.aload_n 0, 1) := by decide +kernel
theorem d_X12_begin_57 : decode prog_14_method_66_code 57 = .ok (.getfield 46, 3) := by decide +kernel
theorem d_X12_begin_60 : decode prog_14_method_66_code 60 = .ok (.iload_n 1, 1) := by decide +kernel
theorem d_X12_begin_61 : decode prog_14_method_66_code 61 = .ok (.iload_n 2, 1) := by decide +kernel
theorem d_X12_begin_62 : decode prog_14_method_66_code 62 = .ok (.iastore, 1) := by decide +kernel
theorem d_X12_begin_63 : decode prog_14_method_66_code 63 = .ok (.aload_n 0, 1) := by decide +kernel
theorem d_X12_begin_64 : decode prog_14_method_66_code 64 = .ok (.getfield 49, 3) := by decide +kernel
theorem d_X12_begin_67 : decode prog_14_method_66_code 67 = .ok (.iload_n 1, 1) := by decide +kernel
theorem d_X12_begin_68 : decode prog_14_method_66_code 68 = .ok (.iconst 0, 1) := by decide +kernel
theorem d_X12_begin_69 : decode prog_14_method_66_code 69 = .ok (.iastore, 1) := by decide +kernel
theorem d_X12_begin_70 : decode prog_14_method_66_code 70 = .ok (.aload_n 0, 1) := by decide +kernel
theorem d_X12_begin_71 : decode prog_14_method_66_code 71 = .ok (.getfield 52, 3) := by decide +kernel
theorem d_X12_begin_74 : decode prog_14_method_66_code 74 = .ok (.iload_n 1, 1) := by decide +kernel
theorem d_X12_begin_75 : decode prog_14_method_66_code 75 = .ok (.aload_n 0, 1) := by decide +kernel
theorem d_X12_begin_76 : decode prog_14_method_66_code 76 = .ok (.getfield 342, 3) := by decide +kernel
theorem d_X12_begin_79 : decode prog_14_method_66_code 79 = .ok (.iastore, 1) := by decide +kernel
theorem d_X12_begin_80 : decode prog_14_method_66_code 80 = .ok (.aload_n 0, 1) := by decide +kernel
theorem d_X12_begin_81 : decode prog_14_method_66_code 81 = .ok (.getfield 55, 3) := by decide +kernel
theorem d_X12_begin_84 : decode prog_14_method_66_code 84 = .ok (.iload_n 1, 1) := by decide +kernel
theorem d_X12_begin_85 : decode prog_14_method_66_code 85 = .ok (.aload_n 0, 1) := by decide +kernel
theorem d_X12_begin_86 : decode prog_14_method_66_code 86 = .ok (.getfield 507, 3) := by decide +kernel
theorem d_X12_begin_89 : decode prog_14_method_66_code 89 = .ok (.iastore, 1) := by decide +kernel
theorem d_X12_begin_90 : decode prog_14_method_66_code 90 = .ok (.aload_n 0, 1) := by decide +kernel
theorem d_X12_begin_91 : decode prog_14_method_66_code 91 = .ok (.getfield 58, 3) := by decide +kernel
theorem d_X12_begin_94 : decode prog_14_method_66_code 94 = .ok (.iload_n 1, 1) := by decide +kernel
theorem d_X12_begin_95 : decode prog_14_method_66_code 95 = .ok (.aload_n 0, 1) := by decide +kernel
theorem d_X12_begin_96 : decode prog_14_method_66_code 96 = .ok (.getfield 507, 3) := by decide +kernel
theorem d_X12_begin_99 : decode prog_14_method_66_code 99 = .ok (.iastore, 1) := by decide +kernel
theorem d_X12_begin_100 : decode prog_14_method_66_code 100 = .ok (.sipush 150, 3) := by decide +kernel
theorem d_X12_begin_103 : decode prog_14_method_66_code 103 = .ok (.iload_n 2, 1) := by decide +kernel
theorem d_X12_begin_104 : decode prog_14_method_66_code 104 = .ok (.imul, 1) := by decide +kernel
theorem d_X12_begin_105 : decode prog_14_method_66_code 105 = .ok (.istore_n 3, 1) := by decide +kernel
theorem d_X12_begin_106 : decode prog_14_method_66_code 106 = .ok (.iload_n 3, 1) := by decide +kernel
theorem d_X12_begin_107 : decode prog_14_method_66_code 107 = .ok (.sipush 150, 3) := by decide +kernel
theorem d_X12_begin_110 : decode prog_14_method_66_code 110 = .ok (.iload_n 2, 1) := by decide +kernel
theorem d_X12_begin_111 : decode prog_14_method_66_code 111 = .ok (.imul, 1) := by decide +kernel
theorem d_X12_begin_112 : decode prog_14_method_66_code 112 = .ok (.aload_n 0, 1) := by decide +kernel
theorem d_X12_begin_113 : decode prog_14_method_66_code 113 = .ok (.getfield 93, 3) := by decide +kernel
theorem d_X12_begin_116 : decode prog_14_method_66_code 116 = .ok (.iload_n 2, 1) := by decide +kernel
theorem d_X12_begin_117 : decode prog_14_method_66_code 117 = .ok (.iaload, 1) := by decide +kernel
theorem d_X12_begin_118 : decode prog_14_method_66_code 118 = .ok (.iadd, 1) := by decide +kernel
theorem d_X12_begin_119 : decode prog_14_method_66_code 119 = .ok (.if_icmp .ge 107, 3) := by decide +kernel
theorem d_X12_begin_122 : decode prog_14_method_66_code 122 = .ok (.aload_n 0, 1) := by decide +kernel
theorem d_X12_begin_123 : decode prog_14_method_66_code 123 = .ok (.getfield 96, 3) := by decide +kernel
theorem d_X12_begin_126 : decode prog_14_method_66_code 126 = .ok (.iload_n 3, 1) := by decide +kernel
theorem d_X12_begin_127 : decode prog_14_method_66_code 127 = .ok (.iaload, 1) := by decide +kernel
theorem d_X12_begin_128 : decode prog_14_method_66_code 128 = .ok (.iconst 2, 1) := by decide +kernel
theorem d_X12_begin_129 : decode prog_14_method_66_code 129 = .ok (.if_icmp .ne 91, 3) := by decide +kernel
theorem d_X12_begin_132 : decode prog_14_method_66_code 132 = .ok (.aload_n 0, 1) := by decide +kernel
theorem d_X12_begin_133 : decode prog_14_method_66_code 133 = .ok (.getfield 126, 3) := by decide +kernel
theorem d_X12_begin_136 : decode prog_14_method_66_code 136 = .ok (.aload_n 0, 1) := by decide +kernel
theorem d_X12_begin_137 : decode prog_14_method_66_code 137 = .ok (.getfield 507, 3) := by decide +kernel
theorem d_X12_begin_140 : decode prog_14_method_66_code 140 = .ok (.iload_n 1, 1) := by decide +kernel
theorem d_X12_begin_141 : decode prog_14_method_66_code 141 = .ok (.iastore, 1) := by decide +kernel
theorem d_X12_begin_142 : decode prog_14_method_66_code 142 = .ok (.aload_n 0, 1) := by decide +kernel
theorem d_X12_begin_143 : decode prog_14_method_66_code 143 = .ok (.getfield 129, 3) := by decide +kernel
theorem d_X12_begin_146 : decode prog_14_method_66_code 146 = .ok (.aload_n 0, 1) := by decide +kernel
theorem d_X12_begin_147 : decode prog_14_method_66_code 147 = .ok (.getfield 507, 3) := by decide +kernel
theorem d_X12_begin_150 : decode prog_14_method_66_code 150 = .ok (.aload_n 0, 1) := by decide +kernel
theorem d_X12_begin_151 : decode prog_14_method_66_code 151 = .ok (.getfield 99, 3) := by decide +kernel
theorem d_X12_begin_154 : decode prog_14_method_66_code 154 = .ok (.iload_n 3, 1) := by decide +kernel
theorem d_X12_begin_155 : decode prog_14_method_66_code 155 = .ok (.iaload, 1) := by decide +kernel
theorem d_X12_begin_156 : decode prog_14_method_66_code 156 = .ok (.iastore, 1) := by decide +kernel
theorem d_X12_begin_157 : decode prog_14_method_66_code 157 = .ok (.aload_n 0, 1) := by decide +kernel
theorem d_X12_begin_158 : decode prog_14_method_66_code 158 = .ok (.getfield 132, 3) := by decide +kernel
theorem d_X12_begin_161 : decode prog_14_method_66_code 161 = .ok (.aload_n 0, 1) := by decide +kernel
theorem d_X12_begin_162 : decode prog_14_method_66_code 162 = .ok (.getfield 507, 3) := by decide +kernel
theorem d_X12_begin_165 : decode prog_14_method_66_code 165 = .ok (.aload_n 0, 1) := by decide +kernel
theorem d_X12_begin_166 : decode prog_14_method_66_code 166 = .ok (.getfield 342, 3) := by decide +kernel
theorem d_X12_begin_169 : decode prog_14_method_66_code 169 = .ok (.aload_n 0, 1) := by decide +kernel
theorem d_X12_begin_170 : decode prog_14_method_66_code 170 = .ok (.getfield 102, 3) := by decide +kernel
theorem d_X12_begin_173 : decode prog_14_method_66_code 173 = .ok (.iload_n 3, 1) := by decide +kernel
theorem d_X12_begin_174 : decode prog_14_method_66_code 174 = .ok (.iaload, 1) := by decide +kernel
theorem d_X12_begin_175 : decode prog_14_method_66_code 175 = .ok (.iadd, 1) := by decide +kernel
theorem d_X12_begin_176 : decode prog_14_method_66_code 176 = .ok (.iastore, 1) := by decide +kernel
theorem d_X12_begin_177 : decode prog_14_method_66_code 177 = .ok (.aload_n 0, 1) := by decide +kernel
theorem d_X12_begin_178 : decode prog_14_method_66_code 178 = .ok (.getfield 135, 3) := by decide +kernel
theorem d_X12_begin_181 : decode prog_14_method_66_code 181 = .ok (.aload_n 0, 1) := by decide +kernel
theorem d_X12_begin_182 : decode prog_14_method_66_code 182 = .ok (.getfield 507, 3) := by decide +kernel
theorem d_X12_begin_185 : decode prog_14_method_66_code 185 = .ok (.iconst (-1), 1) := by decide +kernel
theorem d_X12_begin_186 : decode prog_14_method_66_code 186 = .ok (.iastore, 1) := by decide +kernel
theorem d_X12_begin_187 : decode prog_14_method_66_code 187 = .ok (.aload_n 0, 1) := by decide +kernel
theorem d_X12_begin_188 : decode prog_14_method_66_code 188 = .ok (.getfield 138, 3) := by decide +kernel
theorem d_X12_begin_191 : decode prog_14_method_66_code 191 = .ok (.aload_n 0, 1) := by decide +kernel
theorem d_X12_begin_192 : decode prog_14_method_66_code 192 = .ok (.getfield 507, 3) := by decide +kernel
theorem d_X12_begin_195 : decode prog_14_method_66_code 195 = .ok (.iconst (-1), 1) := by decide +kernel
theorem d_X12_begin_196 : decode prog_14_method_66_code 196 = .ok (.iastore, 1) := by decide +kernel
theorem d_X12_begin_197 : decode prog_14_method_66_code 197 = .ok (.aload_n 0, 1) := by decide +kernel
theorem d_X12_begin_198 : decode prog_14_method_66_code 198 = .ok (.getfield 144, 3) := by decide +kernel
theorem d_X12_begin_201 : decode prog_14_method_66_code 201 = .ok (.aload_n 0, 1) := by decide +kernel
theorem d_X12_begin_202 : decode prog_14_method_66_code 202 = .ok (.getfield 507, 3) := by decide +kernel
theorem d_X12_begin_205 : decode prog_14_method_66_code 205 = .ok (.aload_n 0, 1) := by decide +kernel
theorem d_X12_begin_206 : decode prog_14_method_66_code 206 = .ok (.getfield 342, 3) := by decide +kernel
theorem d_X12_begin_209 : decode prog_14_method_66_code 209 = .ok (.iastore, 1) := by decide +kernel
theorem d_X12_begin_210 : decode prog_14_method_66_code 210 = .ok (.aload_n 0, 1) := by decide +kernel
theorem d_X12_begin_211 : decode prog_14_method_66_code 211 = .ok (.dup, 1) := by decide +kernel
theorem d_X12_begin_212 : decode prog_14_method_66_code 212 = .ok (.getfield 507, 3) := by decide +kernel
theorem d_X12_begin_215 : decode prog_14_method_66_code 215 = .ok (.iconst 1, 1) := by decide +kernel
theorem d_X12_begin_216 : decode prog_14_method_66_code 216 = .ok (.iadd, 1) := by decide +kernel
theorem d_X12_begin_217 : decode prog_14_method_66_code 217 = .ok (.putfield 507, 3) := by decide +kernel
theorem d_X12_begin_220 : decode prog_14_method_66_code 220 = .ok (.iinc 3 1, 3) := by decide +kernel
theorem d_X12_begin_223 : decode prog_14_method_66_code 223 = .ok (.goto (-117), 3) := by decide +kernel
theorem d_X12_begin_226 : decode prog_14_method_66_code 226 = .ok (.aload_n 0, 1) := by decide +kernel
theorem d_X12_begin_227 : decode prog_14_method_66_code 227 = .ok (.getfield 61, 3) := by decide +kernel
theorem d_X12_begin_230 : decode prog_14_method_66_code 230 = .ok (.iload_n 1, 1) := by decide +kernel
theorem d_X12_begin_231 : decode prog_14_method_66_code 231 = .ok (.aload_n 0, 1) := by decide +kernel
theorem d_X12_begin_232 : decode prog_14_method_66_code 232 = .ok (.getfield 507, 3) := by decide +kernel
theorem d_X12_begin_235 : decode prog_14_method_66_code 235 = .ok (.iastore, 1) := by decide +kernel
theorem d_X12_begin_236 : decode prog_14_method_66_code 236 = .ok (.aload_n 0, 1) := by decide +kernel
theorem d_X12_begin_237 : decode prog_14_method_66_code 237 = .ok (.iload_n 1, 1) := by decide +kernel
theorem d_X12_begin_238 : decode prog_14_method_66_code 238 = .ok (.invokevirtual 534, 3) := by decide +kernel
theorem d_X12_begin_241 : decode prog_14_method_66_code 241 = .ok (.iconst 1, 1) := by decide +kernel
theorem d_X12_begin_242 : decode prog_14_method_66_code 242 = .ok (.ireturn, 1) := by decide +kernel
theorem d_X12_draw_0 : decode prog_14_method_67_code 0 = .ok (.aload_n 0, 1) := by decide +kernel
theorem d_X12_draw_1 : decode prog_14_method_67_code 1 = .ok (.iload_n 1, 1) := by decide +kernel
theorem d_X12_draw_2 : decode prog_14_method_67_code 2 = .ok (.invokevirtual 345, 3) := by decide +kernel
theorem d_X12_draw_5 : decode prog_14_method_67_code 5 = .ok (.ifCond .eq 59, 3) := by decide +kernel
theorem d_X12_draw_8 : decode prog_14_method_67_code 8 = .ok (.iload_n 2, 1) := by decide +kernel
theorem d_X12_draw_9 : decode prog_14_method_67_code 9 = .ok (.invokestatic 327, 3) := by decide +kernel
theorem d_X12_draw_12 : decode prog_14_method_67_code 12 = .ok (.ifCond .eq 52, 3) := by decide +kernel
theorem d_X12_draw_15 : decode prog_14_method_67_code 15 = .ok (.iload_n 3, 1) := by decide +kernel
theorem d_X12_draw_16 : decode prog_14_method_67_code 16 = .ok (.aload_n 0, 1) := by decide +kernel
theorem d_X12_draw_17 : decode prog_14_method_67_code 17 = .ok (.getfield 342, 3) := by decide +kernel
theorem d_X12_draw_20 : decode prog_14_method_67_code 20 = .ok (.sipush 30000, 3) := by decide +kernel
theorem d_X12_draw_23 : decode prog_14_method_67_code 23 = .ok (.invokestatic 323, 3) := by decide +kernel
theorem d_X12_draw_26 : decode prog_14_method_67_code 26 = .ok (.ifCond .eq 38, 3) := by decide +kernel
theorem d_X12_draw_29 : decode prog_14_method_67_code 29 = .ok (.aload_n 0, 1) := by decide +kernel
theorem d_X12_draw_30 : decode prog_14_method_67_code 30 = .ok (.aload_n 0, 1) := by decide +kernel
theorem d_X12_draw_31 : decode prog_14_method_67_code 31 = .ok (.getfield 28, 3) := by decide +kernel
theorem d_X12_draw_34 : decode prog_14_method_67_code 34 = .ok (.iload_n 1, 1) := by decide +kernel
theorem d_X12_draw_35 : decode prog_14_method_67_code 35 = .ok (.iaload, 1) := by decide +kernel
theorem d_X12_draw_36 : decode prog_14_method_67_code 36 = .ok (.iload_n 2, 1) := by decide +kernel
theorem d_X12_draw_37 : decode prog_14_method_67_code 37 = .ok (.invokevirtual 335, 3) := by decide +kernel
theorem d_X12_draw_40 : decode prog_14_method_67_code 40 = .ok (.iconst (-1), 1) := by decide +kernel
theorem d_X12_draw_41 : decode prog_14_method_67_code 41 = .ok (.if_icmp .eq 23, 3) := by decide +kernel
theorem d_X12_draw_44 : decode prog_14_method_67_code 44 = .ok (.aload_n 0, 1) := by decide +kernel
theorem d_X12_draw_45 : decode prog_14_method_67_code 45 = .ok (.getfield 34, 3) := by decide +kernel
theorem d_X12_draw_48 : decode prog_14_method_67_code 48 = .ok (.iload_n 1, 1) := by decide +kernel
theorem d_X12_draw_49 : decode prog_14_method_67_code 49 = .ok (.iaload, 1) := by decide +kernel
theorem d_X12_draw_50 : decode prog_14_method_67_code 50 = .ok (.iconst 3, 1) := by decide +kernel
theorem d_X12_draw_51 : decode prog_14_method_67_code 51 = .ok (.if_icmp .eq 13, 3) := by decide +kernel
theorem d_X12_draw_54 : decode prog_14_method_67_code 54 = .ok (.aload_n 0, 1) := by decide +kernel
theorem d_X12_draw_55 : decode prog_14_method_67_code 55 = .ok (.getfield 34, 3) := by decide +kernel
theorem d_X12_draw_58 : decode prog_14_method_67_code 58 = .ok (.iload_n 1, 1) := by decide +kernel
theorem d_X12_draw_59 : decode prog_14_method_67_code 59 = .ok (.iaload, 1) := by decide +kernel
theorem d_X12_draw_60 : decode prog_14_method_67_code 60 = .ok (.iconst 4, 1) := by decide +kernel
theorem d_X12_draw_61 : decode prog_14_method_67_code 61 = .ok (.if_icmp .ne 5, 3) := by decide +kernel
theorem d_X12_draw_64 : decode prog_14_method_67_code 64 = .ok (.iconst 0, 1) := by decide +kernel
theorem d_X12_draw_65 : decode prog_14_method_67_code 65 = .ok (.ireturn, 1) := by decide +kernel
theorem d_X12_draw_66 : decode prog_14_method_67_code 66 = .ok (.aload_n 0, 1) := by decide +kernel
theorem d_X12_draw_67 : decode prog_14_method_67_code 67 = .ok (.getfield 34, 3) := by decide +kernel
theorem d_X12_draw_70 : decode prog_14_method_67_code 70 = .ok (.iload_n 1, 1) := by decide +kernel
theorem d_X12_draw_71 : decode prog_14_method_67_code 71 = .ok (.iaload, 1) := by decide +kernel
theorem d_X12_draw_72 : decode prog_14_method_67_code 72 = .ok (.iconst 1, 1) := by decide +kernel
theorem d_X12_draw_73 : decode prog_14_method_67_code 73 = .ok (.if_icmp .ne 9, 3) := by decide +kernel
theorem d_X12_draw_76 : decode prog_14_method_67_code 76 = .ok (.aload_n 0, 1) := by decide +kernel
theorem d_X12_draw_77 : decode prog_14_method_67_code 77 = .ok (.iload_n 1, 1) := by decide +kernel
theorem d_X12_draw_78 : decode prog_14_method_67_code 78 = .ok (.iconst 3, 1) := by decide +kernel
theorem d_X12_draw_79 : decode prog_14_method_67_code 79 = .ok (.invokevirtual 537, 3) := by decide +kernel
theorem d_X12_draw_82 : decode prog_14_method_67_code 82 = .ok (.aload_n 0, 1) := by decide +kernel
theorem d_X12_draw_83 : decode prog_14_method_67_code 83 = .ok (.getfield 49, 3) := by decide +kernel
theorem d_X12_draw_86 : decode prog_14_method_67_code 86 = .ok (.iload_n 1, 1) := by decide +kernel
theorem d_X12_draw_87 : decode prog_14_method_67_code 87 = .ok (.iconst (-1), 1) := by decide +kernel
theorem d_X12_draw_88 : decode prog_14_method_67_code 88 = .ok (.iastore, 1) := by decide +kernel
theorem d_X12_draw_89 : decode prog_14_method_67_code 89 = .ok (.aload_n 0, 1) := by decide +kernel
theorem d_X12_draw_90 : decode prog_14_method_67_code 90 = .ok (.getfield 34, 3) := by decide +kernel
theorem d_X12_draw_93 : decode prog_14_method_67_code 93 = .ok (.iload_n 1, 1) := by decide +kernel
theorem d_X12_draw_94 : decode prog_14_method_67_code 94 = .ok (.iconst 3, 1) := by decide +kernel
theorem d_X12_draw_95 : decode prog_14_method_67_code 95 = .ok (.iastore, 1) := by decide +kernel
theorem d_X12_draw_96 : decode prog_14_method_67_code 96 = .ok (.aload_n 0, 1) := by decide +kernel
theorem d_X12_draw_97 : decode prog_14_method_67_code 97 = .ok (.getfield 64, 3) := by decide +kernel
theorem d_X12_draw_100 : decode prog_14_method_67_code 100 = .ok (.iload_n 1, 1) := by decide +kernel
theorem d_X12_draw_101 : decode prog_14_method_67_code 101 = .ok (.iload_n 2, 1) := by decide +kernel
theorem d_X12_draw_102 : decode prog_14_method_67_code 102 = .ok (.iastore, 1) := by decide +kernel
theorem d_X12_draw_103 : decode prog_14_method_67_code 103 = .ok (.aload_n 0, 1) := by decide +kernel
theorem d_X12_draw_104 : decode prog_14_method_67_code 104 = .ok (.getfield 67, 3) := by decide +kernel
theorem d_X12_draw_107 : decode prog_14_method_67_code 107 = .ok (.iload_n 1, 1) := by decide +kernel
theorem d_X12_draw_108 : decode prog_14_method_67_code 108 = .ok (.iload_n 3, 1) := by decide +kernel
theorem d_X12_draw_109 : decode prog_14_method_67_code 109 = .ok (.iastore, 1) := by decide +kernel
theorem d_X12_draw_110 : decode prog_14_method_67_code 110 = .ok (.aload_n 0, 1) := by decide +kernel
theorem d_X12_draw_111 : decode prog_14_method_67_code 111 = .ok (.getfield 156, 3) := by decide +kernel
theorem d_X12_draw_114 : decode prog_14_method_67_code 114 = .ok (.iload_n 1, 1) := by decide +kernel
theorem d_X12_draw_115 : decode prog_14_method_67_code 115 = .ok (.aload_n 0, 1) := by decide +kernel
theorem d_X12_draw_116 : decode prog_14_method_67_code 116 = .ok (.getfield 40, 3) := by decide +kernel
theorem d_X12_draw_119 : decode prog_14_method_67_code 119 = .ok (.iload_n 1, 1) := by decide +kernel
theorem d_X12_draw_120 : decode prog_14_method_67_code 120 = .ok (.iaload, 1) := by decide +kernel
theorem d_X12_draw_121 : decode prog_14_method_67_code 121 = .ok (.iconst (-1), 1) := by decide +kernel
theorem d_X12_draw_122 : decode prog_14_method_67_code 122 = .ok (.if_icmp .ne 7, 3) := by decide +kernel
theorem d_X12_draw_125 : decode prog_14_method_67_code 125 = .ok (.iconst 1, 1) := by decide +kernel
theorem d_X12_draw_126 : decode prog_14_method_67_code 126 = .ok (.goto 4, 3) := by decide +kernel
theorem d_X12_draw_129 : decode prog_14_method_67_code 129 = .ok (.iconst 0, 1) := by decide +kernel
theorem d_X12_draw_130 : decode prog_14_method_67_code 130 = .ok (.bastore, 1) := by decide +kernel
theorem d_X12_draw_131 : decode prog_14_method_67_code 131 = .ok (.aload_n 0, 1) := by decide +kernel
theorem d_X12_draw_132 : decode prog_14_method_67_code 132 = .ok (.getfield 40, 3) := by decide +kernel
theorem d_X12_draw_135 : decode prog_14_method_67_code 135 = .ok (.iload_n 1, 1) := by decide +kernel
theorem d_X12_draw_136 : decode prog_14_method_67_code 136 = .ok (.iaload, 1) := by decide +kernel
theorem d_X12_draw_137 : decode prog_14_method_67_code 137 = .ok (.iconst (-1), 1) := by decide +kernel
theorem d_X12_draw_138 : decode prog_14_method_67_code 138 = .ok (.if_icmp .ne 8, 3) := by decide +kernel
theorem d_X12_draw_141 : decode prog_14_method_67_code 141 = .ok (.aload_n 0, 1) := by decide +kernel
theorem d_X12_draw_142 : decode prog_14_method_67_code 142 = .ok (.iload_n 1, 1) := by decide +kernel
theorem d_X12_draw_143 : decode prog_14_method_67_code 143 = .ok (.invokevirtual 540, 3) := by decide +kernel
theorem d_X12_draw_146 : decode prog_14_method_67_code 146 = .ok (.iconst 1, 1) := by decide +kernel
theorem d_X12_draw_147 : decode prog_14_method_67_code 147 = .ok (.ireturn, 1) := by decide +kernel
theorem d_X12_ill_0 : decode prog_14_method_68_code 0 = .ok (.aload_n 0, 1) := by decide +kernel
theorem d_X12_ill_1 : decode prog_14_method_68_code 1 = .ok (.iload_n 1, 1) := by decide +kernel
theorem d_X12_ill_2 : decode prog_14_method_68_code 2 = .ok (.invokevirtual 345, 3) := by decide +kernel
theorem d_X12_ill_5 : decode prog_14_method_68_code 5 = .ok (.ifCond .eq 22, 3) := by decide +kernel
theorem d_X12_ill_8 : decode prog_14_method_68_code 8 = .ok (.aload_n 0, 1) := by decide +kernel
theorem d_X12_ill_9 : decode prog_14_method_68_code 9 = .ok (.getfield 34, 3) := by decide +kernel
theorem d_X12_ill_12 : decode prog_14_method_68_code 12 = .ok (.iload_n 1, 1) := by decide +kernel
theorem d_X12_ill_13 : decode prog_14_method_68_code 13 = .ok (.iaload, 1) := by decide +kernel
theorem d_X12_ill_14 : decode prog_14_method_68_code 14 = .ok (.iconst 4, 1) := by decide +kernel
theorem d_X12_ill_15 : decode prog_14_method_68_code 15 = .ok (.if_icmp .ne 7, 3) := by decide +kernel
theorem d_X12_ill_18 : decode prog_14_method_68_code 18 = .ok (.iconst 1, 1) := by decide +kernel
theorem d_X12_ill_19 : decode prog_14_method_68_code 19 = .ok (.goto 4, 3) := by decide +kernel
theorem d_X12_ill_22 : decode prog_14_method_68_code 22 = .ok (.iconst 0, 1) := by decide +kernel
theorem d_X12_ill_23 : decode prog_14_method_68_code 23 = .ok (.iload_n 2, 1) := by decide +kernel
theorem d_X12_ill_24 : decode prog_14_method_68_code 24 = .ok (.if_icmp .ne 5, 3) := by decide +kernel
theorem d_X12_ill_27 : decode prog_14_method_68_code 27 = .ok (.iconst 0, 1) := by decide +kernel
theorem d_X12_ill_28 : decode prog_14_method_68_code 28 = .ok (.ireturn, 1) := by decide +kernel
theorem d_X12_ill_29 : decode prog_14_method_68_code 29 = .ok (.iload_n 2, 1) := by decide +kernel
theorem d_X12_ill_30 : decode prog_14_method_68_code 30 = .ok (.ifCond .ne 10, 3) := by decide +kernel
theorem d_X12_ill_33 : decode prog_14_method_68_code 33 = .ok (.aload_n 0, 1) := by decide +kernel
theorem d_X12_ill_34 : decode prog_14_method_68_code 34 = .ok (.iload_n 1, 1) := by decide +kernel
theorem d_X12_ill_35 : decode prog_14_method_68_code 35 = .ok (.invokevirtual 519, 3) := by decide +kernel
theorem d_X12_ill_38 : decode prog_14_method_68_code 38 = .ok (.iconst 1, 1) := by decide +kernel
theorem d_X12_ill_39 : decode prog_14_method_68_code 39 = .ok (.ireturn, 1) := by decide +kernel
theorem d_X12_ill_40 : decode prog_14_method_68_code 40 = .ok (.aload_n 0, 1) := by decide +kernel
theorem d_X12_ill_41 : decode prog_14_method_68_code 41 = .ok (.getfield 34, 3) := by decide +kernel
theorem d_X12_ill_44 : decode prog_14_method_68_code 44 = .ok (.iload_n 1, 1) := by decide +kernel
theorem d_X12_ill_45 : decode prog_14_method_68_code 45 = .ok (.iaload, 1) := by decide +kernel
theorem d_X12_ill_46 : decode prog_14_method_68_code 46 = .ok (.iconst 1, 1) := by decide +kernel
theorem d_X12_ill_47 : decode prog_14_method_68_code 47 = .ok (.if_icmp .ne 9, 3) := by decide +kernel
theorem d_X12_ill_50 : decode prog_14_method_68_code 50 = .ok (.aload_n 0, 1) := by decide +kernel
theorem d_X12_ill_51 : decode prog_14_method_68_code 51 = .ok (.iload_n 1, 1) := by decide +kernel
theorem d_X12_ill_52 : decode prog_14_method_68_code 52 = .ok (.iconst 4, 1) := by decide +kernel
theorem d_X12_ill_53 : decode prog_14_method_68_code 53 = .ok (.invokevirtual 537, 3) := by decide +kernel
theorem d_X12_ill_56 : decode prog_14_method_68_code 56 = .ok (.aload_n 0, 1) := by decide +kernel
theorem d_X12_ill_57 : decode prog_14_method_68_code 57 = .ok (.getfield 34, 3) := by decide +kernel
theorem d_X12_ill_60 : decode prog_14_method_68_code 60 = .ok (.iload_n 1, 1) := by decide +kernel
theorem d_X12_ill_61 : decode prog_14_method_68_code 61 = .ok (.iconst 4, 1) := by decide +kernel
theorem d_X12_ill_62 : decode prog_14_method_68_code 62 = .ok (.iastore, 1) := by decide +kernel
theorem d_X12_ill_63 : decode prog_14_method_68_code 63 = .ok (.aload_n 0, 1) := by decide +kernel
theorem d_X12_ill_64 : decode prog_14_method_68_code 64 = .ok (.getfield 37, 3) := by decide +kernel
theorem d_X12_ill_67 : decode prog_14_method_68_code 67 = .ok (.iload_n 1, 1) := by decide +kernel
theorem d_X12_ill_68 : decode prog_14_method_68_code 68 = .ok (.aload_n 0, 1) := by decide +kernel
theorem d_X12_ill_69 : decode prog_14_method_68_code 69 = .ok (.getfield 28, 3) := by decide +kernel
theorem d_X12_ill_72 : decode prog_14_method_68_code 72 = .ok (.iload_n 1, 1) := by decide +kernel
theorem d_X12_ill_73 : decode prog_14_method_68_code 73 = .ok (.iaload, 1) := by decide +kernel
theorem d_X12_ill_74 : decode prog_14_method_68_code 74 = .ok (.iastore, 1) := by decide +kernel
theorem d_X12_ill_75 : decode prog_14_method_68_code 75 = .ok (.aload_n 0, 1) := by decide +kernel
theorem d_X12_ill_76 : decode prog_14_method_68_code 76 = .ok (.getfield 40, 3) := by decide +kernel
theorem d_X12_ill_79 : decode prog_14_method_68_code 79 = .ok (.iload_n 1, 1) := by decide +kernel
theorem d_X12_ill_80 : decode prog_14_method_68_code 80 = .ok (.iconst (-1), 1) := by decide +kernel
theorem d_X12_ill_81 : decode prog_14_method_68_code 81 = .ok (.iastore, 1) := by decide +kernel
theorem d_X12_ill_82 : decode prog_14_method_68_code 82 = .ok (.aload_n 0, 1) := by decide +kernel
theorem d_X12_ill_83 : decode prog_14_method_68_code 83 = .ok (.getfield 43, 3) := by decide +kernel
theorem d_X12_ill_86 : decode prog_14_method_68_code 86 = .ok (.iload_n 1, 1) := by decide +kernel
theorem d_X12_ill_87 : decode prog_14_method_68_code 87 = .ok (.iconst (-1), 1) := by decide +kernel
theorem d_X12_ill_88 : decode prog_14_method_68_code 88 = .ok (.iastore, 1) := by decide +kernel
theorem d_X12_ill_89 : decode prog_14_method_68_code 89 = .ok (.aload_n 0, 1) := by decide +kernel
theorem d_X12_ill_90 : decode prog_14_method_68_code 90 = .ok (.getfield 49, 3) := by decide +kernel
theorem d_X12_ill_93 : decode prog_14_method_68_code 93 = .ok (.iload_n 1, 1) := by decide +kernel
theorem d_X12_ill_94 : decode prog_14_method_68_code 94 = .ok (.iconst (-1), 1) := by decide +kernel
theorem d_X12_ill_95 : decode prog_14_method_68_code 95 = .ok (.iastore, 1) := by decide +kernel
theorem d_X12_ill_96 : decode prog_14_method_68_code 96 = .ok (.iconst 1, 1) := by decide +kernel
theorem d_X12_ill_97 : decode prog_14_method_68_code 97 = .ok (.ireturn, 1) := by decide +kernel
theorem d_X12_wake_0 : decode prog_14_method_69_code 0 = .ok (.aload_n 0, 1) := by decide +kernel
theorem d_X12_wake_1 : decode prog_14_method_69_code 1 = .ok (.getfield 43, 3) := by decide +kernel
theorem d_X12_wake_4 : decode prog_14_method_69_code 4 = .ok (.iload_n 1, 1) := by decide +kernel
theorem d_X12_wake_5 : decode prog_14_method_69_code 5 = .ok (.iaload, 1) := by decide +kernel
theorem d_X12_wake_6 : decode prog_14_method_69_code 6 = .ok (.aload_n 0, 1) := by decide +kernel
theorem d_X12_wake_7 : decode prog_14_method_69_code 7 = .ok (.getfield 342, 3) := by decide +kernel
theorem d_X12_wake_10 : decode prog_14_method_69_code 10 = .ok (.if_icmp .eq 4, 3) := by decide +kernel
theorem d_X12_wake_13 : decode prog_14_method_69_code 13 = .ok (.return_, 1) := by decide +kernel
theorem d_X12_wake_14 : decode prog_14_method_69_code 14 = .ok (.aload_n 0, 1) := by decide +kernel
theorem d_X12_wake_15 : decode prog_14_method_69_code 15 = .ok (.getfield 40, 3) := by decide +kernel
theorem d_X12_wake_18 : decode prog_14_method_69_code 18 = .ok (.iload_n 1, 1) := by decide +kernel
theorem d_X12_wake_19 : decode prog_14_method_69_code 19 = .ok (.iaload, 1) := by decide +kernel
theorem d_X12_wake_20 : decode prog_14_method_69_code 20 = .ok (.iconst (-1), 1) := by decide +kernel
theorem d_X12_wake_21 : decode prog_14_method_69_code 21 = .ok (.if_icmp .eq 7, 3) := by decide +kernel
theorem d_X12_wake_24 : decode prog_14_method_69_code 24 = .ok (.iconst 1, 1) := by decide +kernel
theorem d_X12_wake_25 : decode prog_14_method_69_code 25 = .ok (.goto 4, 3) := by decide +kernel
theorem d_X12_wake_28 : decode prog_14_method_69_code 28 = .ok (.iconst 0, 1) := by decide +kernel
theorem d_X12_wake_29 : decode prog_14_method_69_code 29 = .ok (.istore_n 2, 1) := by decide +kernel
theorem d_X12_wake_30 : decode prog_14_method_69_code 30 = .ok (.iload_n 2, 1) := by decide +kernel
theorem d_X12_wake_31 : decode prog_14_method_69_code 31 = .ok (.ifCond .eq 22, 3) := by decide +kernel
theorem d_X12_wake_34 : decode prog_14_method_69_code 34 = .ok (.aload_n 0, 1) := by decide +kernel
theorem d_X12_wake_35 : decode prog_14_method_69_code 35 = .ok (.getfield 37, 3) := by decide +kernel
theorem d_X12_wake_38 : decode prog_14_method_69_code 38 = .ok (.iload_n 1, 1) := by decide +kernel
theorem d_X12_wake_39 : decode prog_14_method_69_code 39 = .ok (.aload_n 0, 1) := by decide +kernel
theorem d_X12_wake_40 : decode prog_14_method_69_code 40 = .ok (.getfield 40, 3) := by decide +kernel
theorem d_X12_wake_43 : decode prog_14_method_69_code 43 = .ok (.iload_n 1, 1) := by decide +kernel
theorem d_X12_wake_44 : decode prog_14_method_69_code 44 = .ok (.iaload, 1) := by decide +kernel
theorem d_X12_wake_45 : decode prog_14_method_69_code 45 = .ok (.iastore, 1) := by decide +kernel
theorem d_X12_wake_46 : decode prog_14_method_69_code 46 = .ok (.aload_n 0, 1) := by decide +kernel
theorem d_X12_wake_47 : decode prog_14_method_69_code 47 = .ok (.getfield 40, 3) := by decide +kernel
theorem d_X12_wake_50 : decode prog_14_method_69_code 50 = .ok (.iload_n 1, 1) := by decide +kernel
theorem d_X12_wake_51 : decode prog_14_method_69_code 51 = .ok (.iconst (-1), 1) := by decide +kernel
theorem d_X12_wake_52 : decode prog_14_method_69_code 52 = .ok (.iastore, 1) := by decide +kernel
theorem d_X12_wake_53 : decode prog_14_method_69_code 53 = .ok (.aload_n 0, 1) := by decide +kernel
theorem d_X12_wake_54 : decode prog_14_method_69_code 54 = .ok (.getfield 43, 3) := by decide +kernel
theorem d_X12_wake_57 : decode prog_14_method_69_code 57 = .ok (.iload_n 1, 1) := by decide +kernel
theorem d_X12_wake_58 : decode prog_14_method_69_code 58 = .ok (.iconst (-1), 1) := by decide +kernel
theorem d_X12_wake_59 : decode prog_14_method_69_code 59 = .ok (.iastore, 1) := by decide +kernel
theorem d_X12_wake_60 : decode prog_14_method_69_code 60 = .ok (.aload_n 0, 1) := by decide +kernel
theorem d_X12_wake_61 : decode prog_14_method_69_code 61 = .ok (.getfield 34, 3) := by decide +kernel
theorem d_X12_wake_64 : decode prog_14_method_69_code 64 = .ok (.iload_n 1, 1) := by decide +kernel
theorem d_X12_wake_65 : decode prog_14_method_69_code 65 = .ok (.iaload, 1) := by decide +kernel
theorem d_X12_wake_66 : decode prog_14_method_69_code 66 = .ok (.iconst 2, 1) := by decide +kernel
theorem d_X12_wake_67 : decode prog_14_method_69_code 67 = .ok (.if_icmp .ne 11, 3) := by decide +kernel
theorem d_X12_wake_70 : decode prog_14_method_69_code 70 = .ok (.aload_n 0, 1) := by decide +kernel
theorem d_X12_wake_71 : decode prog_14_method_69_code 71 = .ok (.iload_n 1, 1) := by decide +kernel
theorem d_X12_wake_72 : decode prog_14_method_69_code 72 = .ok (.invokevirtual 519, 3) := by decide +kernel
theorem d_X12_wake_75 : decode prog_14_method_69_code 75 = .ok (.goto 88, 3) := by decide +kernel
theorem d_X12_wake_78 : decode prog_14_method_69_code 78 = .ok (.aload_n 0, 1) := by decide +kernel
theorem d_X12_wake_79 : decode prog_14_method_69_code 79 = .ok (.getfield 34, 3) := by decide +kernel
theorem d_X12_wake_82 : decode prog_14_method_69_code 82 = .ok (.iload_n 1, 1) := by decide +kernel
theorem d_X12_wake_83 : decode prog_14_method_69_code 83 = .ok (.iaload, 1) := by decide +kernel
theorem d_X12_wake_84 : decode prog_14_method_69_code 84 = .ok (.iconst 3, 1) := by decide +kernel
theorem d_X12_wake_85 : decode prog_14_method_69_code 85 = .ok (.if_icmp .ne 62, 3) := by decide +kernel
theorem d_X12_wake_88 : decode prog_14_method_69_code 88 = .ok (.iload_n 2, 1) := by decide +kernel
theorem d_X12_wake_89 : decode prog_14_method_69_code 89 = .ok (.ifCond .ne 11, 3) := by decide +kernel
theorem d_X12_wake_92 : decode prog_14_method_69_code 92 = .ok (.aload_n 0, 1) := by decide +kernel
theorem d_X12_wake_93 : decode prog_14_method_69_code 93 = .ok (.iload_n 1, 1) := by decide +kernel
theorem d_X12_wake_94 : decode prog_14_method_69_code 94 = .ok (.invokevirtual 525, 3) := by decide +kernel
theorem d_X12_wake_97 : decode prog_14_method_69_code 97 = .ok (.goto 66, 3) := by decide +kernel
theorem d_X12_wake_100 : decode prog_14_method_69_code 100 = .ok (.aload_n 0, 1) := by decide +kernel
theorem d_X12_wake_101 : decode prog_14_method_69_code 101 = .ok (.getfield 37, 3) := by decide +kernel
theorem d_X12_wake_104 : decode prog_14_method_69_code 104 = .ok (.iload_n 1, 1) := by decide +kernel
theorem d_X12_wake_105 : decode prog_14_method_69_code 105 = .ok (.iaload, 1) := by decide +kernel
theorem d_X12_wake_106 : decode prog_14_method_69_code 106 = .ok (.aload_n 0, 1) := by decide +kernel
theorem d_X12_wake_107 : decode prog_14_method_69_code 107 = .ok (.getfield 64, 3) := by decide +kernel
theorem d_X12_wake_110 : decode prog_14_method_69_code 110 = .ok (.iload_n 1, 1) := by decide +kernel
theorem d_X12_wake_111 : decode prog_14_method_69_code 111 = .ok (.iaload, 1) := by decide +kernel
theorem d_X12_wake_112 : decode prog_14_method_69_code 112 = .ok (.if_icmp .ne 20, 3) := by decide +kernel
theorem d_X12_wake_115 : decode prog_14_method_69_code 115 = .ok (.aload_n 0, 1) := by decide +kernel
theorem d_X12_wake_116 : decode prog_14_method_69_code 116 = .ok (.getfield 156, 3) := by decide +kernel
theorem d_X12_wake_119 : decode prog_14_method_69_code 119 = .ok (.iload_n 1, 1) := by decide +kernel
theorem d_X12_wake_120 : decode prog_14_method_69_code 120 = .ok (.baload, 1) := by decide +kernel
theorem d_X12_wake_121 : decode prog_14_method_69_code 121 = .ok (.ifCond .eq 11, 3) := by decide +kernel
theorem d_X12_wake_124 : decode prog_14_method_69_code 124 = .ok (.aload_n 0, 1) := by decide +kernel
theorem d_X12_wake_125 : decode prog_14_method_69_code 125 = .ok (.iload_n 1, 1) := by decide +kernel
theorem d_X12_wake_126 : decode prog_14_method_69_code 126 = .ok (.invokevirtual 528, 3) := by decide +kernel
theorem d_X12_wake_129 : decode prog_14_method_69_code 129 = .ok (.goto 34, 3) := by decide +kernel
theorem d_X12_wake_132 : decode prog_14_method_69_code 132 = .ok (.aload_n 0, 1) := by decide +kernel
theorem d_X12_wake_133 : decode prog_14_method_69_code 133 = .ok (.getfield 156, 3) := by decide +kernel
theorem d_X12_wake_136 : decode prog_14_method_69_code 136 = .ok (.iload_n 1, 1) := by decide +kernel
theorem d_X12_wake_137 : decode prog_14_method_69_code 137 = .ok (.iconst 1, 1) := by decide +kernel
theorem d_X12_wake_138 : decode prog_14_method_69_code 138 = .ok (.bastore, 1) := by decide +kernel
theorem d_X12_wake_139 : decode prog_14_method_69_code 139 = .ok (.aload_n 0, 1) := by decide +kernel
theorem d_X12_wake_140 : decode prog_14_method_69_code 140 = .ok (.iload_n 1, 1) := by decide +kernel
theorem d_X12_wake_141 : decode prog_14_method_69_code 141 = .ok (.invokevirtual 540, 3) := by decide +kernel
theorem d_X12_wake_144 : decode prog_14_method_69_code 144 = .ok (.goto 19, 3) := by decide +kernel
theorem d_X12_wake_147 : decode prog_14_method_69_code 147 = .ok (.aload_n 0, 1) := by decide +kernel
theorem d_X12_wake_148 : decode prog_14_method_69_code 148 = .ok (.getfield 34, 3) := by decide +kernel
theorem d_X12_wake_151 : decode prog_14_method_69_code 151 = .ok (.iload_n 1, 1) := by decide +kernel
theorem d_X12_wake_152 : decode prog_14_method_69_code 152 = .ok (.iaload, 1) := by decide +kernel
theorem d_X12_wake_153 : decode prog_14_method_69_code 153 = .ok (.iconst 1, 1) := by decide +kernel
theorem d_X12_wake_154 : decode prog_14_method_69_code 154 = .ok (.if_icmp .ne 9, 3) := by decide +kernel
theorem d_X12_wake_157 : decode prog_14_method_69_code 157 = .ok (.aload_n 0, 1) := by decide +kernel
theorem d_X12_wake_158 : decode prog_14_method_69_code 158 = .ok (.iload_n 1, 1) := by decide +kernel
theorem d_X12_wake_159 : decode prog_14_method_69_code 159 = .ok (.iload_n 2, 1) := by decide +kernel
theorem d_X12_wake_160 : decode prog_14_method_69_code 160 = .ok (.invokevirtual 543, 3) := by decide +kernel
theorem d_X12_wake_163 : decode prog_14_method_69_code 163 = .ok (.return_, 1) := by decide +kernel
theorem d_X12_wakeBeat_0 : decode prog_14_method_70_code 0 = .ok (.sipush 150, 3) := by decide +kernel
theorem d_X12_wakeBeat_3 : decode prog_14_method_70_code 3 = .ok (.aload_n 0, 1) := by decide +kernel
theorem d_X12_wakeBeat_4 : decode prog_14_method_70_code 4 = .ok (.getfield 46, 3) := by decide +kernel
theorem d_X12_wakeBeat_7 : decode prog_14_method_70_code 7 = .ok (.iload_n 1, 1) := by decide +kernel
theorem d_X12_wakeBeat_8 : decode prog_14_method_70_code 8 = .ok (.iaload, 1) := by decide +kernel
theorem d_X12_wakeBeat_9 : decode prog_14_method_70_code 9 = .ok (.imul, 1) := by decide +kernel
theorem d_X12_wakeBeat_10 : decode prog_14_method_70_code 10 = .ok (.aload_n 0, 1) := by decide +kernel
theorem d_X12_wakeBeat_11 : decode prog_14_method_70_code 11 = .ok (.getfield 49, 3) := by decide +kernel
theorem d_X12_wakeBeat_14 : decode prog_14_method_70_code 14 = .ok (.iload_n 1, 1) := by decide +kernel
theorem d_X12_wakeBeat_15 : decode prog_14_method_70_code 15 = .ok (.iaload, 1) := by decide +kernel
theorem d_X12_wakeBeat_16 : decode prog_14_method_70_code 16 = .ok (.iadd, 1) := by decide +kernel
theorem d_X12_wakeBeat_17 : decode prog_14_method_70_code 17 = .ok (.istore_n 3, 1) := by decide +kernel
theorem d_X12_wakeBeat_18 : decode prog_14_method_70_code 18 = .ok (.iload_n 2, 1) := by decide +kernel
theorem d_X12_wakeBeat_19 : decode prog_14_method_70_code 19 = .ok (.ifCond .eq 28, 3) := by decide +kernel
theorem d_X12_wakeBeat_22 : decode prog_14_method_70_code 22 = .ok (.aload_n 0, 1) := by decide +kernel
theorem d_X12_wakeBeat_23 : decode prog_14_method_70_code 23 = .ok (.getfield 96, 3) := by decide +kernel
theorem d_X12_wakeBeat_26 : decode prog_14_method_70_code 26 = .ok (.iload_n 3, 1) := by decide +kernel
theorem d_X12_wakeBeat_27 : decode prog_14_method_70_code 27 = .ok (.iaload, 1) := by decide +kernel
theorem d_X12_wakeBeat_28 : decode prog_14_method_70_code 28 = .ok (.iconst 2, 1) := by decide +kernel
theorem d_X12_wakeBeat_29 : decode prog_14_method_70_code 29 = .ok (.if_icmp .ne 33, 3) := by decide +kernel
theorem d_X12_wakeBeat_32 : decode prog_14_method_70_code 32 = .ok (.aload_n 0, 1) := by decide +kernel
theorem d_X12_wakeBeat_33 : decode prog_14_method_70_code 33 = .ok (.iload_n 1, 1) := by decide +kernel
theorem d_X12_wakeBeat_34 : decode prog_14_method_70_code 34 = .ok (.aload_n 0, 1) := by decide +kernel
theorem d_X12_wakeBeat_35 : decode prog_14_method_70_code 35 = .ok (.getfield 102, 3) := by decide +kernel
theorem d_X12_wakeBeat_38 : decode prog_14_method_70_code 38 = .ok (.iload_n 3, 1) := by decide +kernel
theorem d_X12_wakeBeat_39 : decode prog_14_method_70_code 39 = .ok (.iaload, 1) := by decide +kernel
theorem d_X12_wakeBeat_40 : decode prog_14_method_70_code 40 = .ok (.invokevirtual 531, 3) := by decide +kernel
theorem d_X12_wakeBeat_43 : decode prog_14_method_70_code 43 = .ok (.ifCond .eq 19, 3) := by decide +kernel
theorem d_X12_wakeBeat_46 : decode prog_14_method_70_code 46 = .ok (.return_, 1) := by decide +kernel
theorem d_X12_wakeBeat_47 : decode prog_14_method_70_code 47 = .ok (.aload_n 0, 1) := by decide +kernel
theorem d_X12_wakeBeat_48 : decode prog_14_method_70_code 48 = .ok (.getfield 96, 3) := by decide +kernel
theorem d_X12_wakeBeat_51 : decode prog_14_method_70_code 51 = .ok (.iload_n 3, 1) := by decide +kernel
theorem d_X12_wakeBeat_52 : decode prog_14_method_70_code 52 = .ok (.iaload, 1) := by decide +kernel
theorem d_X12_wakeBeat_53 : decode prog_14_method_70_code 53 = .ok (.iconst 3, 1) := by decide +kernel
theorem d_X12_wakeBeat_54 : decode prog_14_method_70_code 54 = .ok (.if_icmp .ne 8, 3) := by decide +kernel
theorem d_X12_wakeBeat_57 : decode prog_14_method_70_code 57 = .ok (.aload_n 0, 1) := by decide +kernel
theorem d_X12_wakeBeat_58 : decode prog_14_method_70_code 58 = .ok (.iload_n 1, 1) := by decide +kernel
theorem d_X12_wakeBeat_59 : decode prog_14_method_70_code 59 = .ok (.invokevirtual 547, 3) := by decide +kernel
theorem d_X12_wakeBeat_62 : decode prog_14_method_70_code 62 = .ok (.aload_n 0, 1) := by decide +kernel
theorem d_X12_wakeBeat_63 : decode prog_14_method_70_code 63 = .ok (.getfield 49, 3) := by decide +kernel
theorem d_X12_wakeBeat_66 : decode prog_14_method_70_code 66 = .ok (.iload_n 1, 1) := by decide +kernel
theorem d_X12_wakeBeat_67 : decode prog_14_method_70_code 67 = .ok (.dup2, 1) := by decide +kernel
theorem d_X12_wakeBeat_68 : decode prog_14_method_70_code 68 = .ok (.iaload, 1) := by decide +kernel
theorem d_X12_wakeBeat_69 : decode prog_14_method_70_code 69 = .ok (.iconst 1, 1) := by decide +kernel
theorem d_X12_wakeBeat_70 : decode prog_14_method_70_code 70 = .ok (.iadd, 1) := by decide +kernel
theorem d_X12_wakeBeat_71 : decode prog_14_method_70_code 71 = .ok (.iastore, 1) := by decide +kernel
theorem d_X12_wakeBeat_72 : decode prog_14_method_70_code 72 = .ok (.aload_n 0, 1) := by decide +kernel
theorem d_X12_wakeBeat_73 : decode prog_14_method_70_code 73 = .ok (.iload_n 1, 1) := by decide +kernel
theorem d_X12_wakeBeat_74 : decode prog_14_method_70_code 74 = .ok (.invokevirtual 534, 3) := by decide +kernel
theorem d_X12_wakeBeat_77 : decode prog_14_method_70_code 77 = .ok (.return_, 1) := by decide +kernel
theorem d_X12_tick_0 : decode prog_14_method_71_code 0 = .ok (.iload_n 1, 1) := by decide +kernel
theorem d_X12_tick_1 : decode prog_14_method_71_code 1 = .ok (.iconst 0, 1) := by decide +kernel
theorem d_X12_tick_2 : decode prog_14_method_71_code 2 = .ok (.sipush 1500, 3) := by decide +kernel
theorem d_X12_tick_5 : decode prog_14_method_71_code 5 = .ok (.invokestatic 323, 3) := by decide +kernel
theorem d_X12_tick_8 : decode prog_14_method_71_code 8 = .ok (.ifCond .eq 15, 3) := by decide +kernel
theorem d_X12_tick_11 : decode prog_14_method_71_code 11 = .ok (.aload_n 0, 1) := by decide +kernel
theorem d_X12_tick_12 : decode prog_14_method_71_code 12 = .ok (.getfield 342, 3) := by decide +kernel
theorem d_X12_tick_15 : decode prog_14_method_71_code 15 = .ok (.iload_n 1, 1) := by decide +kernel
theorem d_X12_tick_16 : decode prog_14_method_71_code 16 = .ok (.iadd, 1) := by decide +kernel
theorem d_X12_tick_17 : decode prog_14_method_71_code 17 = .ok (.sipush 20000, 3) := by decide +kernel
theorem d_X12_tick_20 : decode prog_14_method_71_code 20 = .ok (.if_icmp .le 5, 3) := by decide +kernel
theorem d_X12_tick_23 : decode prog_14_method_71_code 23 = .ok (.iconst (-1), 1) := by decide +kernel
theorem d_X12_tick_24 : decode prog_14_method_71_code 24 = .ok (.ireturn, 1) := by decide +kernel
theorem d_X12_tick_25 : decode prog_14_method_71_code 25 = .ok (.iconst 0, 1) := by decide +kernel
theorem d_X12_tick_26 : decode prog_14_method_71_code 26 = .ok (.istore_n 2, 1) := by decide +kernel
theorem d_X12_tick_27 : decode prog_14_method_71_code 27 = .ok (.iload_n 2, 1) := by decide +kernel
theorem d_X12_tick_28 : decode prog_14_method_71_code 28 = .ok (.iload_n 1, 1) := by decide +kernel
theorem d_X12_tick_29 : decode prog_14_method_71_code 29 = .ok (.if_icmp .ge 78, 3) := by decide +kernel
theorem d_X12_tick_32 : decode prog_14_method_71_code 32 = .ok (.iconst 0, 1) := by decide +kernel
theorem d_X12_tick_33 : decode prog_14_method_71_code 33 = .ok (.istore_n 3, 1) := by decide +kernel
theorem d_X12_tick_34 : decode prog_14_method_71_code 34 = .ok (.iload_n 3, 1) := by decide +kernel
theorem d_X12_tick_35 : decode prog_14_method_71_code 35 = .ok (.aload_n 0, 1) := by decide +kernel
theorem d_X12_tick_36 : decode prog_14_method_71_code 36 = .ok (.getfield 339, 3) := by decide +kernel
theorem d_X12_tick_39 : decode prog_14_method_71_code 39 = .ok (.if_icmp .ge 31, 3) := by decide +kernel
theorem d_X12_tick_42 : decode prog_14_method_71_code 42 = .ok (.aload_n 0, 1) := by decide +kernel
theorem d_X12_tick_43 : decode prog_14_method_71_code 43 = .ok (.getfield 71, 3) := by decide +kernel
theorem d_X12_tick_46 : decode prog_14_method_71_code 46 = .ok (.sipush 20001, 3) := by decide +kernel
theorem d_X12_tick_49 : decode prog_14_method_71_code 49 = .ok (.iload_n 3, 1) := by decide +kernel
theorem d_X12_tick_50 : decode prog_14_method_71_code 50 = .ok (.imul, 1) := by decide +kernel
theorem d_X12_tick_51 : decode prog_14_method_71_code 51 = .ok (.aload_n 0, 1) := by decide +kernel
theorem d_X12_tick_52 : decode prog_14_method_71_code 52 = .ok (.getfield 342, 3) := by decide +kernel
theorem d_X12_tick_55 : decode prog_14_method_71_code 55 = .ok (.iadd, 1) := by decide +kernel
theorem d_X12_tick_56 : decode prog_14_method_71_code 56 = .ok (.aload_n 0, 1) := by decide +kernel
theorem d_X12_tick_57 : decode prog_14_method_71_code 57 = .ok (.getfield 37, 3) := by decide +kernel
theorem d_X12_tick_60 : decode prog_14_method_71_code 60 = .ok (.iload_n 3, 1) := by decide +kernel
theorem d_X12_tick_61 : decode prog_14_method_71_code 61 = .ok (.iaload, 1) := by decide +kernel
theorem d_X12_tick_62 : decode prog_14_method_71_code 62 = .ok (.i2b, 1) := by decide +kernel
theorem d_X12_tick_63 : decode prog_14_method_71_code 63 = .ok (.bastore, 1) := by decide +kernel
theorem d_X12_tick_64 : decode prog_14_method_71_code 64 = .ok (.iinc 3 1, 3) := by decide +kernel
theorem d_X12_tick_67 : decode prog_14_method_71_code 67 = .ok (.goto (-33), 3) := by decide +kernel
theorem d_X12_tick_70 : decode prog_14_method_71_code 70 = .ok (.aload_n 0, 1) := by decide +kernel
theorem d_X12_tick_71 : decode prog_14_method_71_code 71 = .ok (.dup, 1) := by decide +kernel
theorem d_X12_tick_72 : decode prog_14_method_71_code 72 = .ok (.getfield 342, 3) := by decide +kernel
theorem d_X12_tick_75 : decode prog_14_method_71_code 75 = .ok (.iconst 1, 1) := by decide +kernel
theorem d_X12_tick_76 : decode prog_14_method_71_code 76 = .ok (.iadd, 1) := by decide +kernel
theorem d_X12_tick_77 : decode prog_14_method_71_code 77 = .ok (.putfield 342, 3) := by decide +kernel
theorem d_X12_tick_80 : decode prog_14_method_71_code 80 = .ok (.iconst 0, 1) := by decide +kernel
theorem d_X12_tick_81 : decode prog_14_method_71_code 81 = .ok (.istore_n 3, 1) := by decide +kernel
theorem d_X12_tick_82 : decode prog_14_method_71_code 82 = .ok (.iload_n 3, 1) := by decide +kernel
theorem d_X12_tick_83 : decode prog_14_method_71_code 83 = .ok (.aload_n 0, 1) := by decide +kernel
theorem d_X12_tick_84 : decode prog_14_method_71_code 84 = .ok (.getfield 339, 3) := by decide +kernel
theorem d_X12_tick_87 : decode prog_14_method_71_code 87 = .ok (.if_icmp .ge 14, 3) := by decide +kernel
theorem d_X12_tick_90 : decode prog_14_method_71_code 90 = .ok (.aload_n 0, 1) := by decide +kernel
theorem d_X12_tick_91 : decode prog_14_method_71_code 91 = .ok (.iload_n 3, 1) := by decide +kernel
theorem d_X12_tick_92 : decode prog_14_method_71_code 92 = .ok (.invokevirtual 550, 3) := by decide +kernel
theorem d_X12_tick_95 : decode prog_14_method_71_code 95 = .ok (.iinc 3 1, 3) := by decide +kernel
theorem d_X12_tick_98 : decode prog_14_method_71_code 98 = .ok (.goto (-16), 3) := by decide +kernel
theorem d_X12_tick_101 : decode prog_14_method_71_code 101 = .ok (.iinc 2 1, 3) := by decide +kernel
theorem d_X12_tick_104 : decode prog_14_method_71_code 104 = .ok (.goto (-77), 3) := by decide +kernel
theorem d_X12_tick_107 : decode prog_14_method_71_code 107 = .ok (.aload_n 0, 1) := by decide +kernel
theorem d_X12_tick_108 : decode prog_14_method_71_code 108 = .ok (.getfield 342, 3) := by decide +kernel
theorem d_X12_tick_111 : decode prog_14_method_71_code 111 = .ok (.ireturn, 1) := by decide +kernel
theorem d_X12_pointsBy_0 : decode prog_14_method_72_code 0 = .ok (.iconst 0, 1) := by decide +kernel
theorem d_X12_pointsBy_1 : decode prog_14_method_72_code 1 = .ok (.istore_n 3, 1) := by decide +kernel
theorem d_X12_pointsBy_2 : decode prog_14_method_72_code 2 = .ok (.iconst 0, 1) := by decide +kernel
theorem d_X12_pointsBy_3 : decode prog_14_method_72_code 3 = .ok (.istore 4, 2) := by decide +kernel
theorem d_X12_pointsBy_5 : decode prog_14_method_72_code 5 = .ok (.iload 4, 2) := by decide +kernel
theorem d_X12_pointsBy_7 : decode prog_14_method_72_code 7 = .ok (.aload_n 0, 1) := by decide +kernel
theorem d_X12_pointsBy_8 : decode prog_14_method_72_code 8 = .ok (.getfield 507, 3) := by decide +kernel
theorem d_X12_pointsBy_11 : decode prog_14_method_72_code 11 = .ok (.if_icmp .ge 53, 3) := by decide +kernel
theorem d_X12_pointsBy_14 : decode prog_14_method_72_code 14 = .ok (.iload_n 3, 1) := by decide +kernel
theorem d_X12_pointsBy_15 : decode prog_14_method_72_code 15 = .ok (.aload_n 0, 1) := by decide +kernel
theorem d_X12_pointsBy_16 : decode prog_14_method_72_code 16 = .ok (.getfield 126, 3) := by decide +kernel
theorem d_X12_pointsBy_19 : decode prog_14_method_72_code 19 = .ok (.iload 4, 2) := by decide +kernel
theorem d_X12_pointsBy_21 : decode prog_14_method_72_code 21 = .ok (.iaload, 1) := by decide +kernel
theorem d_X12_pointsBy_22 : decode prog_14_method_72_code 22 = .ok (.iload_n 1, 1) := by decide +kernel
theorem d_X12_pointsBy_23 : decode prog_14_method_72_code 23 = .ok (.if_icmp .ne 32, 3) := by decide +kernel
theorem d_X12_pointsBy_26 : decode prog_14_method_72_code 26 = .ok (.iload_n 2, 1) := by decide +kernel
theorem d_X12_pointsBy_27 : decode prog_14_method_72_code 27 = .ok (.ifCond .eq 13, 3) := by decide +kernel
theorem d_X12_pointsBy_30 : decode prog_14_method_72_code 30 = .ok (.aload_n 0, 1) := by decide +kernel
theorem d_X12_pointsBy_31 : decode prog_14_method_72_code 31 = .ok (.getfield 135, 3) := by decide +kernel
theorem d_X12_pointsBy_34 : decode prog_14_method_72_code 34 = .ok (.iload 4, 2) := by decide +kernel
theorem d_X12_pointsBy_36 : decode prog_14_method_72_code 36 = .ok (.iaload, 1) := by decide +kernel
theorem d_X12_pointsBy_37 : decode prog_14_method_72_code 37 = .ok (.goto 10, 3) := by decide +kernel
theorem d_X12_pointsBy_40 : decode prog_14_method_72_code 40 = .ok (.aload_n 0, 1) := by decide +kernel
theorem d_X12_pointsBy_41 : decode prog_14_method_72_code 41 = .ok (.getfield 138, 3) := by decide +kernel
theorem d_X12_pointsBy_44 : decode prog_14_method_72_code 44 = .ok (.iload 4, 2) := by decide +kernel
theorem d_X12_pointsBy_46 : decode prog_14_method_72_code 46 = .ok (.iaload, 1) := by decide +kernel
theorem d_X12_pointsBy_47 : decode prog_14_method_72_code 47 = .ok (.iconst (-1), 1) := by decide +kernel
theorem d_X12_pointsBy_48 : decode prog_14_method_72_code 48 = .ok (.if_icmp .eq 7, 3) := by decide +kernel
theorem d_X12_pointsBy_51 : decode prog_14_method_72_code 51 = .ok (.iconst 1, 1) := by decide +kernel
theorem d_X12_pointsBy_52 : decode prog_14_method_72_code 52 = .ok (.goto 4, 3) := by decide +kernel
theorem d_X12_pointsBy_55 : decode prog_14_method_72_code 55 = .ok (.iconst 0, 1) := by decide +kernel
theorem d_X12_pointsBy_56 : decode prog_14_method_72_code 56 = .ok (.iadd, 1) := by decide +kernel
theorem d_X12_pointsBy_57 : decode prog_14_method_72_code 57 = .ok (.istore_n 3, 1) := by decide +kernel
theorem d_X12_pointsBy_58 : decode prog_14_method_72_code 58 = .ok (.iinc 4 1, 3) := by decide +kernel
theorem d_X12_pointsBy_61 : decode prog_14_method_72_code 61 = .ok (.goto (-56), 3) := by decide +kernel
theorem d_X12_pointsBy_64 : decode prog_14_method_72_code 64 = .ok (.iload_n 3, 1) := by decide +kernel
theorem d_X12_pointsBy_65 : decode prog_14_method_72_code 65 = .ok (.ireturn, 1) := by decide +kernel
theorem d_X12_about_0 : decode prog_14_method_73_code 0 = .ok (.aload_n 0, 1) := by decide +kernel
theorem d_X12_about_1 : decode prog_14_method_73_code 1 = .ok (.aload_n 0, 1) := by decide +kernel
theorem d_X12_about_2 : decode prog_14_method_73_code 2 = .ok (.iload_n 1, 1) := by decide +kernel
theorem d_X12_about_3 : decode prog_14_method_73_code 3 = .ok (.invokevirtual 345, 3) := by decide +kernel
theorem d_X12_about_6 : decode prog_14_method_73_code 6 = .ok (.ifCond .eq 17, 3) := by decide +kernel
theorem d_X12_about_9 : decode prog_14_method_73_code 9 = .ok (.iload_n 2, 1) := by decide +kernel
theorem d_X12_about_10 : decode prog_14_method_73_code 10 = .ok (.iconst 0, 1) := by decide +kernel
theorem d_X12_about_11 : decode prog_14_method_73_code 11 = .ok (.bipush 8, 2) := by decide +kernel
theorem d_X12_about_13 : decode prog_14_method_73_code 13 = .ok (.invokestatic 323, 3) := by decide +kernel
theorem d_X12_about_16 : decode prog_14_method_73_code 16 = .ok (.ifCond .eq 7, 3) := by decide +kernel
theorem d_X12_about_19 : decode prog_14_method_73_code 19 = .ok (.iconst 0, 1) := by decide +kernel
theorem d_X12_about_20 : decode prog_14_method_73_code 20 = .ok (.goto 4, 3) := by decide +kernel
theorem d_X12_about_23 : decode prog_14_method_73_code 23 = .ok (.iconst 1, 1) := by decide +kernel
theorem d_X12_about_24 : decode prog_14_method_73_code 24 = .ok (.putfield 320, 3) := by decide +kernel
theorem d_X12_about_27 : decode prog_14_method_73_code 27 = .ok (.aload_n 0, 1) := by decide +kernel
theorem d_X12_about_28 : decode prog_14_method_73_code 28 = .ok (.getfield 320, 3) := by decide +kernel
theorem d_X12_about_31 : decode prog_14_method_73_code 31 = .ok (.iconst 1, 1) := by decide +kernel
theorem d_X12_about_32 : decode prog_14_method_73_code 32 = .ok (.if_icmp .ne 5, 3) := by decide +kernel
theorem d_X12_about_35 : decode prog_14_method_73_code 35 = .ok (.iconst 0, 1) := by decide +kernel
theorem d_X12_about_36 : decode prog_14_method_73_code 36 = .ok (.ireturn, 1) := by decide +kernel
theorem d_X12_about_37 : decode prog_14_method_73_code 37 = .ok (.iload_n 2, 1) := by decide +kernel
theorem d_X12_about_38 : decode prog_14_method_73_code 38 = .ok (.tableswitch 116 0 7 #[46, 53, 60, 67, 74, 95, 102, 109], 46) := by decide +kernel
theorem d_X12_about_84 : decode prog_14_method_73_code 84 = .ok (.aload_n 0, 1) := by decide +kernel
theorem d_X12_about_85 : decode prog_14_method_73_code 85 = .ok (.getfield 34, 3) := by decide +kernel
theorem d_X12_about_88 : decode prog_14_method_73_code 88 = .ok (.iload_n 1, 1) := by decide +kernel
theorem d_X12_about_89 : decode prog_14_method_73_code 89 = .ok (.iaload, 1) := by decide +kernel
theorem d_X12_about_90 : decode prog_14_method_73_code 90 = .ok (.ireturn, 1) := by decide +kernel
theorem d_X12_about_91 : decode prog_14_method_73_code 91 = .ok (.aload_n 0, 1) := by decide +kernel
theorem d_X12_about_92 : decode prog_14_method_73_code 92 = .ok (.getfield 37, 3) := by decide +kernel
theorem d_X12_about_95 : decode prog_14_method_73_code 95 = .ok (.iload_n 1, 1) := by decide +kernel
theorem d_X12_about_96 : decode prog_14_method_73_code 96 = .ok (.iaload, 1) := by decide +kernel
theorem d_X12_about_97 : decode prog_14_method_73_code 97 = .ok (.ireturn, 1) := by decide +kernel
theorem d_X12_about_98 : decode prog_14_method_73_code 98 = .ok (.aload_n 0, 1) := by decide +kernel
theorem d_X12_about_99 : decode prog_14_method_73_code 99 = .ok (.getfield 40, 3) := by decide +kernel
theorem d_X12_about_102 : decode prog_14_method_73_code 102 = .ok (.iload_n 1, 1) := by decide +kernel
theorem d_X12_about_103 : decode prog_14_method_73_code 103 = .ok (.iaload, 1) := by decide +kernel
theorem d_X12_about_104 : decode prog_14_method_73_code 104 = .ok (.ireturn, 1) := by decide +kernel
theorem d_X12_about_105 : decode prog_14_method_73_code 105 = .ok (.aload_n 0, 1) := by decide +kernel
theorem d_X12_about_106 : decode prog_14_method_73_code 106 = .ok (.getfield 43, 3) := by decide +kernel
theorem d_X12_about_109 : decode prog_14_method_73_code 109 = .ok (.iload_n 1, 1) := by decide +kernel
theorem d_X12_about_110 : decode prog_14_method_73_code 110 = .ok (.iaload, 1) := by decide +kernel
theorem d_X12_about_111 : decode prog_14_method_73_code 111 = .ok (.ireturn, 1) := by decide +kernel
theorem d_X12_about_112 : decode prog_14_method_73_code 112 = .ok (.aload_n 0, 1) := by decide +kernel
theorem d_X12_about_113 : decode prog_14_method_73_code 113 = .ok (.getfield 34, 3) := by decide +kernel
theorem d_X12_about_116 : decode prog_14_method_73_code 116 = .ok (.iload_n 1, 1) := by decide +kernel
theorem d_X12_about_117 : decode prog_14_method_73_code 117 = .ok (.iaload, 1) := by decide +kernel
theorem d_X12_about_118 : decode prog_14_method_73_code 118 = .ok (.iconst 1, 1) := by decide +kernel
theorem d_X12_about_119 : decode prog_14_method_73_code 119 = .ok (.if_icmp .ne 12, 3) := by decide +kernel
theorem d_X12_about_122 : decode prog_14_method_73_code 122 = .ok (.aload_n 0, 1) := by decide +kernel
theorem d_X12_about_123 : decode prog_14_method_73_code 123 = .ok (.getfield 49, 3) := by decide +kernel
theorem d_X12_about_126 : decode prog_14_method_73_code 126 = .ok (.iload_n 1, 1) := by decide +kernel
theorem d_X12_about_127 : decode prog_14_method_73_code 127 = .ok (.iaload, 1) := by decide +kernel
theorem d_X12_about_128 : decode prog_14_method_73_code 128 = .ok (.goto 4, 3) := by decide +kernel
theorem d_X12_about_131 : decode prog_14_method_73_code 131 = .ok (.iconst (-1), 1) := by decide +kernel
theorem d_X12_about_132 : decode prog_14_method_73_code 132 = .ok (.ireturn, 1) := by decide +kernel
theorem d_X12_about_133 : decode prog_14_method_73_code 133 = .ok (.aload_n 0, 1) := by decide +kernel
theorem d_X12_about_134 : decode prog_14_method_73_code 134 = .ok (.iload_n 1, 1) := by decide +kernel
theorem d_X12_about_135 : decode prog_14_method_73_code 135 = .ok (.iconst 1, 1) := by decide +kernel
theorem d_X12_about_136 : decode prog_14_method_73_code 136 = .ok (.invokevirtual 553, 3) := by decide +kernel
theorem d_X12_about_139 : decode prog_14_method_73_code 139 = .ok (.ireturn, 1) := by decide +kernel
theorem d_X12_about_140 : decode prog_14_method_73_code 140 = .ok (.aload_n 0, 1) := by decide +kernel
theorem d_X12_about_141 : decode prog_14_method_73_code 141 = .ok (.iload_n 1, 1) := by decide +kernel
theorem d_X12_about_142 : decode prog_14_method_73_code 142 = .ok (.iconst 0, 1) := by decide +kernel
theorem d_X12_about_143 : decode prog_14_method_73_code 143 = .ok (.invokevirtual 553, 3) := by decide +kernel
theorem d_X12_about_146 : decode prog_14_method_73_code 146 = .ok (.ireturn, 1) := by decide +kernel
theorem d_X12_about_147 : decode prog_14_method_73_code 147 = .ok (.aload_n 0, 1) := by decide +kernel
theorem d_X12_about_148 : decode prog_14_method_73_code 148 = .ok (.getfield 25, 3) := by decide +kernel
theorem d_X12_about_151 : decode prog_14_method_73_code 151 = .ok (.iload_n 1, 1) := by decide +kernel
theorem d_X12_about_152 : decode prog_14_method_73_code 152 = .ok (.iaload, 1) := by decide +kernel
theorem d_X12_about_153 : decode prog_14_method_73_code 153 = .ok (.ireturn, 1) := by decide +kernel
theorem d_X12_about_154 : decode prog_14_method_73_code 154 = .ok (.aload_n 0, 1) := by decide +kernel
theorem d_X12_about_155 : decode prog_14_method_73_code 155 = .ok (.getfield 28, 3) := by decide +kernel
theorem d_X12_about_158 : decode prog_14_method_73_code 158 = .ok (.iload_n 1, 1) := by decide +kernel
theorem d_X12_about_159 : decode prog_14_method_73_code 159 = .ok (.iaload, 1) := by decide +kernel
theorem d_X12_about_160 : decode prog_14_method_73_code 160 = .ok (.ireturn, 1) := by decide +kernel
theorem d_X12_wasAt_0 : decode prog_14_method_74_code 0 = .ok (.iload_n 2, 1) := by decide +kernel
theorem d_X12_wasAt_1 : decode prog_14_method_74_code 1 = .ok (.aload_n 0, 1) := by decide +kernel
theorem d_X12_wasAt_2 : decode prog_14_method_74_code 2 = .ok (.getfield 342, 3) := by decide +kernel
theorem d_X12_wasAt_5 : decode prog_14_method_74_code 5 = .ok (.if_icmp .ne 12, 3) := by decide +kernel
theorem d_X12_wasAt_8 : decode prog_14_method_74_code 8 = .ok (.aload_n 0, 1) := by decide +kernel
theorem d_X12_wasAt_9 : decode prog_14_method_74_code 9 = .ok (.getfield 37, 3) := by decide +kernel
theorem d_X12_wasAt_12 : decode prog_14_method_74_code 12 = .ok (.iload_n 1, 1) := by decide +kernel
theorem d_X12_wasAt_13 : decode prog_14_method_74_code 13 = .ok (.iaload, 1) := by decide +kernel
theorem d_X12_wasAt_14 : decode prog_14_method_74_code 14 = .ok (.goto 15, 3) := by decide +kernel
theorem d_X12_wasAt_17 : decode prog_14_method_74_code 17 = .ok (.aload_n 0, 1) := by decide +kernel
theorem d_X12_wasAt_18 : decode prog_14_method_74_code 18 = .ok (.getfield 71, 3) := by decide +kernel
theorem d_X12_wasAt_21 : decode prog_14_method_74_code 21 = .ok (.sipush 20001, 3) := by decide +kernel
theorem d_X12_wasAt_24 : decode prog_14_method_74_code 24 = .ok (.iload_n 1, 1) := by decide +kernel
theorem d_X12_wasAt_25 : decode prog_14_method_74_code 25 = .ok (.imul, 1) := by decide +kernel
theorem d_X12_wasAt_26 : decode prog_14_method_74_code 26 = .ok (.iload_n 2, 1) := by decide +kernel
theorem d_X12_wasAt_27 : decode prog_14_method_74_code 27 = .ok (.iadd, 1) := by decide +kernel
theorem d_X12_wasAt_28 : decode prog_14_method_74_code 28 = .ok (.baload, 1) := by decide +kernel
theorem d_X12_wasAt_29 : decode prog_14_method_74_code 29 = .ok (.ireturn, 1) := by decide +kernel
theorem d_X12_was_0 : decode prog_14_method_75_code 0 = .ok (.aload_n 0, 1) := by decide +kernel
theorem d_X12_was_1 : decode prog_14_method_75_code 1 = .ok (.iload_n 1, 1) := by decide +kernel
theorem d_X12_was_2 : decode prog_14_method_75_code 2 = .ok (.invokevirtual 345, 3) := by decide +kernel
theorem d_X12_was_5 : decode prog_14_method_75_code 5 = .ok (.ifCond .eq 29, 3) := by decide +kernel
theorem d_X12_was_8 : decode prog_14_method_75_code 8 = .ok (.iload_n 2, 1) := by decide +kernel
theorem d_X12_was_9 : decode prog_14_method_75_code 9 = .ok (.aload_n 0, 1) := by decide +kernel
theorem d_X12_was_10 : decode prog_14_method_75_code 10 = .ok (.getfield 31, 3) := by decide +kernel
theorem d_X12_was_13 : decode prog_14_method_75_code 13 = .ok (.iload_n 1, 1) := by decide +kernel
theorem d_X12_was_14 : decode prog_14_method_75_code 14 = .ok (.iaload, 1) := by decide +kernel
theorem d_X12_was_15 : decode prog_14_method_75_code 15 = .ok (.aload_n 0, 1) := by decide +kernel
theorem d_X12_was_16 : decode prog_14_method_75_code 16 = .ok (.getfield 342, 3) := by decide +kernel
theorem d_X12_was_19 : decode prog_14_method_75_code 19 = .ok (.invokestatic 323, 3) := by decide +kernel
theorem d_X12_was_22 : decode prog_14_method_75_code 22 = .ok (.ifCond .eq 12, 3) := by decide +kernel
theorem d_X12_was_25 : decode prog_14_method_75_code 25 = .ok (.aload_n 0, 1) := by decide +kernel
theorem d_X12_was_26 : decode prog_14_method_75_code 26 = .ok (.iload_n 1, 1) := by decide +kernel
theorem d_X12_was_27 : decode prog_14_method_75_code 27 = .ok (.iload_n 2, 1) := by decide +kernel
theorem d_X12_was_28 : decode prog_14_method_75_code 28 = .ok (.invokevirtual 557, 3) := by decide +kernel
theorem d_X12_was_31 : decode prog_14_method_75_code 31 = .ok (.goto 4, 3) := by decide +kernel
theorem d_X12_was_34 : decode prog_14_method_75_code 34 = .ok (.iconst (-1), 1) := by decide +kernel
theorem d_X12_was_35 : decode prog_14_method_75_code 35 = .ok (.ireturn, 1) := by decide +kernel
theorem d_X12_complain_0 : decode prog_14_method_76_code 0 = .ok (.aload_n 0, 1) := by decide +kernel
theorem d_X12_complain_1 : decode prog_14_method_76_code 1 = .ok (.iload_n 1, 1) := by decide +kernel
theorem d_X12_complain_2 : decode prog_14_method_76_code 2 = .ok (.invokevirtual 345, 3) := by decide +kernel
theorem d_X12_complain_5 : decode prog_14_method_76_code 5 = .ok (.ifCond .eq 45, 3) := by decide +kernel
theorem d_X12_complain_8 : decode prog_14_method_76_code 8 = .ok (.iload_n 2, 1) := by decide +kernel
theorem d_X12_complain_9 : decode prog_14_method_76_code 9 = .ok (.invokestatic 327, 3) := by decide +kernel
theorem d_X12_complain_12 : decode prog_14_method_76_code 12 = .ok (.ifCond .eq 38, 3) := by decide +kernel
theorem d_X12_complain_15 : decode prog_14_method_76_code 15 = .ok (.iload_n 3, 1) := by decide +kernel
theorem d_X12_complain_16 : decode prog_14_method_76_code 16 = .ok (.iconst 0, 1) := by decide +kernel
theorem d_X12_complain_17 : decode prog_14_method_76_code 17 = .ok (.aload_n 0, 1) := by decide +kernel
theorem d_X12_complain_18 : decode prog_14_method_76_code 18 = .ok (.getfield 342, 3) := by decide +kernel
theorem d_X12_complain_21 : decode prog_14_method_76_code 21 = .ok (.invokestatic 323, 3) := by decide +kernel
theorem d_X12_complain_24 : decode prog_14_method_76_code 24 = .ok (.ifCond .eq 26, 3) := by decide +kernel
theorem d_X12_complain_27 : decode prog_14_method_76_code 27 = .ok (.iload 4, 2) := by decide +kernel
theorem d_X12_complain_29 : decode prog_14_method_76_code 29 = .ok (.iload_n 3, 1) := by decide +kernel
theorem d_X12_complain_30 : decode prog_14_method_76_code 30 = .ok (.aload_n 0, 1) := by decide +kernel
theorem d_X12_complain_31 : decode prog_14_method_76_code 31 = .ok (.getfield 342, 3) := by decide +kernel
theorem d_X12_complain_34 : decode prog_14_method_76_code 34 = .ok (.invokestatic 323, 3) := by decide +kernel
theorem d_X12_complain_37 : decode prog_14_method_76_code 37 = .ok (.ifCond .eq 13, 3) := by decide +kernel
theorem d_X12_complain_40 : decode prog_14_method_76_code 40 = .ok (.iload 4, 2) := by decide +kernel
theorem d_X12_complain_42 : decode prog_14_method_76_code 42 = .ok (.iload_n 3, 1) := by decide +kernel
theorem d_X12_complain_43 : decode prog_14_method_76_code 43 = .ok (.isub, 1) := by decide +kernel
theorem d_X12_complain_44 : decode prog_14_method_76_code 44 = .ok (.sipush 1440, 3) := by decide +kernel
theorem d_X12_complain_47 : decode prog_14_method_76_code 47 = .ok (.if_icmp .le 5, 3) := by decide +kernel
theorem d_X12_complain_50 : decode prog_14_method_76_code 50 = .ok (.iconst (-1), 1) := by decide +kernel
theorem d_X12_complain_51 : decode prog_14_method_76_code 51 = .ok (.ireturn, 1) := by decide +kernel
theorem d_X12_complain_52 : decode prog_14_method_76_code 52 = .ok (.iconst 0, 1) := by decide +kernel
theorem d_X12_complain_53 : decode prog_14_method_76_code 53 = .ok (.istore 5, 2) := by decide +kernel
theorem d_X12_complain_55 : decode prog_14_method_76_code 55 = .ok (.iload_n 3, 1) := by decide +kernel
theorem d_X12_complain_56 : decode prog_14_method_76_code 56 = .ok (.aload_n 0, 1) := by decide +kernel
theorem d_X12_complain_57 : decode prog_14_method_76_code 57 = .ok (.getfield 31, 3) := by decide +kernel
theorem d_X12_complain_60 : decode prog_14_method_76_code 60 = .ok (.iload_n 1, 1) := by decide +kernel
theorem d_X12_complain_61 : decode prog_14_method_76_code 61 = .ok (.iaload, 1) := by decide +kernel
theorem d_X12_complain_62 : decode prog_14_method_76_code 62 = .ok (.invokestatic 560, 3) := by decide +kernel
theorem d_X12_complain_65 : decode prog_14_method_76_code 65 = .ok (.istore 6, 2) := by decide +kernel
theorem d_X12_complain_67 : decode prog_14_method_76_code 67 = .ok (.iload 6, 2) := by decide +kernel
theorem d_X12_complain_69 : decode prog_14_method_76_code 69 = .ok (.iload 4, 2) := by decide +kernel
theorem d_X12_complain_71 : decode prog_14_method_76_code 71 = .ok (.if_icmp .gt 45, 3) := by decide +kernel
theorem d_X12_complain_74 : decode prog_14_method_76_code 74 = .ok (.aload_n 0, 1) := by decide +kernel
theorem d_X12_complain_75 : decode prog_14_method_76_code 75 = .ok (.iload_n 1, 1) := by decide +kernel
theorem d_X12_complain_76 : decode prog_14_method_76_code 76 = .ok (.iload 6, 2) := by decide +kernel
theorem d_X12_complain_78 : decode prog_14_method_76_code 78 = .ok (.invokevirtual 557, 3) := by decide +kernel
theorem d_X12_complain_81 : decode prog_14_method_76_code 81 = .ok (.iload_n 2, 1) := by decide +kernel
theorem d_X12_complain_82 : decode prog_14_method_76_code 82 = .ok (.if_icmp .ne 5, 3) := by decide +kernel
theorem d_X12_complain_85 : decode prog_14_method_76_code 85 = .ok (.iconst 1, 1) := by decide +kernel
theorem d_X12_complain_86 : decode prog_14_method_76_code 86 = .ok (.ireturn, 1) := by decide +kernel
theorem d_X12_complain_87 : decode prog_14_method_76_code 87 = .ok (.iload 5, 2) := by decide +kernel
theorem d_X12_complain_89 : decode prog_14_method_76_code 89 = .ok (.ifCond .ne 14, 3) := by decide +kernel
theorem d_X12_complain_92 : decode prog_14_method_76_code 92 = .ok (.aload_n 0, 1) := by decide +kernel
theorem d_X12_complain_93 : decode prog_14_method_76_code 93 = .ok (.iload_n 1, 1) := by decide +kernel
theorem d_X12_complain_94 : decode prog_14_method_76_code 94 = .ok (.iload 6, 2) := by decide +kernel
theorem d_X12_complain_96 : decode prog_14_method_76_code 96 = .ok (.invokevirtual 557, 3) := by decide +kernel
theorem d_X12_complain_99 : decode prog_14_method_76_code 99 = .ok (.iconst (-1), 1) := by decide +kernel
theorem d_X12_complain_100 : decode prog_14_method_76_code 100 = .ok (.if_icmp .ne 7, 3) := by decide +kernel
theorem d_X12_complain_103 : decode prog_14_method_76_code 103 = .ok (.iconst 1, 1) := by decide +kernel
theorem d_X12_complain_104 : decode prog_14_method_76_code 104 = .ok (.goto 4, 3) := by decide +kernel
theorem d_X12_complain_107 : decode prog_14_method_76_code 107 = .ok (.iconst 0, 1) := by decide +kernel
theorem d_X12_complain_108 : decode prog_14_method_76_code 108 = .ok (.istore 5, 2) := by decide +kernel
theorem d_X12_complain_110 : decode prog_14_method_76_code 110 = .ok (.iinc 6 1, 3) := by decide +kernel
theorem d_X12_complain_113 : decode prog_14_method_76_code 113 = .ok (.goto (-46), 3) := by decide +kernel
theorem d_X12_complain_116 : decode prog_14_method_76_code 116 = .ok (.iload 5, 2) := by decide +kernel
theorem d_X12_complain_118 : decode prog_14_method_76_code 118 = .ok (.ifCond .eq 7, 3) := by decide +kernel
theorem d_X12_complain_121 : decode prog_14_method_76_code 121 = .ok (.iconst 2, 1) := by decide +kernel
theorem d_X12_complain_122 : decode prog_14_method_76_code 122 = .ok (.goto 4, 3) := by decide +kernel
theorem d_X12_complain_125 : decode prog_14_method_76_code 125 = .ok (.iconst 0, 1) := by decide +kernel
theorem d_X12_complain_126 : decode prog_14_method_76_code 126 = .ok (.ireturn, 1) := by decide +kernel
theorem d_X12_find_0 : decode prog_14_method_77_code 0 = .ok (.iload_n 1, 1) := by decide +kernel
theorem d_X12_find_1 : decode prog_14_method_77_code 1 = .ok (.iconst 0, 1) := by decide +kernel
theorem d_X12_find_2 : decode prog_14_method_77_code 2 = .ok (.bipush 9, 2) := by decide +kernel
theorem d_X12_find_4 : decode prog_14_method_77_code 4 = .ok (.invokestatic 323, 3) := by decide +kernel
theorem d_X12_find_7 : decode prog_14_method_77_code 7 = .ok (.ifCond .eq 53, 3) := by decide +kernel
theorem d_X12_find_10 : decode prog_14_method_77_code 10 = .ok (.iload_n 2, 1) := by decide +kernel
theorem d_X12_find_11 : decode prog_14_method_77_code 11 = .ok (.invokestatic 327, 3) := by decide +kernel
theorem d_X12_find_14 : decode prog_14_method_77_code 14 = .ok (.ifCond .eq 46, 3) := by decide +kernel
theorem d_X12_find_17 : decode prog_14_method_77_code 17 = .ok (.iload_n 3, 1) := by decide +kernel
theorem d_X12_find_18 : decode prog_14_method_77_code 18 = .ok (.iconst 0, 1) := by decide +kernel
theorem d_X12_find_19 : decode prog_14_method_77_code 19 = .ok (.sipush 20000, 3) := by decide +kernel
theorem d_X12_find_22 : decode prog_14_method_77_code 22 = .ok (.invokestatic 323, 3) := by decide +kernel
theorem d_X12_find_25 : decode prog_14_method_77_code 25 = .ok (.ifCond .eq 35, 3) := by decide +kernel
theorem d_X12_find_28 : decode prog_14_method_77_code 28 = .ok (.iload 4, 2) := by decide +kernel
theorem d_X12_find_30 : decode prog_14_method_77_code 30 = .ok (.iload_n 3, 1) := by decide +kernel
theorem d_X12_find_31 : decode prog_14_method_77_code 31 = .ok (.sipush 20000, 3) := by decide +kernel
theorem d_X12_find_34 : decode prog_14_method_77_code 34 = .ok (.invokestatic 323, 3) := by decide +kernel
theorem d_X12_find_37 : decode prog_14_method_77_code 37 = .ok (.ifCond .eq 23, 3) := by decide +kernel
theorem d_X12_find_40 : decode prog_14_method_77_code 40 = .ok (.iload 5, 2) := by decide +kernel
theorem d_X12_find_42 : decode prog_14_method_77_code 42 = .ok (.iconst 1, 1) := by decide +kernel
theorem d_X12_find_43 : decode prog_14_method_77_code 43 = .ok (.bipush 9, 2) := by decide +kernel
theorem d_X12_find_45 : decode prog_14_method_77_code 45 = .ok (.invokestatic 323, 3) := by decide +kernel
theorem d_X12_find_48 : decode prog_14_method_77_code 48 = .ok (.ifCond .eq 12, 3) := by decide +kernel
theorem d_X12_find_51 : decode prog_14_method_77_code 51 = .ok (.aload_n 0, 1) := by decide +kernel
theorem d_X12_find_52 : decode prog_14_method_77_code 52 = .ok (.getfield 562, 3) := by decide +kernel
theorem d_X12_find_55 : decode prog_14_method_77_code 55 = .ok (.bipush 80, 2) := by decide +kernel
theorem d_X12_find_57 : decode prog_14_method_77_code 57 = .ok (.if_icmp .ne 5, 3) := by decide +kernel
theorem d_X12_find_60 : decode prog_14_method_77_code 60 = .ok (.iconst (-1), 1) := by decide +kernel
theorem d_X12_find_61 : decode prog_14_method_77_code 61 = .ok (.ireturn, 1) := by decide +kernel
theorem d_X12_find_62 : decode prog_14_method_77_code 62 = .ok (.aload_n 0, 1) := by decide +kernel
theorem d_X12_find_63 : decode prog_14_method_77_code 63 = .ok (.getfield 160, 3) := by decide +kernel
theorem d_X12_find_66 : decode prog_14_method_77_code 66 = .ok (.aload_n 0, 1) := by decide +kernel
theorem d_X12_find_67 : decode prog_14_method_77_code 67 = .ok (.getfield 562, 3) := by decide +kernel
theorem d_X12_find_70 : decode prog_14_method_77_code 70 = .ok (.iload_n 1, 1) := by decide +kernel
theorem d_X12_find_71 : decode prog_14_method_77_code 71 = .ok (.iastore, 1) := by decide +kernel
theorem d_X12_find_72 : decode prog_14_method_77_code 72 = .ok (.aload_n 0, 1) := by decide +kernel
theorem d_X12_find_73 : decode prog_14_method_77_code 73 = .ok (.getfield 163, 3) := by decide +kernel
theorem d_X12_find_76 : decode prog_14_method_77_code 76 = .ok (.aload_n 0, 1) := by decide +kernel
theorem d_X12_find_77 : decode prog_14_method_77_code 77 = .ok (.getfield 562, 3) := by decide +kernel
theorem d_X12_find_80 : decode prog_14_method_77_code 80 = .ok (.iload_n 2, 1) := by decide +kernel
theorem d_X12_find_81 : decode prog_14_method_77_code 81 = .ok (.iastore, 1) := by decide +kernel
theorem d_X12_find_82 : decode prog_14_method_77_code 82 = .ok (.aload_n 0, 1) := by decide +kernel
theorem d_X12_find_83 : decode prog_14_method_77_code 83 = .ok (.getfield 166, 3) := by decide +kernel
theorem d_X12_find_86 : decode prog_14_method_77_code 86 = .ok (.aload_n 0, 1) := by decide +kernel
theorem d_X12_find_87 : decode prog_14_method_77_code 87 = .ok (.getfield 562, 3) := by decide +kernel
theorem d_X12_find_90 : decode prog_14_method_77_code 90 = .ok (.iload_n 3, 1) := by decide +kernel
theorem d_X12_find_91 : decode prog_14_method_77_code 91 = .ok (.iastore, 1) := by decide +kernel
theorem d_X12_find_92 : decode prog_14_method_77_code 92 = .ok (.aload_n 0, 1) := by decide +kernel
theorem d_X12_find_93 : decode prog_14_method_77_code 93 = .ok (.getfield 169, 3) := by decide +kernel
theorem d_X12_find_96 : decode prog_14_method_77_code 96 = .ok (.aload_n 0, 1) := by decide +kernel
theorem d_X12_find_97 : decode prog_14_method_77_code 97 = .ok (.getfield 562, 3) := by decide +kernel
theorem d_X12_find_100 : decode prog_14_method_77_code 100 = .ok (.iload 4, 2) := by decide +kernel
theorem d_X12_find_102 : decode prog_14_method_77_code 102 = .ok (.iastore, 1) := by decide +kernel
theorem d_X12_find_103 : decode prog_14_method_77_code 103 = .ok (.aload_n 0, 1) := by decide +kernel
theorem d_X12_find_104 : decode prog_14_method_77_code 104 = .ok (.getfield 172, 3) := by decide +kernel
theorem d_X12_find_107 : decode prog_14_method_77_code 107 = .ok (.aload_n 0, 1) := by decide +kernel
theorem d_X12_find_108 : decode prog_14_method_77_code 108 = .ok (.getfield 562, 3) := by decide +kernel
theorem d_X12_find_111 : decode prog_14_method_77_code 111 = .ok (.iload 5, 2) := by decide +kernel
theorem d_X12_find_113 : decode prog_14_method_77_code 113 = .ok (.iastore, 1) := by decide +kernel
theorem d_X12_find_114 : decode prog_14_method_77_code 114 = .ok (.aload_n 0, 1) := by decide +kernel
theorem d_X12_find_115 : decode prog_14_method_77_code 115 = .ok (.dup, 1) := by decide +kernel
theorem d_X12_find_116 : decode prog_14_method_77_code 116 = .ok (.getfield 562, 3) := by decide +kernel
theorem d_X12_find_119 : decode prog_14_method_77_code 119 = .ok (.iconst 1, 1) := by decide +kernel
theorem d_X12_find_120 : decode prog_14_method_77_code 120 = .ok (.iadd, 1) := by decide +kernel
theorem d_X12_find_121 : decode prog_14_method_77_code 121 = .ok (.putfield 562, 3) := by decide +kernel
theorem d_X12_find_124 : decode prog_14_method_77_code 124 = .ok (.aload_n 0, 1) := by decide +kernel
theorem d_X12_find_125 : decode prog_14_method_77_code 125 = .ok (.getfield 562, 3) := by decide +kernel
theorem d_X12_find_128 : decode prog_14_method_77_code 128 = .ok (.iconst 1, 1) := by decide +kernel
theorem d_X12_find_129 : decode prog_14_method_77_code 129 = .ok (.isub, 1) := by decide +kernel
theorem d_X12_find_130 : decode prog_14_method_77_code 130 = .ok (.ireturn, 1) := by decide +kernel
theorem d_X12_letterFor_0 : decode prog_14_method_78_code 0 = .ok (.ldc_w 565, 3) := by decide +kernel
theorem d_X12_letterFor_3 : decode prog_14_method_78_code 3 = .ok (.iload_n 0, 1) := by decide +kernel
theorem d_X12_letterFor_4 : decode prog_14_method_78_code 4 = .ok (.invokevirtual 567, 3) := by decide +kernel
theorem d_X12_letterFor_7 : decode prog_14_method_78_code 7 = .ok (.ireturn, 1) := by decide +kernel
theorem d_X12_see_0 : decode prog_14_method_79_code 0 = .ok (.iconst 0, 1) := by decide +kernel
theorem d_X12_see_1 : decode prog_14_method_79_code 1 = .ok (.istore_n 2, 1) := by decide +kernel
theorem d_X12_see_2 : decode prog_14_method_79_code 2 = .ok (.iconst 0, 1) := by decide +kernel
theorem d_X12_see_3 : decode prog_14_method_79_code 3 = .ok (.istore_n 3, 1) := by decide +kernel
theorem d_X12_see_4 : decode prog_14_method_79_code 4 = .ok (.iload_n 3, 1) := by decide +kernel
theorem d_X12_see_5 : decode prog_14_method_79_code 5 = .ok (.aload_n 0, 1) := by decide +kernel
theorem d_X12_see_6 : decode prog_14_method_79_code 6 = .ok (.getfield 339, 3) := by decide +kernel
theorem d_X12_see_9 : decode prog_14_method_79_code 9 = .ok (.if_icmp .ge 32, 3) := by decide +kernel
theorem d_X12_see_12 : decode prog_14_method_79_code 12 = .ok (.iload_n 2, 1) := by decide +kernel
theorem d_X12_see_13 : decode prog_14_method_79_code 13 = .ok (.aload_n 0, 1) := by decide +kernel
theorem d_X12_see_14 : decode prog_14_method_79_code 14 = .ok (.getfield 37, 3) := by decide +kernel
theorem d_X12_see_17 : decode prog_14_method_79_code 17 = .ok (.iload_n 3, 1) := by decide +kernel
theorem d_X12_see_18 : decode prog_14_method_79_code 18 = .ok (.iaload, 1) := by decide +kernel
theorem d_X12_see_19 : decode prog_14_method_79_code 19 = .ok (.aload_n 0, 1) := by decide +kernel
theorem d_X12_see_20 : decode prog_14_method_79_code 20 = .ok (.getfield 37, 3) := by decide +kernel
theorem d_X12_see_23 : decode prog_14_method_79_code 23 = .ok (.iload_n 1, 1) := by decide +kernel
theorem d_X12_see_24 : decode prog_14_method_79_code 24 = .ok (.iaload, 1) := by decide +kernel
theorem d_X12_see_25 : decode prog_14_method_79_code 25 = .ok (.if_icmp .ne 7, 3) := by decide +kernel
theorem d_X12_see_28 : decode prog_14_method_79_code 28 = .ok (.iconst 1, 1) := by decide +kernel
theorem d_X12_see_29 : decode prog_14_method_79_code 29 = .ok (.goto 4, 3) := by decide +kernel
theorem d_X12_see_32 : decode prog_14_method_79_code 32 = .ok (.iconst 0, 1) := by decide +kernel
theorem d_X12_see_33 : decode prog_14_method_79_code 33 = .ok (.iadd, 1) := by decide +kernel
theorem d_X12_see_34 : decode prog_14_method_79_code 34 = .ok (.istore_n 2, 1) := by decide +kernel
theorem d_X12_see_35 : decode prog_14_method_79_code 35 = .ok (.iinc 3 1, 3) := by decide +kernel
theorem d_X12_see_38 : decode prog_14_method_79_code 38 = .ok (.goto (-34), 3) := by decide +kernel
theorem d_X12_see_41 : decode prog_14_method_79_code 41 = .ok (.iconst 0, 1) := by decide +kernel
theorem d_X12_see_42 : decode prog_14_method_79_code 42 = .ok (.istore_n 3, 1) := by decide +kernel
theorem d_X12_see_43 : decode prog_14_method_79_code 43 = .ok (.iload_n 3, 1) := by decide +kernel
theorem d_X12_see_44 : decode prog_14_method_79_code 44 = .ok (.aload_n 0, 1) := by decide +kernel
theorem d_X12_see_45 : decode prog_14_method_79_code 45 = .ok (.getfield 562, 3) := by decide +kernel
theorem d_X12_see_48 : decode prog_14_method_79_code 48 = .ok (.if_icmp .ge 434, 3) := by decide +kernel
theorem d_X12_see_51 : decode prog_14_method_79_code 51 = .ok (.aload_n 0, 1) := by decide +kernel
theorem d_X12_see_52 : decode prog_14_method_79_code 52 = .ok (.getfield 163, 3) := by decide +kernel
theorem d_X12_see_55 : decode prog_14_method_79_code 55 = .ok (.iload_n 3, 1) := by decide +kernel
theorem d_X12_see_56 : decode prog_14_method_79_code 56 = .ok (.iaload, 1) := by decide +kernel
theorem d_X12_see_57 : decode prog_14_method_79_code 57 = .ok (.aload_n 0, 1) := by decide +kernel
theorem d_X12_see_58 : decode prog_14_method_79_code 58 = .ok (.getfield 37, 3) := by decide +kernel
theorem d_X12_see_61 : decode prog_14_method_79_code 61 = .ok (.iload_n 1, 1) := by decide +kernel
theorem d_X12_see_62 : decode prog_14_method_79_code 62 = .ok (.iaload, 1) := by decide +kernel
theorem d_X12_see_63 : decode prog_14_method_79_code 63 = .ok (.if_icmp .ne 413, 3) := by decide +kernel
theorem d_X12_see_66 : decode prog_14_method_79_code 66 = .ok (.aload_n 0, 1) := by decide +kernel
theorem d_X12_see_67 : decode prog_14_method_79_code 67 = .ok (.getfield 342, 3) := by decide +kernel
theorem d_X12_see_70 : decode prog_14_method_79_code 70 = .ok (.aload_n 0, 1) := by decide +kernel
theorem d_X12_see_71 : decode prog_14_method_79_code 71 = .ok (.getfield 166, 3) := by decide +kernel
theorem d_X12_see_74 : decode prog_14_method_79_code 74 = .ok (.iload_n 3, 1) := by decide +kernel
theorem d_X12_see_75 : decode prog_14_method_79_code 75 = .ok (.iaload, 1) := by decide +kernel
theorem d_X12_see_76 : decode prog_14_method_79_code 76 = .ok (.aload_n 0, 1) := by decide +kernel
theorem d_X12_see_77 : decode prog_14_method_79_code 77 = .ok (.getfield 169, 3) := by decide +kernel
theorem d_X12_see_80 : decode prog_14_method_79_code 80 = .ok (.iload_n 3, 1) := by decide +kernel
theorem d_X12_see_81 : decode prog_14_method_79_code 81 = .ok (.iaload, 1) := by decide +kernel
theorem d_X12_see_82 : decode prog_14_method_79_code 82 = .ok (.invokestatic 323, 3) := by decide +kernel
theorem d_X12_see_85 : decode prog_14_method_79_code 85 = .ok (.ifCond .eq 391, 3) := by decide +kernel
theorem d_X12_see_88 : decode prog_14_method_79_code 88 = .ok (.aload_n 0, 1) := by decide +kernel
theorem d_X12_see_89 : decode prog_14_method_79_code 89 = .ok (.getfield 175, 3) := by decide +kernel
theorem d_X12_see_92 : decode prog_14_method_79_code 92 = .ok (.iload_n 3, 1) := by decide +kernel
theorem d_X12_see_93 : decode prog_14_method_79_code 93 = .ok (.baload, 1) := by decide +kernel
theorem d_X12_see_94 : decode prog_14_method_79_code 94 = .ok (.ifCond .ne 382, 3) := by decide +kernel
theorem d_X12_see_97 : decode prog_14_method_79_code 97 = .ok (.aload_n 0, 1) := by decide +kernel
theorem d_X12_see_98 : decode prog_14_method_79_code 98 = .ok (.getfield 516, 3) := by decide +kernel
theorem d_X12_see_101 : decode prog_14_method_79_code 101 = .ok (.sipush 300, 3) := by decide +kernel
theorem d_X12_see_104 : decode prog_14_method_79_code 104 = .ok (.if_icmp .ne 6, 3) := by decide +kernel
theorem d_X12_see_107 : decode prog_14_method_79_code 107 = .ok (.goto 369, 3) := by decide +kernel
theorem d_X12_see_110 : decode prog_14_method_79_code 110 = .ok (.iconst 0, 1) := by decide +kernel
theorem d_X12_see_111 : decode prog_14_method_79_code 111 = .ok (.istore 4, 2) := by decide +kernel
theorem d_X12_see_113 : decode prog_14_method_79_code 113 = .ok (.iconst 0, 1) := by decide +kernel
theorem d_X12_see_114 : decode prog_14_method_79_code 114 = .ok (.istore 5, 2) := by decide +kernel
theorem d_X12_see_116 : decode prog_14_method_79_code 116 = .ok (.iload 5, 2) := by decide +kernel
theorem d_X12_see_118 : decode prog_14_method_79_code 118 = .ok (.aload_n 0, 1) := by decide +kernel
theorem d_X12_see_119 : decode prog_14_method_79_code 119 = .ok (.getfield 516, 3) := by decide +kernel
theorem d_X12_see_122 : decode prog_14_method_79_code 122 = .ok (.if_icmp .ge 30, 3) := by decide +kernel
theorem d_X12_see_125 : decode prog_14_method_79_code 125 = .ok (.iload 4, 2) := by decide +kernel
theorem d_X12_see_127 : decode prog_14_method_79_code 127 = .ok (.aload_n 0, 1) := by decide +kernel
theorem d_X12_see_128 : decode prog_14_method_79_code 128 = .ok (.getfield 181, 3) := by decide +kernel
theorem d_X12_see_131 : decode prog_14_method_79_code 131 = .ok (.iload 5, 2) := by decide +kernel
theorem d_X12_see_133 : decode prog_14_method_79_code 133 = .ok (.iaload, 1) := by decide +kernel
theorem d_X12_see_134 : decode prog_14_method_79_code 134 = .ok (.iload_n 3, 1) := by decide +kernel
theorem d_X12_see_135 : decode prog_14_method_79_code 135 = .ok (.if_icmp .ne 7, 3) := by decide +kernel
theorem d_X12_see_138 : decode prog_14_method_79_code 138 = .ok (.iconst 1, 1) := by decide +kernel
theorem d_X12_see_139 : decode prog_14_method_79_code 139 = .ok (.goto 4, 3) := by decide +kernel
theorem d_X12_see_142 : decode prog_14_method_79_code 142 = .ok (.iconst 0, 1) := by decide +kernel
theorem d_X12_see_143 : decode prog_14_method_79_code 143 = .ok (.iadd, 1) := by decide +kernel
theorem d_X12_see_144 : decode prog_14_method_79_code 144 = .ok (.istore 4, 2) := by decide +kernel
theorem d_X12_see_146 : decode prog_14_method_79_code 146 = .ok (.iinc 5 1, 3) := by decide +kernel
theorem d_X12_see_149 : decode prog_14_method_79_code 149 = .ok (.goto (-33), 3) := by decide +kernel
theorem d_X12_see_152 : decode prog_14_method_79_code 152 = .ok (.aload_n 0, 1) := by decide +kernel
theorem d_X12_see_153 : decode prog_14_method_79_code 153 = .ok (.getfield 516, 3) := by decide +kernel
theorem d_X12_see_156 : decode prog_14_method_79_code 156 = .ok (.istore 5, 2) := by decide +kernel
theorem d_X12_see_158 : decode prog_14_method_79_code 158 = .ok (.aload_n 0, 1) := by decide +kernel
theorem d_X12_see_159 : decode prog_14_method_79_code 159 = .ok (.getfield 178, 3) := by decide +kernel
theorem d_X12_see_162 : decode prog_14_method_79_code 162 = .ok (.iload 5, 2) := by decide +kernel
theorem d_X12_see_164 : decode prog_14_method_79_code 164 = .ok (.iload_n 1, 1) := by decide +kernel
theorem d_X12_see_165 : decode prog_14_method_79_code 165 = .ok (.iastore, 1) := by decide +kernel
theorem d_X12_see_166 : decode prog_14_method_79_code 166 = .ok (.aload_n 0, 1) := by decide +kernel
theorem d_X12_see_167 : decode prog_14_method_79_code 167 = .ok (.getfield 181, 3) := by decide +kernel
theorem d_X12_see_170 : decode prog_14_method_79_code 170 = .ok (.iload 5, 2) := by decide +kernel
theorem d_X12_see_172 : decode prog_14_method_79_code 172 = .ok (.iload_n 3, 1) := by decide +kernel
theorem d_X12_see_173 : decode prog_14_method_79_code 173 = .ok (.iastore, 1) := by decide +kernel
theorem d_X12_see_174 : decode prog_14_method_79_code 174 = .ok (.aload_n 0, 1) := by decide +kernel
theorem d_X12_see_175 : decode prog_14_method_79_code 175 = .ok (.getfield 184, 3) := by decide +kernel
theorem d_X12_see_178 : decode prog_14_method_79_code 178 = .ok (.iload 5, 2) := by decide +kernel
theorem d_X12_see_180 : decode prog_14_method_79_code 180 = .ok (.aload_n 0, 1) := by decide +kernel
theorem d_X12_see_181 : decode prog_14_method_79_code 181 = .ok (.getfield 342, 3) := by decide +kernel
theorem d_X12_see_184 : decode prog_14_method_79_code 184 = .ok (.iastore, 1) := by decide +kernel
theorem d_X12_see_185 : decode prog_14_method_79_code 185 = .ok (.bipush 9, 2) := by decide +kernel
theorem d_X12_see_187 : decode prog_14_method_79_code 187 = .ok (.iload 5, 2) := by decide +kernel
theorem d_X12_see_189 : decode prog_14_method_79_code 189 = .ok (.imul, 1) := by decide +kernel
theorem d_X12_see_190 : decode prog_14_method_79_code 190 = .ok (.istore 6, 2) := by decide +kernel
theorem d_X12_see_192 : decode prog_14_method_79_code 192 = .ok (.aload_n 0, 1) := by decide +kernel
theorem d_X12_see_193 : decode prog_14_method_79_code 193 = .ok (.getfield 196, 3) := by decide +kernel
theorem d_X12_see_196 : decode prog_14_method_79_code 196 = .ok (.iload 6, 2) := by decide +kernel
theorem d_X12_see_198 : decode prog_14_method_79_code 198 = .ok (.aload_n 0, 1) := by decide +kernel
theorem d_X12_see_199 : decode prog_14_method_79_code 199 = .ok (.getfield 160, 3) := by decide +kernel
theorem d_X12_see_202 : decode prog_14_method_79_code 202 = .ok (.iload_n 3, 1) := by decide +kernel
theorem d_X12_see_203 : decode prog_14_method_79_code 203 = .ok (.iaload, 1) := by decide +kernel
theorem d_X12_see_204 : decode prog_14_method_79_code 204 = .ok (.iastore, 1) := by decide +kernel
theorem d_X12_see_205 : decode prog_14_method_79_code 205 = .ok (.aload_n 0, 1) := by decide +kernel
theorem d_X12_see_206 : decode prog_14_method_79_code 206 = .ok (.getfield 196, 3) := by decide +kernel
theorem d_X12_see_209 : decode prog_14_method_79_code 209 = .ok (.iload 6, 2) := by decide +kernel
theorem d_X12_see_211 : decode prog_14_method_79_code 211 = .ok (.iconst 1, 1) := by decide +kernel
theorem d_X12_see_212 : decode prog_14_method_79_code 212 = .ok (.iadd, 1) := by decide +kernel
theorem d_X12_see_213 : decode prog_14_method_79_code 213 = .ok (.aload_n 0, 1) := by decide +kernel
theorem d_X12_see_214 : decode prog_14_method_79_code 214 = .ok (.getfield 172, 3) := by decide +kernel
theorem d_X12_see_217 : decode prog_14_method_79_code 217 = .ok (.iload_n 3, 1) := by decide +kernel
theorem d_X12_see_218 : decode prog_14_method_79_code 218 = .ok (.iaload, 1) := by decide +kernel
theorem d_X12_see_219 : decode prog_14_method_79_code 219 = .ok (.iastore, 1) := by decide +kernel
theorem d_X12_see_220 : decode prog_14_method_79_code 220 = .ok (.aload_n 0, 1) := by decide +kernel
theorem d_X12_see_221 : decode prog_14_method_79_code 221 = .ok (.getfield 196, 3) := by decide +kernel
theorem d_X12_see_224 : decode prog_14_method_79_code 224 = .ok (.iload 6, 2) := by decide +kernel
theorem d_X12_see_226 : decode prog_14_method_79_code 226 = .ok (.iconst 2, 1) := by decide +kernel
theorem d_X12_see_227 : decode prog_14_method_79_code 227 = .ok (.iadd, 1) := by decide +kernel
theorem d_X12_see_228 : decode prog_14_method_79_code 228 = .ok (.aload_n 0, 1) := by decide +kernel
theorem d_X12_see_229 : decode prog_14_method_79_code 229 = .ok (.getfield 163, 3) := by decide +kernel
theorem d_X12_see_232 : decode prog_14_method_79_code 232 = .ok (.iload_n 3, 1) := by decide +kernel
theorem d_X12_see_233 : decode prog_14_method_79_code 233 = .ok (.iaload, 1) := by decide +kernel
theorem d_X12_see_234 : decode prog_14_method_79_code 234 = .ok (.iastore, 1) := by decide +kernel
theorem d_X12_see_235 : decode prog_14_method_79_code 235 = .ok (.aload_n 0, 1) := by decide +kernel
theorem d_X12_see_236 : decode prog_14_method_79_code 236 = .ok (.getfield 196, 3) := by decide +kernel
theorem d_X12_see_239 : decode prog_14_method_79_code 239 = .ok (.iload 6, 2) := by decide +kernel
theorem d_X12_see_241 : decode prog_14_method_79_code 241 = .ok (.iconst 3, 1) := by decide +kernel
theorem d_X12_see_242 : decode prog_14_method_79_code 242 = .ok (.iadd, 1) := by decide +kernel
theorem d_X12_see_243 : decode prog_14_method_79_code 243 = .ok (.aload_n 0, 1) := by decide +kernel
theorem d_X12_see_244 : decode prog_14_method_79_code 244 = .ok (.getfield 342, 3) := by decide +kernel
theorem d_X12_see_247 : decode prog_14_method_79_code 247 = .ok (.bipush 60, 2) := by decide +kernel
theorem d_X12_see_249 : decode prog_14_method_79_code 249 = .ok (.idiv, 1) := by decide +kernel
theorem d_X12_see_250 : decode prog_14_method_79_code 250 = .ok (.bipush 24, 2) := by decide +kernel
theorem d_X12_see_252 : decode prog_14_method_79_code 252 = .ok (.irem, 1) := by decide +kernel
theorem d_X12_see_253 : decode prog_14_method_79_code 253 = .ok (.iastore, 1) := by decide +kernel
theorem d_X12_see_254 : decode prog_14_method_79_code 254 = .ok (.aload_n 0, 1) := by decide +kernel
theorem d_X12_see_255 : decode prog_14_method_79_code 255 = .ok (.getfield 196, 3) := by decide +kernel
theorem d_X12_see_258 : decode prog_14_method_79_code 258 = .ok (.iload 6, 2) := by decide +kernel
theorem d_X12_see_260 : decode prog_14_method_79_code 260 = .ok (.iconst 4, 1) := by decide +kernel
theorem d_X12_see_261 : decode prog_14_method_79_code 261 = .ok (.iadd, 1) := by decide +kernel
theorem d_X12_see_262 : decode prog_14_method_79_code 262 = .ok (.aload_n 0, 1) := by decide +kernel
theorem d_X12_see_263 : decode prog_14_method_79_code 263 = .ok (.getfield 342, 3) := by decide +kernel
theorem d_X12_see_266 : decode prog_14_method_79_code 266 = .ok (.sipush 1440, 3) := by decide +kernel
theorem d_X12_see_269 : decode prog_14_method_79_code 269 = .ok (.idiv, 1) := by decide +kernel
theorem d_X12_see_270 : decode prog_14_method_79_code 270 = .ok (.iastore, 1) := by decide +kernel
theorem d_X12_see_271 : decode prog_14_method_79_code 271 = .ok (.aload_n 0, 1) := by decide +kernel
theorem d_X12_see_272 : decode prog_14_method_79_code 272 = .ok (.getfield 196, 3) := by decide +kernel
theorem d_X12_see_275 : decode prog_14_method_79_code 275 = .ok (.iload 6, 2) := by decide +kernel
theorem d_X12_see_277 : decode prog_14_method_79_code 277 = .ok (.iconst 5, 1) := by decide +kernel
theorem d_X12_see_278 : decode prog_14_method_79_code 278 = .ok (.iadd, 1) := by decide +kernel
theorem d_X12_see_279 : decode prog_14_method_79_code 279 = .ok (.aload_n 0, 1) := by decide +kernel
theorem d_X12_see_280 : decode prog_14_method_79_code 280 = .ok (.iload_n 1, 1) := by decide +kernel
theorem d_X12_see_281 : decode prog_14_method_79_code 281 = .ok (.aload_n 0, 1) := by decide +kernel
theorem d_X12_see_282 : decode prog_14_method_79_code 282 = .ok (.getfield 342, 3) := by decide +kernel
theorem d_X12_see_285 : decode prog_14_method_79_code 285 = .ok (.sipush 1440, 3) := by decide +kernel
theorem d_X12_see_288 : decode prog_14_method_79_code 288 = .ok (.idiv, 1) := by decide +kernel
theorem d_X12_see_289 : decode prog_14_method_79_code 289 = .ok (.aload_n 0, 1) := by decide +kernel
theorem d_X12_see_290 : decode prog_14_method_79_code 290 = .ok (.getfield 342, 3) := by decide +kernel
theorem d_X12_see_293 : decode prog_14_method_79_code 293 = .ok (.invokevirtual 354, 3) := by decide +kernel
theorem d_X12_see_296 : decode prog_14_method_79_code 296 = .ok (.iastore, 1) := by decide +kernel
theorem d_X12_see_297 : decode prog_14_method_79_code 297 = .ok (.aload_n 0, 1) := by decide +kernel
theorem d_X12_see_298 : decode prog_14_method_79_code 298 = .ok (.getfield 196, 3) := by decide +kernel
theorem d_X12_see_301 : decode prog_14_method_79_code 301 = .ok (.iload 6, 2) := by decide +kernel
theorem d_X12_see_303 : decode prog_14_method_79_code 303 = .ok (.bipush 6, 2) := by decide +kernel
theorem d_X12_see_305 : decode prog_14_method_79_code 305 = .ok (.iadd, 1) := by decide +kernel
theorem d_X12_see_306 : decode prog_14_method_79_code 306 = .ok (.iload_n 2, 1) := by decide +kernel
theorem d_X12_see_307 : decode prog_14_method_79_code 307 = .ok (.iastore, 1) := by decide +kernel
theorem d_X12_see_308 : decode prog_14_method_79_code 308 = .ok (.aload_n 0, 1) := by decide +kernel
theorem d_X12_see_309 : decode prog_14_method_79_code 309 = .ok (.getfield 196, 3) := by decide +kernel
theorem d_X12_see_312 : decode prog_14_method_79_code 312 = .ok (.iload 6, 2) := by decide +kernel
theorem d_X12_see_314 : decode prog_14_method_79_code 314 = .ok (.bipush 7, 2) := by decide +kernel
theorem d_X12_see_316 : decode prog_14_method_79_code 316 = .ok (.iadd, 1) := by decide +kernel
theorem d_X12_see_317 : decode prog_14_method_79_code 317 = .ok (.iload 4, 2) := by decide +kernel
theorem d_X12_see_319 : decode prog_14_method_79_code 319 = .ok (.iastore, 1) := by decide +kernel
theorem d_X12_see_320 : decode prog_14_method_79_code 320 = .ok (.aload_n 0, 1) := by decide +kernel
theorem d_X12_see_321 : decode prog_14_method_79_code 321 = .ok (.getfield 196, 3) := by decide +kernel
theorem d_X12_see_324 : decode prog_14_method_79_code 324 = .ok (.iload 6, 2) := by decide +kernel
theorem d_X12_see_326 : decode prog_14_method_79_code 326 = .ok (.bipush 8, 2) := by decide +kernel
theorem d_X12_see_328 : decode prog_14_method_79_code 328 = .ok (.iadd, 1) := by decide +kernel
theorem d_X12_see_329 : decode prog_14_method_79_code 329 = .ok (.aload_n 0, 1) := by decide +kernel
theorem d_X12_see_330 : decode prog_14_method_79_code 330 = .ok (.getfield 342, 3) := by decide +kernel
theorem d_X12_see_333 : decode prog_14_method_79_code 333 = .ok (.aload_n 0, 1) := by decide +kernel
theorem d_X12_see_334 : decode prog_14_method_79_code 334 = .ok (.getfield 166, 3) := by decide +kernel
theorem d_X12_see_337 : decode prog_14_method_79_code 337 = .ok (.iload_n 3, 1) := by decide +kernel
theorem d_X12_see_338 : decode prog_14_method_79_code 338 = .ok (.iaload, 1) := by decide +kernel
theorem d_X12_see_339 : decode prog_14_method_79_code 339 = .ok (.isub, 1) := by decide +kernel
theorem d_X12_see_340 : decode prog_14_method_79_code 340 = .ok (.iastore, 1) := by decide +kernel
theorem d_X12_see_341 : decode prog_14_method_79_code 341 = .ok (.aload_n 0, 1) := by decide +kernel
theorem d_X12_see_342 : decode prog_14_method_79_code 342 = .ok (.getfield 187, 3) := by decide +kernel
theorem d_X12_see_345 : decode prog_14_method_79_code 345 = .ok (.iload 5, 2) := by decide +kernel
theorem d_X12_see_347 : decode prog_14_method_79_code 347 = .ok (.aload_n 0, 1) := by decide +kernel
theorem d_X12_see_348 : decode prog_14_method_79_code 348 = .ok (.iload 5, 2) := by decide +kernel
theorem d_X12_see_350 : decode prog_14_method_79_code 350 = .ok (.aload_n 0, 1) := by decide +kernel
theorem d_X12_see_351 : decode prog_14_method_79_code 351 = .ok (.getfield 342, 3) := by decide +kernel
theorem d_X12_see_354 : decode prog_14_method_79_code 354 = .ok (.invokevirtual 573, 3) := by decide +kernel
theorem d_X12_see_357 : decode prog_14_method_79_code 357 = .ok (.iastore, 1) := by decide +kernel
theorem d_X12_see_358 : decode prog_14_method_79_code 358 = .ok (.aload_n 0, 1) := by decide +kernel
theorem d_X12_see_359 : decode prog_14_method_79_code 359 = .ok (.getfield 190, 3) := by decide +kernel
theorem d_X12_see_362 : decode prog_14_method_79_code 362 = .ok (.iload 5, 2) := by decide +kernel
theorem d_X12_see_364 : decode prog_14_method_79_code 364 = .ok (.iconst (-1), 1) := by decide +kernel
theorem d_X12_see_365 : decode prog_14_method_79_code 365 = .ok (.iastore, 1) := by decide +kernel
theorem d_X12_see_366 : decode prog_14_method_79_code 366 = .ok (.aload_n 0, 1) := by decide +kernel
theorem d_X12_see_367 : decode prog_14_method_79_code 367 = .ok (.getfield 193, 3) := by decide +kernel
theorem d_X12_see_370 : decode prog_14_method_79_code 370 = .ok (.iload 5, 2) := by decide +kernel
theorem d_X12_see_372 : decode prog_14_method_79_code 372 = .ok (.iconst (-1), 1) := by decide +kernel
theorem d_X12_see_373 : decode prog_14_method_79_code 373 = .ok (.iastore, 1) := by decide +kernel
theorem d_X12_see_374 : decode prog_14_method_79_code 374 = .ok (.aload_n 0, 1) := by decide +kernel
theorem d_X12_see_375 : decode prog_14_method_79_code 375 = .ok (.getfield 187, 3) := by decide +kernel
theorem d_X12_see_378 : decode prog_14_method_79_code 378 = .ok (.iload 5, 2) := by decide +kernel
theorem d_X12_see_380 : decode prog_14_method_79_code 380 = .ok (.iaload, 1) := by decide +kernel
theorem d_X12_see_381 : decode prog_14_method_79_code 381 = .ok (.iconst 1, 1) := by decide +kernel
theorem d_X12_see_382 : decode prog_14_method_79_code 382 = .ok (.if_icmp .le 40, 3) := by decide +kernel
theorem d_X12_see_385 : decode prog_14_method_79_code 385 = .ok (.aload_n 0, 1) := by decide +kernel
theorem d_X12_see_386 : decode prog_14_method_79_code 386 = .ok (.aload_n 0, 1) := by decide +kernel
theorem d_X12_see_387 : decode prog_14_method_79_code 387 = .ok (.getfield 37, 3) := by decide +kernel
theorem d_X12_see_390 : decode prog_14_method_79_code 390 = .ok (.iload_n 1, 1) := by decide +kernel
theorem d_X12_see_391 : decode prog_14_method_79_code 391 = .ok (.iaload, 1) := by decide +kernel
theorem d_X12_see_392 : decode prog_14_method_79_code 392 = .ok (.iconst 0, 1) := by decide +kernel
theorem d_X12_see_393 : decode prog_14_method_79_code 393 = .ok (.invokevirtual 335, 3) := by decide +kernel
theorem d_X12_see_396 : decode prog_14_method_79_code 396 = .ok (.istore 7, 2) := by decide +kernel
theorem d_X12_see_398 : decode prog_14_method_79_code 398 = .ok (.aload_n 0, 1) := by decide +kernel
theorem d_X12_see_399 : decode prog_14_method_79_code 399 = .ok (.getfield 193, 3) := by decide +kernel
theorem d_X12_see_402 : decode prog_14_method_79_code 402 = .ok (.iload 5, 2) := by decide +kernel
theorem d_X12_see_404 : decode prog_14_method_79_code 404 = .ok (.iload 7, 2) := by decide +kernel
theorem d_X12_see_406 : decode prog_14_method_79_code 406 = .ok (.iconst (-1), 1) := by decide +kernel
theorem d_X12_see_407 : decode prog_14_method_79_code 407 = .ok (.if_icmp .ne 7, 3) := by decide +kernel
theorem d_X12_see_410 : decode prog_14_method_79_code 410 = .ok (.iconst (-1), 1) := by decide +kernel
theorem d_X12_see_411 : decode prog_14_method_79_code 411 = .ok (.goto 10, 3) := by decide +kernel
theorem d_X12_see_414 : decode prog_14_method_79_code 414 = .ok (.aload_n 0, 1) := by decide +kernel
theorem d_X12_see_415 : decode prog_14_method_79_code 415 = .ok (.getfield 342, 3) := by decide +kernel
theorem d_X12_see_418 : decode prog_14_method_79_code 418 = .ok (.iload 7, 2) := by decide +kernel
theorem d_X12_see_420 : decode prog_14_method_79_code 420 = .ok (.iadd, 1) := by decide +kernel
theorem d_X12_see_421 : decode prog_14_method_79_code 421 = .ok (.iastore, 1) := by decide +kernel
theorem d_X12_see_422 : decode prog_14_method_79_code 422 = .ok (.aload_n 0, 1) := by decide +kernel
theorem d_X12_see_423 : decode prog_14_method_79_code 423 = .ok (.getfield 187, 3) := by decide +kernel
theorem d_X12_see_426 : decode prog_14_method_79_code 426 = .ok (.iload 5, 2) := by decide +kernel
theorem d_X12_see_428 : decode prog_14_method_79_code 428 = .ok (.iaload, 1) := by decide +kernel
theorem d_X12_see_429 : decode prog_14_method_79_code 429 = .ok (.iconst 3, 1) := by decide +kernel
theorem d_X12_see_430 : decode prog_14_method_79_code 430 = .ok (.if_icmp .ne 36, 3) := by decide +kernel
theorem d_X12_see_433 : decode prog_14_method_79_code 433 = .ok (.aload_n 0, 1) := by decide +kernel
theorem d_X12_see_434 : decode prog_14_method_79_code 434 = .ok (.getfield 175, 3) := by decide +kernel
theorem d_X12_see_437 : decode prog_14_method_79_code 437 = .ok (.iload_n 3, 1) := by decide +kernel
theorem d_X12_see_438 : decode prog_14_method_79_code 438 = .ok (.iconst 1, 1) := by decide +kernel
theorem d_X12_see_439 : decode prog_14_method_79_code 439 = .ok (.bastore, 1) := by decide +kernel
theorem d_X12_see_440 : decode prog_14_method_79_code 440 = .ok (.aload_n 0, 1) := by decide +kernel
theorem d_X12_see_441 : decode prog_14_method_79_code 441 = .ok (.getfield 576, 3) := by decide +kernel
theorem d_X12_see_444 : decode prog_14_method_79_code 444 = .ok (.bipush 30, 2) := by decide +kernel
theorem d_X12_see_446 : decode prog_14_method_79_code 446 = .ok (.if_icmp .ge 20, 3) := by decide +kernel
theorem d_X12_see_449 : decode prog_14_method_79_code 449 = .ok (.aload_n 0, 1) := by decide +kernel
theorem d_X12_see_450 : decode prog_14_method_79_code 450 = .ok (.getfield 190, 3) := by decide +kernel
theorem d_X12_see_453 : decode prog_14_method_79_code 453 = .ok (.iload 5, 2) := by decide +kernel
theorem d_X12_see_455 : decode prog_14_method_79_code 455 = .ok (.aload_n 0, 1) := by decide +kernel
theorem d_X12_see_456 : decode prog_14_method_79_code 456 = .ok (.aload_n 0, 1) := by decide +kernel
theorem d_X12_see_457 : decode prog_14_method_79_code 457 = .ok (.getfield 160, 3) := by decide +kernel
theorem d_X12_see_460 : decode prog_14_method_79_code 460 = .ok (.iload_n 3, 1) := by decide +kernel
theorem d_X12_see_461 : decode prog_14_method_79_code 461 = .ok (.iaload, 1) := by decide +kernel
theorem d_X12_see_462 : decode prog_14_method_79_code 462 = .ok (.invokevirtual 579, 3) := by decide +kernel
theorem d_X12_see_465 : decode prog_14_method_79_code 465 = .ok (.iastore, 1) := by decide +kernel
theorem d_X12_see_466 : decode prog_14_method_79_code 466 = .ok (.aload_n 0, 1) := by decide +kernel
theorem d_X12_see_467 : decode prog_14_method_79_code 467 = .ok (.dup, 1) := by decide +kernel
theorem d_X12_see_468 : decode prog_14_method_79_code 468 = .ok (.getfield 516, 3) := by decide +kernel
theorem d_X12_see_471 : decode prog_14_method_79_code 471 = .ok (.iconst 1, 1) := by decide +kernel
theorem d_X12_see_472 : decode prog_14_method_79_code 472 = .ok (.iadd, 1) := by decide +kernel
theorem d_X12_see_473 : decode prog_14_method_79_code 473 = .ok (.putfield 516, 3) := by decide +kernel
theorem d_X12_see_476 : decode prog_14_method_79_code 476 = .ok (.iinc 3 1, 3) := by decide +kernel
theorem d_X12_see_479 : decode prog_14_method_79_code 479 = .ok (.goto (-436), 3) := by decide +kernel
theorem d_X12_see_482 : decode prog_14_method_79_code 482 = .ok (.return_, 1) := by decide +kernel
theorem d_X12_lets_0 : decode prog_14_method_80_code 0 = .ok (.iconst 0, 1) := by decide +kernel
theorem d_X12_lets_1 : decode prog_14_method_80_code 1 = .ok (.istore_n 3, 1) := by decide +kernel
theorem d_X12_lets_2 : decode prog_14_method_80_code 2 = .ok (.iload_n 3, 1) := by decide +kernel
theorem d_X12_lets_3 : decode prog_14_method_80_code 3 = .ok (.bipush 9, 2) := by decide +kernel
theorem d_X12_lets_5 : decode prog_14_method_80_code 5 = .ok (.if_icmp .ge 29, 3) := by decide +kernel
theorem d_X12_lets_8 : decode prog_14_method_80_code 8 = .ok (.aload_n 0, 1) := by decide +kernel
theorem d_X12_lets_9 : decode prog_14_method_80_code 9 = .ok (.getfield 120, 3) := by decide +kernel
theorem d_X12_lets_12 : decode prog_14_method_80_code 12 = .ok (.iload_n 3, 1) := by decide +kernel
theorem d_X12_lets_13 : decode prog_14_method_80_code 13 = .ok (.invokestatic 582, 3) := by decide +kernel
theorem d_X12_lets_16 : decode prog_14_method_80_code 16 = .ok (.aload_n 0, 1) := by decide +kernel
theorem d_X12_lets_17 : decode prog_14_method_80_code 17 = .ok (.getfield 196, 3) := by decide +kernel
theorem d_X12_lets_20 : decode prog_14_method_80_code 20 = .ok (.bipush 9, 2) := by decide +kernel
theorem d_X12_lets_22 : decode prog_14_method_80_code 22 = .ok (.iload_n 1, 1) := by decide +kernel
theorem d_X12_lets_23 : decode prog_14_method_80_code 23 = .ok (.imul, 1) := by decide +kernel
theorem d_X12_lets_24 : decode prog_14_method_80_code 24 = .ok (.iload_n 3, 1) := by decide +kernel
theorem d_X12_lets_25 : decode prog_14_method_80_code 25 = .ok (.iadd, 1) := by decide +kernel
theorem d_X12_lets_26 : decode prog_14_method_80_code 26 = .ok (.iaload, 1) := by decide +kernel
theorem d_X12_lets_27 : decode prog_14_method_80_code 27 = .ok (.iastore, 1) := by decide +kernel
theorem d_X12_lets_28 : decode prog_14_method_80_code 28 = .ok (.iinc 3 1, 3) := by decide +kernel
theorem d_X12_lets_31 : decode prog_14_method_80_code 31 = .ok (.goto (-29), 3) := by decide +kernel
theorem d_X12_lets_34 : decode prog_14_method_80_code 34 = .ok (.aload_n 0, 1) := by decide +kernel
theorem d_X12_lets_35 : decode prog_14_method_80_code 35 = .ok (.iconst 0, 1) := by decide +kernel
theorem d_X12_lets_36 : decode prog_14_method_80_code 36 = .ok (.aload_n 0, 1) := by decide +kernel
theorem d_X12_lets_37 : decode prog_14_method_80_code 37 = .ok (.iconst 0, 1) := by decide +kernel
theorem d_X12_lets_38 : decode prog_14_method_80_code 38 = .ok (.aload_n 0, 1) := by decide +kernel
theorem d_X12_lets_39 : decode prog_14_method_80_code 39 = .ok (.getfield 184, 3) := by decide +kernel
theorem d_X12_lets_42 : decode prog_14_method_80_code 42 = .ok (.iload_n 1, 1) := by decide +kernel
theorem d_X12_lets_43 : decode prog_14_method_80_code 43 = .ok (.iaload, 1) := by decide +kernel
theorem d_X12_lets_44 : decode prog_14_method_80_code 44 = .ok (.sipush 1440, 3) := by decide +kernel
theorem d_X12_lets_47 : decode prog_14_method_80_code 47 = .ok (.idiv, 1) := by decide +kernel
theorem d_X12_lets_48 : decode prog_14_method_80_code 48 = .ok (.iload_n 2, 1) := by decide +kernel
theorem d_X12_lets_49 : decode prog_14_method_80_code 49 = .ok (.invokevirtual 471, 3) := by decide +kernel
theorem d_X12_lets_52 : decode prog_14_method_80_code 52 = .ok (.invokevirtual 585, 3) := by decide +kernel
theorem d_X12_lets_55 : decode prog_14_method_80_code 55 = .ok (.ireturn, 1) := by decide +kernel
theorem d_X12_sighting_0 : decode prog_14_method_81_code 0 = .ok (.iload_n 1, 1) := by decide +kernel
theorem d_X12_sighting_1 : decode prog_14_method_81_code 1 = .ok (.iconst 0, 1) := by decide +kernel
theorem d_X12_sighting_2 : decode prog_14_method_81_code 2 = .ok (.aload_n 0, 1) := by decide +kernel
theorem d_X12_sighting_3 : decode prog_14_method_81_code 3 = .ok (.getfield 516, 3) := by decide +kernel
theorem d_X12_sighting_6 : decode prog_14_method_81_code 6 = .ok (.iconst 1, 1) := by decide +kernel
theorem d_X12_sighting_7 : decode prog_14_method_81_code 7 = .ok (.isub, 1) := by decide +kernel
theorem d_X12_sighting_8 : decode prog_14_method_81_code 8 = .ok (.invokestatic 323, 3) := by decide +kernel
theorem d_X12_sighting_11 : decode prog_14_method_81_code 11 = .ok (.ifCond .ne 5, 3) := by decide +kernel
theorem d_X12_sighting_14 : decode prog_14_method_81_code 14 = .ok (.iconst (-1), 1) := by decide +kernel
theorem d_X12_sighting_15 : decode prog_14_method_81_code 15 = .ok (.ireturn, 1) := by decide +kernel
theorem d_X12_sighting_16 : decode prog_14_method_81_code 16 = .ok (.iload_n 2, 1) := by decide +kernel
theorem d_X12_sighting_17 : decode prog_14_method_81_code 17 = .ok (.tableswitch 81 0 5 #[39, 46, 53, 60, 67, 74], 39) := by decide +kernel
theorem d_X12_sighting_56 : decode prog_14_method_81_code 56 = .ok (.aload_n 0, 1) := by decide +kernel
theorem d_X12_sighting_57 : decode prog_14_method_81_code 57 = .ok (.getfield 178, 3) := by decide +kernel
theorem d_X12_sighting_60 : decode prog_14_method_81_code 60 = .ok (.iload_n 1, 1) := by decide +kernel
theorem d_X12_sighting_61 : decode prog_14_method_81_code 61 = .ok (.iaload, 1) := by decide +kernel
theorem d_X12_sighting_62 : decode prog_14_method_81_code 62 = .ok (.ireturn, 1) := by decide +kernel
theorem d_X12_sighting_63 : decode prog_14_method_81_code 63 = .ok (.aload_n 0, 1) := by decide +kernel
theorem d_X12_sighting_64 : decode prog_14_method_81_code 64 = .ok (.getfield 181, 3) := by decide +kernel
theorem d_X12_sighting_67 : decode prog_14_method_81_code 67 = .ok (.iload_n 1, 1) := by decide +kernel
theorem d_X12_sighting_68 : decode prog_14_method_81_code 68 = .ok (.iaload, 1) := by decide +kernel
theorem d_X12_sighting_69 : decode prog_14_method_81_code 69 = .ok (.ireturn, 1) := by decide +kernel
theorem d_X12_sighting_70 : decode prog_14_method_81_code 70 = .ok (.aload_n 0, 1) := by decide +kernel
theorem d_X12_sighting_71 : decode prog_14_method_81_code 71 = .ok (.getfield 184, 3) := by decide +kernel
theorem d_X12_sighting_74 : decode prog_14_method_81_code 74 = .ok (.iload_n 1, 1) := by decide +kernel
theorem d_X12_sighting_75 : decode prog_14_method_81_code 75 = .ok (.iaload, 1) := by decide +kernel
theorem d_X12_sighting_76 : decode prog_14_method_81_code 76 = .ok (.ireturn, 1) := by decide +kernel
theorem d_X12_sighting_77 : decode prog_14_method_81_code 77 = .ok (.aload_n 0, 1) := by decide +kernel
theorem d_X12_sighting_78 : decode prog_14_method_81_code 78 = .ok (.getfield 187, 3) := by decide +kernel
theorem d_X12_sighting_81 : decode prog_14_method_81_code 81 = .ok (.iload_n 1, 1) := by decide +kernel
theorem d_X12_sighting_82 : decode prog_14_method_81_code 82 = .ok (.iaload, 1) := by decide +kernel
theorem d_X12_sighting_83 : decode prog_14_method_81_code 83 = .ok (.ireturn, 1) := by decide +kernel
theorem d_X12_sighting_84 : decode prog_14_method_81_code 84 = .ok (.aload_n 0, 1) := by decide +kernel
theorem d_X12_sighting_85 : decode prog_14_method_81_code 85 = .ok (.getfield 190, 3) := by decide +kernel
theorem d_X12_sighting_88 : decode prog_14_method_81_code 88 = .ok (.iload_n 1, 1) := by decide +kernel
theorem d_X12_sighting_89 : decode prog_14_method_81_code 89 = .ok (.iaload, 1) := by decide +kernel
theorem d_X12_sighting_90 : decode prog_14_method_81_code 90 = .ok (.ireturn, 1) := by decide +kernel
theorem d_X12_sighting_91 : decode prog_14_method_81_code 91 = .ok (.aload_n 0, 1) := by decide +kernel
theorem d_X12_sighting_92 : decode prog_14_method_81_code 92 = .ok (.getfield 193, 3) := by decide +kernel
theorem d_X12_sighting_95 : decode prog_14_method_81_code 95 = .ok (.iload_n 1, 1) := by decide +kernel
theorem d_X12_sighting_96 : decode prog_14_method_81_code 96 = .ok (.iaload, 1) := by decide +kernel
theorem d_X12_sighting_97 : decode prog_14_method_81_code 97 = .ok (.ireturn, 1) := by decide +kernel
theorem d_X12_sighting_98 : decode prog_14_method_81_code 98 = .ok (.iconst (-1), 1) := by decide +kernel
theorem d_X12_sighting_99 : decode prog_14_method_81_code 99 = .ok (.ireturn, 1) := by decide +kernel
theorem d_X12_should_0 : decode prog_14_method_82_code 0 = .ok (.iload_n 1, 1) := by decide +kernel
theorem d_X12_should_1 : decode prog_14_method_82_code 1 = .ok (.iconst 0, 1) := by decide +kernel
theorem d_X12_should_2 : decode prog_14_method_82_code 2 = .ok (.aload_n 0, 1) := by decide +kernel
theorem d_X12_should_3 : decode prog_14_method_82_code 3 = .ok (.getfield 516, 3) := by decide +kernel
theorem d_X12_should_6 : decode prog_14_method_82_code 6 = .ok (.iconst 1, 1) := by decide +kernel
theorem d_X12_should_7 : decode prog_14_method_82_code 7 = .ok (.isub, 1) := by decide +kernel
theorem d_X12_should_8 : decode prog_14_method_82_code 8 = .ok (.invokestatic 323, 3) := by decide +kernel
theorem d_X12_should_11 : decode prog_14_method_82_code 11 = .ok (.ifCond .eq 29, 3) := by decide +kernel
theorem d_X12_should_14 : decode prog_14_method_82_code 14 = .ok (.iload_n 2, 1) := by decide +kernel
theorem d_X12_should_15 : decode prog_14_method_82_code 15 = .ok (.aload_n 0, 1) := by decide +kernel
theorem d_X12_should_16 : decode prog_14_method_82_code 16 = .ok (.getfield 184, 3) := by decide +kernel
theorem d_X12_should_19 : decode prog_14_method_82_code 19 = .ok (.iload_n 1, 1) := by decide +kernel
theorem d_X12_should_20 : decode prog_14_method_82_code 20 = .ok (.iaload, 1) := by decide +kernel
theorem d_X12_should_21 : decode prog_14_method_82_code 21 = .ok (.aload_n 0, 1) := by decide +kernel
theorem d_X12_should_22 : decode prog_14_method_82_code 22 = .ok (.getfield 342, 3) := by decide +kernel
theorem d_X12_should_25 : decode prog_14_method_82_code 25 = .ok (.invokestatic 323, 3) := by decide +kernel
theorem d_X12_should_28 : decode prog_14_method_82_code 28 = .ok (.ifCond .eq 12, 3) := by decide +kernel
theorem d_X12_should_31 : decode prog_14_method_82_code 31 = .ok (.aload_n 0, 1) := by decide +kernel
theorem d_X12_should_32 : decode prog_14_method_82_code 32 = .ok (.iload_n 1, 1) := by decide +kernel
theorem d_X12_should_33 : decode prog_14_method_82_code 33 = .ok (.iload_n 2, 1) := by decide +kernel
theorem d_X12_should_34 : decode prog_14_method_82_code 34 = .ok (.invokevirtual 573, 3) := by decide +kernel
theorem d_X12_should_37 : decode prog_14_method_82_code 37 = .ok (.goto 4, 3) := by decide +kernel
theorem d_X12_should_40 : decode prog_14_method_82_code 40 = .ok (.iconst (-1), 1) := by decide +kernel
theorem d_X12_should_41 : decode prog_14_method_82_code 41 = .ok (.ireturn, 1) := by decide +kernel
theorem d_X12_heard_0 : decode prog_14_method_83_code 0 = .ok (.aload_n 0, 1) := by decide +kernel
theorem d_X12_heard_1 : decode prog_14_method_83_code 1 = .ok (.iload_n 1, 1) := by decide +kernel
theorem d_X12_heard_2 : decode prog_14_method_83_code 2 = .ok (.invokevirtual 351, 3) := by decide +kernel
theorem d_X12_heard_5 : decode prog_14_method_83_code 5 = .ok (.ifCond .ne 5, 3) := by decide +kernel
theorem d_X12_heard_8 : decode prog_14_method_83_code 8 = .ok (.iconst (-1), 1) := by decide +kernel
theorem d_X12_heard_9 : decode prog_14_method_83_code 9 = .ok (.ireturn, 1) := by decide +kernel
theorem d_X12_heard_10 : decode prog_14_method_83_code 10 = .ok (.iconst 0, 1) := by decide +kernel
theorem d_X12_heard_11 : decode prog_14_method_83_code 11 = .ok (.istore_n 2, 1) := by decide +kernel
theorem d_X12_heard_12 : decode prog_14_method_83_code 12 = .ok (.iconst 0, 1) := by decide +kernel
theorem d_X12_heard_13 : decode prog_14_method_83_code 13 = .ok (.istore_n 3, 1) := by decide +kernel
theorem d_X12_heard_14 : decode prog_14_method_83_code 14 = .ok (.iload_n 3, 1) := by decide +kernel
theorem d_X12_heard_15 : decode prog_14_method_83_code 15 = .ok (.aload_n 0, 1) := by decide +kernel
theorem d_X12_heard_16 : decode prog_14_method_83_code 16 = .ok (.getfield 516, 3) := by decide +kernel
theorem d_X12_heard_19 : decode prog_14_method_83_code 19 = .ok (.if_icmp .ge 37, 3) := by decide +kernel
theorem d_X12_heard_22 : decode prog_14_method_83_code 22 = .ok (.iload_n 2, 1) := by decide +kernel
theorem d_X12_heard_23 : decode prog_14_method_83_code 23 = .ok (.aload_n 0, 1) := by decide +kernel
theorem d_X12_heard_24 : decode prog_14_method_83_code 24 = .ok (.getfield 193, 3) := by decide +kernel
theorem d_X12_heard_27 : decode prog_14_method_83_code 27 = .ok (.iload_n 3, 1) := by decide +kernel
theorem d_X12_heard_28 : decode prog_14_method_83_code 28 = .ok (.iaload, 1) := by decide +kernel
theorem d_X12_heard_29 : decode prog_14_method_83_code 29 = .ok (.iconst (-1), 1) := by decide +kernel
theorem d_X12_heard_30 : decode prog_14_method_83_code 30 = .ok (.if_icmp .eq 17, 3) := by decide +kernel
theorem d_X12_heard_33 : decode prog_14_method_83_code 33 = .ok (.aload_n 0, 1) := by decide +kernel
theorem d_X12_heard_34 : decode prog_14_method_83_code 34 = .ok (.getfield 193, 3) := by decide +kernel
theorem d_X12_heard_37 : decode prog_14_method_83_code 37 = .ok (.iload_n 3, 1) := by decide +kernel
theorem d_X12_heard_38 : decode prog_14_method_83_code 38 = .ok (.iaload, 1) := by decide +kernel
theorem d_X12_heard_39 : decode prog_14_method_83_code 39 = .ok (.iload_n 1, 1) := by decide +kernel
theorem d_X12_heard_40 : decode prog_14_method_83_code 40 = .ok (.if_icmp .gt 7, 3) := by decide +kernel
theorem d_X12_heard_43 : decode prog_14_method_83_code 43 = .ok (.iconst 1, 1) := by decide +kernel
theorem d_X12_heard_44 : decode prog_14_method_83_code 44 = .ok (.goto 4, 3) := by decide +kernel
theorem d_X12_heard_47 : decode prog_14_method_83_code 47 = .ok (.iconst 0, 1) := by decide +kernel
theorem d_X12_heard_48 : decode prog_14_method_83_code 48 = .ok (.iadd, 1) := by decide +kernel
theorem d_X12_heard_49 : decode prog_14_method_83_code 49 = .ok (.istore_n 2, 1) := by decide +kernel
theorem d_X12_heard_50 : decode prog_14_method_83_code 50 = .ok (.iinc 3 1, 3) := by decide +kernel
theorem d_X12_heard_53 : decode prog_14_method_83_code 53 = .ok (.goto (-39), 3) := by decide +kernel
theorem d_X12_heard_56 : decode prog_14_method_83_code 56 = .ok (.iload_n 2, 1) := by decide +kernel
theorem d_X12_heard_57 : decode prog_14_method_83_code 57 = .ok (.ireturn, 1) := by decide +kernel
theorem d_X12_opened_0 : decode prog_14_method_84_code 0 = .ok (.aload_n 0, 1) := by decide +kernel
theorem d_X12_opened_1 : decode prog_14_method_84_code 1 = .ok (.getfield 199, 3) := by decide +kernel
theorem d_X12_opened_4 : decode prog_14_method_84_code 4 = .ok (.aload_n 0, 1) := by decide +kernel
theorem d_X12_opened_5 : decode prog_14_method_84_code 5 = .ok (.getfield 576, 3) := by decide +kernel
theorem d_X12_opened_8 : decode prog_14_method_84_code 8 = .ok (.iload_n 1, 1) := by decide +kernel
theorem d_X12_opened_9 : decode prog_14_method_84_code 9 = .ok (.iastore, 1) := by decide +kernel
theorem d_X12_opened_10 : decode prog_14_method_84_code 10 = .ok (.aload_n 0, 1) := by decide +kernel
theorem d_X12_opened_11 : decode prog_14_method_84_code 11 = .ok (.getfield 202, 3) := by decide +kernel
theorem d_X12_opened_14 : decode prog_14_method_84_code 14 = .ok (.aload_n 0, 1) := by decide +kernel
theorem d_X12_opened_15 : decode prog_14_method_84_code 15 = .ok (.getfield 576, 3) := by decide +kernel
theorem d_X12_opened_18 : decode prog_14_method_84_code 18 = .ok (.aload_n 0, 1) := by decide +kernel
theorem d_X12_opened_19 : decode prog_14_method_84_code 19 = .ok (.getfield 342, 3) := by decide +kernel
theorem d_X12_opened_22 : decode prog_14_method_84_code 22 = .ok (.iastore, 1) := by decide +kernel
theorem d_X12_opened_23 : decode prog_14_method_84_code 23 = .ok (.aload_n 0, 1) := by decide +kernel
theorem d_X12_opened_24 : decode prog_14_method_84_code 24 = .ok (.dup, 1) := by decide +kernel
theorem d_X12_opened_25 : decode prog_14_method_84_code 25 = .ok (.getfield 576, 3) := by decide +kernel
theorem d_X12_opened_28 : decode prog_14_method_84_code 28 = .ok (.iconst 1, 1) := by decide +kernel
theorem d_X12_opened_29 : decode prog_14_method_84_code 29 = .ok (.iadd, 1) := by decide +kernel
theorem d_X12_opened_30 : decode prog_14_method_84_code 30 = .ok (.putfield 576, 3) := by decide +kernel
theorem d_X12_opened_33 : decode prog_14_method_84_code 33 = .ok (.aload_n 0, 1) := by decide +kernel
theorem d_X12_opened_34 : decode prog_14_method_84_code 34 = .ok (.getfield 576, 3) := by decide +kernel
theorem d_X12_opened_37 : decode prog_14_method_84_code 37 = .ok (.iconst 1, 1) := by decide +kernel
theorem d_X12_opened_38 : decode prog_14_method_84_code 38 = .ok (.isub, 1) := by decide +kernel
theorem d_X12_opened_39 : decode prog_14_method_84_code 39 = .ok (.ireturn, 1) := by decide +kernel
theorem d_X12_open_0 : decode prog_14_method_85_code 0 = .ok (.iload_n 1, 1) := by decide +kernel
theorem d_X12_open_1 : decode prog_14_method_85_code 1 = .ok (.iconst 0, 1) := by decide +kernel
theorem d_X12_open_2 : decode prog_14_method_85_code 2 = .ok (.bipush 9, 2) := by decide +kernel
theorem d_X12_open_4 : decode prog_14_method_85_code 4 = .ok (.invokestatic 323, 3) := by decide +kernel
theorem d_X12_open_7 : decode prog_14_method_85_code 7 = .ok (.ifCond .eq 20, 3) := by decide +kernel
theorem d_X12_open_10 : decode prog_14_method_85_code 10 = .ok (.aload_n 0, 1) := by decide +kernel
theorem d_X12_open_11 : decode prog_14_method_85_code 11 = .ok (.getfield 576, 3) := by decide +kernel
theorem d_X12_open_14 : decode prog_14_method_85_code 14 = .ok (.bipush 30, 2) := by decide +kernel
theorem d_X12_open_16 : decode prog_14_method_85_code 16 = .ok (.if_icmp .ge 11, 3) := by decide +kernel
theorem d_X12_open_19 : decode prog_14_method_85_code 19 = .ok (.aload_n 0, 1) := by decide +kernel
theorem d_X12_open_20 : decode prog_14_method_85_code 20 = .ok (.iload_n 1, 1) := by decide +kernel
theorem d_X12_open_21 : decode prog_14_method_85_code 21 = .ok (.invokevirtual 579, 3) := by decide +kernel
theorem d_X12_open_24 : decode prog_14_method_85_code 24 = .ok (.goto 4, 3) := by decide +kernel
theorem d_X12_open_27 : decode prog_14_method_85_code 27 = .ok (.iconst (-1), 1) := by decide +kernel
theorem d_X12_open_28 : decode prog_14_method_85_code 28 = .ok (.ireturn, 1) := by decide +kernel
theorem d_X12_need_0 : decode prog_14_method_86_code 0 = .ok (.iload_n 1, 1) := by decide +kernel
theorem d_X12_need_1 : decode prog_14_method_86_code 1 = .ok (.iconst 0, 1) := by decide +kernel
theorem d_X12_need_2 : decode prog_14_method_86_code 2 = .ok (.bipush 9, 2) := by decide +kernel
theorem d_X12_need_4 : decode prog_14_method_86_code 4 = .ok (.invokestatic 323, 3) := by decide +kernel
theorem d_X12_need_7 : decode prog_14_method_86_code 7 = .ok (.ifCond .eq 14, 3) := by decide +kernel
theorem d_X12_need_10 : decode prog_14_method_86_code 10 = .ok (.iload_n 2, 1) := by decide +kernel
theorem d_X12_need_11 : decode prog_14_method_86_code 11 = .ok (.iconst 0, 1) := by decide +kernel
theorem d_X12_need_12 : decode prog_14_method_86_code 12 = .ok (.sipush 255, 3) := by decide +kernel
theorem d_X12_need_15 : decode prog_14_method_86_code 15 = .ok (.invokestatic 323, 3) := by decide +kernel
theorem d_X12_need_18 : decode prog_14_method_86_code 18 = .ok (.ifCond .ne 5, 3) := by decide +kernel
theorem d_X12_need_21 : decode prog_14_method_86_code 21 = .ok (.iconst 0, 1) := by decide +kernel
theorem d_X12_need_22 : decode prog_14_method_86_code 22 = .ok (.ireturn, 1) := by decide +kernel
theorem d_X12_need_23 : decode prog_14_method_86_code 23 = .ok (.aload_n 0, 1) := by decide +kernel
theorem d_X12_need_24 : decode prog_14_method_86_code 24 = .ok (.getfield 205, 3) := by decide +kernel
theorem d_X12_need_27 : decode prog_14_method_86_code 27 = .ok (.iload_n 1, 1) := by decide +kernel
theorem d_X12_need_28 : decode prog_14_method_86_code 28 = .ok (.iload_n 2, 1) := by decide +kernel
theorem d_X12_need_29 : decode prog_14_method_86_code 29 = .ok (.iastore, 1) := by decide +kernel
theorem d_X12_need_30 : decode prog_14_method_86_code 30 = .ok (.iconst 1, 1) := by decide +kernel
theorem d_X12_need_31 : decode prog_14_method_86_code 31 = .ok (.ireturn, 1) := by decide +kernel
theorem d_X12_want_0 : decode prog_14_method_87_code 0 = .ok (.iload_n 1, 1) := by decide +kernel
theorem d_X12_want_1 : decode prog_14_method_87_code 1 = .ok (.iconst 0, 1) := by decide +kernel
theorem d_X12_want_2 : decode prog_14_method_87_code 2 = .ok (.bipush 7, 2) := by decide +kernel
theorem d_X12_want_4 : decode prog_14_method_87_code 4 = .ok (.invokestatic 323, 3) := by decide +kernel
theorem d_X12_want_7 : decode prog_14_method_87_code 7 = .ok (.ifCond .eq 12, 3) := by decide +kernel
theorem d_X12_want_10 : decode prog_14_method_87_code 10 = .ok (.iload_n 2, 1) := by decide +kernel
theorem d_X12_want_11 : decode prog_14_method_87_code 11 = .ok (.iconst 1, 1) := by decide +kernel
theorem d_X12_want_12 : decode prog_14_method_87_code 12 = .ok (.iconst 3, 1) := by decide +kernel
theorem d_X12_want_13 : decode prog_14_method_87_code 13 = .ok (.invokestatic 323, 3) := by decide +kernel
theorem d_X12_want_16 : decode prog_14_method_87_code 16 = .ok (.ifCond .ne 5, 3) := by decide +kernel
theorem d_X12_want_19 : decode prog_14_method_87_code 19 = .ok (.iconst 0, 1) := by decide +kernel
theorem d_X12_want_20 : decode prog_14_method_87_code 20 = .ok (.ireturn, 1) := by decide +kernel
theorem d_X12_want_21 : decode prog_14_method_87_code 21 = .ok (.aload_n 0, 1) := by decide +kernel
theorem d_X12_want_22 : decode prog_14_method_87_code 22 = .ok (.getfield 208, 3) := by decide +kernel
theorem d_X12_want_25 : decode prog_14_method_87_code 25 = .ok (.iload_n 1, 1) := by decide +kernel
theorem d_X12_want_26 : decode prog_14_method_87_code 26 = .ok (.iload_n 2, 1) := by decide +kernel
theorem d_X12_want_27 : decode prog_14_method_87_code 27 = .ok (.iastore, 1) := by decide +kernel
theorem d_X12_want_28 : decode prog_14_method_87_code 28 = .ok (.iconst 1, 1) := by decide +kernel
theorem d_X12_want_29 : decode prog_14_method_87_code 29 = .ok (.ireturn, 1) := by decide +kernel
theorem d_X12_isCase_0 : decode prog_14_method_88_code 0 = .ok (.iload_n 1, 1) := by decide +kernel
theorem d_X12_isCase_1 : decode prog_14_method_88_code 1 = .ok (.iconst 0, 1) := by decide +kernel
theorem d_X12_isCase_2 : decode prog_14_method_88_code 2 = .ok (.aload_n 0, 1) := by decide +kernel
theorem d_X12_isCase_3 : decode prog_14_method_88_code 3 = .ok (.getfield 576, 3) := by decide +kernel
theorem d_X12_isCase_6 : decode prog_14_method_88_code 6 = .ok (.iconst 1, 1) := by decide +kernel
theorem d_X12_isCase_7 : decode prog_14_method_88_code 7 = .ok (.isub, 1) := by decide +kernel
theorem d_X12_isCase_8 : decode prog_14_method_88_code 8 = .ok (.invokestatic 323, 3) := by decide +kernel
theorem d_X12_isCase_11 : decode prog_14_method_88_code 11 = .ok (.ireturn, 1) := by decide +kernel
theorem d_X12_state_0 : decode prog_14_method_89_code 0 = .ok (.aload_n 0, 1) := by decide +kernel
theorem d_X12_state_1 : decode prog_14_method_89_code 1 = .ok (.iload_n 1, 1) := by decide +kernel
theorem d_X12_state_2 : decode prog_14_method_89_code 2 = .ok (.invokevirtual 588, 3) := by decide +kernel
theorem d_X12_state_5 : decode prog_14_method_89_code 5 = .ok (.ifCond .eq 42, 3) := by decide +kernel
theorem d_X12_state_8 : decode prog_14_method_89_code 8 = .ok (.iload_n 2, 1) := by decide +kernel
theorem d_X12_state_9 : decode prog_14_method_89_code 9 = .ok (.iconst 0, 1) := by decide +kernel
theorem d_X12_state_10 : decode prog_14_method_89_code 10 = .ok (.bipush 7, 2) := by decide +kernel
theorem d_X12_state_12 : decode prog_14_method_89_code 12 = .ok (.invokestatic 323, 3) := by decide +kernel
theorem d_X12_state_15 : decode prog_14_method_89_code 15 = .ok (.ifCond .eq 32, 3) := by decide +kernel
theorem d_X12_state_18 : decode prog_14_method_89_code 18 = .ok (.iload_n 3, 1) := by decide +kernel
theorem d_X12_state_19 : decode prog_14_method_89_code 19 = .ok (.iconst 0, 1) := by decide +kernel
theorem d_X12_state_20 : decode prog_14_method_89_code 20 = .ok (.bipush 15, 2) := by decide +kernel
theorem d_X12_state_22 : decode prog_14_method_89_code 22 = .ok (.invokestatic 323, 3) := by decide +kernel
theorem d_X12_state_25 : decode prog_14_method_89_code 25 = .ok (.ifCond .eq 22, 3) := by decide +kernel
theorem d_X12_state_28 : decode prog_14_method_89_code 28 = .ok (.aload_n 0, 1) := by decide +kernel
theorem d_X12_state_29 : decode prog_14_method_89_code 29 = .ok (.getfield 229, 3) := by decide +kernel
theorem d_X12_state_32 : decode prog_14_method_89_code 32 = .ok (.iload_n 3, 1) := by decide +kernel
theorem d_X12_state_33 : decode prog_14_method_89_code 33 = .ok (.baload, 1) := by decide +kernel
theorem d_X12_state_34 : decode prog_14_method_89_code 34 = .ok (.ifCond .ne 13, 3) := by decide +kernel
theorem d_X12_state_37 : decode prog_14_method_89_code 37 = .ok (.aload_n 0, 1) := by decide +kernel
theorem d_X12_state_38 : decode prog_14_method_89_code 38 = .ok (.getfield 591, 3) := by decide +kernel
theorem d_X12_state_41 : decode prog_14_method_89_code 41 = .ok (.sipush 200, 3) := by decide +kernel
theorem d_X12_state_44 : decode prog_14_method_89_code 44 = .ok (.if_icmp .ne 5, 3) := by decide +kernel
theorem d_X12_state_47 : decode prog_14_method_89_code 47 = .ok (.iconst (-1), 1) := by decide +kernel
theorem d_X12_state_48 : decode prog_14_method_89_code 48 = .ok (.ireturn, 1) := by decide +kernel
theorem d_X12_state_49 : decode prog_14_method_89_code 49 = .ok (.aload_n 0, 1) := by decide +kernel
theorem d_X12_state_50 : decode prog_14_method_89_code 50 = .ok (.getfield 211, 3) := by decide +kernel
theorem d_X12_state_53 : decode prog_14_method_89_code 53 = .ok (.aload_n 0, 1) := by decide +kernel
theorem d_X12_state_54 : decode prog_14_method_89_code 54 = .ok (.getfield 591, 3) := by decide +kernel
theorem d_X12_state_57 : decode prog_14_method_89_code 57 = .ok (.iload_n 1, 1) := by decide +kernel
theorem d_X12_state_58 : decode prog_14_method_89_code 58 = .ok (.iastore, 1) := by decide +kernel
theorem d_X12_state_59 : decode prog_14_method_89_code 59 = .ok (.aload_n 0, 1) := by decide +kernel
theorem d_X12_state_60 : decode prog_14_method_89_code 60 = .ok (.getfield 214, 3) := by decide +kernel
theorem d_X12_state_63 : decode prog_14_method_89_code 63 = .ok (.aload_n 0, 1) := by decide +kernel
theorem d_X12_state_64 : decode prog_14_method_89_code 64 = .ok (.getfield 591, 3) := by decide +kernel
theorem d_X12_state_67 : decode prog_14_method_89_code 67 = .ok (.iload_n 2, 1) := by decide +kernel
theorem d_X12_state_68 : decode prog_14_method_89_code 68 = .ok (.iastore, 1) := by decide +kernel
theorem d_X12_state_69 : decode prog_14_method_89_code 69 = .ok (.aload_n 0, 1) := by decide +kernel
theorem d_X12_state_70 : decode prog_14_method_89_code 70 = .ok (.getfield 217, 3) := by decide +kernel
theorem d_X12_state_73 : decode prog_14_method_89_code 73 = .ok (.aload_n 0, 1) := by decide +kernel
theorem d_X12_state_74 : decode prog_14_method_89_code 74 = .ok (.getfield 591, 3) := by decide +kernel
theorem d_X12_state_77 : decode prog_14_method_89_code 77 = .ok (.iload_n 3, 1) := by decide +kernel
theorem d_X12_state_78 : decode prog_14_method_89_code 78 = .ok (.iastore, 1) := by decide +kernel
theorem d_X12_state_79 : decode prog_14_method_89_code 79 = .ok (.aload_n 0, 1) := by decide +kernel
theorem d_X12_state_80 : decode prog_14_method_89_code 80 = .ok (.getfield 223, 3) := by decide +kernel
theorem d_X12_state_83 : decode prog_14_method_89_code 83 = .ok (.aload_n 0, 1) := by decide +kernel
theorem d_X12_state_84 : decode prog_14_method_89_code 84 = .ok (.getfield 591, 3) := by decide +kernel
theorem d_X12_state_87 : decode prog_14_method_89_code 87 = .ok (.iload 4, 2) := by decide +kernel
theorem d_X12_state_89 : decode prog_14_method_89_code 89 = .ok (.bastore, 1) := by decide +kernel
theorem d_X12_state_90 : decode prog_14_method_89_code 90 = .ok (.aload_n 0, 1) := by decide +kernel
theorem d_X12_state_91 : decode prog_14_method_89_code 91 = .ok (.getfield 220, 3) := by decide +kernel
theorem d_X12_state_94 : decode prog_14_method_89_code 94 = .ok (.aload_n 0, 1) := by decide +kernel
theorem d_X12_state_95 : decode prog_14_method_89_code 95 = .ok (.getfield 591, 3) := by decide +kernel
theorem d_X12_state_98 : decode prog_14_method_89_code 98 = .ok (.aload_n 0, 1) := by decide +kernel
theorem d_X12_state_99 : decode prog_14_method_89_code 99 = .ok (.getfield 342, 3) := by decide +kernel
theorem d_X12_state_102 : decode prog_14_method_89_code 102 = .ok (.iastore, 1) := by decide +kernel
theorem d_X12_state_103 : decode prog_14_method_89_code 103 = .ok (.aload_n 0, 1) := by decide +kernel
theorem d_X12_state_104 : decode prog_14_method_89_code 104 = .ok (.dup, 1) := by decide +kernel
theorem d_X12_state_105 : decode prog_14_method_89_code 105 = .ok (.getfield 591, 3) := by decide +kernel
theorem d_X12_state_108 : decode prog_14_method_89_code 108 = .ok (.iconst 1, 1) := by decide +kernel
theorem d_X12_state_109 : decode prog_14_method_89_code 109 = .ok (.iadd, 1) := by decide +kernel
theorem d_X12_state_110 : decode prog_14_method_89_code 110 = .ok (.putfield 591, 3) := by decide +kernel
theorem d_X12_state_113 : decode prog_14_method_89_code 113 = .ok (.aload_n 0, 1) := by decide +kernel
theorem d_X12_state_114 : decode prog_14_method_89_code 114 = .ok (.getfield 591, 3) := by decide +kernel
theorem d_X12_state_117 : decode prog_14_method_89_code 117 = .ok (.iconst 1, 1) := by decide +kernel
theorem d_X12_state_118 : decode prog_14_method_89_code 118 = .ok (.isub, 1) := by decide +kernel
theorem d_X12_state_119 : decode prog_14_method_89_code 119 = .ok (.ireturn, 1) := by decide +kernel
theorem d_X12_factOf_0 : decode prog_14_method_90_code 0 = .ok (.iconst 0, 1) := by decide +kernel
theorem d_X12_factOf_1 : decode prog_14_method_90_code 1 = .ok (.istore 4, 2) := by decide +kernel
theorem d_X12_factOf_3 : decode prog_14_method_90_code 3 = .ok (.iconst 0, 1) := by decide +kernel
theorem d_X12_factOf_4 : decode prog_14_method_90_code 4 = .ok (.istore 5, 2) := by decide +kernel
theorem d_X12_factOf_6 : decode prog_14_method_90_code 6 = .ok (.iconst 0, 1) := by decide +kernel
theorem d_X12_factOf_7 : decode prog_14_method_90_code 7 = .ok (.istore 6, 2) := by decide +kernel
theorem d_X12_factOf_9 : decode prog_14_method_90_code 9 = .ok (.iload 6, 2) := by decide +kernel
theorem d_X12_factOf_11 : decode prog_14_method_90_code 11 = .ok (.bipush 16, 2) := by decide +kernel
theorem d_X12_factOf_13 : decode prog_14_method_90_code 13 = .ok (.if_icmp .ge 149, 3) := by decide +kernel
theorem d_X12_factOf_16 : decode prog_14_method_90_code 16 = .ok (.iconst (-1), 1) := by decide +kernel
theorem d_X12_factOf_17 : decode prog_14_method_90_code 17 = .ok (.istore 7, 2) := by decide +kernel
theorem d_X12_factOf_19 : decode prog_14_method_90_code 19 = .ok (.iconst 0, 1) := by decide +kernel
theorem d_X12_factOf_20 : decode prog_14_method_90_code 20 = .ok (.istore 8, 2) := by decide +kernel
theorem d_X12_factOf_22 : decode prog_14_method_90_code 22 = .ok (.iload 8, 2) := by decide +kernel
theorem d_X12_factOf_24 : decode prog_14_method_90_code 24 = .ok (.aload_n 0, 1) := by decide +kernel
theorem d_X12_factOf_25 : decode prog_14_method_90_code 25 = .ok (.getfield 591, 3) := by decide +kernel
theorem d_X12_factOf_28 : decode prog_14_method_90_code 28 = .ok (.if_icmp .ge 58, 3) := by decide +kernel
theorem d_X12_factOf_31 : decode prog_14_method_90_code 31 = .ok (.aload_n 0, 1) := by decide +kernel
theorem d_X12_factOf_32 : decode prog_14_method_90_code 32 = .ok (.getfield 217, 3) := by decide +kernel
theorem d_X12_factOf_35 : decode prog_14_method_90_code 35 = .ok (.iload 8, 2) := by decide +kernel
