theorem d_X4_tellNoted_46 : decode prog_6_method_9_code 46 = .ok (.iastore, 1) := by decide +kernel
theorem d_X4_tellNoted_47 : decode prog_6_method_9_code 47 = .ok (.iinc 3 1, 3) := by decide +kernel
theorem d_X4_tellNoted_50 : decode prog_6_method_9_code 50 = .ok (.goto (-48), 3) := by decide +kernel
theorem d_X4_tellNoted_53 : decode prog_6_method_9_code 53 = .ok (.return_, 1) := by decide +kernel
theorem d_X4_minuteOf_0 : decode prog_6_method_10_code 0 = .ok (.aload_n 0, 1) := by decide +kernel
theorem d_X4_minuteOf_1 : decode prog_6_method_10_code 1 = .ok (.iload_n 1, 1) := by decide +kernel
theorem d_X4_minuteOf_2 : decode prog_6_method_10_code 2 = .ok (.invokevirtual 66, 3) := by decide +kernel
theorem d_X4_minuteOf_5 : decode prog_6_method_10_code 5 = .ok (.ifCond .eq 12, 3) := by decide +kernel
theorem d_X4_minuteOf_8 : decode prog_6_method_10_code 8 = .ok (.aload_n 0, 1) := by decide +kernel
theorem d_X4_minuteOf_9 : decode prog_6_method_10_code 9 = .ok (.getfield 40, 3) := by decide +kernel
theorem d_X4_minuteOf_12 : decode prog_6_method_10_code 12 = .ok (.iload_n 1, 1) := by decide +kernel
theorem d_X4_minuteOf_13 : decode prog_6_method_10_code 13 = .ok (.iaload, 1) := by decide +kernel
theorem d_X4_minuteOf_14 : decode prog_6_method_10_code 14 = .ok (.goto 4, 3) := by decide +kernel
theorem d_X4_minuteOf_17 : decode prog_6_method_10_code 17 = .ok (.iconst (-1), 1) := by decide +kernel
theorem d_X4_minuteOf_18 : decode prog_6_method_10_code 18 = .ok (.ireturn, 1) := by decide +kernel
theorem d_X4_tell_0 : decode prog_6_method_11_code 0 = .ok (.aload_n 0, 1) := by decide +kernel
theorem d_X4_tell_1 : decode prog_6_method_11_code 1 = .ok (.iload_n 1, 1) := by decide +kernel
theorem d_X4_tell_2 : decode prog_6_method_11_code 2 = .ok (.invokevirtual 66, 3) := by decide +kernel
theorem d_X4_tell_5 : decode prog_6_method_11_code 5 = .ok (.ifCond .ne 5, 3) := by decide +kernel
theorem d_X4_tell_8 : decode prog_6_method_11_code 8 = .ok (.iconst (-1), 1) := by decide +kernel
theorem d_X4_tell_9 : decode prog_6_method_11_code 9 = .ok (.ireturn, 1) := by decide +kernel
theorem d_X4_tell_10 : decode prog_6_method_11_code 10 = .ok (.iload_n 2, 1) := by decide +kernel
theorem d_X4_tell_11 : decode prog_6_method_11_code 11 = .ok (.tableswitch 79 0 5 #[37, 44, 51, 58, 65, 72], 37) := by decide +kernel
theorem d_X4_tell_48 : decode prog_6_method_11_code 48 = .ok (.aload_n 0, 1) := by decide +kernel
theorem d_X4_tell_49 : decode prog_6_method_11_code 49 = .ok (.getfield 34, 3) := by decide +kernel
theorem d_X4_tell_52 : decode prog_6_method_11_code 52 = .ok (.iload_n 1, 1) := by decide +kernel
theorem d_X4_tell_53 : decode prog_6_method_11_code 53 = .ok (.iaload, 1) := by decide +kernel
theorem d_X4_tell_54 : decode prog_6_method_11_code 54 = .ok (.ireturn, 1) := by decide +kernel
theorem d_X4_tell_55 : decode prog_6_method_11_code 55 = .ok (.aload_n 0, 1) := by decide +kernel
theorem d_X4_tell_56 : decode prog_6_method_11_code 56 = .ok (.getfield 37, 3) := by decide +kernel
theorem d_X4_tell_59 : decode prog_6_method_11_code 59 = .ok (.iload_n 1, 1) := by decide +kernel
theorem d_X4_tell_60 : decode prog_6_method_11_code 60 = .ok (.iaload, 1) := by decide +kernel
theorem d_X4_tell_61 : decode prog_6_method_11_code 61 = .ok (.ireturn, 1) := by decide +kernel
theorem d_X4_tell_62 : decode prog_6_method_11_code 62 = .ok (.aload_n 0, 1) := by decide +kernel
theorem d_X4_tell_63 : decode prog_6_method_11_code 63 = .ok (.getfield 40, 3) := by decide +kernel
theorem d_X4_tell_66 : decode prog_6_method_11_code 66 = .ok (.iload_n 1, 1) := by decide +kernel
theorem d_X4_tell_67 : decode prog_6_method_11_code 67 = .ok (.iaload, 1) := by decide +kernel
theorem d_X4_tell_68 : decode prog_6_method_11_code 68 = .ok (.ireturn, 1) := by decide +kernel
theorem d_X4_tell_69 : decode prog_6_method_11_code 69 = .ok (.aload_n 0, 1) := by decide +kernel
theorem d_X4_tell_70 : decode prog_6_method_11_code 70 = .ok (.getfield 43, 3) := by decide +kernel
theorem d_X4_tell_73 : decode prog_6_method_11_code 73 = .ok (.iload_n 1, 1) := by decide +kernel
theorem d_X4_tell_74 : decode prog_6_method_11_code 74 = .ok (.iaload, 1) := by decide +kernel
theorem d_X4_tell_75 : decode prog_6_method_11_code 75 = .ok (.ireturn, 1) := by decide +kernel
theorem d_X4_tell_76 : decode prog_6_method_11_code 76 = .ok (.aload_n 0, 1) := by decide +kernel
theorem d_X4_tell_77 : decode prog_6_method_11_code 77 = .ok (.getfield 46, 3) := by decide +kernel
theorem d_X4_tell_80 : decode prog_6_method_11_code 80 = .ok (.iload_n 1, 1) := by decide +kernel
theorem d_X4_tell_81 : decode prog_6_method_11_code 81 = .ok (.iaload, 1) := by decide +kernel
theorem d_X4_tell_82 : decode prog_6_method_11_code 82 = .ok (.ireturn, 1) := by decide +kernel
theorem d_X4_tell_83 : decode prog_6_method_11_code 83 = .ok (.aload_n 0, 1) := by decide +kernel
theorem d_X4_tell_84 : decode prog_6_method_11_code 84 = .ok (.getfield 49, 3) := by decide +kernel
theorem d_X4_tell_87 : decode prog_6_method_11_code 87 = .ok (.iload_n 1, 1) := by decide +kernel
theorem d_X4_tell_88 : decode prog_6_method_11_code 88 = .ok (.iaload, 1) := by decide +kernel
theorem d_X4_tell_89 : decode prog_6_method_11_code 89 = .ok (.ireturn, 1) := by decide +kernel
theorem d_X4_tell_90 : decode prog_6_method_11_code 90 = .ok (.iconst (-1), 1) := by decide +kernel
theorem d_X4_tell_91 : decode prog_6_method_11_code 91 = .ok (.ireturn, 1) := by decide +kernel
theorem d_X4_due_0 : decode prog_6_method_12_code 0 = .ok (.aload_n 0, 1) := by decide +kernel
theorem d_X4_due_1 : decode prog_6_method_12_code 1 = .ok (.iload_n 1, 1) := by decide +kernel
theorem d_X4_due_2 : decode prog_6_method_12_code 2 = .ok (.invokevirtual 66, 3) := by decide +kernel
theorem d_X4_due_5 : decode prog_6_method_12_code 5 = .ok (.ifCond .ne 5, 3) := by decide +kernel
theorem d_X4_due_8 : decode prog_6_method_12_code 8 = .ok (.iconst (-1), 1) := by decide +kernel
theorem d_X4_due_9 : decode prog_6_method_12_code 9 = .ok (.ireturn, 1) := by decide +kernel
theorem d_X4_due_10 : decode prog_6_method_12_code 10 = .ok (.aload_n 2, 1) := by decide +kernel
theorem d_X4_due_11 : decode prog_6_method_12_code 11 = .ok (.aload_n 2, 1) := by decide +kernel
theorem d_X4_due_12 : decode prog_6_method_12_code 12 = .ok (.aload_n 0, 1) := by decide +kernel
theorem d_X4_due_13 : decode prog_6_method_12_code 13 = .ok (.getfield 40, 3) := by decide +kernel
theorem d_X4_due_16 : decode prog_6_method_12_code 16 = .ok (.iload_n 1, 1) := by decide +kernel
theorem d_X4_due_17 : decode prog_6_method_12_code 17 = .ok (.iaload, 1) := by decide +kernel
theorem d_X4_due_18 : decode prog_6_method_12_code 18 = .ok (.sipush 1440, 3) := by decide +kernel
theorem d_X4_due_21 : decode prog_6_method_12_code 21 = .ok (.idiv, 1) := by decide +kernel
theorem d_X4_due_22 : decode prog_6_method_12_code 22 = .ok (.iload_n 3, 1) := by decide +kernel
theorem d_X4_due_23 : decode prog_6_method_12_code 23 = .ok (.invokevirtual 73, 3) := by decide +kernel
theorem d_X4_due_26 : decode prog_6_method_12_code 26 = .ok (.aload_n 0, 1) := by decide +kernel
theorem d_X4_due_27 : decode prog_6_method_12_code 27 = .ok (.getfield 52, 3) := by decide +kernel
theorem d_X4_due_30 : decode prog_6_method_12_code 30 = .ok (.iload_n 1, 1) := by decide +kernel
theorem d_X4_due_31 : decode prog_6_method_12_code 31 = .ok (.bipush 9, 2) := by decide +kernel
theorem d_X4_due_33 : decode prog_6_method_12_code 33 = .ok (.imul, 1) := by decide +kernel
theorem d_X4_due_34 : decode prog_6_method_12_code 34 = .ok (.invokevirtual 79, 3) := by decide +kernel
theorem d_X4_due_37 : decode prog_6_method_12_code 37 = .ok (.ireturn, 1) := by decide +kernel
theorem d_X4_countKnown_0 : decode prog_6_method_13_code 0 = .ok (.iconst 0, 1) := by decide +kernel
theorem d_X4_countKnown_1 : decode prog_6_method_13_code 1 = .ok (.istore_n 2, 1) := by decide +kernel
theorem d_X4_countKnown_2 : decode prog_6_method_13_code 2 = .ok (.iconst 0, 1) := by decide +kernel
theorem d_X4_countKnown_3 : decode prog_6_method_13_code 3 = .ok (.istore_n 3, 1) := by decide +kernel
theorem d_X4_countKnown_4 : decode prog_6_method_13_code 4 = .ok (.iload_n 3, 1) := by decide +kernel
theorem d_X4_countKnown_5 : decode prog_6_method_13_code 5 = .ok (.aload_n 0, 1) := by decide +kernel
theorem d_X4_countKnown_6 : decode prog_6_method_13_code 6 = .ok (.getfield 63, 3) := by decide +kernel
theorem d_X4_countKnown_9 : decode prog_6_method_13_code 9 = .ok (.if_icmp .ge 32, 3) := by decide +kernel
theorem d_X4_countKnown_12 : decode prog_6_method_13_code 12 = .ok (.aload_n 0, 1) := by decide +kernel
theorem d_X4_countKnown_13 : decode prog_6_method_13_code 13 = .ok (.getfield 49, 3) := by decide +kernel
theorem d_X4_countKnown_16 : decode prog_6_method_13_code 16 = .ok (.iload_n 3, 1) := by decide +kernel
theorem d_X4_countKnown_17 : decode prog_6_method_13_code 17 = .ok (.iaload, 1) := by decide +kernel
theorem d_X4_countKnown_18 : decode prog_6_method_13_code 18 = .ok (.iconst (-1), 1) := by decide +kernel
theorem d_X4_countKnown_19 : decode prog_6_method_13_code 19 = .ok (.if_icmp .eq 16, 3) := by decide +kernel
theorem d_X4_countKnown_22 : decode prog_6_method_13_code 22 = .ok (.aload_n 0, 1) := by decide +kernel
theorem d_X4_countKnown_23 : decode prog_6_method_13_code 23 = .ok (.getfield 49, 3) := by decide +kernel
theorem d_X4_countKnown_26 : decode prog_6_method_13_code 26 = .ok (.iload_n 3, 1) := by decide +kernel
theorem d_X4_countKnown_27 : decode prog_6_method_13_code 27 = .ok (.iaload, 1) := by decide +kernel
theorem d_X4_countKnown_28 : decode prog_6_method_13_code 28 = .ok (.iload_n 1, 1) := by decide +kernel
theorem d_X4_countKnown_29 : decode prog_6_method_13_code 29 = .ok (.if_icmp .gt 6, 3) := by decide +kernel
theorem d_X4_countKnown_32 : decode prog_6_method_13_code 32 = .ok (.iinc 2 1, 3) := by decide +kernel
theorem d_X4_countKnown_35 : decode prog_6_method_13_code 35 = .ok (.iinc 3 1, 3) := by decide +kernel
theorem d_X4_countKnown_38 : decode prog_6_method_13_code 38 = .ok (.goto (-34), 3) := by decide +kernel
theorem d_X4_countKnown_41 : decode prog_6_method_13_code 41 = .ok (.iload_n 2, 1) := by decide +kernel
theorem d_X4_countKnown_42 : decode prog_6_method_13_code 42 = .ok (.ireturn, 1) := by decide +kernel
theorem d_X4_countTaken_0 : decode prog_6_method_14_code 0 = .ok (.iconst 0, 1) := by decide +kernel
theorem d_X4_countTaken_1 : decode prog_6_method_14_code 1 = .ok (.istore 6, 2) := by decide +kernel
theorem d_X4_countTaken_3 : decode prog_6_method_14_code 3 = .ok (.iconst 0, 1) := by decide +kernel
theorem d_X4_countTaken_4 : decode prog_6_method_14_code 4 = .ok (.istore 7, 2) := by decide +kernel
theorem d_X4_countTaken_6 : decode prog_6_method_14_code 6 = .ok (.iload 7, 2) := by decide +kernel
theorem d_X4_countTaken_8 : decode prog_6_method_14_code 8 = .ok (.aload_n 0, 1) := by decide +kernel
theorem d_X4_countTaken_9 : decode prog_6_method_14_code 9 = .ok (.getfield 63, 3) := by decide +kernel
theorem d_X4_countTaken_12 : decode prog_6_method_14_code 12 = .ok (.if_icmp .ge 72, 3) := by decide +kernel
theorem d_X4_countTaken_15 : decode prog_6_method_14_code 15 = .ok (.aload_n 0, 1) := by decide +kernel
theorem d_X4_countTaken_16 : decode prog_6_method_14_code 16 = .ok (.getfield 34, 3) := by decide +kernel
theorem d_X4_countTaken_19 : decode prog_6_method_14_code 19 = .ok (.iload 7, 2) := by decide +kernel
theorem d_X4_countTaken_21 : decode prog_6_method_14_code 21 = .ok (.iaload, 1) := by decide +kernel
theorem d_X4_countTaken_22 : decode prog_6_method_14_code 22 = .ok (.iload_n 1, 1) := by decide +kernel
theorem d_X4_countTaken_23 : decode prog_6_method_14_code 23 = .ok (.if_icmp .ne 55, 3) := by decide +kernel
theorem d_X4_countTaken_26 : decode prog_6_method_14_code 26 = .ok (.aload_n 0, 1) := by decide +kernel
theorem d_X4_countTaken_27 : decode prog_6_method_14_code 27 = .ok (.getfield 43, 3) := by decide +kernel
theorem d_X4_countTaken_30 : decode prog_6_method_14_code 30 = .ok (.iload 7, 2) := by decide +kernel
theorem d_X4_countTaken_32 : decode prog_6_method_14_code 32 = .ok (.iaload, 1) := by decide +kernel
theorem d_X4_countTaken_33 : decode prog_6_method_14_code 33 = .ok (.iconst 3, 1) := by decide +kernel
theorem d_X4_countTaken_34 : decode prog_6_method_14_code 34 = .ok (.if_icmp .ne 44, 3) := by decide +kernel
theorem d_X4_countTaken_37 : decode prog_6_method_14_code 37 = .ok (.aload_n 0, 1) := by decide +kernel
theorem d_X4_countTaken_38 : decode prog_6_method_14_code 38 = .ok (.getfield 40, 3) := by decide +kernel
theorem d_X4_countTaken_41 : decode prog_6_method_14_code 41 = .ok (.iload 7, 2) := by decide +kernel
theorem d_X4_countTaken_43 : decode prog_6_method_14_code 43 = .ok (.iaload, 1) := by decide +kernel
theorem d_X4_countTaken_44 : decode prog_6_method_14_code 44 = .ok (.sipush 1440, 3) := by decide +kernel
theorem d_X4_countTaken_47 : decode prog_6_method_14_code 47 = .ok (.idiv, 1) := by decide +kernel
theorem d_X4_countTaken_48 : decode prog_6_method_14_code 48 = .ok (.iload_n 2, 1) := by decide +kernel
theorem d_X4_countTaken_49 : decode prog_6_method_14_code 49 = .ok (.if_icmp .ne 29, 3) := by decide +kernel
theorem d_X4_countTaken_52 : decode prog_6_method_14_code 52 = .ok (.aload_n 0, 1) := by decide +kernel
theorem d_X4_countTaken_53 : decode prog_6_method_14_code 53 = .ok (.iload 7, 2) := by decide +kernel
theorem d_X4_countTaken_55 : decode prog_6_method_14_code 55 = .ok (.aload_n 3, 1) := by decide +kernel
theorem d_X4_countTaken_56 : decode prog_6_method_14_code 56 = .ok (.iload 4, 2) := by decide +kernel
theorem d_X4_countTaken_58 : decode prog_6_method_14_code 58 = .ok (.invokevirtual 83, 3) := by decide +kernel
theorem d_X4_countTaken_61 : decode prog_6_method_14_code 61 = .ok (.iconst 3, 1) := by decide +kernel
theorem d_X4_countTaken_62 : decode prog_6_method_14_code 62 = .ok (.if_icmp .ne 7, 3) := by decide +kernel
theorem d_X4_countTaken_65 : decode prog_6_method_14_code 65 = .ok (.iconst 1, 1) := by decide +kernel
theorem d_X4_countTaken_66 : decode prog_6_method_14_code 66 = .ok (.goto 4, 3) := by decide +kernel
theorem d_X4_countTaken_69 : decode prog_6_method_14_code 69 = .ok (.iconst 0, 1) := by decide +kernel
theorem d_X4_countTaken_70 : decode prog_6_method_14_code 70 = .ok (.iload 5, 2) := by decide +kernel
theorem d_X4_countTaken_72 : decode prog_6_method_14_code 72 = .ok (.if_icmp .ne 6, 3) := by decide +kernel
theorem d_X4_countTaken_75 : decode prog_6_method_14_code 75 = .ok (.iinc 6 1, 3) := by decide +kernel
theorem d_X4_countTaken_78 : decode prog_6_method_14_code 78 = .ok (.iinc 7 1, 3) := by decide +kernel
theorem d_X4_countTaken_81 : decode prog_6_method_14_code 81 = .ok (.goto (-75), 3) := by decide +kernel
theorem d_X4_countTaken_84 : decode prog_6_method_14_code 84 = .ok (.iload 6, 2) := by decide +kernel
theorem d_X4_countTaken_86 : decode prog_6_method_14_code 86 = .ok (.ireturn, 1) := by decide +kernel
theorem d_X5_init_0 : decode prog_7_method_1_code 0 = .ok (.aload_n 0, 1) := by decide +kernel
theorem d_X5_init_1 : decode prog_7_method_1_code 1 = .ok (.invokespecial 3, 3) := by decide +kernel
theorem d_X5_init_4 : decode prog_7_method_1_code 4 = .ok (.aload_n 0, 1) := by decide +kernel
theorem d_X5_init_5 : decode prog_7_method_1_code 5 = .ok (.bipush 40, 2) := by decide +kernel
theorem d_X5_init_7 : decode prog_7_method_1_code 7 = .ok (.newarray .int, 2) := by decide +kernel
theorem d_X5_init_9 : decode prog_7_method_1_code 9 = .ok (.putfield 11, 3) := by decide +kernel
theorem d_X5_init_12 : decode prog_7_method_1_code 12 = .ok (.aload_n 0, 1) := by decide +kernel
theorem d_X5_init_13 : decode prog_7_method_1_code 13 = .ok (.bipush 40, 2) := by decide +kernel
theorem d_X5_init_15 : decode prog_7_method_1_code 15 = .ok (.newarray .int, 2) := by decide +kernel
theorem d_X5_init_17 : decode prog_7_method_1_code 17 = .ok (.putfield 15, 3) := by decide +kernel
theorem d_X5_init_20 : decode prog_7_method_1_code 20 = .ok (.aload_n 0, 1) := by decide +kernel
theorem d_X5_init_21 : decode prog_7_method_1_code 21 = .ok (.bipush 40, 2) := by decide +kernel
theorem d_X5_init_23 : decode prog_7_method_1_code 23 = .ok (.newarray .int, 2) := by decide +kernel
theorem d_X5_init_25 : decode prog_7_method_1_code 25 = .ok (.putfield 18, 3) := by decide +kernel
theorem d_X5_init_28 : decode prog_7_method_1_code 28 = .ok (.aload_n 0, 1) := by decide +kernel
theorem d_X5_init_29 : decode prog_7_method_1_code 29 = .ok (.bipush 40, 2) := by decide +kernel
theorem d_X5_init_31 : decode prog_7_method_1_code 31 = .ok (.newarray .int, 2) := by decide +kernel
theorem d_X5_init_33 : decode prog_7_method_1_code 33 = .ok (.putfield 21, 3) := by decide +kernel
theorem d_X5_init_36 : decode prog_7_method_1_code 36 = .ok (.aload_n 0, 1) := by decide +kernel
theorem d_X5_init_37 : decode prog_7_method_1_code 37 = .ok (.bipush 6, 2) := by decide +kernel
theorem d_X5_init_39 : decode prog_7_method_1_code 39 = .ok (.newarray .int, 2) := by decide +kernel
theorem d_X5_init_41 : decode prog_7_method_1_code 41 = .ok (.putfield 24, 3) := by decide +kernel
theorem d_X5_init_44 : decode prog_7_method_1_code 44 = .ok (.aload_n 0, 1) := by decide +kernel
theorem d_X5_init_45 : decode prog_7_method_1_code 45 = .ok (.sipush 168, 3) := by decide +kernel
theorem d_X5_init_48 : decode prog_7_method_1_code 48 = .ok (.newarray .int, 2) := by decide +kernel
theorem d_X5_init_50 : decode prog_7_method_1_code 50 = .ok (.putfield 27, 3) := by decide +kernel
theorem d_X5_init_53 : decode prog_7_method_1_code 53 = .ok (.aload_n 0, 1) := by decide +kernel
theorem d_X5_init_54 : decode prog_7_method_1_code 54 = .ok (.sipush 168, 3) := by decide +kernel
theorem d_X5_init_57 : decode prog_7_method_1_code 57 = .ok (.newarray .int, 2) := by decide +kernel
theorem d_X5_init_59 : decode prog_7_method_1_code 59 = .ok (.putfield 30, 3) := by decide +kernel
theorem d_X5_init_62 : decode prog_7_method_1_code 62 = .ok (.aload_n 0, 1) := by decide +kernel
theorem d_X5_init_63 : decode prog_7_method_1_code 63 = .ok (.sipush 600, 3) := by decide +kernel
theorem d_X5_init_66 : decode prog_7_method_1_code 66 = .ok (.newarray .int, 2) := by decide +kernel
theorem d_X5_init_68 : decode prog_7_method_1_code 68 = .ok (.putfield 33, 3) := by decide +kernel
theorem d_X5_init_71 : decode prog_7_method_1_code 71 = .ok (.aload_n 0, 1) := by decide +kernel
theorem d_X5_init_72 : decode prog_7_method_1_code 72 = .ok (.sipush 600, 3) := by decide +kernel
theorem d_X5_init_75 : decode prog_7_method_1_code 75 = .ok (.newarray .int, 2) := by decide +kernel
theorem d_X5_init_77 : decode prog_7_method_1_code 77 = .ok (.putfield 36, 3) := by decide +kernel
theorem d_X5_init_80 : decode prog_7_method_1_code 80 = .ok (.aload_n 0, 1) := by decide +kernel
theorem d_X5_init_81 : decode prog_7_method_1_code 81 = .ok (.sipush 600, 3) := by decide +kernel
theorem d_X5_init_84 : decode prog_7_method_1_code 84 = .ok (.newarray .int, 2) := by decide +kernel
theorem d_X5_init_86 : decode prog_7_method_1_code 86 = .ok (.putfield 39, 3) := by decide +kernel
theorem d_X5_init_89 : decode prog_7_method_1_code 89 = .ok (.aload_n 0, 1) := by decide +kernel
theorem d_X5_init_90 : decode prog_7_method_1_code 90 = .ok (.sipush 600, 3) := by decide +kernel
theorem d_X5_init_93 : decode prog_7_method_1_code 93 = .ok (.newarray .int, 2) := by decide +kernel
theorem d_X5_init_95 : decode prog_7_method_1_code 95 = .ok (.putfield 42, 3) := by decide +kernel
theorem d_X5_init_98 : decode prog_7_method_1_code 98 = .ok (.aload_n 0, 1) := by decide +kernel
theorem d_X5_init_99 : decode prog_7_method_1_code 99 = .ok (.bipush 48, 2) := by decide +kernel
theorem d_X5_init_101 : decode prog_7_method_1_code 101 = .ok (.newarray .int, 2) := by decide +kernel
theorem d_X5_init_103 : decode prog_7_method_1_code 103 = .ok (.putfield 45, 3) := by decide +kernel
theorem d_X5_init_106 : decode prog_7_method_1_code 106 = .ok (.aload_n 0, 1) := by decide +kernel
theorem d_X5_init_107 : decode prog_7_method_1_code 107 = .ok (.iconst 3, 1) := by decide +kernel
theorem d_X5_init_108 : decode prog_7_method_1_code 108 = .ok (.putfield 48, 3) := by decide +kernel
theorem d_X5_init_111 : decode prog_7_method_1_code 111 = .ok (.aload_n 0, 1) := by decide +kernel
theorem d_X5_init_112 : decode prog_7_method_1_code 112 = .ok (.getfield 45, 3) := by decide +kernel
theorem d_X5_init_115 : decode prog_7_method_1_code 115 = .ok (.iconst (-1), 1) := by decide +kernel
theorem d_X5_init_116 : decode prog_7_method_1_code 116 = .ok (.invokestatic 52, 3) := by decide +kernel
theorem d_X5_init_119 : decode prog_7_method_1_code 119 = .ok (.return_, 1) := by decide +kernel
theorem d_X5_addRank_0 : decode prog_7_method_2_code 0 = .ok (.aload_n 0, 1) := by decide +kernel
theorem d_X5_addRank_1 : decode prog_7_method_2_code 1 = .ok (.getfield 58, 3) := by decide +kernel
theorem d_X5_addRank_4 : decode prog_7_method_2_code 4 = .ok (.bipush 40, 2) := by decide +kernel
theorem d_X5_addRank_6 : decode prog_7_method_2_code 6 = .ok (.if_icmp .lt 5, 3) := by decide +kernel
theorem d_X5_addRank_9 : decode prog_7_method_2_code 9 = .ok (.iconst 0, 1) := by decide +kernel
theorem d_X5_addRank_10 : decode prog_7_method_2_code 10 = .ok (.ireturn, 1) := by decide +kernel
theorem d_X5_addRank_11 : decode prog_7_method_2_code 11 = .ok (.aload_n 0, 1) := by decide +kernel
theorem d_X5_addRank_12 : decode prog_7_method_2_code 12 = .ok (.getfield 11, 3) := by decide +kernel
theorem d_X5_addRank_15 : decode prog_7_method_2_code 15 = .ok (.aload_n 0, 1) := by decide +kernel
theorem d_X5_addRank_16 : decode prog_7_method_2_code 16 = .ok (.getfield 58, 3) := by decide +kernel
theorem d_X5_addRank_19 : decode prog_7_method_2_code 19 = .ok (.iload_n 1, 1) := by decide +kernel
theorem d_X5_addRank_20 : decode prog_7_method_2_code 20 = .ok (.iastore, 1) := by decide +kernel
theorem d_X5_addRank_21 : decode prog_7_method_2_code 21 = .ok (.aload_n 0, 1) := by decide +kernel
theorem d_X5_addRank_22 : decode prog_7_method_2_code 22 = .ok (.getfield 15, 3) := by decide +kernel
theorem d_X5_addRank_25 : decode prog_7_method_2_code 25 = .ok (.aload_n 0, 1) := by decide +kernel
theorem d_X5_addRank_26 : decode prog_7_method_2_code 26 = .ok (.getfield 58, 3) := by decide +kernel
theorem d_X5_addRank_29 : decode prog_7_method_2_code 29 = .ok (.iload_n 2, 1) := by decide +kernel
theorem d_X5_addRank_30 : decode prog_7_method_2_code 30 = .ok (.iastore, 1) := by decide +kernel
theorem d_X5_addRank_31 : decode prog_7_method_2_code 31 = .ok (.aload_n 0, 1) := by decide +kernel
theorem d_X5_addRank_32 : decode prog_7_method_2_code 32 = .ok (.getfield 18, 3) := by decide +kernel
theorem d_X5_addRank_35 : decode prog_7_method_2_code 35 = .ok (.aload_n 0, 1) := by decide +kernel
theorem d_X5_addRank_36 : decode prog_7_method_2_code 36 = .ok (.getfield 58, 3) := by decide +kernel
theorem d_X5_addRank_39 : decode prog_7_method_2_code 39 = .ok (.iload_n 3, 1) := by decide +kernel
theorem d_X5_addRank_40 : decode prog_7_method_2_code 40 = .ok (.iastore, 1) := by decide +kernel
theorem d_X5_addRank_41 : decode prog_7_method_2_code 41 = .ok (.aload_n 0, 1) := by decide +kernel
theorem d_X5_addRank_42 : decode prog_7_method_2_code 42 = .ok (.getfield 21, 3) := by decide +kernel
theorem d_X5_addRank_45 : decode prog_7_method_2_code 45 = .ok (.aload_n 0, 1) := by decide +kernel
theorem d_X5_addRank_46 : decode prog_7_method_2_code 46 = .ok (.getfield 58, 3) := by decide +kernel
theorem d_X5_addRank_49 : decode prog_7_method_2_code 49 = .ok (.iload 4, 2) := by decide +kernel
theorem d_X5_addRank_51 : decode prog_7_method_2_code 51 = .ok (.iastore, 1) := by decide +kernel
theorem d_X5_addRank_52 : decode prog_7_method_2_code 52 = .ok (.aload_n 0, 1) := by decide +kernel
theorem d_X5_addRank_53 : decode prog_7_method_2_code 53 = .ok (.dup, 1) := by decide +kernel
theorem d_X5_addRank_54 : decode prog_7_method_2_code 54 = .ok (.getfield 58, 3) := by decide +kernel
theorem d_X5_addRank_57 : decode prog_7_method_2_code 57 = .ok (.iconst 1, 1) := by decide +kernel
theorem d_X5_addRank_58 : decode prog_7_method_2_code 58 = .ok (.iadd, 1) := by decide +kernel
theorem d_X5_addRank_59 : decode prog_7_method_2_code 59 = .ok (.putfield 58, 3) := by decide +kernel
theorem d_X5_addRank_62 : decode prog_7_method_2_code 62 = .ok (.iconst 1, 1) := by decide +kernel
theorem d_X5_addRank_63 : decode prog_7_method_2_code 63 = .ok (.ireturn, 1) := by decide +kernel
theorem d_X5_classOf_0 : decode prog_7_method_3_code 0 = .ok (.aload_n 1, 1) := by decide +kernel
theorem d_X5_classOf_1 : decode prog_7_method_3_code 1 = .ok (.getfield 61, 3) := by decide +kernel
theorem d_X5_classOf_4 : decode prog_7_method_3_code 4 = .ok (.istore 4, 2) := by decide +kernel
theorem d_X5_classOf_6 : decode prog_7_method_3_code 6 = .ok (.iconst (-1), 1) := by decide +kernel
theorem d_X5_classOf_7 : decode prog_7_method_3_code 7 = .ok (.istore 5, 2) := by decide +kernel
theorem d_X5_classOf_9 : decode prog_7_method_3_code 9 = .ok (.iconst 0, 1) := by decide +kernel
theorem d_X5_classOf_10 : decode prog_7_method_3_code 10 = .ok (.istore 6, 2) := by decide +kernel
theorem d_X5_classOf_12 : decode prog_7_method_3_code 12 = .ok (.iload 6, 2) := by decide +kernel
theorem d_X5_classOf_14 : decode prog_7_method_3_code 14 = .ok (.aload_n 0, 1) := by decide +kernel
theorem d_X5_classOf_15 : decode prog_7_method_3_code 15 = .ok (.getfield 58, 3) := by decide +kernel
theorem d_X5_classOf_18 : decode prog_7_method_3_code 18 = .ok (.if_icmp .ge 68, 3) := by decide +kernel
theorem d_X5_classOf_21 : decode prog_7_method_3_code 21 = .ok (.aload_n 0, 1) := by decide +kernel
theorem d_X5_classOf_22 : decode prog_7_method_3_code 22 = .ok (.getfield 11, 3) := by decide +kernel
theorem d_X5_classOf_25 : decode prog_7_method_3_code 25 = .ok (.iload 6, 2) := by decide +kernel
theorem d_X5_classOf_27 : decode prog_7_method_3_code 27 = .ok (.iaload, 1) := by decide +kernel
theorem d_X5_classOf_28 : decode prog_7_method_3_code 28 = .ok (.aload_n 1, 1) := by decide +kernel
theorem d_X5_classOf_29 : decode prog_7_method_3_code 29 = .ok (.getfield 66, 3) := by decide +kernel
theorem d_X5_classOf_32 : decode prog_7_method_3_code 32 = .ok (.if_icmp .ne 48, 3) := by decide +kernel
theorem d_X5_classOf_35 : decode prog_7_method_3_code 35 = .ok (.aload_n 0, 1) := by decide +kernel
theorem d_X5_classOf_36 : decode prog_7_method_3_code 36 = .ok (.getfield 21, 3) := by decide +kernel
theorem d_X5_classOf_39 : decode prog_7_method_3_code 39 = .ok (.iload 6, 2) := by decide +kernel
theorem d_X5_classOf_41 : decode prog_7_method_3_code 41 = .ok (.iaload, 1) := by decide +kernel
theorem d_X5_classOf_42 : decode prog_7_method_3_code 42 = .ok (.iload_n 3, 1) := by decide +kernel
theorem d_X5_classOf_43 : decode prog_7_method_3_code 43 = .ok (.if_icmp .gt 37, 3) := by decide +kernel
theorem d_X5_classOf_46 : decode prog_7_method_3_code 46 = .ok (.aload_n 0, 1) := by decide +kernel
theorem d_X5_classOf_47 : decode prog_7_method_3_code 47 = .ok (.getfield 18, 3) := by decide +kernel
theorem d_X5_classOf_50 : decode prog_7_method_3_code 50 = .ok (.iload 6, 2) := by decide +kernel
theorem d_X5_classOf_52 : decode prog_7_method_3_code 52 = .ok (.iaload, 1) := by decide +kernel
theorem d_X5_classOf_53 : decode prog_7_method_3_code 53 = .ok (.iload 5, 2) := by decide +kernel
theorem d_X5_classOf_55 : decode prog_7_method_3_code 55 = .ok (.iload_n 2, 1) := by decide +kernel
theorem d_X5_classOf_56 : decode prog_7_method_3_code 56 = .ok (.invokestatic 69, 3) := by decide +kernel
theorem d_X5_classOf_59 : decode prog_7_method_3_code 59 = .ok (.ifCond .eq 21, 3) := by decide +kernel
theorem d_X5_classOf_62 : decode prog_7_method_3_code 62 = .ok (.aload_n 0, 1) := by decide +kernel
theorem d_X5_classOf_63 : decode prog_7_method_3_code 63 = .ok (.getfield 15, 3) := by decide +kernel
theorem d_X5_classOf_66 : decode prog_7_method_3_code 66 = .ok (.iload 6, 2) := by decide +kernel
theorem d_X5_classOf_68 : decode prog_7_method_3_code 68 = .ok (.iaload, 1) := by decide +kernel
theorem d_X5_classOf_69 : decode prog_7_method_3_code 69 = .ok (.istore 4, 2) := by decide +kernel
theorem d_X5_classOf_71 : decode prog_7_method_3_code 71 = .ok (.aload_n 0, 1) := by decide +kernel
theorem d_X5_classOf_72 : decode prog_7_method_3_code 72 = .ok (.getfield 18, 3) := by decide +kernel
theorem d_X5_classOf_75 : decode prog_7_method_3_code 75 = .ok (.iload 6, 2) := by decide +kernel
theorem d_X5_classOf_77 : decode prog_7_method_3_code 77 = .ok (.iaload, 1) := by decide +kernel
theorem d_X5_classOf_78 : decode prog_7_method_3_code 78 = .ok (.istore 5, 2) := by decide +kernel
theorem d_X5_classOf_80 : decode prog_7_method_3_code 80 = .ok (.iinc 6 1, 3) := by decide +kernel
theorem d_X5_classOf_83 : decode prog_7_method_3_code 83 = .ok (.goto (-71), 3) := by decide +kernel
theorem d_X5_classOf_86 : decode prog_7_method_3_code 86 = .ok (.iload 4, 2) := by decide +kernel
theorem d_X5_classOf_88 : decode prog_7_method_3_code 88 = .ok (.ireturn, 1) := by decide +kernel
theorem d_X5_setWage_0 : decode prog_7_method_4_code 0 = .ok (.iload_n 1, 1) := by decide +kernel
theorem d_X5_setWage_1 : decode prog_7_method_4_code 1 = .ok (.iconst 0, 1) := by decide +kernel
theorem d_X5_setWage_2 : decode prog_7_method_4_code 2 = .ok (.bipush 11, 2) := by decide +kernel
theorem d_X5_setWage_4 : decode prog_7_method_4_code 4 = .ok (.invokestatic 69, 3) := by decide +kernel
theorem d_X5_setWage_7 : decode prog_7_method_4_code 7 = .ok (.ifCond .eq 25, 3) := by decide +kernel
theorem d_X5_setWage_10 : decode prog_7_method_4_code 10 = .ok (.iload_n 2, 1) := by decide +kernel
theorem d_X5_setWage_11 : decode prog_7_method_4_code 11 = .ok (.iconst 0, 1) := by decide +kernel
theorem d_X5_setWage_12 : decode prog_7_method_4_code 12 = .ok (.bipush 13, 2) := by decide +kernel
theorem d_X5_setWage_14 : decode prog_7_method_4_code 14 = .ok (.invokestatic 69, 3) := by decide +kernel
theorem d_X5_setWage_17 : decode prog_7_method_4_code 17 = .ok (.ifCond .eq 15, 3) := by decide +kernel
theorem d_X5_setWage_20 : decode prog_7_method_4_code 20 = .ok (.aload_n 0, 1) := by decide +kernel
theorem d_X5_setWage_21 : decode prog_7_method_4_code 21 = .ok (.getfield 27, 3) := by decide +kernel
theorem d_X5_setWage_24 : decode prog_7_method_4_code 24 = .ok (.iload_n 2, 1) := by decide +kernel
theorem d_X5_setWage_25 : decode prog_7_method_4_code 25 = .ok (.bipush 12, 2) := by decide +kernel
theorem d_X5_setWage_27 : decode prog_7_method_4_code 27 = .ok (.imul, 1) := by decide +kernel
theorem d_X5_setWage_28 : decode prog_7_method_4_code 28 = .ok (.iload_n 1, 1) := by decide +kernel
theorem d_X5_setWage_29 : decode prog_7_method_4_code 29 = .ok (.iadd, 1) := by decide +kernel
theorem d_X5_setWage_30 : decode prog_7_method_4_code 30 = .ok (.iload_n 3, 1) := by decide +kernel
theorem d_X5_setWage_31 : decode prog_7_method_4_code 31 = .ok (.iastore, 1) := by decide +kernel
theorem d_X5_setWage_32 : decode prog_7_method_4_code 32 = .ok (.return_, 1) := by decide +kernel
theorem d_X5_bookAll_0 : decode prog_7_method_5_code 0 = .ok (.iload_n 2, 1) := by decide +kernel
theorem d_X5_bookAll_1 : decode prog_7_method_5_code 1 = .ok (.bipush 14, 2) := by decide +kernel
theorem d_X5_bookAll_3 : decode prog_7_method_5_code 3 = .ok (.invokestatic 73, 3) := by decide +kernel
theorem d_X5_bookAll_6 : decode prog_7_method_5_code 6 = .ok (.bipush 12, 2) := by decide +kernel
theorem d_X5_bookAll_8 : decode prog_7_method_5_code 8 = .ok (.imul, 1) := by decide +kernel
theorem d_X5_bookAll_9 : decode prog_7_method_5_code 9 = .ok (.istore 4, 2) := by decide +kernel
theorem d_X5_bookAll_11 : decode prog_7_method_5_code 11 = .ok (.iconst 0, 1) := by decide +kernel
theorem d_X5_bookAll_12 : decode prog_7_method_5_code 12 = .ok (.istore 5, 2) := by decide +kernel
theorem d_X5_bookAll_14 : decode prog_7_method_5_code 14 = .ok (.iconst 0, 1) := by decide +kernel
theorem d_X5_bookAll_15 : decode prog_7_method_5_code 15 = .ok (.istore 6, 2) := by decide +kernel
theorem d_X5_bookAll_17 : decode prog_7_method_5_code 17 = .ok (.iload 6, 2) := by decide +kernel
theorem d_X5_bookAll_19 : decode prog_7_method_5_code 19 = .ok (.iload 4, 2) := by decide +kernel
theorem d_X5_bookAll_21 : decode prog_7_method_5_code 21 = .ok (.if_icmp .ge 38, 3) := by decide +kernel
theorem d_X5_bookAll_24 : decode prog_7_method_5_code 24 = .ok (.iload 6, 2) := by decide +kernel
theorem d_X5_bookAll_26 : decode prog_7_method_5_code 26 = .ok (.bipush 12, 2) := by decide +kernel
theorem d_X5_bookAll_28 : decode prog_7_method_5_code 28 = .ok (.irem, 1) := by decide +kernel
theorem d_X5_bookAll_29 : decode prog_7_method_5_code 29 = .ok (.iload_n 1, 1) := by decide +kernel
theorem d_X5_bookAll_30 : decode prog_7_method_5_code 30 = .ok (.if_icmp .ge 23, 3) := by decide +kernel
theorem d_X5_bookAll_33 : decode prog_7_method_5_code 33 = .ok (.aload_n 0, 1) := by decide +kernel
theorem d_X5_bookAll_34 : decode prog_7_method_5_code 34 = .ok (.getfield 27, 3) := by decide +kernel
theorem d_X5_bookAll_37 : decode prog_7_method_5_code 37 = .ok (.iload 6, 2) := by decide +kernel
theorem d_X5_bookAll_39 : decode prog_7_method_5_code 39 = .ok (.iaload, 1) := by decide +kernel
theorem d_X5_bookAll_40 : decode prog_7_method_5_code 40 = .ok (.aload_n 0, 1) := by decide +kernel
theorem d_X5_bookAll_41 : decode prog_7_method_5_code 41 = .ok (.getfield 30, 3) := by decide +kernel
theorem d_X5_bookAll_44 : decode prog_7_method_5_code 44 = .ok (.iload 6, 2) := by decide +kernel
theorem d_X5_bookAll_46 : decode prog_7_method_5_code 46 = .ok (.iaload, 1) := by decide +kernel
theorem d_X5_bookAll_47 : decode prog_7_method_5_code 47 = .ok (.if_icmp .eq 6, 3) := by decide +kernel
theorem d_X5_bookAll_50 : decode prog_7_method_5_code 50 = .ok (.iinc 5 1, 3) := by decide +kernel
theorem d_X5_bookAll_53 : decode prog_7_method_5_code 53 = .ok (.iinc 6 1, 3) := by decide +kernel
theorem d_X5_bookAll_56 : decode prog_7_method_5_code 56 = .ok (.goto (-39), 3) := by decide +kernel
theorem d_X5_bookAll_59 : decode prog_7_method_5_code 59 = .ok (.aload_n 0, 1) := by decide +kernel
theorem d_X5_bookAll_60 : decode prog_7_method_5_code 60 = .ok (.getfield 79, 3) := by decide +kernel
theorem d_X5_bookAll_63 : decode prog_7_method_5_code 63 = .ok (.iload 5, 2) := by decide +kernel
theorem d_X5_bookAll_65 : decode prog_7_method_5_code 65 = .ok (.iadd, 1) := by decide +kernel
theorem d_X5_bookAll_66 : decode prog_7_method_5_code 66 = .ok (.sipush 600, 3) := by decide +kernel
theorem d_X5_bookAll_69 : decode prog_7_method_5_code 69 = .ok (.if_icmp .le 5, 3) := by decide +kernel
theorem d_X5_bookAll_72 : decode prog_7_method_5_code 72 = .ok (.iconst (-1), 1) := by decide +kernel
theorem d_X5_bookAll_73 : decode prog_7_method_5_code 73 = .ok (.ireturn, 1) := by decide +kernel
theorem d_X5_bookAll_74 : decode prog_7_method_5_code 74 = .ok (.iconst 0, 1) := by decide +kernel
theorem d_X5_bookAll_75 : decode prog_7_method_5_code 75 = .ok (.istore 6, 2) := by decide +kernel
theorem d_X5_bookAll_77 : decode prog_7_method_5_code 77 = .ok (.iload 6, 2) := by decide +kernel
theorem d_X5_bookAll_79 : decode prog_7_method_5_code 79 = .ok (.iload 4, 2) := by decide +kernel
theorem d_X5_bookAll_81 : decode prog_7_method_5_code 81 = .ok (.if_icmp .ge 42, 3) := by decide +kernel
theorem d_X5_bookAll_84 : decode prog_7_method_5_code 84 = .ok (.iload 6, 2) := by decide +kernel
theorem d_X5_bookAll_86 : decode prog_7_method_5_code 86 = .ok (.bipush 12, 2) := by decide +kernel
theorem d_X5_bookAll_88 : decode prog_7_method_5_code 88 = .ok (.irem, 1) := by decide +kernel
theorem d_X5_bookAll_89 : decode prog_7_method_5_code 89 = .ok (.iload_n 1, 1) := by decide +kernel
theorem d_X5_bookAll_90 : decode prog_7_method_5_code 90 = .ok (.if_icmp .ge 27, 3) := by decide +kernel
theorem d_X5_bookAll_93 : decode prog_7_method_5_code 93 = .ok (.aload_n 0, 1) := by decide +kernel
theorem d_X5_bookAll_94 : decode prog_7_method_5_code 94 = .ok (.getfield 27, 3) := by decide +kernel
theorem d_X5_bookAll_97 : decode prog_7_method_5_code 97 = .ok (.iload 6, 2) := by decide +kernel
theorem d_X5_bookAll_99 : decode prog_7_method_5_code 99 = .ok (.iaload, 1) := by decide +kernel
theorem d_X5_bookAll_100 : decode prog_7_method_5_code 100 = .ok (.aload_n 0, 1) := by decide +kernel
theorem d_X5_bookAll_101 : decode prog_7_method_5_code 101 = .ok (.getfield 30, 3) := by decide +kernel
theorem d_X5_bookAll_104 : decode prog_7_method_5_code 104 = .ok (.iload 6, 2) := by decide +kernel
theorem d_X5_bookAll_106 : decode prog_7_method_5_code 106 = .ok (.iaload, 1) := by decide +kernel
theorem d_X5_bookAll_107 : decode prog_7_method_5_code 107 = .ok (.if_icmp .eq 10, 3) := by decide +kernel
theorem d_X5_bookAll_110 : decode prog_7_method_5_code 110 = .ok (.aload_n 0, 1) := by decide +kernel
theorem d_X5_bookAll_111 : decode prog_7_method_5_code 111 = .ok (.iload 6, 2) := by decide +kernel
theorem d_X5_bookAll_113 : decode prog_7_method_5_code 113 = .ok (.iload_n 3, 1) := by decide +kernel
theorem d_X5_bookAll_114 : decode prog_7_method_5_code 114 = .ok (.invokevirtual 82, 3) := by decide +kernel
theorem d_X5_bookAll_117 : decode prog_7_method_5_code 117 = .ok (.iinc 6 1, 3) := by decide +kernel
theorem d_X5_bookAll_120 : decode prog_7_method_5_code 120 = .ok (.goto (-43), 3) := by decide +kernel
theorem d_X5_bookAll_123 : decode prog_7_method_5_code 123 = .ok (.iload 5, 2) := by decide +kernel
theorem d_X5_bookAll_125 : decode prog_7_method_5_code 125 = .ok (.ireturn, 1) := by decide +kernel
theorem d_X5_writeLine_0 : decode prog_7_method_6_code 0 = .ok (.aload_n 0, 1) := by decide +kernel
theorem d_X5_writeLine_1 : decode prog_7_method_6_code 1 = .ok (.getfield 79, 3) := by decide +kernel
theorem d_X5_writeLine_4 : decode prog_7_method_6_code 4 = .ok (.sipush 600, 3) := by decide +kernel
theorem d_X5_writeLine_7 : decode prog_7_method_6_code 7 = .ok (.if_icmp .ge 101, 3) := by decide +kernel
theorem d_X5_writeLine_10 : decode prog_7_method_6_code 10 = .ok (.aload_n 0, 1) := by decide +kernel
theorem d_X5_writeLine_11 : decode prog_7_method_6_code 11 = .ok (.getfield 33, 3) := by decide +kernel
theorem d_X5_writeLine_14 : decode prog_7_method_6_code 14 = .ok (.aload_n 0, 1) := by decide +kernel
theorem d_X5_writeLine_15 : decode prog_7_method_6_code 15 = .ok (.getfield 79, 3) := by decide +kernel
theorem d_X5_writeLine_18 : decode prog_7_method_6_code 18 = .ok (.iload_n 1, 1) := by decide +kernel
theorem d_X5_writeLine_19 : decode prog_7_method_6_code 19 = .ok (.bipush 12, 2) := by decide +kernel
theorem d_X5_writeLine_21 : decode prog_7_method_6_code 21 = .ok (.irem, 1) := by decide +kernel
theorem d_X5_writeLine_22 : decode prog_7_method_6_code 22 = .ok (.iastore, 1) := by decide +kernel
theorem d_X5_writeLine_23 : decode prog_7_method_6_code 23 = .ok (.aload_n 0, 1) := by decide +kernel
theorem d_X5_writeLine_24 : decode prog_7_method_6_code 24 = .ok (.getfield 36, 3) := by decide +kernel
theorem d_X5_writeLine_27 : decode prog_7_method_6_code 27 = .ok (.aload_n 0, 1) := by decide +kernel
theorem d_X5_writeLine_28 : decode prog_7_method_6_code 28 = .ok (.getfield 79, 3) := by decide +kernel
theorem d_X5_writeLine_31 : decode prog_7_method_6_code 31 = .ok (.iload_n 1, 1) := by decide +kernel
theorem d_X5_writeLine_32 : decode prog_7_method_6_code 32 = .ok (.bipush 12, 2) := by decide +kernel
theorem d_X5_writeLine_34 : decode prog_7_method_6_code 34 = .ok (.idiv, 1) := by decide +kernel
theorem d_X5_writeLine_35 : decode prog_7_method_6_code 35 = .ok (.iastore, 1) := by decide +kernel
theorem d_X5_writeLine_36 : decode prog_7_method_6_code 36 = .ok (.aload_n 0, 1) := by decide +kernel
theorem d_X5_writeLine_37 : decode prog_7_method_6_code 37 = .ok (.getfield 39, 3) := by decide +kernel
theorem d_X5_writeLine_40 : decode prog_7_method_6_code 40 = .ok (.aload_n 0, 1) := by decide +kernel
theorem d_X5_writeLine_41 : decode prog_7_method_6_code 41 = .ok (.getfield 79, 3) := by decide +kernel
theorem d_X5_writeLine_44 : decode prog_7_method_6_code 44 = .ok (.aload_n 0, 1) := by decide +kernel
theorem d_X5_writeLine_45 : decode prog_7_method_6_code 45 = .ok (.getfield 27, 3) := by decide +kernel
theorem d_X5_writeLine_48 : decode prog_7_method_6_code 48 = .ok (.iload_n 1, 1) := by decide +kernel
theorem d_X5_writeLine_49 : decode prog_7_method_6_code 49 = .ok (.iaload, 1) := by decide +kernel
theorem d_X5_writeLine_50 : decode prog_7_method_6_code 50 = .ok (.aload_n 0, 1) := by decide +kernel
theorem d_X5_writeLine_51 : decode prog_7_method_6_code 51 = .ok (.getfield 30, 3) := by decide +kernel
theorem d_X5_writeLine_54 : decode prog_7_method_6_code 54 = .ok (.iload_n 1, 1) := by decide +kernel
theorem d_X5_writeLine_55 : decode prog_7_method_6_code 55 = .ok (.iaload, 1) := by decide +kernel
theorem d_X5_writeLine_56 : decode prog_7_method_6_code 56 = .ok (.isub, 1) := by decide +kernel
theorem d_X5_writeLine_57 : decode prog_7_method_6_code 57 = .ok (.iastore, 1) := by decide +kernel
theorem d_X5_writeLine_58 : decode prog_7_method_6_code 58 = .ok (.aload_n 0, 1) := by decide +kernel
theorem d_X5_writeLine_59 : decode prog_7_method_6_code 59 = .ok (.getfield 42, 3) := by decide +kernel
theorem d_X5_writeLine_62 : decode prog_7_method_6_code 62 = .ok (.aload_n 0, 1) := by decide +kernel
theorem d_X5_writeLine_63 : decode prog_7_method_6_code 63 = .ok (.getfield 79, 3) := by decide +kernel
theorem d_X5_writeLine_66 : decode prog_7_method_6_code 66 = .ok (.iload_n 2, 1) := by decide +kernel
theorem d_X5_writeLine_67 : decode prog_7_method_6_code 67 = .ok (.iastore, 1) := by decide +kernel
theorem d_X5_writeLine_68 : decode prog_7_method_6_code 68 = .ok (.aload_n 0, 1) := by decide +kernel
theorem d_X5_writeLine_69 : decode prog_7_method_6_code 69 = .ok (.dup, 1) := by decide +kernel
theorem d_X5_writeLine_70 : decode prog_7_method_6_code 70 = .ok (.getfield 86, 3) := by decide +kernel
theorem d_X5_writeLine_73 : decode prog_7_method_6_code 73 = .ok (.aload_n 0, 1) := by decide +kernel
theorem d_X5_writeLine_74 : decode prog_7_method_6_code 74 = .ok (.getfield 39, 3) := by decide +kernel
theorem d_X5_writeLine_77 : decode prog_7_method_6_code 77 = .ok (.aload_n 0, 1) := by decide +kernel
theorem d_X5_writeLine_78 : decode prog_7_method_6_code 78 = .ok (.getfield 79, 3) := by decide +kernel
theorem d_X5_writeLine_81 : decode prog_7_method_6_code 81 = .ok (.iaload, 1) := by decide +kernel
theorem d_X5_writeLine_82 : decode prog_7_method_6_code 82 = .ok (.iadd, 1) := by decide +kernel
theorem d_X5_writeLine_83 : decode prog_7_method_6_code 83 = .ok (.putfield 86, 3) := by decide +kernel
theorem d_X5_writeLine_86 : decode prog_7_method_6_code 86 = .ok (.aload_n 0, 1) := by decide +kernel
theorem d_X5_writeLine_87 : decode prog_7_method_6_code 87 = .ok (.getfield 30, 3) := by decide +kernel
theorem d_X5_writeLine_90 : decode prog_7_method_6_code 90 = .ok (.iload_n 1, 1) := by decide +kernel
theorem d_X5_writeLine_91 : decode prog_7_method_6_code 91 = .ok (.aload_n 0, 1) := by decide +kernel
theorem d_X5_writeLine_92 : decode prog_7_method_6_code 92 = .ok (.getfield 27, 3) := by decide +kernel
theorem d_X5_writeLine_95 : decode prog_7_method_6_code 95 = .ok (.iload_n 1, 1) := by decide +kernel
theorem d_X5_writeLine_96 : decode prog_7_method_6_code 96 = .ok (.iaload, 1) := by decide +kernel
theorem d_X5_writeLine_97 : decode prog_7_method_6_code 97 = .ok (.iastore, 1) := by decide +kernel
theorem d_X5_writeLine_98 : decode prog_7_method_6_code 98 = .ok (.aload_n 0, 1) := by decide +kernel
theorem d_X5_writeLine_99 : decode prog_7_method_6_code 99 = .ok (.dup, 1) := by decide +kernel
theorem d_X5_writeLine_100 : decode prog_7_method_6_code 100 = .ok (.getfield 79, 3) := by decide +kernel
theorem d_X5_writeLine_103 : decode prog_7_method_6_code 103 = .ok (.iconst 1, 1) := by decide +kernel
theorem d_X5_writeLine_104 : decode prog_7_method_6_code 104 = .ok (.iadd, 1) := by decide +kernel
theorem d_X5_writeLine_105 : decode prog_7_method_6_code 105 = .ok (.putfield 79, 3) := by decide +kernel
theorem d_X5_writeLine_108 : decode prog_7_method_6_code 108 = .ok (.return_, 1) := by decide +kernel
theorem d_X5_tellLine_0 : decode prog_7_method_7_code 0 = .ok (.iload_n 1, 1) := by decide +kernel
theorem d_X5_tellLine_1 : decode prog_7_method_7_code 1 = .ok (.iconst 0, 1) := by decide +kernel
theorem d_X5_tellLine_2 : decode prog_7_method_7_code 2 = .ok (.aload_n 0, 1) := by decide +kernel
theorem d_X5_tellLine_3 : decode prog_7_method_7_code 3 = .ok (.getfield 79, 3) := by decide +kernel
theorem d_X5_tellLine_6 : decode prog_7_method_7_code 6 = .ok (.iconst 1, 1) := by decide +kernel
theorem d_X5_tellLine_7 : decode prog_7_method_7_code 7 = .ok (.isub, 1) := by decide +kernel
theorem d_X5_tellLine_8 : decode prog_7_method_7_code 8 = .ok (.invokestatic 69, 3) := by decide +kernel
theorem d_X5_tellLine_11 : decode prog_7_method_7_code 11 = .ok (.ifCond .ne 6, 3) := by decide +kernel
theorem d_X5_tellLine_14 : decode prog_7_method_7_code 14 = .ok (.ldc 89, 2) := by decide +kernel
theorem d_X5_tellLine_16 : decode prog_7_method_7_code 16 = .ok (.ireturn, 1) := by decide +kernel
theorem d_X5_tellLine_17 : decode prog_7_method_7_code 17 = .ok (.iload_n 2, 1) := by decide +kernel
theorem d_X5_tellLine_18 : decode prog_7_method_7_code 18 = .ok (.tableswitch 58 0 3 #[30, 37, 44, 51], 30) := by decide +kernel
theorem d_X5_tellLine_48 : decode prog_7_method_7_code 48 = .ok (.aload_n 0, 1) := by decide +kernel
theorem d_X5_tellLine_49 : decode prog_7_method_7_code 49 = .ok (.getfield 33, 3) := by decide +kernel
theorem d_X5_tellLine_52 : decode prog_7_method_7_code 52 = .ok (.iload_n 1, 1) := by decide +kernel
theorem d_X5_tellLine_53 : decode prog_7_method_7_code 53 = .ok (.iaload, 1) := by decide +kernel
theorem d_X5_tellLine_54 : decode prog_7_method_7_code 54 = .ok (.ireturn, 1) := by decide +kernel
theorem d_X5_tellLine_55 : decode prog_7_method_7_code 55 = .ok (.aload_n 0, 1) := by decide +kernel
theorem d_X5_tellLine_56 : decode prog_7_method_7_code 56 = .ok (.getfield 36, 3) := by decide +kernel
theorem d_X5_tellLine_59 : decode prog_7_method_7_code 59 = .ok (.iload_n 1, 1) := by decide +kernel
theorem d_X5_tellLine_60 : decode prog_7_method_7_code 60 = .ok (.iaload, 1) := by decide +kernel
theorem d_X5_tellLine_61 : decode prog_7_method_7_code 61 = .ok (.ireturn, 1) := by decide +kernel
theorem d_X5_tellLine_62 : decode prog_7_method_7_code 62 = .ok (.aload_n 0, 1) := by decide +kernel
theorem d_X5_tellLine_63 : decode prog_7_method_7_code 63 = .ok (.getfield 39, 3) := by decide +kernel
theorem d_X5_tellLine_66 : decode prog_7_method_7_code 66 = .ok (.iload_n 1, 1) := by decide +kernel
theorem d_X5_tellLine_67 : decode prog_7_method_7_code 67 = .ok (.iaload, 1) := by decide +kernel
theorem d_X5_tellLine_68 : decode prog_7_method_7_code 68 = .ok (.ireturn, 1) := by decide +kernel
theorem d_X5_tellLine_69 : decode prog_7_method_7_code 69 = .ok (.aload_n 0, 1) := by decide +kernel
theorem d_X5_tellLine_70 : decode prog_7_method_7_code 70 = .ok (.getfield 42, 3) := by decide +kernel
theorem d_X5_tellLine_73 : decode prog_7_method_7_code 73 = .ok (.iload_n 1, 1) := by decide +kernel
theorem d_X5_tellLine_74 : decode prog_7_method_7_code 74 = .ok (.iaload, 1) := by decide +kernel
theorem d_X5_tellLine_75 : decode prog_7_method_7_code 75 = .ok (.ireturn, 1) := by decide +kernel
theorem d_X5_tellLine_76 : decode prog_7_method_7_code 76 = .ok (.ldc 89, 2) := by decide +kernel
theorem d_X5_tellLine_78 : decode prog_7_method_7_code 78 = .ok (.ireturn, 1) := by decide +kernel
theorem d_X5_setMark_0 : decode prog_7_method_8_code 0 = .ok (.iload_n 1, 1) := by decide +kernel
theorem d_X5_setMark_1 : decode prog_7_method_8_code 1 = .ok (.iconst 0, 1) := by decide +kernel
theorem d_X5_setMark_2 : decode prog_7_method_8_code 2 = .ok (.iconst 3, 1) := by decide +kernel
theorem d_X5_setMark_3 : decode prog_7_method_8_code 3 = .ok (.invokestatic 69, 3) := by decide +kernel
theorem d_X5_setMark_6 : decode prog_7_method_8_code 6 = .ok (.ifCond .eq 25, 3) := by decide +kernel
theorem d_X5_setMark_9 : decode prog_7_method_8_code 9 = .ok (.iload_n 2, 1) := by decide +kernel
theorem d_X5_setMark_10 : decode prog_7_method_8_code 10 = .ok (.iconst 0, 1) := by decide +kernel
theorem d_X5_setMark_11 : decode prog_7_method_8_code 11 = .ok (.bipush 11, 2) := by decide +kernel
theorem d_X5_setMark_13 : decode prog_7_method_8_code 13 = .ok (.invokestatic 69, 3) := by decide +kernel
theorem d_X5_setMark_16 : decode prog_7_method_8_code 16 = .ok (.ifCond .eq 15, 3) := by decide +kernel
theorem d_X5_setMark_19 : decode prog_7_method_8_code 19 = .ok (.aload_n 0, 1) := by decide +kernel
theorem d_X5_setMark_20 : decode prog_7_method_8_code 20 = .ok (.getfield 45, 3) := by decide +kernel
theorem d_X5_setMark_23 : decode prog_7_method_8_code 23 = .ok (.iload_n 1, 1) := by decide +kernel
theorem d_X5_setMark_24 : decode prog_7_method_8_code 24 = .ok (.bipush 12, 2) := by decide +kernel
theorem d_X5_setMark_26 : decode prog_7_method_8_code 26 = .ok (.imul, 1) := by decide +kernel
theorem d_X5_setMark_27 : decode prog_7_method_8_code 27 = .ok (.iload_n 2, 1) := by decide +kernel
theorem d_X5_setMark_28 : decode prog_7_method_8_code 28 = .ok (.iadd, 1) := by decide +kernel
theorem d_X5_setMark_29 : decode prog_7_method_8_code 29 = .ok (.iload_n 3, 1) := by decide +kernel
theorem d_X5_setMark_30 : decode prog_7_method_8_code 30 = .ok (.iastore, 1) := by decide +kernel
theorem d_X5_setMark_31 : decode prog_7_method_8_code 31 = .ok (.return_, 1) := by decide +kernel
theorem d_X5_compare_0 : decode prog_7_method_9_code 0 = .ok (.iconst 0, 1) := by decide +kernel
theorem d_X5_compare_1 : decode prog_7_method_9_code 1 = .ok (.istore 4, 2) := by decide +kernel
theorem d_X5_compare_3 : decode prog_7_method_9_code 3 = .ok (.iconst 0, 1) := by decide +kernel
theorem d_X5_compare_4 : decode prog_7_method_9_code 4 = .ok (.istore 5, 2) := by decide +kernel
theorem d_X5_compare_6 : decode prog_7_method_9_code 6 = .ok (.iconst 0, 1) := by decide +kernel
theorem d_X5_compare_7 : decode prog_7_method_9_code 7 = .ok (.istore 6, 2) := by decide +kernel
theorem d_X5_compare_9 : decode prog_7_method_9_code 9 = .ok (.iload 6, 2) := by decide +kernel
theorem d_X5_compare_11 : decode prog_7_method_9_code 11 = .ok (.iload_n 3, 1) := by decide +kernel
theorem d_X5_compare_12 : decode prog_7_method_9_code 12 = .ok (.bipush 12, 2) := by decide +kernel
theorem d_X5_compare_14 : decode prog_7_method_9_code 14 = .ok (.invokestatic 73, 3) := by decide +kernel
theorem d_X5_compare_17 : decode prog_7_method_9_code 17 = .ok (.if_icmp .ge 62, 3) := by decide +kernel
theorem d_X5_compare_20 : decode prog_7_method_9_code 20 = .ok (.aload_n 0, 1) := by decide +kernel
theorem d_X5_compare_21 : decode prog_7_method_9_code 21 = .ok (.getfield 45, 3) := by decide +kernel
theorem d_X5_compare_24 : decode prog_7_method_9_code 24 = .ok (.iload_n 1, 1) := by decide +kernel
theorem d_X5_compare_25 : decode prog_7_method_9_code 25 = .ok (.bipush 12, 2) := by decide +kernel
theorem d_X5_compare_27 : decode prog_7_method_9_code 27 = .ok (.imul, 1) := by decide +kernel
theorem d_X5_compare_28 : decode prog_7_method_9_code 28 = .ok (.iload 6, 2) := by decide +kernel
theorem d_X5_compare_30 : decode prog_7_method_9_code 30 = .ok (.iadd, 1) := by decide +kernel
theorem d_X5_compare_31 : decode prog_7_method_9_code 31 = .ok (.iaload, 1) := by decide +kernel
theorem d_X5_compare_32 : decode prog_7_method_9_code 32 = .ok (.istore 7, 2) := by decide +kernel
theorem d_X5_compare_34 : decode prog_7_method_9_code 34 = .ok (.aload_n 0, 1) := by decide +kernel
theorem d_X5_compare_35 : decode prog_7_method_9_code 35 = .ok (.getfield 45, 3) := by decide +kernel
theorem d_X5_compare_38 : decode prog_7_method_9_code 38 = .ok (.iload_n 2, 1) := by decide +kernel
theorem d_X5_compare_39 : decode prog_7_method_9_code 39 = .ok (.bipush 12, 2) := by decide +kernel
theorem d_X5_compare_41 : decode prog_7_method_9_code 41 = .ok (.imul, 1) := by decide +kernel
theorem d_X5_compare_42 : decode prog_7_method_9_code 42 = .ok (.iload 6, 2) := by decide +kernel
theorem d_X5_compare_44 : decode prog_7_method_9_code 44 = .ok (.iadd, 1) := by decide +kernel
theorem d_X5_compare_45 : decode prog_7_method_9_code 45 = .ok (.iaload, 1) := by decide +kernel
theorem d_X5_compare_46 : decode prog_7_method_9_code 46 = .ok (.istore 8, 2) := by decide +kernel
theorem d_X5_compare_48 : decode prog_7_method_9_code 48 = .ok (.iload 7, 2) := by decide +kernel
theorem d_X5_compare_50 : decode prog_7_method_9_code 50 = .ok (.iconst (-1), 1) := by decide +kernel
theorem d_X5_compare_51 : decode prog_7_method_9_code 51 = .ok (.if_icmp .eq 22, 3) := by decide +kernel
theorem d_X5_compare_54 : decode prog_7_method_9_code 54 = .ok (.iload 8, 2) := by decide +kernel
theorem d_X5_compare_56 : decode prog_7_method_9_code 56 = .ok (.iconst (-1), 1) := by decide +kernel
theorem d_X5_compare_57 : decode prog_7_method_9_code 57 = .ok (.if_icmp .eq 16, 3) := by decide +kernel
theorem d_X5_compare_60 : decode prog_7_method_9_code 60 = .ok (.iinc 4 1, 3) := by decide +kernel
theorem d_X5_compare_63 : decode prog_7_method_9_code 63 = .ok (.iload 5, 2) := by decide +kernel
theorem d_X5_compare_65 : decode prog_7_method_9_code 65 = .ok (.iload 7, 2) := by decide +kernel
theorem d_X5_compare_67 : decode prog_7_method_9_code 67 = .ok (.iload 8, 2) := by decide +kernel
theorem d_X5_compare_69 : decode prog_7_method_9_code 69 = .ok (.isub, 1) := by decide +kernel
theorem d_X5_compare_70 : decode prog_7_method_9_code 70 = .ok (.iadd, 1) := by decide +kernel
theorem d_X5_compare_71 : decode prog_7_method_9_code 71 = .ok (.istore 5, 2) := by decide +kernel
theorem d_X5_compare_73 : decode prog_7_method_9_code 73 = .ok (.iinc 6 1, 3) := by decide +kernel
theorem d_X5_compare_76 : decode prog_7_method_9_code 76 = .ok (.goto (-67), 3) := by decide +kernel
theorem d_X5_compare_79 : decode prog_7_method_9_code 79 = .ok (.iload 4, 2) := by decide +kernel
theorem d_X5_compare_81 : decode prog_7_method_9_code 81 = .ok (.aload_n 0, 1) := by decide +kernel
theorem d_X5_compare_82 : decode prog_7_method_9_code 82 = .ok (.getfield 48, 3) := by decide +kernel
theorem d_X5_compare_85 : decode prog_7_method_9_code 85 = .ok (.if_icmp .lt 8, 3) := by decide +kernel
theorem d_X5_compare_88 : decode prog_7_method_9_code 88 = .ok (.iload 5, 2) := by decide +kernel
theorem d_X5_compare_90 : decode prog_7_method_9_code 90 = .ok (.goto 5, 3) := by decide +kernel
theorem d_X5_compare_93 : decode prog_7_method_9_code 93 = .ok (.ldc 89, 2) := by decide +kernel
theorem d_X5_compare_95 : decode prog_7_method_9_code 95 = .ok (.ireturn, 1) := by decide +kernel
theorem d_X6_init_0 : decode prog_8_method_1_code 0 = .ok (.aload_n 0, 1) := by decide +kernel
theorem d_X6_init_1 : decode prog_8_method_1_code 1 = .ok (.invokespecial 3, 3) := by decide +kernel
theorem d_X6_init_4 : decode prog_8_method_1_code 4 = .ok (.aload_n 0, 1) := by decide +kernel
theorem d_X6_init_5 : decode prog_8_method_1_code 5 = .ok (.bipush 8, 2) := by decide +kernel
theorem d_X6_init_7 : decode prog_8_method_1_code 7 = .ok (.newarray .int, 2) := by decide +kernel
theorem d_X6_init_9 : decode prog_8_method_1_code 9 = .ok (.putfield 11, 3) := by decide +kernel
theorem d_X6_init_12 : decode prog_8_method_1_code 12 = .ok (.aload_n 0, 1) := by decide +kernel
theorem d_X6_init_13 : decode prog_8_method_1_code 13 = .ok (.bipush 8, 2) := by decide +kernel
theorem d_X6_init_15 : decode prog_8_method_1_code 15 = .ok (.newarray .int, 2) := by decide +kernel
theorem d_X6_init_17 : decode prog_8_method_1_code 17 = .ok (.putfield 15, 3) := by decide +kernel
theorem d_X6_init_20 : decode prog_8_method_1_code 20 = .ok (.aload_n 0, 1) := by decide +kernel
theorem d_X6_init_21 : decode prog_8_method_1_code 21 = .ok (.bipush 8, 2) := by decide +kernel
theorem d_X6_init_23 : decode prog_8_method_1_code 23 = .ok (.newarray .int, 2) := by decide +kernel
theorem d_X6_init_25 : decode prog_8_method_1_code 25 = .ok (.putfield 18, 3) := by decide +kernel
theorem d_X6_init_28 : decode prog_8_method_1_code 28 = .ok (.aload_n 0, 1) := by decide +kernel
theorem d_X6_init_29 : decode prog_8_method_1_code 29 = .ok (.iconst 5, 1) := by decide +kernel
theorem d_X6_init_30 : decode prog_8_method_1_code 30 = .ok (.newarray .long, 2) := by decide +kernel
theorem d_X6_init_32 : decode prog_8_method_1_code 32 = .ok (.putfield 21, 3) := by decide +kernel
theorem d_X6_init_35 : decode prog_8_method_1_code 35 = .ok (.aload_n 0, 1) := by decide +kernel
theorem d_X6_init_36 : decode prog_8_method_1_code 36 = .ok (.iconst 5, 1) := by decide +kernel
theorem d_X6_init_37 : decode prog_8_method_1_code 37 = .ok (.newarray .int, 2) := by decide +kernel
theorem d_X6_init_39 : decode prog_8_method_1_code 39 = .ok (.putfield 25, 3) := by decide +kernel
theorem d_X6_init_42 : decode prog_8_method_1_code 42 = .ok (.aload_n 0, 1) := by decide +kernel
theorem d_X6_init_43 : decode prog_8_method_1_code 43 = .ok (.iconst 5, 1) := by decide +kernel
theorem d_X6_init_44 : decode prog_8_method_1_code 44 = .ok (.newarray .int, 2) := by decide +kernel
theorem d_X6_init_46 : decode prog_8_method_1_code 46 = .ok (.putfield 28, 3) := by decide +kernel
theorem d_X6_init_49 : decode prog_8_method_1_code 49 = .ok (.aload_n 0, 1) := by decide +kernel
theorem d_X6_init_50 : decode prog_8_method_1_code 50 = .ok (.iconst 4, 1) := by decide +kernel
theorem d_X6_init_51 : decode prog_8_method_1_code 51 = .ok (.newarray .int, 2) := by decide +kernel
theorem d_X6_init_53 : decode prog_8_method_1_code 53 = .ok (.putfield 31, 3) := by decide +kernel
theorem d_X6_init_56 : decode prog_8_method_1_code 56 = .ok (.aload_n 0, 1) := by decide +kernel
theorem d_X6_init_57 : decode prog_8_method_1_code 57 = .ok (.iconst 4, 1) := by decide +kernel
theorem d_X6_init_58 : decode prog_8_method_1_code 58 = .ok (.newarray .int, 2) := by decide +kernel
theorem d_X6_init_60 : decode prog_8_method_1_code 60 = .ok (.putfield 34, 3) := by decide +kernel
theorem d_X6_init_63 : decode prog_8_method_1_code 63 = .ok (.aload_n 0, 1) := by decide +kernel
theorem d_X6_init_64 : decode prog_8_method_1_code 64 = .ok (.iconst 4, 1) := by decide +kernel
theorem d_X6_init_65 : decode prog_8_method_1_code 65 = .ok (.newarray .int, 2) := by decide +kernel
theorem d_X6_init_67 : decode prog_8_method_1_code 67 = .ok (.putfield 37, 3) := by decide +kernel
theorem d_X6_init_70 : decode prog_8_method_1_code 70 = .ok (.aload_n 0, 1) := by decide +kernel
theorem d_X6_init_71 : decode prog_8_method_1_code 71 = .ok (.bipush 48, 2) := by decide +kernel
theorem d_X6_init_73 : decode prog_8_method_1_code 73 = .ok (.newarray .int, 2) := by decide +kernel
theorem d_X6_init_75 : decode prog_8_method_1_code 75 = .ok (.putfield 40, 3) := by decide +kernel
theorem d_X6_init_78 : decode prog_8_method_1_code 78 = .ok (.aload_n 0, 1) := by decide +kernel
theorem d_X6_init_79 : decode prog_8_method_1_code 79 = .ok (.sipush 3328, 3) := by decide +kernel
theorem d_X6_init_82 : decode prog_8_method_1_code 82 = .ok (.newarray .int, 2) := by decide +kernel
theorem d_X6_init_84 : decode prog_8_method_1_code 84 = .ok (.putfield 43, 3) := by decide +kernel
theorem d_X6_init_87 : decode prog_8_method_1_code 87 = .ok (.aload_n 0, 1) := by decide +kernel
theorem d_X6_init_88 : decode prog_8_method_1_code 88 = .ok (.bipush 12, 2) := by decide +kernel
theorem d_X6_init_90 : decode prog_8_method_1_code 90 = .ok (.newarray .int, 2) := by decide +kernel
theorem d_X6_init_92 : decode prog_8_method_1_code 92 = .ok (.putfield 46, 3) := by decide +kernel
theorem d_X6_init_95 : decode prog_8_method_1_code 95 = .ok (.return_, 1) := by decide +kernel
theorem d_X6_addWatch_0 : decode prog_8_method_2_code 0 = .ok (.aload_n 0, 1) := by decide +kernel
theorem d_X6_addWatch_1 : decode prog_8_method_2_code 1 = .ok (.getfield 49, 3) := by decide +kernel
theorem d_X6_addWatch_4 : decode prog_8_method_2_code 4 = .ok (.bipush 8, 2) := by decide +kernel
theorem d_X6_addWatch_6 : decode prog_8_method_2_code 6 = .ok (.if_icmp .lt 5, 3) := by decide +kernel
theorem d_X6_addWatch_9 : decode prog_8_method_2_code 9 = .ok (.iconst (-1), 1) := by decide +kernel
theorem d_X6_addWatch_10 : decode prog_8_method_2_code 10 = .ok (.ireturn, 1) := by decide +kernel
theorem d_X6_addWatch_11 : decode prog_8_method_2_code 11 = .ok (.aload_n 0, 1) := by decide +kernel
theorem d_X6_addWatch_12 : decode prog_8_method_2_code 12 = .ok (.getfield 11, 3) := by decide +kernel
theorem d_X6_addWatch_15 : decode prog_8_method_2_code 15 = .ok (.aload_n 0, 1) := by decide +kernel
theorem d_X6_addWatch_16 : decode prog_8_method_2_code 16 = .ok (.getfield 49, 3) := by decide +kernel
theorem d_X6_addWatch_19 : decode prog_8_method_2_code 19 = .ok (.iload_n 1, 1) := by decide +kernel
theorem d_X6_addWatch_20 : decode prog_8_method_2_code 20 = .ok (.iastore, 1) := by decide +kernel
theorem d_X6_addWatch_21 : decode prog_8_method_2_code 21 = .ok (.aload_n 0, 1) := by decide +kernel
theorem d_X6_addWatch_22 : decode prog_8_method_2_code 22 = .ok (.getfield 15, 3) := by decide +kernel
theorem d_X6_addWatch_25 : decode prog_8_method_2_code 25 = .ok (.aload_n 0, 1) := by decide +kernel
theorem d_X6_addWatch_26 : decode prog_8_method_2_code 26 = .ok (.getfield 49, 3) := by decide +kernel
theorem d_X6_addWatch_29 : decode prog_8_method_2_code 29 = .ok (.iload_n 2, 1) := by decide +kernel
theorem d_X6_addWatch_30 : decode prog_8_method_2_code 30 = .ok (.iastore, 1) := by decide +kernel
theorem d_X6_addWatch_31 : decode prog_8_method_2_code 31 = .ok (.aload_n 0, 1) := by decide +kernel
theorem d_X6_addWatch_32 : decode prog_8_method_2_code 32 = .ok (.getfield 18, 3) := by decide +kernel
theorem d_X6_addWatch_35 : decode prog_8_method_2_code 35 = .ok (.aload_n 0, 1) := by decide +kernel
theorem d_X6_addWatch_36 : decode prog_8_method_2_code 36 = .ok (.getfield 49, 3) := by decide +kernel
theorem d_X6_addWatch_39 : decode prog_8_method_2_code 39 = .ok (.iload_n 3, 1) := by decide +kernel
theorem d_X6_addWatch_40 : decode prog_8_method_2_code 40 = .ok (.iastore, 1) := by decide +kernel
theorem d_X6_addWatch_41 : decode prog_8_method_2_code 41 = .ok (.aload_n 0, 1) := by decide +kernel
theorem d_X6_addWatch_42 : decode prog_8_method_2_code 42 = .ok (.dup, 1) := by decide +kernel
theorem d_X6_addWatch_43 : decode prog_8_method_2_code 43 = .ok (.getfield 49, 3) := by decide +kernel
theorem d_X6_addWatch_46 : decode prog_8_method_2_code 46 = .ok (.iconst 1, 1) := by decide +kernel
theorem d_X6_addWatch_47 : decode prog_8_method_2_code 47 = .ok (.iadd, 1) := by decide +kernel
theorem d_X6_addWatch_48 : decode prog_8_method_2_code 48 = .ok (.putfield 49, 3) := by decide +kernel
theorem d_X6_addWatch_51 : decode prog_8_method_2_code 51 = .ok (.aload_n 0, 1) := by decide +kernel
theorem d_X6_addWatch_52 : decode prog_8_method_2_code 52 = .ok (.getfield 49, 3) := by decide +kernel
theorem d_X6_addWatch_55 : decode prog_8_method_2_code 55 = .ok (.iconst 1, 1) := by decide +kernel
theorem d_X6_addWatch_56 : decode prog_8_method_2_code 56 = .ok (.isub, 1) := by decide +kernel
theorem d_X6_addWatch_57 : decode prog_8_method_2_code 57 = .ok (.ireturn, 1) := by decide +kernel
theorem d_X6_hasWatch_0 : decode prog_8_method_3_code 0 = .ok (.iload_n 1, 1) := by decide +kernel
theorem d_X6_hasWatch_1 : decode prog_8_method_3_code 1 = .ok (.ifCond .lt 15, 3) := by decide +kernel
theorem d_X6_hasWatch_4 : decode prog_8_method_3_code 4 = .ok (.iload_n 1, 1) := by decide +kernel
theorem d_X6_hasWatch_5 : decode prog_8_method_3_code 5 = .ok (.aload_n 0, 1) := by decide +kernel
theorem d_X6_hasWatch_6 : decode prog_8_method_3_code 6 = .ok (.getfield 49, 3) := by decide +kernel
theorem d_X6_hasWatch_9 : decode prog_8_method_3_code 9 = .ok (.if_icmp .ge 7, 3) := by decide +kernel
theorem d_X6_hasWatch_12 : decode prog_8_method_3_code 12 = .ok (.iconst 1, 1) := by decide +kernel
theorem d_X6_hasWatch_13 : decode prog_8_method_3_code 13 = .ok (.goto 4, 3) := by decide +kernel
theorem d_X6_hasWatch_16 : decode prog_8_method_3_code 16 = .ok (.iconst 0, 1) := by decide +kernel
theorem d_X6_hasWatch_17 : decode prog_8_method_3_code 17 = .ok (.ireturn, 1) := by decide +kernel
theorem d_X6_isSeen_0 : decode prog_8_method_4_code 0 = .ok (.aload_n 0, 1) := by decide +kernel
theorem d_X6_isSeen_1 : decode prog_8_method_4_code 1 = .ok (.iload_n 1, 1) := by decide +kernel
theorem d_X6_isSeen_2 : decode prog_8_method_4_code 2 = .ok (.invokevirtual 53, 3) := by decide +kernel
theorem d_X6_isSeen_5 : decode prog_8_method_4_code 5 = .ok (.ifCond .eq 35, 3) := by decide +kernel
theorem d_X6_isSeen_8 : decode prog_8_method_4_code 8 = .ok (.aload_n 3, 1) := by decide +kernel
theorem d_X6_isSeen_9 : decode prog_8_method_4_code 9 = .ok (.iload_n 2, 1) := by decide +kernel
theorem d_X6_isSeen_10 : decode prog_8_method_4_code 10 = .ok (.aload_n 0, 1) := by decide +kernel
theorem d_X6_isSeen_11 : decode prog_8_method_4_code 11 = .ok (.getfield 11, 3) := by decide +kernel
theorem d_X6_isSeen_14 : decode prog_8_method_4_code 14 = .ok (.iload_n 1, 1) := by decide +kernel
theorem d_X6_isSeen_15 : decode prog_8_method_4_code 15 = .ok (.iaload, 1) := by decide +kernel
theorem d_X6_isSeen_16 : decode prog_8_method_4_code 16 = .ok (.aload_n 0, 1) := by decide +kernel
theorem d_X6_isSeen_17 : decode prog_8_method_4_code 17 = .ok (.getfield 15, 3) := by decide +kernel
theorem d_X6_isSeen_20 : decode prog_8_method_4_code 20 = .ok (.iload_n 1, 1) := by decide +kernel
theorem d_X6_isSeen_21 : decode prog_8_method_4_code 21 = .ok (.iaload, 1) := by decide +kernel
theorem d_X6_isSeen_22 : decode prog_8_method_4_code 22 = .ok (.aload_n 0, 1) := by decide +kernel
theorem d_X6_isSeen_23 : decode prog_8_method_4_code 23 = .ok (.getfield 18, 3) := by decide +kernel
theorem d_X6_isSeen_26 : decode prog_8_method_4_code 26 = .ok (.iload_n 1, 1) := by decide +kernel
theorem d_X6_isSeen_27 : decode prog_8_method_4_code 27 = .ok (.iaload, 1) := by decide +kernel
theorem d_X6_isSeen_28 : decode prog_8_method_4_code 28 = .ok (.aload 4, 2) := by decide +kernel
theorem d_X6_isSeen_30 : decode prog_8_method_4_code 30 = .ok (.invokevirtual 57, 3) := by decide +kernel
theorem d_X6_isSeen_33 : decode prog_8_method_4_code 33 = .ok (.ifCond .eq 7, 3) := by decide +kernel
theorem d_X6_isSeen_36 : decode prog_8_method_4_code 36 = .ok (.iconst 1, 1) := by decide +kernel
theorem d_X6_isSeen_37 : decode prog_8_method_4_code 37 = .ok (.goto 4, 3) := by decide +kernel
theorem d_X6_isSeen_40 : decode prog_8_method_4_code 40 = .ok (.iconst 0, 1) := by decide +kernel
theorem d_X6_isSeen_41 : decode prog_8_method_4_code 41 = .ok (.ireturn, 1) := by decide +kernel
theorem d_X6_safety_0 : decode prog_8_method_5_code 0 = .ok (.aload_n 0, 1) := by decide +kernel
theorem d_X6_safety_1 : decode prog_8_method_5_code 1 = .ok (.iload_n 1, 1) := by decide +kernel
theorem d_X6_safety_2 : decode prog_8_method_5_code 2 = .ok (.aload_n 2, 1) := by decide +kernel
theorem d_X6_safety_3 : decode prog_8_method_5_code 3 = .ok (.aload_n 3, 1) := by decide +kernel
theorem d_X6_safety_4 : decode prog_8_method_5_code 4 = .ok (.invokevirtual 63, 3) := by decide +kernel
theorem d_X6_safety_7 : decode prog_8_method_5_code 7 = .ok (.aload_n 0, 1) := by decide +kernel
theorem d_X6_safety_8 : decode prog_8_method_5_code 8 = .ok (.getfield 67, 3) := by decide +kernel
theorem d_X6_safety_11 : decode prog_8_method_5_code 11 = .ok (.ireturn, 1) := by decide +kernel
theorem d_X6_sharesOf_0 : decode prog_8_method_6_code 0 = .ok (.aload_n 0, 1) := by decide +kernel
theorem d_X6_sharesOf_1 : decode prog_8_method_6_code 1 = .ok (.iload_n 1, 1) := by decide +kernel
theorem d_X6_sharesOf_2 : decode prog_8_method_6_code 2 = .ok (.aload_n 3, 1) := by decide +kernel
theorem d_X6_sharesOf_3 : decode prog_8_method_6_code 3 = .ok (.aload 4, 2) := by decide +kernel
theorem d_X6_sharesOf_5 : decode prog_8_method_6_code 5 = .ok (.invokevirtual 63, 3) := by decide +kernel
theorem d_X6_sharesOf_8 : decode prog_8_method_6_code 8 = .ok (.iload_n 1, 1) := by decide +kernel
theorem d_X6_sharesOf_9 : decode prog_8_method_6_code 9 = .ok (.iconst 1, 1) := by decide +kernel
theorem d_X6_sharesOf_10 : decode prog_8_method_6_code 10 = .ok (.iload_n 2, 1) := by decide +kernel
theorem d_X6_sharesOf_11 : decode prog_8_method_6_code 11 = .ok (.ishl, 1) := by decide +kernel
theorem d_X6_sharesOf_12 : decode prog_8_method_6_code 12 = .ok (.iconst 1, 1) := by decide +kernel
theorem d_X6_sharesOf_13 : decode prog_8_method_6_code 13 = .ok (.isub, 1) := by decide +kernel
theorem d_X6_sharesOf_14 : decode prog_8_method_6_code 14 = .ok (.iand, 1) := by decide +kernel
theorem d_X6_sharesOf_15 : decode prog_8_method_6_code 15 = .ok (.invokestatic 70, 3) := by decide +kernel
theorem d_X6_sharesOf_18 : decode prog_8_method_6_code 18 = .ok (.istore 5, 2) := by decide +kernel
theorem d_X6_sharesOf_20 : decode prog_8_method_6_code 20 = .ok (.iload 5, 2) := by decide +kernel
theorem d_X6_sharesOf_22 : decode prog_8_method_6_code 22 = .ok (.iconst 0, 1) := by decide +kernel
theorem d_X6_sharesOf_23 : decode prog_8_method_6_code 23 = .ok (.aload_n 0, 1) := by decide +kernel
theorem d_X6_sharesOf_24 : decode prog_8_method_6_code 24 = .ok (.getfield 76, 3) := by decide +kernel
theorem d_X6_sharesOf_27 : decode prog_8_method_6_code 27 = .ok (.iconst 1, 1) := by decide +kernel
theorem d_X6_sharesOf_28 : decode prog_8_method_6_code 28 = .ok (.isub, 1) := by decide +kernel
theorem d_X6_sharesOf_29 : decode prog_8_method_6_code 29 = .ok (.invokestatic 79, 3) := by decide +kernel
theorem d_X6_sharesOf_32 : decode prog_8_method_6_code 32 = .ok (.ifCond .eq 13, 3) := by decide +kernel
theorem d_X6_sharesOf_35 : decode prog_8_method_6_code 35 = .ok (.aload_n 0, 1) := by decide +kernel
theorem d_X6_sharesOf_36 : decode prog_8_method_6_code 36 = .ok (.getfield 28, 3) := by decide +kernel
theorem d_X6_sharesOf_39 : decode prog_8_method_6_code 39 = .ok (.iload 5, 2) := by decide +kernel
theorem d_X6_sharesOf_41 : decode prog_8_method_6_code 41 = .ok (.iaload, 1) := by decide +kernel
theorem d_X6_sharesOf_42 : decode prog_8_method_6_code 42 = .ok (.goto 4, 3) := by decide +kernel
theorem d_X6_sharesOf_45 : decode prog_8_method_6_code 45 = .ok (.iconst (-1), 1) := by decide +kernel
theorem d_X6_sharesOf_46 : decode prog_8_method_6_code 46 = .ok (.ireturn, 1) := by decide +kernel
theorem d_X6_findShares_0 : decode prog_8_method_7_code 0 = .ok (.iload_n 1, 1) := by decide +kernel
theorem d_X6_findShares_1 : decode prog_8_method_7_code 1 = .ok (.aload_n 0, 1) := by decide +kernel
theorem d_X6_findShares_2 : decode prog_8_method_7_code 2 = .ok (.getfield 83, 3) := by decide +kernel
theorem d_X6_findShares_5 : decode prog_8_method_7_code 5 = .ok (.if_icmp .ne 26, 3) := by decide +kernel
theorem d_X6_findShares_8 : decode prog_8_method_7_code 8 = .ok (.aload_n 3, 1) := by decide +kernel
theorem d_X6_findShares_9 : decode prog_8_method_7_code 9 = .ok (.getfield 86, 3) := by decide +kernel
theorem d_X6_findShares_12 : decode prog_8_method_7_code 12 = .ok (.aload_n 0, 1) := by decide +kernel
theorem d_X6_findShares_13 : decode prog_8_method_7_code 13 = .ok (.getfield 91, 3) := by decide +kernel
theorem d_X6_findShares_16 : decode prog_8_method_7_code 16 = .ok (.if_icmp .ne 15, 3) := by decide +kernel
theorem d_X6_findShares_19 : decode prog_8_method_7_code 19 = .ok (.aload_n 0, 1) := by decide +kernel
theorem d_X6_findShares_20 : decode prog_8_method_7_code 20 = .ok (.getfield 49, 3) := by decide +kernel
theorem d_X6_findShares_23 : decode prog_8_method_7_code 23 = .ok (.aload_n 0, 1) := by decide +kernel
theorem d_X6_findShares_24 : decode prog_8_method_7_code 24 = .ok (.getfield 94, 3) := by decide +kernel
theorem d_X6_findShares_27 : decode prog_8_method_7_code 27 = .ok (.if_icmp .ne 4, 3) := by decide +kernel
theorem d_X6_findShares_30 : decode prog_8_method_7_code 30 = .ok (.return_, 1) := by decide +kernel
theorem d_X6_findShares_31 : decode prog_8_method_7_code 31 = .ok (.aload_n 0, 1) := by decide +kernel
theorem d_X6_findShares_32 : decode prog_8_method_7_code 32 = .ok (.iload_n 1, 1) := by decide +kernel
theorem d_X6_findShares_33 : decode prog_8_method_7_code 33 = .ok (.putfield 83, 3) := by decide +kernel
theorem d_X6_findShares_36 : decode prog_8_method_7_code 36 = .ok (.aload_n 0, 1) := by decide +kernel
theorem d_X6_findShares_37 : decode prog_8_method_7_code 37 = .ok (.aload_n 3, 1) := by decide +kernel
theorem d_X6_findShares_38 : decode prog_8_method_7_code 38 = .ok (.getfield 86, 3) := by decide +kernel
theorem d_X6_findShares_41 : decode prog_8_method_7_code 41 = .ok (.putfield 91, 3) := by decide +kernel
theorem d_X6_findShares_44 : decode prog_8_method_7_code 44 = .ok (.aload_n 0, 1) := by decide +kernel
theorem d_X6_findShares_45 : decode prog_8_method_7_code 45 = .ok (.aload_n 0, 1) := by decide +kernel
theorem d_X6_findShares_46 : decode prog_8_method_7_code 46 = .ok (.getfield 49, 3) := by decide +kernel
theorem d_X6_findShares_49 : decode prog_8_method_7_code 49 = .ok (.putfield 94, 3) := by decide +kernel
theorem d_X6_findShares_52 : decode prog_8_method_7_code 52 = .ok (.aload_n 0, 1) := by decide +kernel
theorem d_X6_findShares_53 : decode prog_8_method_7_code 53 = .ok (.iconst 0, 1) := by decide +kernel
theorem d_X6_findShares_54 : decode prog_8_method_7_code 54 = .ok (.putfield 76, 3) := by decide +kernel
theorem d_X6_findShares_57 : decode prog_8_method_7_code 57 = .ok (.iconst 0, 1) := by decide +kernel
theorem d_X6_findShares_58 : decode prog_8_method_7_code 58 = .ok (.istore 4, 2) := by decide +kernel
theorem d_X6_findShares_60 : decode prog_8_method_7_code 60 = .ok (.iload 4, 2) := by decide +kernel
theorem d_X6_findShares_62 : decode prog_8_method_7_code 62 = .ok (.aload_n 2, 1) := by decide +kernel
theorem d_X6_findShares_63 : decode prog_8_method_7_code 63 = .ok (.getfield 97, 3) := by decide +kernel
theorem d_X6_findShares_66 : decode prog_8_method_7_code 66 = .ok (.if_icmp .ge 54, 3) := by decide +kernel
theorem d_X6_findShares_69 : decode prog_8_method_7_code 69 = .ok (.iload_n 1, 1) := by decide +kernel
theorem d_X6_findShares_70 : decode prog_8_method_7_code 70 = .ok (.iload 4, 2) := by decide +kernel
theorem d_X6_findShares_72 : decode prog_8_method_7_code 72 = .ok (.ishr, 1) := by decide +kernel
theorem d_X6_findShares_73 : decode prog_8_method_7_code 73 = .ok (.iconst 1, 1) := by decide +kernel
theorem d_X6_findShares_74 : decode prog_8_method_7_code 74 = .ok (.iand, 1) := by decide +kernel
theorem d_X6_findShares_75 : decode prog_8_method_7_code 75 = .ok (.iconst 1, 1) := by decide +kernel
theorem d_X6_findShares_76 : decode prog_8_method_7_code 76 = .ok (.if_icmp .ne 38, 3) := by decide +kernel
theorem d_X6_findShares_79 : decode prog_8_method_7_code 79 = .ok (.aload_n 0, 1) := by decide +kernel
theorem d_X6_findShares_80 : decode prog_8_method_7_code 80 = .ok (.getfield 76, 3) := by decide +kernel
theorem d_X6_findShares_83 : decode prog_8_method_7_code 83 = .ok (.iconst 5, 1) := by decide +kernel
theorem d_X6_findShares_84 : decode prog_8_method_7_code 84 = .ok (.if_icmp .ge 30, 3) := by decide +kernel
theorem d_X6_findShares_87 : decode prog_8_method_7_code 87 = .ok (.aload_n 0, 1) := by decide +kernel
theorem d_X6_findShares_88 : decode prog_8_method_7_code 88 = .ok (.getfield 21, 3) := by decide +kernel
theorem d_X6_findShares_91 : decode prog_8_method_7_code 91 = .ok (.aload_n 0, 1) := by decide +kernel
theorem d_X6_findShares_92 : decode prog_8_method_7_code 92 = .ok (.getfield 76, 3) := by decide +kernel
theorem d_X6_findShares_95 : decode prog_8_method_7_code 95 = .ok (.aload_n 0, 1) := by decide +kernel
theorem d_X6_findShares_96 : decode prog_8_method_7_code 96 = .ok (.iload 4, 2) := by decide +kernel
theorem d_X6_findShares_98 : decode prog_8_method_7_code 98 = .ok (.aload_n 2, 1) := by decide +kernel
theorem d_X6_findShares_99 : decode prog_8_method_7_code 99 = .ok (.aload_n 3, 1) := by decide +kernel
theorem d_X6_findShares_100 : decode prog_8_method_7_code 100 = .ok (.invokevirtual 100, 3) := by decide +kernel
theorem d_X6_findShares_103 : decode prog_8_method_7_code 103 = .ok (.lastore, 1) := by decide +kernel
theorem d_X6_findShares_104 : decode prog_8_method_7_code 104 = .ok (.aload_n 0, 1) := by decide +kernel
theorem d_X6_findShares_105 : decode prog_8_method_7_code 105 = .ok (.dup, 1) := by decide +kernel
theorem d_X6_findShares_106 : decode prog_8_method_7_code 106 = .ok (.getfield 76, 3) := by decide +kernel
theorem d_X6_findShares_109 : decode prog_8_method_7_code 109 = .ok (.iconst 1, 1) := by decide +kernel
theorem d_X6_findShares_110 : decode prog_8_method_7_code 110 = .ok (.iadd, 1) := by decide +kernel
theorem d_X6_findShares_111 : decode prog_8_method_7_code 111 = .ok (.putfield 76, 3) := by decide +kernel
theorem d_X6_findShares_114 : decode prog_8_method_7_code 114 = .ok (.iinc 4 1, 3) := by decide +kernel
theorem d_X6_findShares_117 : decode prog_8_method_7_code 117 = .ok (.goto (-57), 3) := by decide +kernel
theorem d_X6_findShares_120 : decode prog_8_method_7_code 120 = .ok (.aload_n 0, 1) := by decide +kernel
theorem d_X6_findShares_121 : decode prog_8_method_7_code 121 = .ok (.iconst (-1), 1) := by decide +kernel
theorem d_X6_findShares_122 : decode prog_8_method_7_code 122 = .ok (.putfield 67, 3) := by decide +kernel
theorem d_X6_findShares_125 : decode prog_8_method_7_code 125 = .ok (.aload_n 0, 1) := by decide +kernel
theorem d_X6_findShares_126 : decode prog_8_method_7_code 126 = .ok (.iconst (-1), 1) := by decide +kernel
theorem d_X6_findShares_127 : decode prog_8_method_7_code 127 = .ok (.putfield 104, 3) := by decide +kernel
theorem d_X6_findShares_130 : decode prog_8_method_7_code 130 = .ok (.aload_n 0, 1) := by decide +kernel
theorem d_X6_findShares_131 : decode prog_8_method_7_code 131 = .ok (.iconst 0, 1) := by decide +kernel
theorem d_X6_findShares_132 : decode prog_8_method_7_code 132 = .ok (.bipush 12, 2) := by decide +kernel
theorem d_X6_findShares_134 : decode prog_8_method_7_code 134 = .ok (.lconst 0, 1) := by decide +kernel
theorem d_X6_findShares_135 : decode prog_8_method_7_code 135 = .ok (.invokevirtual 107, 3) := by decide +kernel
theorem d_X6_findShares_138 : decode prog_8_method_7_code 138 = .ok (.return_, 1) := by decide +kernel
theorem d_X6_sightOf_0 : decode prog_8_method_8_code 0 = .ok (.lconst 0, 1) := by decide +kernel
theorem d_X6_sightOf_1 : decode prog_8_method_8_code 1 = .ok (.lstore 4, 2) := by decide +kernel
theorem d_X6_sightOf_3 : decode prog_8_method_8_code 3 = .ok (.iconst 0, 1) := by decide +kernel
theorem d_X6_sightOf_4 : decode prog_8_method_8_code 4 = .ok (.istore 6, 2) := by decide +kernel
theorem d_X6_sightOf_6 : decode prog_8_method_8_code 6 = .ok (.iload 6, 2) := by decide +kernel
theorem d_X6_sightOf_8 : decode prog_8_method_8_code 8 = .ok (.aload_n 0, 1) := by decide +kernel
theorem d_X6_sightOf_9 : decode prog_8_method_8_code 9 = .ok (.getfield 49, 3) := by decide +kernel
theorem d_X6_sightOf_12 : decode prog_8_method_8_code 12 = .ok (.if_icmp .ge 32, 3) := by decide +kernel
theorem d_X6_sightOf_15 : decode prog_8_method_8_code 15 = .ok (.aload_n 0, 1) := by decide +kernel
theorem d_X6_sightOf_16 : decode prog_8_method_8_code 16 = .ok (.iload 6, 2) := by decide +kernel
theorem d_X6_sightOf_18 : decode prog_8_method_8_code 18 = .ok (.iload_n 1, 1) := by decide +kernel
theorem d_X6_sightOf_19 : decode prog_8_method_8_code 19 = .ok (.aload_n 2, 1) := by decide +kernel
theorem d_X6_sightOf_20 : decode prog_8_method_8_code 20 = .ok (.aload_n 3, 1) := by decide +kernel
theorem d_X6_sightOf_21 : decode prog_8_method_8_code 21 = .ok (.invokevirtual 111, 3) := by decide +kernel
theorem d_X6_sightOf_24 : decode prog_8_method_8_code 24 = .ok (.ifCond .eq 14, 3) := by decide +kernel
theorem d_X6_sightOf_27 : decode prog_8_method_8_code 27 = .ok (.lload 4, 2) := by decide +kernel
theorem d_X6_sightOf_29 : decode prog_8_method_8_code 29 = .ok (.lconst 1, 1) := by decide +kernel
theorem d_X6_sightOf_30 : decode prog_8_method_8_code 30 = .ok (.iconst 4, 1) := by decide +kernel
theorem d_X6_sightOf_31 : decode prog_8_method_8_code 31 = .ok (.iload 6, 2) := by decide +kernel
theorem d_X6_sightOf_33 : decode prog_8_method_8_code 33 = .ok (.imul, 1) := by decide +kernel
theorem d_X6_sightOf_34 : decode prog_8_method_8_code 34 = .ok (.lshl, 1) := by decide +kernel
theorem d_X6_sightOf_35 : decode prog_8_method_8_code 35 = .ok (.lor, 1) := by decide +kernel
theorem d_X6_sightOf_36 : decode prog_8_method_8_code 36 = .ok (.lstore 4, 2) := by decide +kernel
theorem d_X6_sightOf_38 : decode prog_8_method_8_code 38 = .ok (.iinc 6 1, 3) := by decide +kernel
theorem d_X6_sightOf_41 : decode prog_8_method_8_code 41 = .ok (.goto (-35), 3) := by decide +kernel
theorem d_X6_sightOf_44 : decode prog_8_method_8_code 44 = .ok (.lload 4, 2) := by decide +kernel
theorem d_X6_sightOf_46 : decode prog_8_method_8_code 46 = .ok (.lreturn, 1) := by decide +kernel
theorem d_X6_deal_0 : decode prog_8_method_9_code 0 = .ok (.iload_n 1, 1) := by decide +kernel
theorem d_X6_deal_1 : decode prog_8_method_9_code 1 = .ok (.aload_n 0, 1) := by decide +kernel
theorem d_X6_deal_2 : decode prog_8_method_9_code 2 = .ok (.getfield 76, 3) := by decide +kernel
theorem d_X6_deal_5 : decode prog_8_method_9_code 5 = .ok (.if_icmp .ge 8, 3) := by decide +kernel
theorem d_X6_deal_8 : decode prog_8_method_9_code 8 = .ok (.iload_n 1, 1) := by decide +kernel
theorem d_X6_deal_9 : decode prog_8_method_9_code 9 = .ok (.iconst 5, 1) := by decide +kernel
theorem d_X6_deal_10 : decode prog_8_method_9_code 10 = .ok (.if_icmp .lt 4, 3) := by decide +kernel
theorem d_X6_deal_13 : decode prog_8_method_9_code 13 = .ok (.return_, 1) := by decide +kernel
theorem d_X6_deal_14 : decode prog_8_method_9_code 14 = .ok (.iload_n 1, 1) := by decide +kernel
theorem d_X6_deal_15 : decode prog_8_method_9_code 15 = .ok (.aload_n 0, 1) := by decide +kernel
theorem d_X6_deal_16 : decode prog_8_method_9_code 16 = .ok (.getfield 76, 3) := by decide +kernel
theorem d_X6_deal_19 : decode prog_8_method_9_code 19 = .ok (.iconst 1, 1) := by decide +kernel
theorem d_X6_deal_20 : decode prog_8_method_9_code 20 = .ok (.isub, 1) := by decide +kernel
theorem d_X6_deal_21 : decode prog_8_method_9_code 21 = .ok (.if_icmp .ne 26, 3) := by decide +kernel
theorem d_X6_deal_24 : decode prog_8_method_9_code 24 = .ok (.aload_n 0, 1) := by decide +kernel
theorem d_X6_deal_25 : decode prog_8_method_9_code 25 = .ok (.getfield 25, 3) := by decide +kernel
theorem d_X6_deal_28 : decode prog_8_method_9_code 28 = .ok (.iload_n 1, 1) := by decide +kernel
theorem d_X6_deal_29 : decode prog_8_method_9_code 29 = .ok (.iload_n 2, 1) := by decide +kernel
theorem d_X6_deal_30 : decode prog_8_method_9_code 30 = .ok (.iastore, 1) := by decide +kernel
theorem d_X6_deal_31 : decode prog_8_method_9_code 31 = .ok (.aload_n 0, 1) := by decide +kernel
theorem d_X6_deal_32 : decode prog_8_method_9_code 32 = .ok (.lload_n 3, 1) := by decide +kernel
theorem d_X6_deal_33 : decode prog_8_method_9_code 33 = .ok (.iload_n 2, 1) := by decide +kernel
theorem d_X6_deal_34 : decode prog_8_method_9_code 34 = .ok (.i2l, 1) := by decide +kernel
theorem d_X6_deal_35 : decode prog_8_method_9_code 35 = .ok (.aload_n 0, 1) := by decide +kernel
theorem d_X6_deal_36 : decode prog_8_method_9_code 36 = .ok (.getfield 21, 3) := by decide +kernel
theorem d_X6_deal_39 : decode prog_8_method_9_code 39 = .ok (.iload_n 1, 1) := by decide +kernel
theorem d_X6_deal_40 : decode prog_8_method_9_code 40 = .ok (.laload, 1) := by decide +kernel
theorem d_X6_deal_41 : decode prog_8_method_9_code 41 = .ok (.lmul, 1) := by decide +kernel
theorem d_X6_deal_42 : decode prog_8_method_9_code 42 = .ok (.ladd, 1) := by decide +kernel
theorem d_X6_deal_43 : decode prog_8_method_9_code 43 = .ok (.invokevirtual 115, 3) := by decide +kernel
theorem d_X6_deal_46 : decode prog_8_method_9_code 46 = .ok (.return_, 1) := by decide +kernel
theorem d_X6_deal_47 : decode prog_8_method_9_code 47 = .ok (.iload_n 2, 1) := by decide +kernel
theorem d_X6_deal_48 : decode prog_8_method_9_code 48 = .ok (.istore 5, 2) := by decide +kernel
theorem d_X6_deal_50 : decode prog_8_method_9_code 50 = .ok (.iload 5, 2) := by decide +kernel
theorem d_X6_deal_52 : decode prog_8_method_9_code 52 = .ok (.ifCond .lt 40, 3) := by decide +kernel
theorem d_X6_deal_55 : decode prog_8_method_9_code 55 = .ok (.aload_n 0, 1) := by decide +kernel
theorem d_X6_deal_56 : decode prog_8_method_9_code 56 = .ok (.getfield 25, 3) := by decide +kernel
theorem d_X6_deal_59 : decode prog_8_method_9_code 59 = .ok (.iload_n 1, 1) := by decide +kernel
theorem d_X6_deal_60 : decode prog_8_method_9_code 60 = .ok (.iload 5, 2) := by decide +kernel
theorem d_X6_deal_62 : decode prog_8_method_9_code 62 = .ok (.iastore, 1) := by decide +kernel
theorem d_X6_deal_63 : decode prog_8_method_9_code 63 = .ok (.aload_n 0, 1) := by decide +kernel
theorem d_X6_deal_64 : decode prog_8_method_9_code 64 = .ok (.iload_n 1, 1) := by decide +kernel
theorem d_X6_deal_65 : decode prog_8_method_9_code 65 = .ok (.iconst 1, 1) := by decide +kernel
theorem d_X6_deal_66 : decode prog_8_method_9_code 66 = .ok (.iadd, 1) := by decide +kernel
theorem d_X6_deal_67 : decode prog_8_method_9_code 67 = .ok (.iload_n 2, 1) := by decide +kernel
theorem d_X6_deal_68 : decode prog_8_method_9_code 68 = .ok (.iload 5, 2) := by decide +kernel
theorem d_X6_deal_70 : decode prog_8_method_9_code 70 = .ok (.isub, 1) := by decide +kernel
theorem d_X6_deal_71 : decode prog_8_method_9_code 71 = .ok (.lload_n 3, 1) := by decide +kernel
theorem d_X6_deal_72 : decode prog_8_method_9_code 72 = .ok (.iload 5, 2) := by decide +kernel
theorem d_X6_deal_74 : decode prog_8_method_9_code 74 = .ok (.i2l, 1) := by decide +kernel
theorem d_X6_deal_75 : decode prog_8_method_9_code 75 = .ok (.aload_n 0, 1) := by decide +kernel
theorem d_X6_deal_76 : decode prog_8_method_9_code 76 = .ok (.getfield 21, 3) := by decide +kernel
theorem d_X6_deal_79 : decode prog_8_method_9_code 79 = .ok (.iload_n 1, 1) := by decide +kernel
theorem d_X6_deal_80 : decode prog_8_method_9_code 80 = .ok (.laload, 1) := by decide +kernel
theorem d_X6_deal_81 : decode prog_8_method_9_code 81 = .ok (.lmul, 1) := by decide +kernel
theorem d_X6_deal_82 : decode prog_8_method_9_code 82 = .ok (.ladd, 1) := by decide +kernel
theorem d_X6_deal_83 : decode prog_8_method_9_code 83 = .ok (.invokevirtual 107, 3) := by decide +kernel
theorem d_X6_deal_86 : decode prog_8_method_9_code 86 = .ok (.iinc 5 (-1), 3) := by decide +kernel
theorem d_X6_deal_89 : decode prog_8_method_9_code 89 = .ok (.goto (-39), 3) := by decide +kernel
theorem d_X6_deal_92 : decode prog_8_method_9_code 92 = .ok (.return_, 1) := by decide +kernel
theorem d_X6_judge_0 : decode prog_8_method_10_code 0 = .ok (.bipush 12, 2) := by decide +kernel
theorem d_X6_judge_2 : decode prog_8_method_10_code 2 = .ok (.istore_n 3, 1) := by decide +kernel
theorem d_X6_judge_3 : decode prog_8_method_10_code 3 = .ok (.iconst 0, 1) := by decide +kernel
theorem d_X6_judge_4 : decode prog_8_method_10_code 4 = .ok (.istore 4, 2) := by decide +kernel
theorem d_X6_judge_6 : decode prog_8_method_10_code 6 = .ok (.iconst 0, 1) := by decide +kernel
theorem d_X6_judge_7 : decode prog_8_method_10_code 7 = .ok (.istore 5, 2) := by decide +kernel
theorem d_X6_judge_9 : decode prog_8_method_10_code 9 = .ok (.iload 5, 2) := by decide +kernel
theorem d_X6_judge_11 : decode prog_8_method_10_code 11 = .ok (.aload_n 0, 1) := by decide +kernel
theorem d_X6_judge_12 : decode prog_8_method_10_code 12 = .ok (.getfield 49, 3) := by decide +kernel
theorem d_X6_judge_15 : decode prog_8_method_10_code 15 = .ok (.if_icmp .ge 35, 3) := by decide +kernel
theorem d_X6_judge_18 : decode prog_8_method_10_code 18 = .ok (.lload_n 1, 1) := by decide +kernel
theorem d_X6_judge_19 : decode prog_8_method_10_code 19 = .ok (.iconst 4, 1) := by decide +kernel
theorem d_X6_judge_20 : decode prog_8_method_10_code 20 = .ok (.iload 5, 2) := by decide +kernel
theorem d_X6_judge_22 : decode prog_8_method_10_code 22 = .ok (.imul, 1) := by decide +kernel
theorem d_X6_judge_23 : decode prog_8_method_10_code 23 = .ok (.lshr, 1) := by decide +kernel
theorem d_X6_judge_24 : decode prog_8_method_10_code 24 = .ok (.l2i, 1) := by decide +kernel
theorem d_X6_judge_25 : decode prog_8_method_10_code 25 = .ok (.bipush 15, 2) := by decide +kernel
theorem d_X6_judge_27 : decode prog_8_method_10_code 27 = .ok (.iand, 1) := by decide +kernel
theorem d_X6_judge_28 : decode prog_8_method_10_code 28 = .ok (.istore 6, 2) := by decide +kernel
theorem d_X6_judge_30 : decode prog_8_method_10_code 30 = .ok (.iload_n 3, 1) := by decide +kernel
theorem d_X6_judge_31 : decode prog_8_method_10_code 31 = .ok (.iload 6, 2) := by decide +kernel
theorem d_X6_judge_33 : decode prog_8_method_10_code 33 = .ok (.invokestatic 119, 3) := by decide +kernel
theorem d_X6_judge_36 : decode prog_8_method_10_code 36 = .ok (.istore_n 3, 1) := by decide +kernel
theorem d_X6_judge_37 : decode prog_8_method_10_code 37 = .ok (.iload 4, 2) := by decide +kernel
theorem d_X6_judge_39 : decode prog_8_method_10_code 39 = .ok (.iload 6, 2) := by decide +kernel
theorem d_X6_judge_41 : decode prog_8_method_10_code 41 = .ok (.iadd, 1) := by decide +kernel
theorem d_X6_judge_42 : decode prog_8_method_10_code 42 = .ok (.istore 4, 2) := by decide +kernel
theorem d_X6_judge_44 : decode prog_8_method_10_code 44 = .ok (.iinc 5 1, 3) := by decide +kernel
theorem d_X6_judge_47 : decode prog_8_method_10_code 47 = .ok (.goto (-38), 3) := by decide +kernel
theorem d_X6_judge_50 : decode prog_8_method_10_code 50 = .ok (.iload_n 3, 1) := by decide +kernel
theorem d_X6_judge_51 : decode prog_8_method_10_code 51 = .ok (.aload_n 0, 1) := by decide +kernel
theorem d_X6_judge_52 : decode prog_8_method_10_code 52 = .ok (.getfield 67, 3) := by decide +kernel
theorem d_X6_judge_55 : decode prog_8_method_10_code 55 = .ok (.if_icmp .gt 20, 3) := by decide +kernel
theorem d_X6_judge_58 : decode prog_8_method_10_code 58 = .ok (.iload_n 3, 1) := by decide +kernel
theorem d_X6_judge_59 : decode prog_8_method_10_code 59 = .ok (.aload_n 0, 1) := by decide +kernel
theorem d_X6_judge_60 : decode prog_8_method_10_code 60 = .ok (.getfield 67, 3) := by decide +kernel
theorem d_X6_judge_63 : decode prog_8_method_10_code 63 = .ok (.if_icmp .ne 37, 3) := by decide +kernel
theorem d_X6_judge_66 : decode prog_8_method_10_code 66 = .ok (.iload 4, 2) := by decide +kernel
theorem d_X6_judge_68 : decode prog_8_method_10_code 68 = .ok (.aload_n 0, 1) := by decide +kernel
theorem d_X6_judge_69 : decode prog_8_method_10_code 69 = .ok (.getfield 104, 3) := by decide +kernel
theorem d_X6_judge_72 : decode prog_8_method_10_code 72 = .ok (.if_icmp .le 28, 3) := by decide +kernel
theorem d_X6_judge_75 : decode prog_8_method_10_code 75 = .ok (.aload_n 0, 1) := by decide +kernel
theorem d_X6_judge_76 : decode prog_8_method_10_code 76 = .ok (.iload_n 3, 1) := by decide +kernel
theorem d_X6_judge_77 : decode prog_8_method_10_code 77 = .ok (.putfield 67, 3) := by decide +kernel
theorem d_X6_judge_80 : decode prog_8_method_10_code 80 = .ok (.aload_n 0, 1) := by decide +kernel
theorem d_X6_judge_81 : decode prog_8_method_10_code 81 = .ok (.iload 4, 2) := by decide +kernel
theorem d_X6_judge_83 : decode prog_8_method_10_code 83 = .ok (.putfield 104, 3) := by decide +kernel
theorem d_X6_judge_86 : decode prog_8_method_10_code 86 = .ok (.aload_n 0, 1) := by decide +kernel
theorem d_X6_judge_87 : decode prog_8_method_10_code 87 = .ok (.getfield 25, 3) := by decide +kernel
theorem d_X6_judge_90 : decode prog_8_method_10_code 90 = .ok (.iconst 0, 1) := by decide +kernel
theorem d_X6_judge_91 : decode prog_8_method_10_code 91 = .ok (.aload_n 0, 1) := by decide +kernel
theorem d_X6_judge_92 : decode prog_8_method_10_code 92 = .ok (.getfield 28, 3) := by decide +kernel
theorem d_X6_judge_95 : decode prog_8_method_10_code 95 = .ok (.iconst 0, 1) := by decide +kernel
theorem d_X6_judge_96 : decode prog_8_method_10_code 96 = .ok (.iconst 5, 1) := by decide +kernel
theorem d_X6_judge_97 : decode prog_8_method_10_code 97 = .ok (.invokestatic 125, 3) := by decide +kernel
theorem d_X6_judge_100 : decode prog_8_method_10_code 100 = .ok (.return_, 1) := by decide +kernel
theorem d_X6_addFair_0 : decode prog_8_method_11_code 0 = .ok (.aload_n 0, 1) := by decide +kernel
theorem d_X6_addFair_1 : decode prog_8_method_11_code 1 = .ok (.getfield 131, 3) := by decide +kernel
theorem d_X6_addFair_4 : decode prog_8_method_11_code 4 = .ok (.iconst 4, 1) := by decide +kernel
theorem d_X6_addFair_5 : decode prog_8_method_11_code 5 = .ok (.if_icmp .lt 5, 3) := by decide +kernel
theorem d_X6_addFair_8 : decode prog_8_method_11_code 8 = .ok (.iconst (-1), 1) := by decide +kernel
theorem d_X6_addFair_9 : decode prog_8_method_11_code 9 = .ok (.ireturn, 1) := by decide +kernel
theorem d_X6_addFair_10 : decode prog_8_method_11_code 10 = .ok (.aload_n 0, 1) := by decide +kernel
theorem d_X6_addFair_11 : decode prog_8_method_11_code 11 = .ok (.getfield 31, 3) := by decide +kernel
theorem d_X6_addFair_14 : decode prog_8_method_11_code 14 = .ok (.aload_n 0, 1) := by decide +kernel
theorem d_X6_addFair_15 : decode prog_8_method_11_code 15 = .ok (.getfield 131, 3) := by decide +kernel
theorem d_X6_addFair_18 : decode prog_8_method_11_code 18 = .ok (.iload_n 1, 1) := by decide +kernel
theorem d_X6_addFair_19 : decode prog_8_method_11_code 19 = .ok (.iastore, 1) := by decide +kernel
theorem d_X6_addFair_20 : decode prog_8_method_11_code 20 = .ok (.aload_n 0, 1) := by decide +kernel
theorem d_X6_addFair_21 : decode prog_8_method_11_code 21 = .ok (.getfield 34, 3) := by decide +kernel
theorem d_X6_addFair_24 : decode prog_8_method_11_code 24 = .ok (.aload_n 0, 1) := by decide +kernel
theorem d_X6_addFair_25 : decode prog_8_method_11_code 25 = .ok (.getfield 131, 3) := by decide +kernel
theorem d_X6_addFair_28 : decode prog_8_method_11_code 28 = .ok (.iload_n 2, 1) := by decide +kernel
theorem d_X6_addFair_29 : decode prog_8_method_11_code 29 = .ok (.iastore, 1) := by decide +kernel
theorem d_X6_addFair_30 : decode prog_8_method_11_code 30 = .ok (.aload_n 0, 1) := by decide +kernel
theorem d_X6_addFair_31 : decode prog_8_method_11_code 31 = .ok (.getfield 37, 3) := by decide +kernel
theorem d_X6_addFair_34 : decode prog_8_method_11_code 34 = .ok (.aload_n 0, 1) := by decide +kernel
theorem d_X6_addFair_35 : decode prog_8_method_11_code 35 = .ok (.getfield 131, 3) := by decide +kernel
theorem d_X6_addFair_38 : decode prog_8_method_11_code 38 = .ok (.iload_n 3, 1) := by decide +kernel
theorem d_X6_addFair_39 : decode prog_8_method_11_code 39 = .ok (.iastore, 1) := by decide +kernel
theorem d_X6_addFair_40 : decode prog_8_method_11_code 40 = .ok (.aload_n 0, 1) := by decide +kernel
theorem d_X6_addFair_41 : decode prog_8_method_11_code 41 = .ok (.dup, 1) := by decide +kernel
theorem d_X6_addFair_42 : decode prog_8_method_11_code 42 = .ok (.getfield 131, 3) := by decide +kernel
theorem d_X6_addFair_45 : decode prog_8_method_11_code 45 = .ok (.iconst 1, 1) := by decide +kernel
theorem d_X6_addFair_46 : decode prog_8_method_11_code 46 = .ok (.iadd, 1) := by decide +kernel
theorem d_X6_addFair_47 : decode prog_8_method_11_code 47 = .ok (.putfield 131, 3) := by decide +kernel
theorem d_X6_addFair_50 : decode prog_8_method_11_code 50 = .ok (.aload_n 0, 1) := by decide +kernel
theorem d_X6_addFair_51 : decode prog_8_method_11_code 51 = .ok (.getfield 131, 3) := by decide +kernel
theorem d_X6_addFair_54 : decode prog_8_method_11_code 54 = .ok (.iconst 1, 1) := by decide +kernel
theorem d_X6_addFair_55 : decode prog_8_method_11_code 55 = .ok (.isub, 1) := by decide +kernel
theorem d_X6_addFair_56 : decode prog_8_method_11_code 56 = .ok (.ireturn, 1) := by decide +kernel
theorem d_X6_clearFairs_0 : decode prog_8_method_12_code 0 = .ok (.aload_n 0, 1) := by decide +kernel
theorem d_X6_clearFairs_1 : decode prog_8_method_12_code 1 = .ok (.iconst 0, 1) := by decide +kernel
theorem d_X6_clearFairs_2 : decode prog_8_method_12_code 2 = .ok (.putfield 131, 3) := by decide +kernel
theorem d_X6_clearFairs_5 : decode prog_8_method_12_code 5 = .ok (.return_, 1) := by decide +kernel
theorem d_X6_placeOfFair_0 : decode prog_8_method_13_code 0 = .ok (.iload_n 1, 1) := by decide +kernel
theorem d_X6_placeOfFair_1 : decode prog_8_method_13_code 1 = .ok (.iconst 0, 1) := by decide +kernel
theorem d_X6_placeOfFair_2 : decode prog_8_method_13_code 2 = .ok (.aload_n 0, 1) := by decide +kernel
theorem d_X6_placeOfFair_3 : decode prog_8_method_13_code 3 = .ok (.getfield 131, 3) := by decide +kernel
theorem d_X6_placeOfFair_6 : decode prog_8_method_13_code 6 = .ok (.iconst 1, 1) := by decide +kernel
theorem d_X6_placeOfFair_7 : decode prog_8_method_13_code 7 = .ok (.isub, 1) := by decide +kernel
theorem d_X6_placeOfFair_8 : decode prog_8_method_13_code 8 = .ok (.invokestatic 79, 3) := by decide +kernel
theorem d_X6_placeOfFair_11 : decode prog_8_method_13_code 11 = .ok (.ifCond .eq 12, 3) := by decide +kernel
theorem d_X6_placeOfFair_14 : decode prog_8_method_13_code 14 = .ok (.aload_n 0, 1) := by decide +kernel
theorem d_X6_placeOfFair_15 : decode prog_8_method_13_code 15 = .ok (.getfield 31, 3) := by decide +kernel
theorem d_X6_placeOfFair_18 : decode prog_8_method_13_code 18 = .ok (.iload_n 1, 1) := by decide +kernel
theorem d_X6_placeOfFair_19 : decode prog_8_method_13_code 19 = .ok (.iaload, 1) := by decide +kernel
theorem d_X6_placeOfFair_20 : decode prog_8_method_13_code 20 = .ok (.goto 4, 3) := by decide +kernel
theorem d_X6_placeOfFair_23 : decode prog_8_method_13_code 23 = .ok (.iconst (-1), 1) := by decide +kernel
theorem d_X6_placeOfFair_24 : decode prog_8_method_13_code 24 = .ok (.ireturn, 1) := by decide +kernel
theorem d_X6_minuteOfFair_0 : decode prog_8_method_14_code 0 = .ok (.iload_n 1, 1) := by decide +kernel
theorem d_X6_minuteOfFair_1 : decode prog_8_method_14_code 1 = .ok (.iconst 0, 1) := by decide +kernel
theorem d_X6_minuteOfFair_2 : decode prog_8_method_14_code 2 = .ok (.aload_n 0, 1) := by decide +kernel
theorem d_X6_minuteOfFair_3 : decode prog_8_method_14_code 3 = .ok (.getfield 131, 3) := by decide +kernel
theorem d_X6_minuteOfFair_6 : decode prog_8_method_14_code 6 = .ok (.iconst 1, 1) := by decide +kernel
theorem d_X6_minuteOfFair_7 : decode prog_8_method_14_code 7 = .ok (.isub, 1) := by decide +kernel
theorem d_X6_minuteOfFair_8 : decode prog_8_method_14_code 8 = .ok (.invokestatic 79, 3) := by decide +kernel
theorem d_X6_minuteOfFair_11 : decode prog_8_method_14_code 11 = .ok (.ifCond .eq 12, 3) := by decide +kernel
theorem d_X6_minuteOfFair_14 : decode prog_8_method_14_code 14 = .ok (.aload_n 0, 1) := by decide +kernel
theorem d_X6_minuteOfFair_15 : decode prog_8_method_14_code 15 = .ok (.getfield 34, 3) := by decide +kernel
theorem d_X6_minuteOfFair_18 : decode prog_8_method_14_code 18 = .ok (.iload_n 1, 1) := by decide +kernel
theorem d_X6_minuteOfFair_19 : decode prog_8_method_14_code 19 = .ok (.iaload, 1) := by decide +kernel
theorem d_X6_minuteOfFair_20 : decode prog_8_method_14_code 20 = .ok (.goto 4, 3) := by decide +kernel
theorem d_X6_minuteOfFair_23 : decode prog_8_method_14_code 23 = .ok (.iconst (-1), 1) := by decide +kernel
theorem d_X6_minuteOfFair_24 : decode prog_8_method_14_code 24 = .ok (.ireturn, 1) := by decide +kernel
theorem d_X6_price_0 : decode prog_8_method_15_code 0 = .ok (.iload_n 0, 1) := by decide +kernel
theorem d_X6_price_1 : decode prog_8_method_15_code 1 = .ok (.ldc 134, 2) := by decide +kernel
theorem d_X6_price_3 : decode prog_8_method_15_code 3 = .ok (.imul, 1) := by decide +kernel
theorem d_X6_price_4 : decode prog_8_method_15_code 4 = .ok (.iload_n 1, 1) := by decide +kernel
theorem d_X6_price_5 : decode prog_8_method_15_code 5 = .ok (.iadd, 1) := by decide +kernel
theorem d_X6_price_6 : decode prog_8_method_15_code 6 = .ok (.ireturn, 1) := by decide +kernel
theorem d_X6_setPrice_0 : decode prog_8_method_16_code 0 = .ok (.iload_n 1, 1) := by decide +kernel
theorem d_X6_setPrice_1 : decode prog_8_method_16_code 1 = .ok (.iconst 0, 1) := by decide +kernel
theorem d_X6_setPrice_2 : decode prog_8_method_16_code 2 = .ok (.bipush 11, 2) := by decide +kernel
theorem d_X6_setPrice_4 : decode prog_8_method_16_code 4 = .ok (.invokestatic 79, 3) := by decide +kernel
theorem d_X6_setPrice_7 : decode prog_8_method_16_code 7 = .ok (.ifCond .eq 23, 3) := by decide +kernel
theorem d_X6_setPrice_10 : decode prog_8_method_16_code 10 = .ok (.iload_n 2, 1) := by decide +kernel
theorem d_X6_setPrice_11 : decode prog_8_method_16_code 11 = .ok (.iconst 0, 1) := by decide +kernel
theorem d_X6_setPrice_12 : decode prog_8_method_16_code 12 = .ok (.iconst 3, 1) := by decide +kernel
theorem d_X6_setPrice_13 : decode prog_8_method_16_code 13 = .ok (.invokestatic 79, 3) := by decide +kernel
theorem d_X6_setPrice_16 : decode prog_8_method_16_code 16 = .ok (.ifCond .eq 14, 3) := by decide +kernel
theorem d_X6_setPrice_19 : decode prog_8_method_16_code 19 = .ok (.aload_n 0, 1) := by decide +kernel
theorem d_X6_setPrice_20 : decode prog_8_method_16_code 20 = .ok (.getfield 40, 3) := by decide +kernel
theorem d_X6_setPrice_23 : decode prog_8_method_16_code 23 = .ok (.iload_n 1, 1) := by decide +kernel
theorem d_X6_setPrice_24 : decode prog_8_method_16_code 24 = .ok (.iconst 4, 1) := by decide +kernel
theorem d_X6_setPrice_25 : decode prog_8_method_16_code 25 = .ok (.imul, 1) := by decide +kernel
theorem d_X6_setPrice_26 : decode prog_8_method_16_code 26 = .ok (.iload_n 2, 1) := by decide +kernel
theorem d_X6_setPrice_27 : decode prog_8_method_16_code 27 = .ok (.iadd, 1) := by decide +kernel
theorem d_X6_setPrice_28 : decode prog_8_method_16_code 28 = .ok (.iload_n 3, 1) := by decide +kernel
theorem d_X6_setPrice_29 : decode prog_8_method_16_code 29 = .ok (.iastore, 1) := by decide +kernel
theorem d_X6_setPrice_30 : decode prog_8_method_16_code 30 = .ok (.return_, 1) := by decide +kernel
theorem d_X6_allWanted_0 : decode prog_8_method_17_code 0 = .ok (.iconst 0, 1) := by decide +kernel
theorem d_X6_allWanted_1 : decode prog_8_method_17_code 1 = .ok (.istore_n 1, 1) := by decide +kernel
theorem d_X6_allWanted_2 : decode prog_8_method_17_code 2 = .ok (.iconst 0, 1) := by decide +kernel
theorem d_X6_allWanted_3 : decode prog_8_method_17_code 3 = .ok (.istore_n 2, 1) := by decide +kernel
theorem d_X6_allWanted_4 : decode prog_8_method_17_code 4 = .ok (.iload_n 2, 1) := by decide +kernel
theorem d_X6_allWanted_5 : decode prog_8_method_17_code 5 = .ok (.aload_n 0, 1) := by decide +kernel
theorem d_X6_allWanted_6 : decode prog_8_method_17_code 6 = .ok (.getfield 131, 3) := by decide +kernel
theorem d_X6_allWanted_9 : decode prog_8_method_17_code 9 = .ok (.if_icmp .ge 22, 3) := by decide +kernel
theorem d_X6_allWanted_12 : decode prog_8_method_17_code 12 = .ok (.iload_n 1, 1) := by decide +kernel
theorem d_X6_allWanted_13 : decode prog_8_method_17_code 13 = .ok (.aload_n 0, 1) := by decide +kernel
theorem d_X6_allWanted_14 : decode prog_8_method_17_code 14 = .ok (.getfield 37, 3) := by decide +kernel
theorem d_X6_allWanted_17 : decode prog_8_method_17_code 17 = .ok (.iload_n 2, 1) := by decide +kernel
theorem d_X6_allWanted_18 : decode prog_8_method_17_code 18 = .ok (.iaload, 1) := by decide +kernel
theorem d_X6_allWanted_19 : decode prog_8_method_17_code 19 = .ok (.iconst 2, 1) := by decide +kernel
theorem d_X6_allWanted_20 : decode prog_8_method_17_code 20 = .ok (.iload_n 2, 1) := by decide +kernel
theorem d_X6_allWanted_21 : decode prog_8_method_17_code 21 = .ok (.imul, 1) := by decide +kernel
theorem d_X6_allWanted_22 : decode prog_8_method_17_code 22 = .ok (.ishl, 1) := by decide +kernel
theorem d_X6_allWanted_23 : decode prog_8_method_17_code 23 = .ok (.ior, 1) := by decide +kernel
theorem d_X6_allWanted_24 : decode prog_8_method_17_code 24 = .ok (.istore_n 1, 1) := by decide +kernel
theorem d_X6_allWanted_25 : decode prog_8_method_17_code 25 = .ok (.iinc 2 1, 3) := by decide +kernel
theorem d_X6_allWanted_28 : decode prog_8_method_17_code 28 = .ok (.goto (-24), 3) := by decide +kernel
theorem d_X6_allWanted_31 : decode prog_8_method_17_code 31 = .ok (.iload_n 1, 1) := by decide +kernel
theorem d_X6_allWanted_32 : decode prog_8_method_17_code 32 = .ok (.ireturn, 1) := by decide +kernel
theorem d_X6_lend_0 : decode prog_8_method_18_code 0 = .ok (.iload_n 1, 1) := by decide +kernel
theorem d_X6_lend_1 : decode prog_8_method_18_code 1 = .ok (.bipush 12, 2) := by decide +kernel
theorem d_X6_lend_3 : decode prog_8_method_18_code 3 = .ok (.invokestatic 119, 3) := by decide +kernel
theorem d_X6_lend_6 : decode prog_8_method_18_code 6 = .ok (.istore_n 2, 1) := by decide +kernel
theorem d_X6_lend_7 : decode prog_8_method_18_code 7 = .ok (.aload_n 0, 1) := by decide +kernel
theorem d_X6_lend_8 : decode prog_8_method_18_code 8 = .ok (.invokevirtual 135, 3) := by decide +kernel
theorem d_X6_lend_11 : decode prog_8_method_18_code 11 = .ok (.istore_n 3, 1) := by decide +kernel
theorem d_X6_lend_12 : decode prog_8_method_18_code 12 = .ok (.iconst 0, 1) := by decide +kernel
theorem d_X6_lend_13 : decode prog_8_method_18_code 13 = .ok (.istore 4, 2) := by decide +kernel
theorem d_X6_lend_15 : decode prog_8_method_18_code 15 = .ok (.iload 4, 2) := by decide +kernel
theorem d_X6_lend_17 : decode prog_8_method_18_code 17 = .ok (.iload_n 3, 1) := by decide +kernel
theorem d_X6_lend_18 : decode prog_8_method_18_code 18 = .ok (.if_icmp .gt 33, 3) := by decide +kernel
theorem d_X6_lend_21 : decode prog_8_method_18_code 21 = .ok (.aload_n 0, 1) := by decide +kernel
theorem d_X6_lend_22 : decode prog_8_method_18_code 22 = .ok (.getfield 43, 3) := by decide +kernel
theorem d_X6_lend_25 : decode prog_8_method_18_code 25 = .ok (.iload_n 2, 1) := by decide +kernel
theorem d_X6_lend_26 : decode prog_8_method_18_code 26 = .ok (.sipush 256, 3) := by decide +kernel
theorem d_X6_lend_29 : decode prog_8_method_18_code 29 = .ok (.imul, 1) := by decide +kernel
theorem d_X6_lend_30 : decode prog_8_method_18_code 30 = .ok (.iload 4, 2) := by decide +kernel
theorem d_X6_lend_32 : decode prog_8_method_18_code 32 = .ok (.iadd, 1) := by decide +kernel
theorem d_X6_lend_33 : decode prog_8_method_18_code 33 = .ok (.iload 4, 2) := by decide +kernel
theorem d_X6_lend_35 : decode prog_8_method_18_code 35 = .ok (.ifCond .ne 7, 3) := by decide +kernel
theorem d_X6_lend_38 : decode prog_8_method_18_code 38 = .ok (.iconst 0, 1) := by decide +kernel
theorem d_X6_lend_39 : decode prog_8_method_18_code 39 = .ok (.goto 5, 3) := by decide +kernel
theorem d_X6_lend_42 : decode prog_8_method_18_code 42 = .ok (.ldc 139, 2) := by decide +kernel
theorem d_X6_lend_44 : decode prog_8_method_18_code 44 = .ok (.iastore, 1) := by decide +kernel
theorem d_X6_lend_45 : decode prog_8_method_18_code 45 = .ok (.iinc 4 1, 3) := by decide +kernel
theorem d_X6_lend_48 : decode prog_8_method_18_code 48 = .ok (.goto (-33), 3) := by decide +kernel
theorem d_X6_lend_51 : decode prog_8_method_18_code 51 = .ok (.iload_n 2, 1) := by decide +kernel
theorem d_X6_lend_52 : decode prog_8_method_18_code 52 = .ok (.iconst 1, 1) := by decide +kernel
theorem d_X6_lend_53 : decode prog_8_method_18_code 53 = .ok (.isub, 1) := by decide +kernel
theorem d_X6_lend_54 : decode prog_8_method_18_code 54 = .ok (.istore 4, 2) := by decide +kernel
theorem d_X6_lend_56 : decode prog_8_method_18_code 56 = .ok (.iload 4, 2) := by decide +kernel
theorem d_X6_lend_58 : decode prog_8_method_18_code 58 = .ok (.ifCond .lt 46, 3) := by decide +kernel
theorem d_X6_lend_61 : decode prog_8_method_18_code 61 = .ok (.iconst 0, 1) := by decide +kernel
theorem d_X6_lend_62 : decode prog_8_method_18_code 62 = .ok (.istore 5, 2) := by decide +kernel
theorem d_X6_lend_64 : decode prog_8_method_18_code 64 = .ok (.iload 5, 2) := by decide +kernel
theorem d_X6_lend_66 : decode prog_8_method_18_code 66 = .ok (.iload_n 3, 1) := by decide +kernel
theorem d_X6_lend_67 : decode prog_8_method_18_code 67 = .ok (.if_icmp .gt 31, 3) := by decide +kernel
theorem d_X6_lend_70 : decode prog_8_method_18_code 70 = .ok (.aload_n 0, 1) := by decide +kernel
theorem d_X6_lend_71 : decode prog_8_method_18_code 71 = .ok (.getfield 43, 3) := by decide +kernel
theorem d_X6_lend_74 : decode prog_8_method_18_code 74 = .ok (.iload 4, 2) := by decide +kernel
theorem d_X6_lend_76 : decode prog_8_method_18_code 76 = .ok (.sipush 256, 3) := by decide +kernel
theorem d_X6_lend_79 : decode prog_8_method_18_code 79 = .ok (.imul, 1) := by decide +kernel
theorem d_X6_lend_80 : decode prog_8_method_18_code 80 = .ok (.iload 5, 2) := by decide +kernel
theorem d_X6_lend_82 : decode prog_8_method_18_code 82 = .ok (.iadd, 1) := by decide +kernel
theorem d_X6_lend_83 : decode prog_8_method_18_code 83 = .ok (.aload_n 0, 1) := by decide +kernel
theorem d_X6_lend_84 : decode prog_8_method_18_code 84 = .ok (.iload 4, 2) := by decide +kernel
theorem d_X6_lend_86 : decode prog_8_method_18_code 86 = .ok (.iload 5, 2) := by decide +kernel
theorem d_X6_lend_88 : decode prog_8_method_18_code 88 = .ok (.invokevirtual 140, 3) := by decide +kernel
theorem d_X6_lend_91 : decode prog_8_method_18_code 91 = .ok (.iastore, 1) := by decide +kernel
theorem d_X6_lend_92 : decode prog_8_method_18_code 92 = .ok (.iinc 5 1, 3) := by decide +kernel
theorem d_X6_lend_95 : decode prog_8_method_18_code 95 = .ok (.goto (-31), 3) := by decide +kernel
theorem d_X6_lend_98 : decode prog_8_method_18_code 98 = .ok (.iinc 4 (-1), 3) := by decide +kernel
theorem d_X6_lend_101 : decode prog_8_method_18_code 101 = .ok (.goto (-45), 3) := by decide +kernel
theorem d_X6_lend_104 : decode prog_8_method_18_code 104 = .ok (.aload_n 0, 1) := by decide +kernel
theorem d_X6_lend_105 : decode prog_8_method_18_code 105 = .ok (.getfield 43, 3) := by decide +kernel
theorem d_X6_lend_108 : decode prog_8_method_18_code 108 = .ok (.iload_n 3, 1) := by decide +kernel
theorem d_X6_lend_109 : decode prog_8_method_18_code 109 = .ok (.iaload, 1) := by decide +kernel
theorem d_X6_lend_110 : decode prog_8_method_18_code 110 = .ok (.ldc 139, 2) := by decide +kernel
theorem d_X6_lend_112 : decode prog_8_method_18_code 112 = .ok (.if_icmp .lt 5, 3) := by decide +kernel
theorem d_X6_lend_115 : decode prog_8_method_18_code 115 = .ok (.iconst 0, 1) := by decide +kernel
theorem d_X6_lend_116 : decode prog_8_method_18_code 116 = .ok (.ireturn, 1) := by decide +kernel
theorem d_X6_lend_117 : decode prog_8_method_18_code 117 = .ok (.aload_n 0, 1) := by decide +kernel
theorem d_X6_lend_118 : decode prog_8_method_18_code 118 = .ok (.iload_n 2, 1) := by decide +kernel
theorem d_X6_lend_119 : decode prog_8_method_18_code 119 = .ok (.iload_n 3, 1) := by decide +kernel
theorem d_X6_lend_120 : decode prog_8_method_18_code 120 = .ok (.invokevirtual 143, 3) := by decide +kernel
theorem d_X6_lend_123 : decode prog_8_method_18_code 123 = .ok (.iconst 1, 1) := by decide +kernel
theorem d_X6_lend_124 : decode prog_8_method_18_code 124 = .ok (.ireturn, 1) := by decide +kernel
theorem d_X6_costWith_0 : decode prog_8_method_19_code 0 = .ok (.aload_n 0, 1) := by decide +kernel
theorem d_X6_costWith_1 : decode prog_8_method_19_code 1 = .ok (.getfield 40, 3) := by decide +kernel
theorem d_X6_costWith_4 : decode prog_8_method_19_code 4 = .ok (.iload_n 1, 1) := by decide +kernel
theorem d_X6_costWith_5 : decode prog_8_method_19_code 5 = .ok (.iconst 4, 1) := by decide +kernel
theorem d_X6_costWith_6 : decode prog_8_method_19_code 6 = .ok (.imul, 1) := by decide +kernel
theorem d_X6_costWith_7 : decode prog_8_method_19_code 7 = .ok (.iload_n 2, 1) := by decide +kernel
theorem d_X6_costWith_8 : decode prog_8_method_19_code 8 = .ok (.iadd, 1) := by decide +kernel
theorem d_X6_costWith_9 : decode prog_8_method_19_code 9 = .ok (.iaload, 1) := by decide +kernel
theorem d_X6_costWith_10 : decode prog_8_method_19_code 10 = .ok (.istore 4, 2) := by decide +kernel
theorem d_X6_costWith_12 : decode prog_8_method_19_code 12 = .ok (.iload_n 3, 1) := by decide +kernel
theorem d_X6_costWith_13 : decode prog_8_method_19_code 13 = .ok (.iconst 2, 1) := by decide +kernel
theorem d_X6_costWith_14 : decode prog_8_method_19_code 14 = .ok (.iload_n 2, 1) := by decide +kernel
theorem d_X6_costWith_15 : decode prog_8_method_19_code 15 = .ok (.imul, 1) := by decide +kernel
theorem d_X6_costWith_16 : decode prog_8_method_19_code 16 = .ok (.ishr, 1) := by decide +kernel
theorem d_X6_costWith_17 : decode prog_8_method_19_code 17 = .ok (.iconst 3, 1) := by decide +kernel
theorem d_X6_costWith_18 : decode prog_8_method_19_code 18 = .ok (.iand, 1) := by decide +kernel
theorem d_X6_costWith_19 : decode prog_8_method_19_code 19 = .ok (.ifCond .eq 9, 3) := by decide +kernel
theorem d_X6_costWith_22 : decode prog_8_method_19_code 22 = .ok (.iload 4, 2) := by decide +kernel
theorem d_X6_costWith_24 : decode prog_8_method_19_code 24 = .ok (.iconst (-1), 1) := by decide +kernel
theorem d_X6_costWith_25 : decode prog_8_method_19_code 25 = .ok (.if_icmp .ne 6, 3) := by decide +kernel
theorem d_X6_costWith_28 : decode prog_8_method_19_code 28 = .ok (.ldc 139, 2) := by decide +kernel
theorem d_X6_costWith_30 : decode prog_8_method_19_code 30 = .ok (.ireturn, 1) := by decide +kernel
theorem d_X6_costWith_31 : decode prog_8_method_19_code 31 = .ok (.ldc 139, 2) := by decide +kernel
theorem d_X6_costWith_33 : decode prog_8_method_19_code 33 = .ok (.iload 4, 2) := by decide +kernel
theorem d_X6_costWith_35 : decode prog_8_method_19_code 35 = .ok (.aload_n 0, 1) := by decide +kernel
theorem d_X6_costWith_36 : decode prog_8_method_19_code 36 = .ok (.getfield 43, 3) := by decide +kernel
theorem d_X6_costWith_39 : decode prog_8_method_19_code 39 = .ok (.iload_n 1, 1) := by decide +kernel
theorem d_X6_costWith_40 : decode prog_8_method_19_code 40 = .ok (.iconst 1, 1) := by decide +kernel
theorem d_X6_costWith_41 : decode prog_8_method_19_code 41 = .ok (.iadd, 1) := by decide +kernel
theorem d_X6_costWith_42 : decode prog_8_method_19_code 42 = .ok (.sipush 256, 3) := by decide +kernel
theorem d_X6_costWith_45 : decode prog_8_method_19_code 45 = .ok (.imul, 1) := by decide +kernel
theorem d_X6_costWith_46 : decode prog_8_method_19_code 46 = .ok (.iload_n 3, 1) := by decide +kernel
theorem d_X6_costWith_47 : decode prog_8_method_19_code 47 = .ok (.iadd, 1) := by decide +kernel
theorem d_X6_costWith_48 : decode prog_8_method_19_code 48 = .ok (.iconst 1, 1) := by decide +kernel
theorem d_X6_costWith_49 : decode prog_8_method_19_code 49 = .ok (.iconst 2, 1) := by decide +kernel
theorem d_X6_costWith_50 : decode prog_8_method_19_code 50 = .ok (.iload_n 2, 1) := by decide +kernel
theorem d_X6_costWith_51 : decode prog_8_method_19_code 51 = .ok (.imul, 1) := by decide +kernel
theorem d_X6_costWith_52 : decode prog_8_method_19_code 52 = .ok (.ishl, 1) := by decide +kernel
theorem d_X6_costWith_53 : decode prog_8_method_19_code 53 = .ok (.isub, 1) := by decide +kernel
theorem d_X6_costWith_54 : decode prog_8_method_19_code 54 = .ok (.iaload, 1) := by decide +kernel
theorem d_X6_costWith_55 : decode prog_8_method_19_code 55 = .ok (.iadd, 1) := by decide +kernel
theorem d_X6_costWith_56 : decode prog_8_method_19_code 56 = .ok (.invokestatic 119, 3) := by decide +kernel
theorem d_X6_costWith_59 : decode prog_8_method_19_code 59 = .ok (.ireturn, 1) := by decide +kernel
theorem d_X6_leastCost_0 : decode prog_8_method_20_code 0 = .ok (.aload_n 0, 1) := by decide +kernel
theorem d_X6_leastCost_1 : decode prog_8_method_20_code 1 = .ok (.getfield 43, 3) := by decide +kernel
theorem d_X6_leastCost_4 : decode prog_8_method_20_code 4 = .ok (.iload_n 1, 1) := by decide +kernel
theorem d_X6_leastCost_5 : decode prog_8_method_20_code 5 = .ok (.iconst 1, 1) := by decide +kernel
theorem d_X6_leastCost_6 : decode prog_8_method_20_code 6 = .ok (.iadd, 1) := by decide +kernel
theorem d_X6_leastCost_7 : decode prog_8_method_20_code 7 = .ok (.sipush 256, 3) := by decide +kernel
theorem d_X6_leastCost_10 : decode prog_8_method_20_code 10 = .ok (.imul, 1) := by decide +kernel
theorem d_X6_leastCost_11 : decode prog_8_method_20_code 11 = .ok (.iload_n 2, 1) := by decide +kernel
theorem d_X6_leastCost_12 : decode prog_8_method_20_code 12 = .ok (.iadd, 1) := by decide +kernel
theorem d_X6_leastCost_13 : decode prog_8_method_20_code 13 = .ok (.iaload, 1) := by decide +kernel
theorem d_X6_leastCost_14 : decode prog_8_method_20_code 14 = .ok (.istore_n 3, 1) := by decide +kernel
theorem d_X6_leastCost_15 : decode prog_8_method_20_code 15 = .ok (.iconst 0, 1) := by decide +kernel
theorem d_X6_leastCost_16 : decode prog_8_method_20_code 16 = .ok (.istore 4, 2) := by decide +kernel
theorem d_X6_leastCost_18 : decode prog_8_method_20_code 18 = .ok (.iload 4, 2) := by decide +kernel
theorem d_X6_leastCost_20 : decode prog_8_method_20_code 20 = .ok (.aload_n 0, 1) := by decide +kernel
theorem d_X6_leastCost_21 : decode prog_8_method_20_code 21 = .ok (.getfield 131, 3) := by decide +kernel
theorem d_X6_leastCost_24 : decode prog_8_method_20_code 24 = .ok (.if_icmp .ge 22, 3) := by decide +kernel
theorem d_X6_leastCost_27 : decode prog_8_method_20_code 27 = .ok (.iload_n 3, 1) := by decide +kernel
theorem d_X6_leastCost_28 : decode prog_8_method_20_code 28 = .ok (.aload_n 0, 1) := by decide +kernel
theorem d_X6_leastCost_29 : decode prog_8_method_20_code 29 = .ok (.iload_n 1, 1) := by decide +kernel
theorem d_X6_leastCost_30 : decode prog_8_method_20_code 30 = .ok (.iload 4, 2) := by decide +kernel
theorem d_X6_leastCost_32 : decode prog_8_method_20_code 32 = .ok (.iload_n 2, 1) := by decide +kernel
theorem d_X6_leastCost_33 : decode prog_8_method_20_code 33 = .ok (.invokevirtual 147, 3) := by decide +kernel
theorem d_X6_leastCost_36 : decode prog_8_method_20_code 36 = .ok (.invokestatic 119, 3) := by decide +kernel
theorem d_X6_leastCost_39 : decode prog_8_method_20_code 39 = .ok (.istore_n 3, 1) := by decide +kernel
theorem d_X6_leastCost_40 : decode prog_8_method_20_code 40 = .ok (.iinc 4 1, 3) := by decide +kernel
theorem d_X6_leastCost_43 : decode prog_8_method_20_code 43 = .ok (.goto (-25), 3) := by decide +kernel
theorem d_X6_leastCost_46 : decode prog_8_method_20_code 46 = .ok (.iload_n 3, 1) := by decide +kernel
theorem d_X6_leastCost_47 : decode prog_8_method_20_code 47 = .ok (.ireturn, 1) := by decide +kernel
theorem d_X6_traceLending_0 : decode prog_8_method_21_code 0 = .ok (.iload_n 2, 1) := by decide +kernel
theorem d_X6_traceLending_1 : decode prog_8_method_21_code 1 = .ok (.istore_n 3, 1) := by decide +kernel
theorem d_X6_traceLending_2 : decode prog_8_method_21_code 2 = .ok (.iconst 0, 1) := by decide +kernel
theorem d_X6_traceLending_3 : decode prog_8_method_21_code 3 = .ok (.istore 4, 2) := by decide +kernel
theorem d_X6_traceLending_5 : decode prog_8_method_21_code 5 = .ok (.iload 4, 2) := by decide +kernel
theorem d_X6_traceLending_7 : decode prog_8_method_21_code 7 = .ok (.iload_n 1, 1) := by decide +kernel
theorem d_X6_traceLending_8 : decode prog_8_method_21_code 8 = .ok (.if_icmp .ge 116, 3) := by decide +kernel
theorem d_X6_traceLending_11 : decode prog_8_method_21_code 11 = .ok (.aload_n 0, 1) := by decide +kernel
theorem d_X6_traceLending_12 : decode prog_8_method_21_code 12 = .ok (.getfield 46, 3) := by decide +kernel
theorem d_X6_traceLending_15 : decode prog_8_method_21_code 15 = .ok (.iload 4, 2) := by decide +kernel
theorem d_X6_traceLending_17 : decode prog_8_method_21_code 17 = .ok (.iconst (-1), 1) := by decide +kernel
theorem d_X6_traceLending_18 : decode prog_8_method_21_code 18 = .ok (.iastore, 1) := by decide +kernel
theorem d_X6_traceLending_19 : decode prog_8_method_21_code 19 = .ok (.iconst 0, 1) := by decide +kernel
theorem d_X6_traceLending_20 : decode prog_8_method_21_code 20 = .ok (.istore 5, 2) := by decide +kernel
theorem d_X6_traceLending_22 : decode prog_8_method_21_code 22 = .ok (.iload 5, 2) := by decide +kernel
theorem d_X6_traceLending_24 : decode prog_8_method_21_code 24 = .ok (.aload_n 0, 1) := by decide +kernel
theorem d_X6_traceLending_25 : decode prog_8_method_21_code 25 = .ok (.getfield 131, 3) := by decide +kernel
theorem d_X6_traceLending_28 : decode prog_8_method_21_code 28 = .ok (.if_icmp .ge 65, 3) := by decide +kernel
theorem d_X6_traceLending_31 : decode prog_8_method_21_code 31 = .ok (.aload_n 0, 1) := by decide +kernel
theorem d_X6_traceLending_32 : decode prog_8_method_21_code 32 = .ok (.getfield 46, 3) := by decide +kernel
theorem d_X6_traceLending_35 : decode prog_8_method_21_code 35 = .ok (.iload 4, 2) := by decide +kernel
theorem d_X6_traceLending_37 : decode prog_8_method_21_code 37 = .ok (.iaload, 1) := by decide +kernel
theorem d_X6_traceLending_38 : decode prog_8_method_21_code 38 = .ok (.iconst (-1), 1) := by decide +kernel
theorem d_X6_traceLending_39 : decode prog_8_method_21_code 39 = .ok (.if_icmp .ne 54, 3) := by decide +kernel
theorem d_X6_traceLending_42 : decode prog_8_method_21_code 42 = .ok (.aload_n 0, 1) := by decide +kernel
theorem d_X6_traceLending_43 : decode prog_8_method_21_code 43 = .ok (.iload 4, 2) := by decide +kernel
theorem d_X6_traceLending_45 : decode prog_8_method_21_code 45 = .ok (.iload 5, 2) := by decide +kernel
theorem d_X6_traceLending_47 : decode prog_8_method_21_code 47 = .ok (.iload_n 3, 1) := by decide +kernel
theorem d_X6_traceLending_48 : decode prog_8_method_21_code 48 = .ok (.invokevirtual 147, 3) := by decide +kernel
theorem d_X6_traceLending_51 : decode prog_8_method_21_code 51 = .ok (.istore 6, 2) := by decide +kernel
theorem d_X6_traceLending_53 : decode prog_8_method_21_code 53 = .ok (.iload 6, 2) := by decide +kernel
theorem d_X6_traceLending_55 : decode prog_8_method_21_code 55 = .ok (.ldc 139, 2) := by decide +kernel
theorem d_X6_traceLending_57 : decode prog_8_method_21_code 57 = .ok (.if_icmp .ge 30, 3) := by decide +kernel
theorem d_X6_traceLending_60 : decode prog_8_method_21_code 60 = .ok (.iload 6, 2) := by decide +kernel
theorem d_X6_traceLending_62 : decode prog_8_method_21_code 62 = .ok (.aload_n 0, 1) := by decide +kernel
theorem d_X6_traceLending_63 : decode prog_8_method_21_code 63 = .ok (.getfield 43, 3) := by decide +kernel
theorem d_X6_traceLending_66 : decode prog_8_method_21_code 66 = .ok (.iload 4, 2) := by decide +kernel
theorem d_X6_traceLending_68 : decode prog_8_method_21_code 68 = .ok (.sipush 256, 3) := by decide +kernel
theorem d_X6_traceLending_71 : decode prog_8_method_21_code 71 = .ok (.imul, 1) := by decide +kernel
theorem d_X6_traceLending_72 : decode prog_8_method_21_code 72 = .ok (.iload_n 3, 1) := by decide +kernel
theorem d_X6_traceLending_73 : decode prog_8_method_21_code 73 = .ok (.iadd, 1) := by decide +kernel
theorem d_X6_traceLending_74 : decode prog_8_method_21_code 74 = .ok (.iaload, 1) := by decide +kernel
theorem d_X6_traceLending_75 : decode prog_8_method_21_code 75 = .ok (.if_icmp .ne 12, 3) := by decide +kernel
theorem d_X6_traceLending_78 : decode prog_8_method_21_code 78 = .ok (.aload_n 0, 1) := by decide +kernel
theorem d_X6_traceLending_79 : decode prog_8_method_21_code 79 = .ok (.getfield 46, 3) := by decide +kernel
theorem d_X6_traceLending_82 : decode prog_8_method_21_code 82 = .ok (.iload 4, 2) := by decide +kernel
theorem d_X6_traceLending_84 : decode prog_8_method_21_code 84 = .ok (.iload 5, 2) := by decide +kernel
theorem d_X6_traceLending_86 : decode prog_8_method_21_code 86 = .ok (.iastore, 1) := by decide +kernel
theorem d_X6_traceLending_87 : decode prog_8_method_21_code 87 = .ok (.iinc 5 1, 3) := by decide +kernel
theorem d_X6_traceLending_90 : decode prog_8_method_21_code 90 = .ok (.goto (-68), 3) := by decide +kernel
theorem d_X6_traceLending_93 : decode prog_8_method_21_code 93 = .ok (.aload_n 0, 1) := by decide +kernel
theorem d_X6_traceLending_94 : decode prog_8_method_21_code 94 = .ok (.getfield 46, 3) := by decide +kernel
theorem d_X6_traceLending_97 : decode prog_8_method_21_code 97 = .ok (.iload 4, 2) := by decide +kernel
theorem d_X6_traceLending_99 : decode prog_8_method_21_code 99 = .ok (.iaload, 1) := by decide +kernel
theorem d_X6_traceLending_100 : decode prog_8_method_21_code 100 = .ok (.iconst (-1), 1) := by decide +kernel
theorem d_X6_traceLending_101 : decode prog_8_method_21_code 101 = .ok (.if_icmp .eq 17, 3) := by decide +kernel
theorem d_X6_traceLending_104 : decode prog_8_method_21_code 104 = .ok (.iload_n 3, 1) := by decide +kernel
theorem d_X6_traceLending_105 : decode prog_8_method_21_code 105 = .ok (.iconst 1, 1) := by decide +kernel
theorem d_X6_traceLending_106 : decode prog_8_method_21_code 106 = .ok (.iconst 2, 1) := by decide +kernel
theorem d_X6_traceLending_107 : decode prog_8_method_21_code 107 = .ok (.aload_n 0, 1) := by decide +kernel
theorem d_X6_traceLending_108 : decode prog_8_method_21_code 108 = .ok (.getfield 46, 3) := by decide +kernel
theorem d_X6_traceLending_111 : decode prog_8_method_21_code 111 = .ok (.iload 4, 2) := by decide +kernel
theorem d_X6_traceLending_113 : decode prog_8_method_21_code 113 = .ok (.iaload, 1) := by decide +kernel
theorem d_X6_traceLending_114 : decode prog_8_method_21_code 114 = .ok (.imul, 1) := by decide +kernel
theorem d_X6_traceLending_115 : decode prog_8_method_21_code 115 = .ok (.ishl, 1) := by decide +kernel
theorem d_X6_traceLending_116 : decode prog_8_method_21_code 116 = .ok (.isub, 1) := by decide +kernel
theorem d_X6_traceLending_117 : decode prog_8_method_21_code 117 = .ok (.istore_n 3, 1) := by decide +kernel
theorem d_X6_traceLending_118 : decode prog_8_method_21_code 118 = .ok (.iinc 4 1, 3) := by decide +kernel
theorem d_X6_traceLending_121 : decode prog_8_method_21_code 121 = .ok (.goto (-116), 3) := by decide +kernel
theorem d_X6_traceLending_124 : decode prog_8_method_21_code 124 = .ok (.return_, 1) := by decide +kernel
theorem d_X6_pointsLost_0 : decode prog_8_method_22_code 0 = .ok (.aload_n 0, 1) := by decide +kernel
theorem d_X6_pointsLost_1 : decode prog_8_method_22_code 1 = .ok (.getfield 43, 3) := by decide +kernel
theorem d_X6_pointsLost_4 : decode prog_8_method_22_code 4 = .ok (.aload_n 0, 1) := by decide +kernel
theorem d_X6_pointsLost_5 : decode prog_8_method_22_code 5 = .ok (.invokevirtual 135, 3) := by decide +kernel
theorem d_X6_pointsLost_8 : decode prog_8_method_22_code 8 = .ok (.iaload, 1) := by decide +kernel
theorem d_X6_pointsLost_9 : decode prog_8_method_22_code 9 = .ok (.ldc 134, 2) := by decide +kernel
theorem d_X6_pointsLost_11 : decode prog_8_method_22_code 11 = .ok (.idiv, 1) := by decide +kernel
theorem d_X6_pointsLost_12 : decode prog_8_method_22_code 12 = .ok (.ireturn, 1) := by decide +kernel
theorem d_X6_minutesWalked_0 : decode prog_8_method_23_code 0 = .ok (.aload_n 0, 1) := by decide +kernel
theorem d_X6_minutesWalked_1 : decode prog_8_method_23_code 1 = .ok (.getfield 43, 3) := by decide +kernel
theorem d_X6_minutesWalked_4 : decode prog_8_method_23_code 4 = .ok (.aload_n 0, 1) := by decide +kernel
theorem d_X6_minutesWalked_5 : decode prog_8_method_23_code 5 = .ok (.invokevirtual 135, 3) := by decide +kernel
theorem d_X6_minutesWalked_8 : decode prog_8_method_23_code 8 = .ok (.iaload, 1) := by decide +kernel
theorem d_X6_minutesWalked_9 : decode prog_8_method_23_code 9 = .ok (.ldc 134, 2) := by decide +kernel
theorem d_X6_minutesWalked_11 : decode prog_8_method_23_code 11 = .ok (.irem, 1) := by decide +kernel
theorem d_X6_minutesWalked_12 : decode prog_8_method_23_code 12 = .ok (.ireturn, 1) := by decide +kernel
theorem d_X6_fairOf_0 : decode prog_8_method_24_code 0 = .ok (.iload_n 1, 1) := by decide +kernel
theorem d_X6_fairOf_1 : decode prog_8_method_24_code 1 = .ok (.iconst 0, 1) := by decide +kernel
theorem d_X6_fairOf_2 : decode prog_8_method_24_code 2 = .ok (.bipush 11, 2) := by decide +kernel
theorem d_X6_fairOf_4 : decode prog_8_method_24_code 4 = .ok (.invokestatic 79, 3) := by decide +kernel
theorem d_X6_fairOf_7 : decode prog_8_method_24_code 7 = .ok (.ifCond .eq 12, 3) := by decide +kernel
theorem d_X6_fairOf_10 : decode prog_8_method_24_code 10 = .ok (.aload_n 0, 1) := by decide +kernel
theorem d_X6_fairOf_11 : decode prog_8_method_24_code 11 = .ok (.getfield 46, 3) := by decide +kernel
theorem d_X6_fairOf_14 : decode prog_8_method_24_code 14 = .ok (.iload_n 1, 1) := by decide +kernel
theorem d_X6_fairOf_15 : decode prog_8_method_24_code 15 = .ok (.iaload, 1) := by decide +kernel
theorem d_X6_fairOf_16 : decode prog_8_method_24_code 16 = .ok (.goto 4, 3) := by decide +kernel
theorem d_X6_fairOf_19 : decode prog_8_method_24_code 19 = .ok (.iconst (-1), 1) := by decide +kernel
theorem d_X6_fairOf_20 : decode prog_8_method_24_code 20 = .ok (.ireturn, 1) := by decide +kernel
theorem d_X7_init_0 : decode prog_9_method_1_code 0 = .ok (.aload_n 0, 1) := by decide +kernel
theorem d_X7_init_1 : decode prog_9_method_1_code 1 = .ok (.invokespecial 3, 3) := by decide +kernel
theorem d_X7_init_4 : decode prog_9_method_1_code 4 = .ok (.aload_n 0, 1) := by decide +kernel
theorem d_X7_init_5 : decode prog_9_method_1_code 5 = .ok (.sipush 400, 3) := by decide +kernel
theorem d_X7_init_8 : decode prog_9_method_1_code 8 = .ok (.newarray .int, 2) := by decide +kernel
theorem d_X7_init_10 : decode prog_9_method_1_code 10 = .ok (.putfield 11, 3) := by decide +kernel
theorem d_X7_init_13 : decode prog_9_method_1_code 13 = .ok (.aload_n 0, 1) := by decide +kernel
theorem d_X7_init_14 : decode prog_9_method_1_code 14 = .ok (.sipush 400, 3) := by decide +kernel
theorem d_X7_init_17 : decode prog_9_method_1_code 17 = .ok (.newarray .int, 2) := by decide +kernel
theorem d_X7_init_19 : decode prog_9_method_1_code 19 = .ok (.putfield 15, 3) := by decide +kernel
theorem d_X7_init_22 : decode prog_9_method_1_code 22 = .ok (.aload_n 0, 1) := by decide +kernel
theorem d_X7_init_23 : decode prog_9_method_1_code 23 = .ok (.sipush 400, 3) := by decide +kernel
theorem d_X7_init_26 : decode prog_9_method_1_code 26 = .ok (.newarray .int, 2) := by decide +kernel
theorem d_X7_init_28 : decode prog_9_method_1_code 28 = .ok (.putfield 18, 3) := by decide +kernel
theorem d_X7_init_31 : decode prog_9_method_1_code 31 = .ok (.aload_n 0, 1) := by decide +kernel
theorem d_X7_init_32 : decode prog_9_method_1_code 32 = .ok (.sipush 400, 3) := by decide +kernel
theorem d_X7_init_35 : decode prog_9_method_1_code 35 = .ok (.newarray .int, 2) := by decide +kernel
theorem d_X7_init_37 : decode prog_9_method_1_code 37 = .ok (.putfield 21, 3) := by decide +kernel
theorem d_X7_init_40 : decode prog_9_method_1_code 40 = .ok (.aload_n 0, 1) := by decide +kernel
theorem d_X7_init_41 : decode prog_9_method_1_code 41 = .ok (.sipush 400, 3) := by decide +kernel
theorem d_X7_init_44 : decode prog_9_method_1_code 44 = .ok (.newarray .int, 2) := by decide +kernel
theorem d_X7_init_46 : decode prog_9_method_1_code 46 = .ok (.putfield 24, 3) := by decide +kernel
theorem d_X7_init_49 : decode prog_9_method_1_code 49 = .ok (.aload_n 0, 1) := by decide +kernel
theorem d_X7_init_50 : decode prog_9_method_1_code 50 = .ok (.sipush 400, 3) := by decide +kernel
theorem d_X7_init_53 : decode prog_9_method_1_code 53 = .ok (.newarray .int, 2) := by decide +kernel
theorem d_X7_init_55 : decode prog_9_method_1_code 55 = .ok (.putfield 27, 3) := by decide +kernel
theorem d_X7_init_58 : decode prog_9_method_1_code 58 = .ok (.aload_n 0, 1) := by decide +kernel
theorem d_X7_init_59 : decode prog_9_method_1_code 59 = .ok (.sipush 400, 3) := by decide +kernel
theorem d_X7_init_62 : decode prog_9_method_1_code 62 = .ok (.newarray .int, 2) := by decide +kernel
theorem d_X7_init_64 : decode prog_9_method_1_code 64 = .ok (.putfield 30, 3) := by decide +kernel
theorem d_X7_init_67 : decode prog_9_method_1_code 67 = .ok (.aload_n 0, 1) := by decide +kernel
theorem d_X7_init_68 : decode prog_9_method_1_code 68 = .ok (.sipush 200, 3) := by decide +kernel
theorem d_X7_init_71 : decode prog_9_method_1_code 71 = .ok (.newarray .int, 2) := by decide +kernel
theorem d_X7_init_73 : decode prog_9_method_1_code 73 = .ok (.putfield 33, 3) := by decide +kernel
theorem d_X7_init_76 : decode prog_9_method_1_code 76 = .ok (.aload_n 0, 1) := by decide +kernel
theorem d_X7_init_77 : decode prog_9_method_1_code 77 = .ok (.sipush 200, 3) := by decide +kernel
theorem d_X7_init_80 : decode prog_9_method_1_code 80 = .ok (.newarray .int, 2) := by decide +kernel
theorem d_X7_init_82 : decode prog_9_method_1_code 82 = .ok (.putfield 36, 3) := by decide +kernel
theorem d_X7_init_85 : decode prog_9_method_1_code 85 = .ok (.aload_n 0, 1) := by decide +kernel
theorem d_X7_init_86 : decode prog_9_method_1_code 86 = .ok (.sipush 200, 3) := by decide +kernel
theorem d_X7_init_89 : decode prog_9_method_1_code 89 = .ok (.newarray .int, 2) := by decide +kernel
theorem d_X7_init_91 : decode prog_9_method_1_code 91 = .ok (.putfield 39, 3) := by decide +kernel
theorem d_X7_init_94 : decode prog_9_method_1_code 94 = .ok (.return_, 1) := by decide +kernel
theorem d_X7_has_0 : decode prog_9_method_2_code 0 = .ok (.iload_n 1, 1) := by decide +kernel
theorem d_X7_has_1 : decode prog_9_method_2_code 1 = .ok (.ifCond .lt 15, 3) := by decide +kernel
theorem d_X7_has_4 : decode prog_9_method_2_code 4 = .ok (.iload_n 1, 1) := by decide +kernel
theorem d_X7_has_5 : decode prog_9_method_2_code 5 = .ok (.aload_n 0, 1) := by decide +kernel
theorem d_X7_has_6 : decode prog_9_method_2_code 6 = .ok (.getfield 42, 3) := by decide +kernel
theorem d_X7_has_9 : decode prog_9_method_2_code 9 = .ok (.if_icmp .ge 7, 3) := by decide +kernel
theorem d_X7_has_12 : decode prog_9_method_2_code 12 = .ok (.iconst 1, 1) := by decide +kernel
theorem d_X7_has_13 : decode prog_9_method_2_code 13 = .ok (.goto 4, 3) := by decide +kernel
theorem d_X7_has_16 : decode prog_9_method_2_code 16 = .ok (.iconst 0, 1) := by decide +kernel
theorem d_X7_has_17 : decode prog_9_method_2_code 17 = .ok (.ireturn, 1) := by decide +kernel
theorem d_X7_hasRoom_0 : decode prog_9_method_3_code 0 = .ok (.aload_n 0, 1) := by decide +kernel
theorem d_X7_hasRoom_1 : decode prog_9_method_3_code 1 = .ok (.getfield 42, 3) := by decide +kernel
theorem d_X7_hasRoom_4 : decode prog_9_method_3_code 4 = .ok (.iload_n 1, 1) := by decide +kernel
theorem d_X7_hasRoom_5 : decode prog_9_method_3_code 5 = .ok (.iadd, 1) := by decide +kernel
theorem d_X7_hasRoom_6 : decode prog_9_method_3_code 6 = .ok (.sipush 400, 3) := by decide +kernel
theorem d_X7_hasRoom_9 : decode prog_9_method_3_code 9 = .ok (.if_icmp .gt 7, 3) := by decide +kernel
theorem d_X7_hasRoom_12 : decode prog_9_method_3_code 12 = .ok (.iconst 1, 1) := by decide +kernel
theorem d_X7_hasRoom_13 : decode prog_9_method_3_code 13 = .ok (.goto 4, 3) := by decide +kernel
theorem d_X7_hasRoom_16 : decode prog_9_method_3_code 16 = .ok (.iconst 0, 1) := by decide +kernel
theorem d_X7_hasRoom_17 : decode prog_9_method_3_code 17 = .ok (.ireturn, 1) := by decide +kernel
theorem d_X7_write_0 : decode prog_9_method_4_code 0 = .ok (.aload_n 0, 1) := by decide +kernel
theorem d_X7_write_1 : decode prog_9_method_4_code 1 = .ok (.getfield 42, 3) := by decide +kernel
theorem d_X7_write_4 : decode prog_9_method_4_code 4 = .ok (.sipush 400, 3) := by decide +kernel
theorem d_X7_write_7 : decode prog_9_method_4_code 7 = .ok (.if_icmp .ge 54, 3) := by decide +kernel
theorem d_X7_write_10 : decode prog_9_method_4_code 10 = .ok (.aload_n 0, 1) := by decide +kernel
theorem d_X7_write_11 : decode prog_9_method_4_code 11 = .ok (.getfield 11, 3) := by decide +kernel
theorem d_X7_write_14 : decode prog_9_method_4_code 14 = .ok (.aload_n 0, 1) := by decide +kernel
theorem d_X7_write_15 : decode prog_9_method_4_code 15 = .ok (.getfield 42, 3) := by decide +kernel
theorem d_X7_write_18 : decode prog_9_method_4_code 18 = .ok (.iload_n 1, 1) := by decide +kernel
theorem d_X7_write_19 : decode prog_9_method_4_code 19 = .ok (.iastore, 1) := by decide +kernel
theorem d_X7_write_20 : decode prog_9_method_4_code 20 = .ok (.aload_n 0, 1) := by decide +kernel
theorem d_X7_write_21 : decode prog_9_method_4_code 21 = .ok (.getfield 15, 3) := by decide +kernel
theorem d_X7_write_24 : decode prog_9_method_4_code 24 = .ok (.aload_n 0, 1) := by decide +kernel
theorem d_X7_write_25 : decode prog_9_method_4_code 25 = .ok (.getfield 42, 3) := by decide +kernel
theorem d_X7_write_28 : decode prog_9_method_4_code 28 = .ok (.iload_n 2, 1) := by decide +kernel
theorem d_X7_write_29 : decode prog_9_method_4_code 29 = .ok (.iastore, 1) := by decide +kernel
theorem d_X7_write_30 : decode prog_9_method_4_code 30 = .ok (.aload_n 0, 1) := by decide +kernel
theorem d_X7_write_31 : decode prog_9_method_4_code 31 = .ok (.getfield 18, 3) := by decide +kernel
theorem d_X7_write_34 : decode prog_9_method_4_code 34 = .ok (.aload_n 0, 1) := by decide +kernel
theorem d_X7_write_35 : decode prog_9_method_4_code 35 = .ok (.getfield 42, 3) := by decide +kernel
theorem d_X7_write_38 : decode prog_9_method_4_code 38 = .ok (.iload_n 3, 1) := by decide +kernel
theorem d_X7_write_39 : decode prog_9_method_4_code 39 = .ok (.iastore, 1) := by decide +kernel
theorem d_X7_write_40 : decode prog_9_method_4_code 40 = .ok (.aload_n 0, 1) := by decide +kernel
theorem d_X7_write_41 : decode prog_9_method_4_code 41 = .ok (.getfield 21, 3) := by decide +kernel
theorem d_X7_write_44 : decode prog_9_method_4_code 44 = .ok (.aload_n 0, 1) := by decide +kernel
theorem d_X7_write_45 : decode prog_9_method_4_code 45 = .ok (.getfield 42, 3) := by decide +kernel
theorem d_X7_write_48 : decode prog_9_method_4_code 48 = .ok (.iload 4, 2) := by decide +kernel
theorem d_X7_write_50 : decode prog_9_method_4_code 50 = .ok (.iastore, 1) := by decide +kernel
theorem d_X7_write_51 : decode prog_9_method_4_code 51 = .ok (.aload_n 0, 1) := by decide +kernel
theorem d_X7_write_52 : decode prog_9_method_4_code 52 = .ok (.dup, 1) := by decide +kernel
theorem d_X7_write_53 : decode prog_9_method_4_code 53 = .ok (.getfield 42, 3) := by decide +kernel
theorem d_X7_write_56 : decode prog_9_method_4_code 56 = .ok (.iconst 1, 1) := by decide +kernel
theorem d_X7_write_57 : decode prog_9_method_4_code 57 = .ok (.iadd, 1) := by decide +kernel
theorem d_X7_write_58 : decode prog_9_method_4_code 58 = .ok (.putfield 42, 3) := by decide +kernel
theorem d_X7_write_61 : decode prog_9_method_4_code 61 = .ok (.return_, 1) := by decide +kernel
theorem d_X7_settle_0 : decode prog_9_method_5_code 0 = .ok (.iload_n 1, 1) := by decide +kernel
theorem d_X7_settle_1 : decode prog_9_method_5_code 1 = .ok (.ifCond .lt 33, 3) := by decide +kernel
theorem d_X7_settle_4 : decode prog_9_method_5_code 4 = .ok (.iload_n 1, 1) := by decide +kernel
theorem d_X7_settle_5 : decode prog_9_method_5_code 5 = .ok (.aload_n 0, 1) := by decide +kernel
theorem d_X7_settle_6 : decode prog_9_method_5_code 6 = .ok (.getfield 42, 3) := by decide +kernel
theorem d_X7_settle_9 : decode prog_9_method_5_code 9 = .ok (.if_icmp .ge 25, 3) := by decide +kernel
theorem d_X7_settle_12 : decode prog_9_method_5_code 12 = .ok (.aload_n 0, 1) := by decide +kernel
theorem d_X7_settle_13 : decode prog_9_method_5_code 13 = .ok (.getfield 24, 3) := by decide +kernel
theorem d_X7_settle_16 : decode prog_9_method_5_code 16 = .ok (.iload_n 1, 1) := by decide +kernel
theorem d_X7_settle_17 : decode prog_9_method_5_code 17 = .ok (.iload_n 2, 1) := by decide +kernel
theorem d_X7_settle_18 : decode prog_9_method_5_code 18 = .ok (.iastore, 1) := by decide +kernel
theorem d_X7_settle_19 : decode prog_9_method_5_code 19 = .ok (.aload_n 0, 1) := by decide +kernel
theorem d_X7_settle_20 : decode prog_9_method_5_code 20 = .ok (.getfield 30, 3) := by decide +kernel
theorem d_X7_settle_23 : decode prog_9_method_5_code 23 = .ok (.iload_n 1, 1) := by decide +kernel
theorem d_X7_settle_24 : decode prog_9_method_5_code 24 = .ok (.iload_n 3, 1) := by decide +kernel
theorem d_X7_settle_25 : decode prog_9_method_5_code 25 = .ok (.iastore, 1) := by decide +kernel
theorem d_X7_settle_26 : decode prog_9_method_5_code 26 = .ok (.aload_n 0, 1) := by decide +kernel
theorem d_X7_settle_27 : decode prog_9_method_5_code 27 = .ok (.getfield 27, 3) := by decide +kernel
theorem d_X7_settle_30 : decode prog_9_method_5_code 30 = .ok (.iload_n 1, 1) := by decide +kernel
theorem d_X7_settle_31 : decode prog_9_method_5_code 31 = .ok (.iload 4, 2) := by decide +kernel
theorem d_X7_settle_33 : decode prog_9_method_5_code 33 = .ok (.iastore, 1) := by decide +kernel
theorem d_X7_settle_34 : decode prog_9_method_5_code 34 = .ok (.return_, 1) := by decide +kernel
theorem d_X7_outcomeAt_0 : decode prog_9_method_6_code 0 = .ok (.aload_n 0, 1) := by decide +kernel
theorem d_X7_outcomeAt_1 : decode prog_9_method_6_code 1 = .ok (.getfield 24, 3) := by decide +kernel
theorem d_X7_outcomeAt_4 : decode prog_9_method_6_code 4 = .ok (.iload_n 1, 1) := by decide +kernel
theorem d_X7_outcomeAt_5 : decode prog_9_method_6_code 5 = .ok (.iaload, 1) := by decide +kernel
theorem d_X7_outcomeAt_6 : decode prog_9_method_6_code 6 = .ok (.ifCond .eq 22, 3) := by decide +kernel
theorem d_X7_outcomeAt_9 : decode prog_9_method_6_code 9 = .ok (.aload_n 0, 1) := by decide +kernel
theorem d_X7_outcomeAt_10 : decode prog_9_method_6_code 10 = .ok (.getfield 27, 3) := by decide +kernel
theorem d_X7_outcomeAt_13 : decode prog_9_method_6_code 13 = .ok (.iload_n 1, 1) := by decide +kernel
theorem d_X7_outcomeAt_14 : decode prog_9_method_6_code 14 = .ok (.iaload, 1) := by decide +kernel
theorem d_X7_outcomeAt_15 : decode prog_9_method_6_code 15 = .ok (.iload_n 2, 1) := by decide +kernel
theorem d_X7_outcomeAt_16 : decode prog_9_method_6_code 16 = .ok (.if_icmp .gt 12, 3) := by decide +kernel
theorem d_X7_outcomeAt_19 : decode prog_9_method_6_code 19 = .ok (.aload_n 0, 1) := by decide +kernel
theorem d_X7_outcomeAt_20 : decode prog_9_method_6_code 20 = .ok (.getfield 24, 3) := by decide +kernel
theorem d_X7_outcomeAt_23 : decode prog_9_method_6_code 23 = .ok (.iload_n 1, 1) := by decide +kernel
theorem d_X7_outcomeAt_24 : decode prog_9_method_6_code 24 = .ok (.iaload, 1) := by decide +kernel
theorem d_X7_outcomeAt_25 : decode prog_9_method_6_code 25 = .ok (.goto 4, 3) := by decide +kernel
theorem d_X7_outcomeAt_28 : decode prog_9_method_6_code 28 = .ok (.iconst 0, 1) := by decide +kernel
theorem d_X7_outcomeAt_29 : decode prog_9_method_6_code 29 = .ok (.ireturn, 1) := by decide +kernel
theorem d_X7_causeAt_0 : decode prog_9_method_7_code 0 = .ok (.aload_n 0, 1) := by decide +kernel
theorem d_X7_causeAt_1 : decode prog_9_method_7_code 1 = .ok (.iload_n 1, 1) := by decide +kernel
theorem d_X7_causeAt_2 : decode prog_9_method_7_code 2 = .ok (.iload_n 2, 1) := by decide +kernel
theorem d_X7_causeAt_3 : decode prog_9_method_7_code 3 = .ok (.invokevirtual 46, 3) := by decide +kernel
theorem d_X7_causeAt_6 : decode prog_9_method_7_code 6 = .ok (.iconst 2, 1) := by decide +kernel
theorem d_X7_causeAt_7 : decode prog_9_method_7_code 7 = .ok (.if_icmp .eq 5, 3) := by decide +kernel
theorem d_X7_causeAt_10 : decode prog_9_method_7_code 10 = .ok (.iconst (-1), 1) := by decide +kernel
theorem d_X7_causeAt_11 : decode prog_9_method_7_code 11 = .ok (.ireturn, 1) := by decide +kernel
theorem d_X7_causeAt_12 : decode prog_9_method_7_code 12 = .ok (.aload_n 0, 1) := by decide +kernel
theorem d_X7_causeAt_13 : decode prog_9_method_7_code 13 = .ok (.getfield 30, 3) := by decide +kernel
theorem d_X7_causeAt_16 : decode prog_9_method_7_code 16 = .ok (.iload_n 1, 1) := by decide +kernel
theorem d_X7_causeAt_17 : decode prog_9_method_7_code 17 = .ok (.iaload, 1) := by decide +kernel
theorem d_X7_causeAt_18 : decode prog_9_method_7_code 18 = .ok (.istore_n 3, 1) := by decide +kernel
theorem d_X7_causeAt_19 : decode prog_9_method_7_code 19 = .ok (.iconst 0, 1) := by decide +kernel
theorem d_X7_causeAt_20 : decode prog_9_method_7_code 20 = .ok (.istore 4, 2) := by decide +kernel
theorem d_X7_causeAt_22 : decode prog_9_method_7_code 22 = .ok (.iload 4, 2) := by decide +kernel
theorem d_X7_causeAt_24 : decode prog_9_method_7_code 24 = .ok (.aload_n 0, 1) := by decide +kernel
theorem d_X7_causeAt_25 : decode prog_9_method_7_code 25 = .ok (.getfield 50, 3) := by decide +kernel
theorem d_X7_causeAt_28 : decode prog_9_method_7_code 28 = .ok (.if_icmp .ge 39, 3) := by decide +kernel
theorem d_X7_causeAt_31 : decode prog_9_method_7_code 31 = .ok (.aload_n 0, 1) := by decide +kernel
theorem d_X7_causeAt_32 : decode prog_9_method_7_code 32 = .ok (.getfield 33, 3) := by decide +kernel
theorem d_X7_causeAt_35 : decode prog_9_method_7_code 35 = .ok (.iload 4, 2) := by decide +kernel
theorem d_X7_causeAt_37 : decode prog_9_method_7_code 37 = .ok (.iaload, 1) := by decide +kernel
theorem d_X7_causeAt_38 : decode prog_9_method_7_code 38 = .ok (.iload_n 1, 1) := by decide +kernel
theorem d_X7_causeAt_39 : decode prog_9_method_7_code 39 = .ok (.if_icmp .ne 22, 3) := by decide +kernel
theorem d_X7_causeAt_42 : decode prog_9_method_7_code 42 = .ok (.aload_n 0, 1) := by decide +kernel
theorem d_X7_causeAt_43 : decode prog_9_method_7_code 43 = .ok (.getfield 39, 3) := by decide +kernel
theorem d_X7_causeAt_46 : decode prog_9_method_7_code 46 = .ok (.iload 4, 2) := by decide +kernel
theorem d_X7_causeAt_48 : decode prog_9_method_7_code 48 = .ok (.iaload, 1) := by decide +kernel
theorem d_X7_causeAt_49 : decode prog_9_method_7_code 49 = .ok (.iload_n 2, 1) := by decide +kernel
theorem d_X7_causeAt_50 : decode prog_9_method_7_code 50 = .ok (.if_icmp .gt 11, 3) := by decide +kernel
theorem d_X7_causeAt_53 : decode prog_9_method_7_code 53 = .ok (.aload_n 0, 1) := by decide +kernel
theorem d_X7_causeAt_54 : decode prog_9_method_7_code 54 = .ok (.getfield 36, 3) := by decide +kernel
theorem d_X7_causeAt_57 : decode prog_9_method_7_code 57 = .ok (.iload 4, 2) := by decide +kernel
theorem d_X7_causeAt_59 : decode prog_9_method_7_code 59 = .ok (.iaload, 1) := by decide +kernel
theorem d_X7_causeAt_60 : decode prog_9_method_7_code 60 = .ok (.istore_n 3, 1) := by decide +kernel
theorem d_X7_causeAt_61 : decode prog_9_method_7_code 61 = .ok (.iinc 4 1, 3) := by decide +kernel
theorem d_X7_causeAt_64 : decode prog_9_method_7_code 64 = .ok (.goto (-42), 3) := by decide +kernel
theorem d_X7_causeAt_67 : decode prog_9_method_7_code 67 = .ok (.iload_n 3, 1) := by decide +kernel
theorem d_X7_causeAt_68 : decode prog_9_method_7_code 68 = .ok (.ireturn, 1) := by decide +kernel
theorem d_X7_tell_0 : decode prog_9_method_8_code 0 = .ok (.aload_n 0, 1) := by decide +kernel
theorem d_X7_tell_1 : decode prog_9_method_8_code 1 = .ok (.iload_n 1, 1) := by decide +kernel
theorem d_X7_tell_2 : decode prog_9_method_8_code 2 = .ok (.invokevirtual 53, 3) := by decide +kernel
theorem d_X7_tell_5 : decode prog_9_method_8_code 5 = .ok (.ifCond .eq 13, 3) := by decide +kernel
theorem d_X7_tell_8 : decode prog_9_method_8_code 8 = .ok (.aload_n 0, 1) := by decide +kernel
theorem d_X7_tell_9 : decode prog_9_method_8_code 9 = .ok (.getfield 21, 3) := by decide +kernel
theorem d_X7_tell_12 : decode prog_9_method_8_code 12 = .ok (.iload_n 1, 1) := by decide +kernel
theorem d_X7_tell_13 : decode prog_9_method_8_code 13 = .ok (.iaload, 1) := by decide +kernel
theorem d_X7_tell_14 : decode prog_9_method_8_code 14 = .ok (.iload_n 2, 1) := by decide +kernel
theorem d_X7_tell_15 : decode prog_9_method_8_code 15 = .ok (.if_icmp .le 5, 3) := by decide +kernel
theorem d_X7_tell_18 : decode prog_9_method_8_code 18 = .ok (.iconst (-1), 1) := by decide +kernel
theorem d_X7_tell_19 : decode prog_9_method_8_code 19 = .ok (.ireturn, 1) := by decide +kernel
theorem d_X7_tell_20 : decode prog_9_method_8_code 20 = .ok (.iload_n 3, 1) := by decide +kernel
theorem d_X7_tell_21 : decode prog_9_method_8_code 21 = .ok (.tableswitch 70 0 4 #[35, 42, 49, 56, 63], 35) := by decide +kernel
theorem d_X7_tell_56 : decode prog_9_method_8_code 56 = .ok (.aload_n 0, 1) := by decide +kernel
theorem d_X7_tell_57 : decode prog_9_method_8_code 57 = .ok (.getfield 11, 3) := by decide +kernel
theorem d_X7_tell_60 : decode prog_9_method_8_code 60 = .ok (.iload_n 1, 1) := by decide +kernel
theorem d_X7_tell_61 : decode prog_9_method_8_code 61 = .ok (.iaload, 1) := by decide +kernel
theorem d_X7_tell_62 : decode prog_9_method_8_code 62 = .ok (.ireturn, 1) := by decide +kernel
theorem d_X7_tell_63 : decode prog_9_method_8_code 63 = .ok (.aload_n 0, 1) := by decide +kernel
theorem d_X7_tell_64 : decode prog_9_method_8_code 64 = .ok (.getfield 15, 3) := by decide +kernel
theorem d_X7_tell_67 : decode prog_9_method_8_code 67 = .ok (.iload_n 1, 1) := by decide +kernel
theorem d_X7_tell_68 : decode prog_9_method_8_code 68 = .ok (.iaload, 1) := by decide +kernel
theorem d_X7_tell_69 : decode prog_9_method_8_code 69 = .ok (.ireturn, 1) := by decide +kernel
theorem d_X7_tell_70 : decode prog_9_method_8_code 70 = .ok (.aload_n 0, 1) := by decide +kernel
theorem d_X7_tell_71 : decode prog_9_method_8_code 71 = .ok (.getfield 18, 3) := by decide +kernel
theorem d_X7_tell_74 : decode prog_9_method_8_code 74 = .ok (.iload_n 1, 1) := by decide +kernel
theorem d_X7_tell_75 : decode prog_9_method_8_code 75 = .ok (.iaload, 1) := by decide +kernel
theorem d_X7_tell_76 : decode prog_9_method_8_code 76 = .ok (.ireturn, 1) := by decide +kernel
theorem d_X7_tell_77 : decode prog_9_method_8_code 77 = .ok (.aload_n 0, 1) := by decide +kernel
theorem d_X7_tell_78 : decode prog_9_method_8_code 78 = .ok (.iload_n 1, 1) := by decide +kernel
theorem d_X7_tell_79 : decode prog_9_method_8_code 79 = .ok (.iload_n 2, 1) := by decide +kernel
theorem d_X7_tell_80 : decode prog_9_method_8_code 80 = .ok (.invokevirtual 46, 3) := by decide +kernel
theorem d_X7_tell_83 : decode prog_9_method_8_code 83 = .ok (.ireturn, 1) := by decide +kernel
theorem d_X7_tell_84 : decode prog_9_method_8_code 84 = .ok (.aload_n 0, 1) := by decide +kernel
theorem d_X7_tell_85 : decode prog_9_method_8_code 85 = .ok (.iload_n 1, 1) := by decide +kernel
theorem d_X7_tell_86 : decode prog_9_method_8_code 86 = .ok (.iload_n 2, 1) := by decide +kernel
theorem d_X7_tell_87 : decode prog_9_method_8_code 87 = .ok (.invokevirtual 57, 3) := by decide +kernel
theorem d_X7_tell_90 : decode prog_9_method_8_code 90 = .ok (.ireturn, 1) := by decide +kernel
theorem d_X7_tell_91 : decode prog_9_method_8_code 91 = .ok (.iconst (-1), 1) := by decide +kernel
theorem d_X7_tell_92 : decode prog_9_method_8_code 92 = .ok (.ireturn, 1) := by decide +kernel
theorem d_X7_tellAnew_0 : decode prog_9_method_9_code 0 = .ok (.aload_n 0, 1) := by decide +kernel
theorem d_X7_tellAnew_1 : decode prog_9_method_9_code 1 = .ok (.iload_n 1, 1) := by decide +kernel
theorem d_X7_tellAnew_2 : decode prog_9_method_9_code 2 = .ok (.invokevirtual 53, 3) := by decide +kernel
theorem d_X7_tellAnew_5 : decode prog_9_method_9_code 5 = .ok (.ifCond .eq 23, 3) := by decide +kernel
theorem d_X7_tellAnew_8 : decode prog_9_method_9_code 8 = .ok (.aload_n 0, 1) := by decide +kernel
theorem d_X7_tellAnew_9 : decode prog_9_method_9_code 9 = .ok (.getfield 24, 3) := by decide +kernel
theorem d_X7_tellAnew_12 : decode prog_9_method_9_code 12 = .ok (.iload_n 1, 1) := by decide +kernel
theorem d_X7_tellAnew_13 : decode prog_9_method_9_code 13 = .ok (.iaload, 1) := by decide +kernel
theorem d_X7_tellAnew_14 : decode prog_9_method_9_code 14 = .ok (.iconst 2, 1) := by decide +kernel
theorem d_X7_tellAnew_15 : decode prog_9_method_9_code 15 = .ok (.if_icmp .ne 13, 3) := by decide +kernel
theorem d_X7_tellAnew_18 : decode prog_9_method_9_code 18 = .ok (.aload_n 0, 1) := by decide +kernel
theorem d_X7_tellAnew_19 : decode prog_9_method_9_code 19 = .ok (.getfield 50, 3) := by decide +kernel
theorem d_X7_tellAnew_22 : decode prog_9_method_9_code 22 = .ok (.sipush 200, 3) := by decide +kernel
theorem d_X7_tellAnew_25 : decode prog_9_method_9_code 25 = .ok (.if_icmp .lt 5, 3) := by decide +kernel
theorem d_X7_tellAnew_28 : decode prog_9_method_9_code 28 = .ok (.iconst 0, 1) := by decide +kernel
theorem d_X7_tellAnew_29 : decode prog_9_method_9_code 29 = .ok (.ireturn, 1) := by decide +kernel
theorem d_X7_tellAnew_30 : decode prog_9_method_9_code 30 = .ok (.aload_n 0, 1) := by decide +kernel
theorem d_X7_tellAnew_31 : decode prog_9_method_9_code 31 = .ok (.getfield 33, 3) := by decide +kernel
theorem d_X7_tellAnew_34 : decode prog_9_method_9_code 34 = .ok (.aload_n 0, 1) := by decide +kernel
theorem d_X7_tellAnew_35 : decode prog_9_method_9_code 35 = .ok (.getfield 50, 3) := by decide +kernel
theorem d_X7_tellAnew_38 : decode prog_9_method_9_code 38 = .ok (.iload_n 1, 1) := by decide +kernel
theorem d_X7_tellAnew_39 : decode prog_9_method_9_code 39 = .ok (.iastore, 1) := by decide +kernel
theorem d_X7_tellAnew_40 : decode prog_9_method_9_code 40 = .ok (.aload_n 0, 1) := by decide +kernel
theorem d_X7_tellAnew_41 : decode prog_9_method_9_code 41 = .ok (.getfield 36, 3) := by decide +kernel
theorem d_X7_tellAnew_44 : decode prog_9_method_9_code 44 = .ok (.aload_n 0, 1) := by decide +kernel
theorem d_X7_tellAnew_45 : decode prog_9_method_9_code 45 = .ok (.getfield 50, 3) := by decide +kernel
theorem d_X7_tellAnew_48 : decode prog_9_method_9_code 48 = .ok (.iload_n 2, 1) := by decide +kernel
theorem d_X7_tellAnew_49 : decode prog_9_method_9_code 49 = .ok (.iastore, 1) := by decide +kernel
theorem d_X7_tellAnew_50 : decode prog_9_method_9_code 50 = .ok (.aload_n 0, 1) := by decide +kernel
theorem d_X7_tellAnew_51 : decode prog_9_method_9_code 51 = .ok (.getfield 39, 3) := by decide +kernel
theorem d_X7_tellAnew_54 : decode prog_9_method_9_code 54 = .ok (.aload_n 0, 1) := by decide +kernel
theorem d_X7_tellAnew_55 : decode prog_9_method_9_code 55 = .ok (.getfield 50, 3) := by decide +kernel
theorem d_X7_tellAnew_58 : decode prog_9_method_9_code 58 = .ok (.iload_n 3, 1) := by decide +kernel
theorem d_X7_tellAnew_59 : decode prog_9_method_9_code 59 = .ok (.iastore, 1) := by decide +kernel
theorem d_X7_tellAnew_60 : decode prog_9_method_9_code 60 = .ok (.aload_n 0, 1) := by decide +kernel
theorem d_X7_tellAnew_61 : decode prog_9_method_9_code 61 = .ok (.dup, 1) := by decide +kernel
theorem d_X7_tellAnew_62 : decode prog_9_method_9_code 62 = .ok (.getfield 50, 3) := by decide +kernel
theorem d_X7_tellAnew_65 : decode prog_9_method_9_code 65 = .ok (.iconst 1, 1) := by decide +kernel
theorem d_X7_tellAnew_66 : decode prog_9_method_9_code 66 = .ok (.iadd, 1) := by decide +kernel
theorem d_X7_tellAnew_67 : decode prog_9_method_9_code 67 = .ok (.putfield 50, 3) := by decide +kernel
theorem d_X7_tellAnew_70 : decode prog_9_method_9_code 70 = .ok (.iconst 1, 1) := by decide +kernel
theorem d_X7_tellAnew_71 : decode prog_9_method_9_code 71 = .ok (.ireturn, 1) := by decide +kernel
theorem d_X7_countCause_0 : decode prog_9_method_10_code 0 = .ok (.iconst 0, 1) := by decide +kernel
theorem d_X7_countCause_1 : decode prog_9_method_10_code 1 = .ok (.istore_n 3, 1) := by decide +kernel
theorem d_X7_countCause_2 : decode prog_9_method_10_code 2 = .ok (.iconst 0, 1) := by decide +kernel
theorem d_X7_countCause_3 : decode prog_9_method_10_code 3 = .ok (.istore 4, 2) := by decide +kernel
theorem d_X7_countCause_5 : decode prog_9_method_10_code 5 = .ok (.iload 4, 2) := by decide +kernel
theorem d_X7_countCause_7 : decode prog_9_method_10_code 7 = .ok (.aload_n 0, 1) := by decide +kernel
theorem d_X7_countCause_8 : decode prog_9_method_10_code 8 = .ok (.getfield 42, 3) := by decide +kernel
theorem d_X7_countCause_11 : decode prog_9_method_10_code 11 = .ok (.if_icmp .ge 23, 3) := by decide +kernel
theorem d_X7_countCause_14 : decode prog_9_method_10_code 14 = .ok (.aload_n 0, 1) := by decide +kernel
theorem d_X7_countCause_15 : decode prog_9_method_10_code 15 = .ok (.iload 4, 2) := by decide +kernel
theorem d_X7_countCause_17 : decode prog_9_method_10_code 17 = .ok (.iload_n 2, 1) := by decide +kernel
theorem d_X7_countCause_18 : decode prog_9_method_10_code 18 = .ok (.invokevirtual 57, 3) := by decide +kernel
theorem d_X7_countCause_21 : decode prog_9_method_10_code 21 = .ok (.iload_n 1, 1) := by decide +kernel
theorem d_X7_countCause_22 : decode prog_9_method_10_code 22 = .ok (.if_icmp .ne 6, 3) := by decide +kernel
theorem d_X7_countCause_25 : decode prog_9_method_10_code 25 = .ok (.iinc 3 1, 3) := by decide +kernel
theorem d_X7_countCause_28 : decode prog_9_method_10_code 28 = .ok (.iinc 4 1, 3) := by decide +kernel
theorem d_X7_countCause_31 : decode prog_9_method_10_code 31 = .ok (.goto (-26), 3) := by decide +kernel
theorem d_X7_countCause_34 : decode prog_9_method_10_code 34 = .ok (.iload_n 3, 1) := by decide +kernel
theorem d_X7_countCause_35 : decode prog_9_method_10_code 35 = .ok (.ireturn, 1) := by decide +kernel
theorem d_X7_wasDue_0 : decode prog_9_method_11_code 0 = .ok (.aload_n 0, 1) := by decide +kernel
theorem d_X7_wasDue_1 : decode prog_9_method_11_code 1 = .ok (.getfield 11, 3) := by decide +kernel
theorem d_X7_wasDue_4 : decode prog_9_method_11_code 4 = .ok (.iload_n 1, 1) := by decide +kernel
theorem d_X7_wasDue_5 : decode prog_9_method_11_code 5 = .ok (.iaload, 1) := by decide +kernel
theorem d_X7_wasDue_6 : decode prog_9_method_11_code 6 = .ok (.iload_n 2, 1) := by decide +kernel
theorem d_X7_wasDue_7 : decode prog_9_method_11_code 7 = .ok (.if_icmp .ne 21, 3) := by decide +kernel
theorem d_X7_wasDue_10 : decode prog_9_method_11_code 10 = .ok (.aload_n 0, 1) := by decide +kernel
theorem d_X7_wasDue_11 : decode prog_9_method_11_code 11 = .ok (.getfield 18, 3) := by decide +kernel
theorem d_X7_wasDue_14 : decode prog_9_method_11_code 14 = .ok (.iload_n 1, 1) := by decide +kernel
theorem d_X7_wasDue_15 : decode prog_9_method_11_code 15 = .ok (.iaload, 1) := by decide +kernel
theorem d_X7_wasDue_16 : decode prog_9_method_11_code 16 = .ok (.sipush 1440, 3) := by decide +kernel
theorem d_X7_wasDue_19 : decode prog_9_method_11_code 19 = .ok (.idiv, 1) := by decide +kernel
theorem d_X7_wasDue_20 : decode prog_9_method_11_code 20 = .ok (.iload_n 3, 1) := by decide +kernel
theorem d_X7_wasDue_21 : decode prog_9_method_11_code 21 = .ok (.if_icmp .ne 7, 3) := by decide +kernel
theorem d_X7_wasDue_24 : decode prog_9_method_11_code 24 = .ok (.iconst 1, 1) := by decide +kernel
theorem d_X7_wasDue_25 : decode prog_9_method_11_code 25 = .ok (.goto 4, 3) := by decide +kernel
theorem d_X7_wasDue_28 : decode prog_9_method_11_code 28 = .ok (.iconst 0, 1) := by decide +kernel
theorem d_X7_wasDue_29 : decode prog_9_method_11_code 29 = .ok (.ireturn, 1) := by decide +kernel
theorem d_X7_countMet_0 : decode prog_9_method_12_code 0 = .ok (.iconst 0, 1) := by decide +kernel
theorem d_X7_countMet_1 : decode prog_9_method_12_code 1 = .ok (.istore 4, 2) := by decide +kernel
theorem d_X7_countMet_3 : decode prog_9_method_12_code 3 = .ok (.iconst 0, 1) := by decide +kernel
theorem d_X7_countMet_4 : decode prog_9_method_12_code 4 = .ok (.istore 5, 2) := by decide +kernel
theorem d_X7_countMet_6 : decode prog_9_method_12_code 6 = .ok (.iload 5, 2) := by decide +kernel
theorem d_X7_countMet_8 : decode prog_9_method_12_code 8 = .ok (.aload_n 0, 1) := by decide +kernel
theorem d_X7_countMet_9 : decode prog_9_method_12_code 9 = .ok (.getfield 42, 3) := by decide +kernel
theorem d_X7_countMet_12 : decode prog_9_method_12_code 12 = .ok (.if_icmp .ge 34, 3) := by decide +kernel
theorem d_X7_countMet_15 : decode prog_9_method_12_code 15 = .ok (.aload_n 0, 1) := by decide +kernel
theorem d_X7_countMet_16 : decode prog_9_method_12_code 16 = .ok (.iload 5, 2) := by decide +kernel
theorem d_X7_countMet_18 : decode prog_9_method_12_code 18 = .ok (.iload_n 1, 1) := by decide +kernel
theorem d_X7_countMet_19 : decode prog_9_method_12_code 19 = .ok (.iload_n 2, 1) := by decide +kernel
theorem d_X7_countMet_20 : decode prog_9_method_12_code 20 = .ok (.invokevirtual 60, 3) := by decide +kernel
theorem d_X7_countMet_23 : decode prog_9_method_12_code 23 = .ok (.ifCond .eq 17, 3) := by decide +kernel
theorem d_X7_countMet_26 : decode prog_9_method_12_code 26 = .ok (.aload_n 0, 1) := by decide +kernel
theorem d_X7_countMet_27 : decode prog_9_method_12_code 27 = .ok (.iload 5, 2) := by decide +kernel
theorem d_X7_countMet_29 : decode prog_9_method_12_code 29 = .ok (.iload_n 3, 1) := by decide +kernel
theorem d_X7_countMet_30 : decode prog_9_method_12_code 30 = .ok (.invokevirtual 46, 3) := by decide +kernel
theorem d_X7_countMet_33 : decode prog_9_method_12_code 33 = .ok (.iconst 1, 1) := by decide +kernel
theorem d_X7_countMet_34 : decode prog_9_method_12_code 34 = .ok (.if_icmp .ne 6, 3) := by decide +kernel
theorem d_X7_countMet_37 : decode prog_9_method_12_code 37 = .ok (.iinc 4 1, 3) := by decide +kernel
theorem d_X7_countMet_40 : decode prog_9_method_12_code 40 = .ok (.iinc 5 1, 3) := by decide +kernel
theorem d_X7_countMet_43 : decode prog_9_method_12_code 43 = .ok (.goto (-37), 3) := by decide +kernel
theorem d_X7_countMet_46 : decode prog_9_method_12_code 46 = .ok (.iload 4, 2) := by decide +kernel
theorem d_X7_countMet_48 : decode prog_9_method_12_code 48 = .ok (.ireturn, 1) := by decide +kernel
theorem d_X7_countBlamed_0 : decode prog_9_method_13_code 0 = .ok (.iconst 0, 1) := by decide +kernel
theorem d_X7_countBlamed_1 : decode prog_9_method_13_code 1 = .ok (.istore 4, 2) := by decide +kernel
theorem d_X7_countBlamed_3 : decode prog_9_method_13_code 3 = .ok (.iconst 0, 1) := by decide +kernel
theorem d_X7_countBlamed_4 : decode prog_9_method_13_code 4 = .ok (.istore 5, 2) := by decide +kernel
theorem d_X7_countBlamed_6 : decode prog_9_method_13_code 6 = .ok (.iload 5, 2) := by decide +kernel
theorem d_X7_countBlamed_8 : decode prog_9_method_13_code 8 = .ok (.aload_n 0, 1) := by decide +kernel
theorem d_X7_countBlamed_9 : decode prog_9_method_13_code 9 = .ok (.getfield 42, 3) := by decide +kernel
theorem d_X7_countBlamed_12 : decode prog_9_method_13_code 12 = .ok (.if_icmp .ge 44, 3) := by decide +kernel
theorem d_X7_countBlamed_15 : decode prog_9_method_13_code 15 = .ok (.aload_n 0, 1) := by decide +kernel
theorem d_X7_countBlamed_16 : decode prog_9_method_13_code 16 = .ok (.iload 5, 2) := by decide +kernel
theorem d_X7_countBlamed_18 : decode prog_9_method_13_code 18 = .ok (.iload_n 1, 1) := by decide +kernel
theorem d_X7_countBlamed_19 : decode prog_9_method_13_code 19 = .ok (.iload_n 2, 1) := by decide +kernel
theorem d_X7_countBlamed_20 : decode prog_9_method_13_code 20 = .ok (.invokevirtual 60, 3) := by decide +kernel
theorem d_X7_countBlamed_23 : decode prog_9_method_13_code 23 = .ok (.ifCond .eq 27, 3) := by decide +kernel
theorem d_X7_countBlamed_26 : decode prog_9_method_13_code 26 = .ok (.aload_n 0, 1) := by decide +kernel
theorem d_X7_countBlamed_27 : decode prog_9_method_13_code 27 = .ok (.iload 5, 2) := by decide +kernel
theorem d_X7_countBlamed_29 : decode prog_9_method_13_code 29 = .ok (.iload_n 3, 1) := by decide +kernel
theorem d_X7_countBlamed_30 : decode prog_9_method_13_code 30 = .ok (.invokevirtual 57, 3) := by decide +kernel
theorem d_X7_countBlamed_33 : decode prog_9_method_13_code 33 = .ok (.istore 6, 2) := by decide +kernel
theorem d_X7_countBlamed_35 : decode prog_9_method_13_code 35 = .ok (.iload 6, 2) := by decide +kernel
theorem d_X7_countBlamed_37 : decode prog_9_method_13_code 37 = .ok (.iconst 1, 1) := by decide +kernel
theorem d_X7_countBlamed_38 : decode prog_9_method_13_code 38 = .ok (.if_icmp .eq 9, 3) := by decide +kernel
theorem d_X7_countBlamed_41 : decode prog_9_method_13_code 41 = .ok (.iload 6, 2) := by decide +kernel
theorem d_X7_countBlamed_43 : decode prog_9_method_13_code 43 = .ok (.iconst 5, 1) := by decide +kernel
theorem d_X7_countBlamed_44 : decode prog_9_method_13_code 44 = .ok (.if_icmp .lt 6, 3) := by decide +kernel
theorem d_X7_countBlamed_47 : decode prog_9_method_13_code 47 = .ok (.iinc 4 1, 3) := by decide +kernel
theorem d_X7_countBlamed_50 : decode prog_9_method_13_code 50 = .ok (.iinc 5 1, 3) := by decide +kernel
theorem d_X7_countBlamed_53 : decode prog_9_method_13_code 53 = .ok (.goto (-47), 3) := by decide +kernel
theorem d_X7_countBlamed_56 : decode prog_9_method_13_code 56 = .ok (.iload 4, 2) := by decide +kernel
theorem d_X7_countBlamed_58 : decode prog_9_method_13_code 58 = .ok (.ireturn, 1) := by decide +kernel
theorem d_X8_init_0 : decode prog_10_method_1_code 0 = .ok (.aload_n 0, 1) := by decide +kernel
theorem d_X8_init_1 : decode prog_10_method_1_code 1 = .ok (.invokespecial 3, 3) := by decide +kernel
theorem d_X8_init_4 : decode prog_10_method_1_code 4 = .ok (.aload_n 0, 1) := by decide +kernel
theorem d_X8_init_5 : decode prog_10_method_1_code 5 = .ok (.sipush 160, 3) := by decide +kernel
theorem d_X8_init_8 : decode prog_10_method_1_code 8 = .ok (.newarray .int, 2) := by decide +kernel
theorem d_X8_init_10 : decode prog_10_method_1_code 10 = .ok (.putfield 11, 3) := by decide +kernel
theorem d_X8_init_13 : decode prog_10_method_1_code 13 = .ok (.aload_n 0, 1) := by decide +kernel
theorem d_X8_init_14 : decode prog_10_method_1_code 14 = .ok (.ldc 15, 2) := by decide +kernel
theorem d_X8_init_16 : decode prog_10_method_1_code 16 = .ok (.putfield 17, 3) := by decide +kernel
theorem d_X8_init_19 : decode prog_10_method_1_code 19 = .ok (.aload_n 0, 1) := by decide +kernel
theorem d_X8_init_20 : decode prog_10_method_1_code 20 = .ok (.sipush 150, 3) := by decide +kernel
theorem d_X8_init_23 : decode prog_10_method_1_code 23 = .ok (.newarray .int, 2) := by decide +kernel
theorem d_X8_init_25 : decode prog_10_method_1_code 25 = .ok (.putfield 23, 3) := by decide +kernel
theorem d_X8_init_28 : decode prog_10_method_1_code 28 = .ok (.aload_n 0, 1) := by decide +kernel
theorem d_X8_init_29 : decode prog_10_method_1_code 29 = .ok (.sipush 164, 3) := by decide +kernel
theorem d_X8_init_32 : decode prog_10_method_1_code 32 = .ok (.newarray .int, 2) := by decide +kernel
theorem d_X8_init_34 : decode prog_10_method_1_code 34 = .ok (.putfield 28, 3) := by decide +kernel
theorem d_X8_init_37 : decode prog_10_method_1_code 37 = .ok (.return_, 1) := by decide +kernel
theorem d_X8_takeIn_0 : decode prog_10_method_2_code 0 = .ok (.iload_n 1, 1) := by decide +kernel
theorem d_X8_takeIn_1 : decode prog_10_method_2_code 1 = .ok (.invokestatic 31, 3) := by decide +kernel
theorem d_X8_takeIn_4 : decode prog_10_method_2_code 4 = .ok (.iload_n 2, 1) := by decide +kernel
theorem d_X8_takeIn_5 : decode prog_10_method_2_code 5 = .ok (.invokestatic 31, 3) := by decide +kernel
theorem d_X8_takeIn_8 : decode prog_10_method_2_code 8 = .ok (.iadd, 1) := by decide +kernel
theorem d_X8_takeIn_9 : decode prog_10_method_2_code 9 = .ok (.iload_n 3, 1) := by decide +kernel
theorem d_X8_takeIn_10 : decode prog_10_method_2_code 10 = .ok (.invokestatic 31, 3) := by decide +kernel
theorem d_X8_takeIn_13 : decode prog_10_method_2_code 13 = .ok (.iadd, 1) := by decide +kernel
theorem d_X8_takeIn_14 : decode prog_10_method_2_code 14 = .ok (.iload 4, 2) := by decide +kernel
theorem d_X8_takeIn_16 : decode prog_10_method_2_code 16 = .ok (.invokestatic 31, 3) := by decide +kernel
theorem d_X8_takeIn_19 : decode prog_10_method_2_code 19 = .ok (.iadd, 1) := by decide +kernel
theorem d_X8_takeIn_20 : decode prog_10_method_2_code 20 = .ok (.iload 5, 2) := by decide +kernel
theorem d_X8_takeIn_22 : decode prog_10_method_2_code 22 = .ok (.invokestatic 31, 3) := by decide +kernel
theorem d_X8_takeIn_25 : decode prog_10_method_2_code 25 = .ok (.iadd, 1) := by decide +kernel
theorem d_X8_takeIn_26 : decode prog_10_method_2_code 26 = .ok (.istore 6, 2) := by decide +kernel
theorem d_X8_takeIn_28 : decode prog_10_method_2_code 28 = .ok (.aload_n 0, 1) := by decide +kernel
theorem d_X8_takeIn_29 : decode prog_10_method_2_code 29 = .ok (.getfield 35, 3) := by decide +kernel
theorem d_X8_takeIn_32 : decode prog_10_method_2_code 32 = .ok (.iload 6, 2) := by decide +kernel
theorem d_X8_takeIn_34 : decode prog_10_method_2_code 34 = .ok (.iadd, 1) := by decide +kernel
theorem d_X8_takeIn_35 : decode prog_10_method_2_code 35 = .ok (.sipush 160, 3) := by decide +kernel
theorem d_X8_takeIn_38 : decode prog_10_method_2_code 38 = .ok (.if_icmp .le 5, 3) := by decide +kernel
theorem d_X8_takeIn_41 : decode prog_10_method_2_code 41 = .ok (.iconst (-1), 1) := by decide +kernel
theorem d_X8_takeIn_42 : decode prog_10_method_2_code 42 = .ok (.ireturn, 1) := by decide +kernel
theorem d_X8_takeIn_43 : decode prog_10_method_2_code 43 = .ok (.aload_n 0, 1) := by decide +kernel
theorem d_X8_takeIn_44 : decode prog_10_method_2_code 44 = .ok (.iload_n 1, 1) := by decide +kernel
theorem d_X8_takeIn_45 : decode prog_10_method_2_code 45 = .ok (.invokevirtual 39, 3) := by decide +kernel
theorem d_X8_takeIn_48 : decode prog_10_method_2_code 48 = .ok (.aload_n 0, 1) := by decide +kernel
theorem d_X8_takeIn_49 : decode prog_10_method_2_code 49 = .ok (.iload_n 2, 1) := by decide +kernel
theorem d_X8_takeIn_50 : decode prog_10_method_2_code 50 = .ok (.invokevirtual 39, 3) := by decide +kernel
theorem d_X8_takeIn_53 : decode prog_10_method_2_code 53 = .ok (.aload_n 0, 1) := by decide +kernel
theorem d_X8_takeIn_54 : decode prog_10_method_2_code 54 = .ok (.iload_n 3, 1) := by decide +kernel
theorem d_X8_takeIn_55 : decode prog_10_method_2_code 55 = .ok (.invokevirtual 39, 3) := by decide +kernel
theorem d_X8_takeIn_58 : decode prog_10_method_2_code 58 = .ok (.aload_n 0, 1) := by decide +kernel
theorem d_X8_takeIn_59 : decode prog_10_method_2_code 59 = .ok (.iload 4, 2) := by decide +kernel
theorem d_X8_takeIn_61 : decode prog_10_method_2_code 61 = .ok (.invokevirtual 39, 3) := by decide +kernel
theorem d_X8_takeIn_64 : decode prog_10_method_2_code 64 = .ok (.aload_n 0, 1) := by decide +kernel
theorem d_X8_takeIn_65 : decode prog_10_method_2_code 65 = .ok (.iload 5, 2) := by decide +kernel
theorem d_X8_takeIn_67 : decode prog_10_method_2_code 67 = .ok (.invokevirtual 39, 3) := by decide +kernel
theorem d_X8_takeIn_70 : decode prog_10_method_2_code 70 = .ok (.aload_n 0, 1) := by decide +kernel
theorem d_X8_takeIn_71 : decode prog_10_method_2_code 71 = .ok (.getfield 35, 3) := by decide +kernel
theorem d_X8_takeIn_74 : decode prog_10_method_2_code 74 = .ok (.ireturn, 1) := by decide +kernel
theorem d_X8_signs_0 : decode prog_10_method_3_code 0 = .ok (.iconst 0, 1) := by decide +kernel
theorem d_X8_signs_1 : decode prog_10_method_3_code 1 = .ok (.istore_n 1, 1) := by decide +kernel
theorem d_X8_signs_2 : decode prog_10_method_3_code 2 = .ok (.bipush 24, 2) := by decide +kernel
theorem d_X8_signs_4 : decode prog_10_method_3_code 4 = .ok (.istore_n 2, 1) := by decide +kernel
theorem d_X8_signs_5 : decode prog_10_method_3_code 5 = .ok (.iload_n 2, 1) := by decide +kernel
theorem d_X8_signs_6 : decode prog_10_method_3_code 6 = .ok (.ifCond .lt 22, 3) := by decide +kernel
theorem d_X8_signs_9 : decode prog_10_method_3_code 9 = .ok (.iload_n 0, 1) := by decide +kernel
theorem d_X8_signs_10 : decode prog_10_method_3_code 10 = .ok (.iload_n 2, 1) := by decide +kernel
theorem d_X8_signs_11 : decode prog_10_method_3_code 11 = .ok (.ishr, 1) := by decide +kernel
theorem d_X8_signs_12 : decode prog_10_method_3_code 12 = .ok (.sipush 255, 3) := by decide +kernel
theorem d_X8_signs_15 : decode prog_10_method_3_code 15 = .ok (.iand, 1) := by decide +kernel
theorem d_X8_signs_16 : decode prog_10_method_3_code 16 = .ok (.ifCond .eq 6, 3) := by decide +kernel
theorem d_X8_signs_19 : decode prog_10_method_3_code 19 = .ok (.iinc 1 1, 3) := by decide +kernel
theorem d_X8_signs_22 : decode prog_10_method_3_code 22 = .ok (.iinc 2 (-8), 3) := by decide +kernel
theorem d_X8_signs_25 : decode prog_10_method_3_code 25 = .ok (.goto (-20), 3) := by decide +kernel
theorem d_X8_signs_28 : decode prog_10_method_3_code 28 = .ok (.iload_n 1, 1) := by decide +kernel
theorem d_X8_signs_29 : decode prog_10_method_3_code 29 = .ok (.ireturn, 1) := by decide +kernel
theorem d_X8_append_0 : decode prog_10_method_4_code 0 = .ok (.bipush 24, 2) := by decide +kernel
theorem d_X8_append_2 : decode prog_10_method_4_code 2 = .ok (.istore_n 2, 1) := by decide +kernel
theorem d_X8_append_3 : decode prog_10_method_4_code 3 = .ok (.iload_n 2, 1) := by decide +kernel
theorem d_X8_append_4 : decode prog_10_method_4_code 4 = .ok (.ifCond .lt 51, 3) := by decide +kernel
theorem d_X8_append_7 : decode prog_10_method_4_code 7 = .ok (.iload_n 1, 1) := by decide +kernel
theorem d_X8_append_8 : decode prog_10_method_4_code 8 = .ok (.iload_n 2, 1) := by decide +kernel
theorem d_X8_append_9 : decode prog_10_method_4_code 9 = .ok (.ishr, 1) := by decide +kernel
theorem d_X8_append_10 : decode prog_10_method_4_code 10 = .ok (.sipush 255, 3) := by decide +kernel
theorem d_X8_append_13 : decode prog_10_method_4_code 13 = .ok (.iand, 1) := by decide +kernel
theorem d_X8_append_14 : decode prog_10_method_4_code 14 = .ok (.istore_n 3, 1) := by decide +kernel
theorem d_X8_append_15 : decode prog_10_method_4_code 15 = .ok (.iload_n 3, 1) := by decide +kernel
theorem d_X8_append_16 : decode prog_10_method_4_code 16 = .ok (.ifCond .eq 33, 3) := by decide +kernel
theorem d_X8_append_19 : decode prog_10_method_4_code 19 = .ok (.aload_n 0, 1) := by decide +kernel
theorem d_X8_append_20 : decode prog_10_method_4_code 20 = .ok (.getfield 35, 3) := by decide +kernel
theorem d_X8_append_23 : decode prog_10_method_4_code 23 = .ok (.sipush 160, 3) := by decide +kernel
theorem d_X8_append_26 : decode prog_10_method_4_code 26 = .ok (.if_icmp .ge 23, 3) := by decide +kernel
theorem d_X8_append_29 : decode prog_10_method_4_code 29 = .ok (.aload_n 0, 1) := by decide +kernel
theorem d_X8_append_30 : decode prog_10_method_4_code 30 = .ok (.getfield 11, 3) := by decide +kernel
theorem d_X8_append_33 : decode prog_10_method_4_code 33 = .ok (.aload_n 0, 1) := by decide +kernel
theorem d_X8_append_34 : decode prog_10_method_4_code 34 = .ok (.getfield 35, 3) := by decide +kernel
theorem d_X8_append_37 : decode prog_10_method_4_code 37 = .ok (.iload_n 3, 1) := by decide +kernel
theorem d_X8_append_38 : decode prog_10_method_4_code 38 = .ok (.iastore, 1) := by decide +kernel
theorem d_X8_append_39 : decode prog_10_method_4_code 39 = .ok (.aload_n 0, 1) := by decide +kernel
theorem d_X8_append_40 : decode prog_10_method_4_code 40 = .ok (.dup, 1) := by decide +kernel
theorem d_X8_append_41 : decode prog_10_method_4_code 41 = .ok (.getfield 35, 3) := by decide +kernel
theorem d_X8_append_44 : decode prog_10_method_4_code 44 = .ok (.iconst 1, 1) := by decide +kernel
theorem d_X8_append_45 : decode prog_10_method_4_code 45 = .ok (.iadd, 1) := by decide +kernel
theorem d_X8_append_46 : decode prog_10_method_4_code 46 = .ok (.putfield 35, 3) := by decide +kernel
theorem d_X8_append_49 : decode prog_10_method_4_code 49 = .ok (.iinc 2 (-8), 3) := by decide +kernel
theorem d_X8_append_52 : decode prog_10_method_4_code 52 = .ok (.goto (-49), 3) := by decide +kernel
theorem d_X8_append_55 : decode prog_10_method_4_code 55 = .ok (.return_, 1) := by decide +kernel
theorem d_X8_cut_0 : decode prog_10_method_5_code 0 = .ok (.iload_n 1, 1) := by decide +kernel
theorem d_X8_cut_1 : decode prog_10_method_5_code 1 = .ok (.iconst 0, 1) := by decide +kernel
theorem d_X8_cut_2 : decode prog_10_method_5_code 2 = .ok (.aload_n 0, 1) := by decide +kernel
theorem d_X8_cut_3 : decode prog_10_method_5_code 3 = .ok (.getfield 35, 3) := by decide +kernel
theorem d_X8_cut_6 : decode prog_10_method_5_code 6 = .ok (.invokestatic 43, 3) := by decide +kernel
theorem d_X8_cut_9 : decode prog_10_method_5_code 9 = .ok (.ifCond .ne 5, 3) := by decide +kernel
theorem d_X8_cut_12 : decode prog_10_method_5_code 12 = .ok (.iconst 0, 1) := by decide +kernel
theorem d_X8_cut_13 : decode prog_10_method_5_code 13 = .ok (.ireturn, 1) := by decide +kernel
theorem d_X8_cut_14 : decode prog_10_method_5_code 14 = .ok (.aload_n 0, 1) := by decide +kernel
theorem d_X8_cut_15 : decode prog_10_method_5_code 15 = .ok (.iload_n 1, 1) := by decide +kernel
theorem d_X8_cut_16 : decode prog_10_method_5_code 16 = .ok (.putfield 35, 3) := by decide +kernel
theorem d_X8_cut_19 : decode prog_10_method_5_code 19 = .ok (.iconst 1, 1) := by decide +kernel
theorem d_X8_cut_20 : decode prog_10_method_5_code 20 = .ok (.ireturn, 1) := by decide +kernel
theorem d_X8_restart_0 : decode prog_10_method_6_code 0 = .ok (.aload_n 0, 1) := by decide +kernel
theorem d_X8_restart_1 : decode prog_10_method_6_code 1 = .ok (.iconst 0, 1) := by decide +kernel
theorem d_X8_restart_2 : decode prog_10_method_6_code 2 = .ok (.putfield 47, 3) := by decide +kernel
theorem d_X8_restart_5 : decode prog_10_method_6_code 5 = .ok (.aload_n 0, 1) := by decide +kernel
theorem d_X8_restart_6 : decode prog_10_method_6_code 6 = .ok (.iconst (-1), 1) := by decide +kernel
theorem d_X8_restart_7 : decode prog_10_method_6_code 7 = .ok (.putfield 50, 3) := by decide +kernel
theorem d_X8_restart_10 : decode prog_10_method_6_code 10 = .ok (.aload_n 0, 1) := by decide +kernel
theorem d_X8_restart_11 : decode prog_10_method_6_code 11 = .ok (.aload_n 1, 1) := by decide +kernel
theorem d_X8_restart_12 : decode prog_10_method_6_code 12 = .ok (.putfield 17, 3) := by decide +kernel
theorem d_X8_restart_15 : decode prog_10_method_6_code 15 = .ok (.aload_n 0, 1) := by decide +kernel
theorem d_X8_restart_16 : decode prog_10_method_6_code 16 = .ok (.iconst 0, 1) := by decide +kernel
theorem d_X8_restart_17 : decode prog_10_method_6_code 17 = .ok (.putfield 53, 3) := by decide +kernel
theorem d_X8_restart_20 : decode prog_10_method_6_code 20 = .ok (.aload_n 0, 1) := by decide +kernel
theorem d_X8_restart_21 : decode prog_10_method_6_code 21 = .ok (.iconst 0, 1) := by decide +kernel
theorem d_X8_restart_22 : decode prog_10_method_6_code 22 = .ok (.putfield 56, 3) := by decide +kernel
theorem d_X8_restart_25 : decode prog_10_method_6_code 25 = .ok (.aload_n 0, 1) := by decide +kernel
theorem d_X8_restart_26 : decode prog_10_method_6_code 26 = .ok (.iconst 0, 1) := by decide +kernel
theorem d_X8_restart_27 : decode prog_10_method_6_code 27 = .ok (.putfield 60, 3) := by decide +kernel
theorem d_X8_restart_30 : decode prog_10_method_6_code 30 = .ok (.return_, 1) := by decide +kernel
theorem d_X8_peek_0 : decode prog_10_method_7_code 0 = .ok (.aload_n 0, 1) := by decide +kernel
theorem d_X8_peek_1 : decode prog_10_method_7_code 1 = .ok (.getfield 47, 3) := by decide +kernel
theorem d_X8_peek_4 : decode prog_10_method_7_code 4 = .ok (.aload_n 0, 1) := by decide +kernel
theorem d_X8_peek_5 : decode prog_10_method_7_code 5 = .ok (.getfield 35, 3) := by decide +kernel
theorem d_X8_peek_8 : decode prog_10_method_7_code 8 = .ok (.if_icmp .ge 30, 3) := by decide +kernel
theorem d_X8_peek_11 : decode prog_10_method_7_code 11 = .ok (.aload_n 0, 1) := by decide +kernel
theorem d_X8_peek_12 : decode prog_10_method_7_code 12 = .ok (.getfield 11, 3) := by decide +kernel
theorem d_X8_peek_15 : decode prog_10_method_7_code 15 = .ok (.aload_n 0, 1) := by decide +kernel
theorem d_X8_peek_16 : decode prog_10_method_7_code 16 = .ok (.getfield 47, 3) := by decide +kernel
theorem d_X8_peek_19 : decode prog_10_method_7_code 19 = .ok (.iaload, 1) := by decide +kernel
theorem d_X8_peek_20 : decode prog_10_method_7_code 20 = .ok (.bipush 32, 2) := by decide +kernel
theorem d_X8_peek_22 : decode prog_10_method_7_code 22 = .ok (.if_icmp .ne 16, 3) := by decide +kernel
theorem d_X8_peek_25 : decode prog_10_method_7_code 25 = .ok (.aload_n 0, 1) := by decide +kernel
theorem d_X8_peek_26 : decode prog_10_method_7_code 26 = .ok (.dup, 1) := by decide +kernel
theorem d_X8_peek_27 : decode prog_10_method_7_code 27 = .ok (.getfield 47, 3) := by decide +kernel
theorem d_X8_peek_30 : decode prog_10_method_7_code 30 = .ok (.iconst 1, 1) := by decide +kernel
theorem d_X8_peek_31 : decode prog_10_method_7_code 31 = .ok (.iadd, 1) := by decide +kernel
theorem d_X8_peek_32 : decode prog_10_method_7_code 32 = .ok (.putfield 47, 3) := by decide +kernel
theorem d_X8_peek_35 : decode prog_10_method_7_code 35 = .ok (.goto (-35), 3) := by decide +kernel
theorem d_X8_peek_38 : decode prog_10_method_7_code 38 = .ok (.aload_n 0, 1) := by decide +kernel
theorem d_X8_peek_39 : decode prog_10_method_7_code 39 = .ok (.getfield 47, 3) := by decide +kernel
theorem d_X8_peek_42 : decode prog_10_method_7_code 42 = .ok (.aload_n 0, 1) := by decide +kernel
theorem d_X8_peek_43 : decode prog_10_method_7_code 43 = .ok (.getfield 35, 3) := by decide +kernel
theorem d_X8_peek_46 : decode prog_10_method_7_code 46 = .ok (.if_icmp .ge 15, 3) := by decide +kernel
theorem d_X8_peek_49 : decode prog_10_method_7_code 49 = .ok (.aload_n 0, 1) := by decide +kernel
theorem d_X8_peek_50 : decode prog_10_method_7_code 50 = .ok (.getfield 11, 3) := by decide +kernel
theorem d_X8_peek_53 : decode prog_10_method_7_code 53 = .ok (.aload_n 0, 1) := by decide +kernel
theorem d_X8_peek_54 : decode prog_10_method_7_code 54 = .ok (.getfield 47, 3) := by decide +kernel
theorem d_X8_peek_57 : decode prog_10_method_7_code 57 = .ok (.iaload, 1) := by decide +kernel
theorem d_X8_peek_58 : decode prog_10_method_7_code 58 = .ok (.goto 4, 3) := by decide +kernel
theorem d_X8_peek_61 : decode prog_10_method_7_code 61 = .ok (.iconst (-1), 1) := by decide +kernel
theorem d_X8_peek_62 : decode prog_10_method_7_code 62 = .ok (.ireturn, 1) := by decide +kernel
theorem d_X8_fail_0 : decode prog_10_method_8_code 0 = .ok (.aload_n 0, 1) := by decide +kernel
theorem d_X8_fail_1 : decode prog_10_method_8_code 1 = .ok (.aload_n 0, 1) := by decide +kernel
theorem d_X8_fail_2 : decode prog_10_method_8_code 2 = .ok (.getfield 47, 3) := by decide +kernel
theorem d_X8_fail_5 : decode prog_10_method_8_code 5 = .ok (.putfield 50, 3) := by decide +kernel
theorem d_X8_fail_8 : decode prog_10_method_8_code 8 = .ok (.iconst 0, 1) := by decide +kernel
theorem d_X8_fail_9 : decode prog_10_method_8_code 9 = .ok (.ireturn, 1) := by decide +kernel
theorem d_X8_expect_0 : decode prog_10_method_9_code 0 = .ok (.aload_n 0, 1) := by decide +kernel
theorem d_X8_expect_1 : decode prog_10_method_9_code 1 = .ok (.invokevirtual 63, 3) := by decide +kernel
theorem d_X8_expect_4 : decode prog_10_method_9_code 4 = .ok (.iload_n 1, 1) := by decide +kernel
theorem d_X8_expect_5 : decode prog_10_method_9_code 5 = .ok (.if_icmp .eq 8, 3) := by decide +kernel
theorem d_X8_expect_8 : decode prog_10_method_9_code 8 = .ok (.aload_n 0, 1) := by decide +kernel
theorem d_X8_expect_9 : decode prog_10_method_9_code 9 = .ok (.invokevirtual 67, 3) := by decide +kernel
theorem d_X8_expect_12 : decode prog_10_method_9_code 12 = .ok (.ireturn, 1) := by decide +kernel
theorem d_X8_expect_13 : decode prog_10_method_9_code 13 = .ok (.aload_n 0, 1) := by decide +kernel
theorem d_X8_expect_14 : decode prog_10_method_9_code 14 = .ok (.dup, 1) := by decide +kernel
theorem d_X8_expect_15 : decode prog_10_method_9_code 15 = .ok (.getfield 47, 3) := by decide +kernel
theorem d_X8_expect_18 : decode prog_10_method_9_code 18 = .ok (.iconst 1, 1) := by decide +kernel
theorem d_X8_expect_19 : decode prog_10_method_9_code 19 = .ok (.iadd, 1) := by decide +kernel
theorem d_X8_expect_20 : decode prog_10_method_9_code 20 = .ok (.putfield 47, 3) := by decide +kernel
theorem d_X8_expect_23 : decode prog_10_method_9_code 23 = .ok (.iconst 1, 1) := by decide +kernel
theorem d_X8_expect_24 : decode prog_10_method_9_code 24 = .ok (.ireturn, 1) := by decide +kernel
theorem d_X8_isDigit_0 : decode prog_10_method_10_code 0 = .ok (.iload_n 0, 1) := by decide +kernel
theorem d_X8_isDigit_1 : decode prog_10_method_10_code 1 = .ok (.bipush 48, 2) := by decide +kernel
theorem d_X8_isDigit_3 : decode prog_10_method_10_code 3 = .ok (.if_icmp .lt 13, 3) := by decide +kernel
theorem d_X8_isDigit_6 : decode prog_10_method_10_code 6 = .ok (.iload_n 0, 1) := by decide +kernel
theorem d_X8_isDigit_7 : decode prog_10_method_10_code 7 = .ok (.bipush 57, 2) := by decide +kernel
theorem d_X8_isDigit_9 : decode prog_10_method_10_code 9 = .ok (.if_icmp .gt 7, 3) := by decide +kernel
theorem d_X8_isDigit_12 : decode prog_10_method_10_code 12 = .ok (.iconst 1, 1) := by decide +kernel
theorem d_X8_isDigit_13 : decode prog_10_method_10_code 13 = .ok (.goto 4, 3) := by decide +kernel
theorem d_X8_isDigit_16 : decode prog_10_method_10_code 16 = .ok (.iconst 0, 1) := by decide +kernel
theorem d_X8_isDigit_17 : decode prog_10_method_10_code 17 = .ok (.ireturn, 1) := by decide +kernel
theorem d_X8_readNumber_0 : decode prog_10_method_11_code 0 = .ok (.iconst 0, 1) := by decide +kernel
theorem d_X8_readNumber_1 : decode prog_10_method_11_code 1 = .ok (.istore_n 3, 1) := by decide +kernel
theorem d_X8_readNumber_2 : decode prog_10_method_11_code 2 = .ok (.iconst 0, 1) := by decide +kernel
theorem d_X8_readNumber_3 : decode prog_10_method_11_code 3 = .ok (.istore 4, 2) := by decide +kernel
theorem d_X8_readNumber_5 : decode prog_10_method_11_code 5 = .ok (.aload_n 0, 1) := by decide +kernel
theorem d_X8_readNumber_6 : decode prog_10_method_11_code 6 = .ok (.invokevirtual 63, 3) := by decide +kernel
theorem d_X8_readNumber_9 : decode prog_10_method_11_code 9 = .ok (.invokestatic 71, 3) := by decide +kernel
theorem d_X8_readNumber_12 : decode prog_10_method_11_code 12 = .ok (.istore 5, 2) := by decide +kernel
theorem d_X8_readNumber_14 : decode prog_10_method_11_code 14 = .ok (.iload 5, 2) := by decide +kernel
theorem d_X8_readNumber_16 : decode prog_10_method_11_code 16 = .ok (.ifCond .eq 79, 3) := by decide +kernel
theorem d_X8_readNumber_19 : decode prog_10_method_11_code 19 = .ok (.aload_n 0, 1) := by decide +kernel
theorem d_X8_readNumber_20 : decode prog_10_method_11_code 20 = .ok (.getfield 47, 3) := by decide +kernel
theorem d_X8_readNumber_23 : decode prog_10_method_11_code 23 = .ok (.aload_n 0, 1) := by decide +kernel
theorem d_X8_readNumber_24 : decode prog_10_method_11_code 24 = .ok (.getfield 35, 3) := by decide +kernel
theorem d_X8_readNumber_27 : decode prog_10_method_11_code 27 = .ok (.if_icmp .ge 68, 3) := by decide +kernel
theorem d_X8_readNumber_30 : decode prog_10_method_11_code 30 = .ok (.aload_n 0, 1) := by decide +kernel
theorem d_X8_readNumber_31 : decode prog_10_method_11_code 31 = .ok (.getfield 11, 3) := by decide +kernel
theorem d_X8_readNumber_34 : decode prog_10_method_11_code 34 = .ok (.aload_n 0, 1) := by decide +kernel
theorem d_X8_readNumber_35 : decode prog_10_method_11_code 35 = .ok (.getfield 47, 3) := by decide +kernel
theorem d_X8_readNumber_38 : decode prog_10_method_11_code 38 = .ok (.iaload, 1) := by decide +kernel
theorem d_X8_readNumber_39 : decode prog_10_method_11_code 39 = .ok (.invokestatic 71, 3) := by decide +kernel
theorem d_X8_readNumber_42 : decode prog_10_method_11_code 42 = .ok (.ifCond .eq 53, 3) := by decide +kernel
theorem d_X8_readNumber_45 : decode prog_10_method_11_code 45 = .ok (.iload 4, 2) := by decide +kernel
theorem d_X8_readNumber_47 : decode prog_10_method_11_code 47 = .ok (.iconst 4, 1) := by decide +kernel
theorem d_X8_readNumber_48 : decode prog_10_method_11_code 48 = .ok (.if_icmp .ne 13, 3) := by decide +kernel
theorem d_X8_readNumber_51 : decode prog_10_method_11_code 51 = .ok (.aload_n 0, 1) := by decide +kernel
theorem d_X8_readNumber_52 : decode prog_10_method_11_code 52 = .ok (.aload_n 0, 1) := by decide +kernel
theorem d_X8_readNumber_53 : decode prog_10_method_11_code 53 = .ok (.getfield 47, 3) := by decide +kernel
theorem d_X8_readNumber_56 : decode prog_10_method_11_code 56 = .ok (.putfield 50, 3) := by decide +kernel
theorem d_X8_readNumber_59 : decode prog_10_method_11_code 59 = .ok (.iconst (-1), 1) := by decide +kernel
theorem d_X8_readNumber_60 : decode prog_10_method_11_code 60 = .ok (.ireturn, 1) := by decide +kernel
theorem d_X8_readNumber_61 : decode prog_10_method_11_code 61 = .ok (.iload_n 3, 1) := by decide +kernel
theorem d_X8_readNumber_62 : decode prog_10_method_11_code 62 = .ok (.bipush 10, 2) := by decide +kernel
theorem d_X8_readNumber_64 : decode prog_10_method_11_code 64 = .ok (.imul, 1) := by decide +kernel
theorem d_X8_readNumber_65 : decode prog_10_method_11_code 65 = .ok (.aload_n 0, 1) := by decide +kernel
theorem d_X8_readNumber_66 : decode prog_10_method_11_code 66 = .ok (.getfield 11, 3) := by decide +kernel
theorem d_X8_readNumber_69 : decode prog_10_method_11_code 69 = .ok (.aload_n 0, 1) := by decide +kernel
theorem d_X8_readNumber_70 : decode prog_10_method_11_code 70 = .ok (.getfield 47, 3) := by decide +kernel
theorem d_X8_readNumber_73 : decode prog_10_method_11_code 73 = .ok (.iaload, 1) := by decide +kernel
theorem d_X8_readNumber_74 : decode prog_10_method_11_code 74 = .ok (.iadd, 1) := by decide +kernel
theorem d_X8_readNumber_75 : decode prog_10_method_11_code 75 = .ok (.bipush 48, 2) := by decide +kernel
theorem d_X8_readNumber_77 : decode prog_10_method_11_code 77 = .ok (.isub, 1) := by decide +kernel
theorem d_X8_readNumber_78 : decode prog_10_method_11_code 78 = .ok (.istore_n 3, 1) := by decide +kernel
theorem d_X8_readNumber_79 : decode prog_10_method_11_code 79 = .ok (.iinc 4 1, 3) := by decide +kernel
theorem d_X8_readNumber_82 : decode prog_10_method_11_code 82 = .ok (.aload_n 0, 1) := by decide +kernel
theorem d_X8_readNumber_83 : decode prog_10_method_11_code 83 = .ok (.dup, 1) := by decide +kernel
theorem d_X8_readNumber_84 : decode prog_10_method_11_code 84 = .ok (.getfield 47, 3) := by decide +kernel
theorem d_X8_readNumber_87 : decode prog_10_method_11_code 87 = .ok (.iconst 1, 1) := by decide +kernel
theorem d_X8_readNumber_88 : decode prog_10_method_11_code 88 = .ok (.iadd, 1) := by decide +kernel
theorem d_X8_readNumber_89 : decode prog_10_method_11_code 89 = .ok (.putfield 47, 3) := by decide +kernel
theorem d_X8_readNumber_92 : decode prog_10_method_11_code 92 = .ok (.goto (-78), 3) := by decide +kernel
theorem d_X8_readNumber_95 : decode prog_10_method_11_code 95 = .ok (.iload 5, 2) := by decide +kernel
theorem d_X8_readNumber_97 : decode prog_10_method_11_code 97 = .ok (.ifCond .ne 13, 3) := by decide +kernel
theorem d_X8_readNumber_100 : decode prog_10_method_11_code 100 = .ok (.aload_n 0, 1) := by decide +kernel
theorem d_X8_readNumber_101 : decode prog_10_method_11_code 101 = .ok (.aload_n 0, 1) := by decide +kernel
theorem d_X8_readNumber_102 : decode prog_10_method_11_code 102 = .ok (.getfield 47, 3) := by decide +kernel
theorem d_X8_readNumber_105 : decode prog_10_method_11_code 105 = .ok (.putfield 50, 3) := by decide +kernel
theorem d_X8_readNumber_108 : decode prog_10_method_11_code 108 = .ok (.iconst (-1), 1) := by decide +kernel
theorem d_X8_readNumber_109 : decode prog_10_method_11_code 109 = .ok (.ireturn, 1) := by decide +kernel
theorem d_X8_readNumber_110 : decode prog_10_method_11_code 110 = .ok (.iload_n 3, 1) := by decide +kernel
theorem d_X8_readNumber_111 : decode prog_10_method_11_code 111 = .ok (.iload_n 1, 1) := by decide +kernel
theorem d_X8_readNumber_112 : decode prog_10_method_11_code 112 = .ok (.iload_n 2, 1) := by decide +kernel
theorem d_X8_readNumber_113 : decode prog_10_method_11_code 113 = .ok (.invokestatic 43, 3) := by decide +kernel
theorem d_X8_readNumber_116 : decode prog_10_method_11_code 116 = .ok (.ifCond .ne 15, 3) := by decide +kernel
theorem d_X8_readNumber_119 : decode prog_10_method_11_code 119 = .ok (.aload_n 0, 1) := by decide +kernel
theorem d_X8_readNumber_120 : decode prog_10_method_11_code 120 = .ok (.aload_n 0, 1) := by decide +kernel
theorem d_X8_readNumber_121 : decode prog_10_method_11_code 121 = .ok (.getfield 47, 3) := by decide +kernel
theorem d_X8_readNumber_124 : decode prog_10_method_11_code 124 = .ok (.iconst 1, 1) := by decide +kernel
theorem d_X8_readNumber_125 : decode prog_10_method_11_code 125 = .ok (.isub, 1) := by decide +kernel
theorem d_X8_readNumber_126 : decode prog_10_method_11_code 126 = .ok (.putfield 50, 3) := by decide +kernel
theorem d_X8_readNumber_129 : decode prog_10_method_11_code 129 = .ok (.iconst (-1), 1) := by decide +kernel
theorem d_X8_readNumber_130 : decode prog_10_method_11_code 130 = .ok (.ireturn, 1) := by decide +kernel
theorem d_X8_readNumber_131 : decode prog_10_method_11_code 131 = .ok (.iload_n 3, 1) := by decide +kernel
theorem d_X8_readNumber_132 : decode prog_10_method_11_code 132 = .ok (.ireturn, 1) := by decide +kernel
theorem d_X8_readBeat_0 : decode prog_10_method_12_code 0 = .ok (.aload_n 0, 1) := by decide +kernel
theorem d_X8_readBeat_1 : decode prog_10_method_12_code 1 = .ok (.ldc 15, 2) := by decide +kernel
theorem d_X8_readBeat_3 : decode prog_10_method_12_code 3 = .ok (.invokevirtual 75, 3) := by decide +kernel
theorem d_X8_readBeat_6 : decode prog_10_method_12_code 6 = .ok (.aload_n 0, 1) := by decide +kernel
theorem d_X8_readBeat_7 : decode prog_10_method_12_code 7 = .ok (.iconst 0, 1) := by decide +kernel
theorem d_X8_readBeat_8 : decode prog_10_method_12_code 8 = .ok (.invokevirtual 79, 3) := by decide +kernel
theorem d_X8_readBeat_11 : decode prog_10_method_12_code 11 = .ok (.ifCond .eq 16, 3) := by decide +kernel
theorem d_X8_readBeat_14 : decode prog_10_method_12_code 14 = .ok (.aload_n 0, 1) := by decide +kernel
theorem d_X8_readBeat_15 : decode prog_10_method_12_code 15 = .ok (.invokevirtual 63, 3) := by decide +kernel
theorem d_X8_readBeat_18 : decode prog_10_method_12_code 18 = .ok (.iconst (-1), 1) := by decide +kernel
theorem d_X8_readBeat_19 : decode prog_10_method_12_code 19 = .ok (.if_icmp .eq 8, 3) := by decide +kernel
theorem d_X8_readBeat_22 : decode prog_10_method_12_code 22 = .ok (.aload_n 0, 1) := by decide +kernel
theorem d_X8_readBeat_23 : decode prog_10_method_12_code 23 = .ok (.invokevirtual 67, 3) := by decide +kernel
theorem d_X8_readBeat_26 : decode prog_10_method_12_code 26 = .ok (.pop, 1) := by decide +kernel
theorem d_X8_readBeat_27 : decode prog_10_method_12_code 27 = .ok (.aload_n 0, 1) := by decide +kernel
theorem d_X8_readBeat_28 : decode prog_10_method_12_code 28 = .ok (.getfield 50, 3) := by decide +kernel
theorem d_X8_readBeat_31 : decode prog_10_method_12_code 31 = .ok (.ireturn, 1) := by decide +kernel
theorem d_X8_readSteps_0 : decode prog_10_method_13_code 0 = .ok (.aload_n 0, 1) := by decide +kernel
theorem d_X8_readSteps_1 : decode prog_10_method_13_code 1 = .ok (.iload_n 1, 1) := by decide +kernel
theorem d_X8_readSteps_2 : decode prog_10_method_13_code 2 = .ok (.invokevirtual 82, 3) := by decide +kernel
theorem d_X8_readSteps_5 : decode prog_10_method_13_code 5 = .ok (.istore_n 2, 1) := by decide +kernel
theorem d_X8_readSteps_6 : decode prog_10_method_13_code 6 = .ok (.iconst 0, 1) := by decide +kernel
theorem d_X8_readSteps_7 : decode prog_10_method_13_code 7 = .ok (.istore_n 3, 1) := by decide +kernel
theorem d_X8_readSteps_8 : decode prog_10_method_13_code 8 = .ok (.iload_n 3, 1) := by decide +kernel
theorem d_X8_readSteps_9 : decode prog_10_method_13_code 9 = .ok (.sipush 160, 3) := by decide +kernel
theorem d_X8_readSteps_12 : decode prog_10_method_13_code 12 = .ok (.if_icmp .ge 38, 3) := by decide +kernel
theorem d_X8_readSteps_15 : decode prog_10_method_13_code 15 = .ok (.iload_n 2, 1) := by decide +kernel
theorem d_X8_readSteps_16 : decode prog_10_method_13_code 16 = .ok (.ifCond .eq 34, 3) := by decide +kernel
theorem d_X8_readSteps_19 : decode prog_10_method_13_code 19 = .ok (.aload_n 0, 1) := by decide +kernel
theorem d_X8_readSteps_20 : decode prog_10_method_13_code 20 = .ok (.invokevirtual 63, 3) := by decide +kernel
theorem d_X8_readSteps_23 : decode prog_10_method_13_code 23 = .ok (.bipush 59, 2) := by decide +kernel
theorem d_X8_readSteps_25 : decode prog_10_method_13_code 25 = .ok (.if_icmp .ne 25, 3) := by decide +kernel
theorem d_X8_readSteps_28 : decode prog_10_method_13_code 28 = .ok (.aload_n 0, 1) := by decide +kernel
theorem d_X8_readSteps_29 : decode prog_10_method_13_code 29 = .ok (.dup, 1) := by decide +kernel
theorem d_X8_readSteps_30 : decode prog_10_method_13_code 30 = .ok (.getfield 47, 3) := by decide +kernel
theorem d_X8_readSteps_33 : decode prog_10_method_13_code 33 = .ok (.iconst 1, 1) := by decide +kernel
theorem d_X8_readSteps_34 : decode prog_10_method_13_code 34 = .ok (.iadd, 1) := by decide +kernel
theorem d_X8_readSteps_35 : decode prog_10_method_13_code 35 = .ok (.putfield 47, 3) := by decide +kernel
theorem d_X8_readSteps_38 : decode prog_10_method_13_code 38 = .ok (.aload_n 0, 1) := by decide +kernel
theorem d_X8_readSteps_39 : decode prog_10_method_13_code 39 = .ok (.iload_n 1, 1) := by decide +kernel
theorem d_X8_readSteps_40 : decode prog_10_method_13_code 40 = .ok (.invokevirtual 82, 3) := by decide +kernel
theorem d_X8_readSteps_43 : decode prog_10_method_13_code 43 = .ok (.istore_n 2, 1) := by decide +kernel
theorem d_X8_readSteps_44 : decode prog_10_method_13_code 44 = .ok (.iinc 3 1, 3) := by decide +kernel
theorem d_X8_readSteps_47 : decode prog_10_method_13_code 47 = .ok (.goto (-39), 3) := by decide +kernel
theorem d_X8_readSteps_50 : decode prog_10_method_13_code 50 = .ok (.iload_n 2, 1) := by decide +kernel
theorem d_X8_readSteps_51 : decode prog_10_method_13_code 51 = .ok (.ireturn, 1) := by decide +kernel
theorem d_X8_readStep_0 : decode prog_10_method_14_code 0 = .ok (.aload_n 0, 1) := by decide +kernel
theorem d_X8_readStep_1 : decode prog_10_method_14_code 1 = .ok (.invokevirtual 63, 3) := by decide +kernel
theorem d_X8_readStep_4 : decode prog_10_method_14_code 4 = .ok (.lookupswitch 140 #[(40, 134), (103, 52), (108, 116), (112, 101), (119, 76)], 52) := by decide +kernel
theorem d_X8_readStep_56 : decode prog_10_method_14_code 56 = .ok (.aload_n 0, 1) := by decide +kernel
theorem d_X8_readStep_57 : decode prog_10_method_14_code 57 = .ok (.dup, 1) := by decide +kernel
theorem d_X8_readStep_58 : decode prog_10_method_14_code 58 = .ok (.getfield 47, 3) := by decide +kernel
theorem d_X8_readStep_61 : decode prog_10_method_14_code 61 = .ok (.iconst 1, 1) := by decide +kernel
theorem d_X8_readStep_62 : decode prog_10_method_14_code 62 = .ok (.iadd, 1) := by decide +kernel
theorem d_X8_readStep_63 : decode prog_10_method_14_code 63 = .ok (.putfield 47, 3) := by decide +kernel
theorem d_X8_readStep_66 : decode prog_10_method_14_code 66 = .ok (.aload_n 0, 1) := by decide +kernel
theorem d_X8_readStep_67 : decode prog_10_method_14_code 67 = .ok (.iconst 0, 1) := by decide +kernel
theorem d_X8_readStep_68 : decode prog_10_method_14_code 68 = .ok (.aload_n 0, 1) := by decide +kernel
theorem d_X8_readStep_69 : decode prog_10_method_14_code 69 = .ok (.iconst 0, 1) := by decide +kernel
theorem d_X8_readStep_70 : decode prog_10_method_14_code 70 = .ok (.bipush 15, 2) := by decide +kernel
theorem d_X8_readStep_72 : decode prog_10_method_14_code 72 = .ok (.invokevirtual 85, 3) := by decide +kernel
theorem d_X8_readStep_75 : decode prog_10_method_14_code 75 = .ok (.iconst 0, 1) := by decide +kernel
theorem d_X8_readStep_76 : decode prog_10_method_14_code 76 = .ok (.invokevirtual 89, 3) := by decide +kernel
theorem d_X8_readStep_79 : decode prog_10_method_14_code 79 = .ok (.ireturn, 1) := by decide +kernel
theorem d_X8_readStep_80 : decode prog_10_method_14_code 80 = .ok (.aload_n 0, 1) := by decide +kernel
theorem d_X8_readStep_81 : decode prog_10_method_14_code 81 = .ok (.dup, 1) := by decide +kernel
theorem d_X8_readStep_82 : decode prog_10_method_14_code 82 = .ok (.getfield 47, 3) := by decide +kernel
theorem d_X8_readStep_85 : decode prog_10_method_14_code 85 = .ok (.iconst 1, 1) := by decide +kernel
theorem d_X8_readStep_86 : decode prog_10_method_14_code 86 = .ok (.iadd, 1) := by decide +kernel
theorem d_X8_readStep_87 : decode prog_10_method_14_code 87 = .ok (.putfield 47, 3) := by decide +kernel
theorem d_X8_readStep_90 : decode prog_10_method_14_code 90 = .ok (.aload_n 0, 1) := by decide +kernel
theorem d_X8_readStep_91 : decode prog_10_method_14_code 91 = .ok (.iconst 1, 1) := by decide +kernel
theorem d_X8_readStep_92 : decode prog_10_method_14_code 92 = .ok (.iconst 0, 1) := by decide +kernel
theorem d_X8_readStep_93 : decode prog_10_method_14_code 93 = .ok (.aload_n 0, 1) := by decide +kernel
theorem d_X8_readStep_94 : decode prog_10_method_14_code 94 = .ok (.iconst 1, 1) := by decide +kernel
theorem d_X8_readStep_95 : decode prog_10_method_14_code 95 = .ok (.sipush 240, 3) := by decide +kernel
theorem d_X8_readStep_98 : decode prog_10_method_14_code 98 = .ok (.invokevirtual 85, 3) := by decide +kernel
theorem d_X8_readStep_101 : decode prog_10_method_14_code 101 = .ok (.invokevirtual 89, 3) := by decide +kernel
theorem d_X8_readStep_104 : decode prog_10_method_14_code 104 = .ok (.ireturn, 1) := by decide +kernel
theorem d_X8_readStep_105 : decode prog_10_method_14_code 105 = .ok (.aload_n 0, 1) := by decide +kernel
theorem d_X8_readStep_106 : decode prog_10_method_14_code 106 = .ok (.dup, 1) := by decide +kernel
theorem d_X8_readStep_107 : decode prog_10_method_14_code 107 = .ok (.getfield 47, 3) := by decide +kernel
theorem d_X8_readStep_110 : decode prog_10_method_14_code 110 = .ok (.iconst 1, 1) := by decide +kernel
theorem d_X8_readStep_111 : decode prog_10_method_14_code 111 = .ok (.iadd, 1) := by decide +kernel
theorem d_X8_readStep_112 : decode prog_10_method_14_code 112 = .ok (.putfield 47, 3) := by decide +kernel
theorem d_X8_readStep_115 : decode prog_10_method_14_code 115 = .ok (.aload_n 0, 1) := by decide +kernel
theorem d_X8_readStep_116 : decode prog_10_method_14_code 116 = .ok (.invokevirtual 92, 3) := by decide +kernel
theorem d_X8_readStep_119 : decode prog_10_method_14_code 119 = .ok (.ireturn, 1) := by decide +kernel
theorem d_X8_readStep_120 : decode prog_10_method_14_code 120 = .ok (.aload_n 0, 1) := by decide +kernel
theorem d_X8_readStep_121 : decode prog_10_method_14_code 121 = .ok (.dup, 1) := by decide +kernel
theorem d_X8_readStep_122 : decode prog_10_method_14_code 122 = .ok (.getfield 47, 3) := by decide +kernel
theorem d_X8_readStep_125 : decode prog_10_method_14_code 125 = .ok (.iconst 1, 1) := by decide +kernel
