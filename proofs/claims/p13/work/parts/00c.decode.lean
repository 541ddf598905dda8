theorem d_X8_readStep_126 : decode prog_10_method_14_code 126 = .ok (.iadd, 1) := by decide +kernel
theorem d_X8_readStep_127 : decode prog_10_method_14_code 127 = .ok (.putfield 47, 3) := by decide +kernel
theorem d_X8_readStep_130 : decode prog_10_method_14_code 130 = .ok (.aload_n 0, 1) := by decide +kernel
theorem d_X8_readStep_131 : decode prog_10_method_14_code 131 = .ok (.iconst 3, 1) := by decide +kernel
theorem d_X8_readStep_132 : decode prog_10_method_14_code 132 = .ok (.iconst 0, 1) := by decide +kernel
theorem d_X8_readStep_133 : decode prog_10_method_14_code 133 = .ok (.iconst 0, 1) := by decide +kernel
theorem d_X8_readStep_134 : decode prog_10_method_14_code 134 = .ok (.invokevirtual 89, 3) := by decide +kernel
theorem d_X8_readStep_137 : decode prog_10_method_14_code 137 = .ok (.ireturn, 1) := by decide +kernel
theorem d_X8_readStep_138 : decode prog_10_method_14_code 138 = .ok (.aload_n 0, 1) := by decide +kernel
theorem d_X8_readStep_139 : decode prog_10_method_14_code 139 = .ok (.iload_n 1, 1) := by decide +kernel
theorem d_X8_readStep_140 : decode prog_10_method_14_code 140 = .ok (.invokevirtual 95, 3) := by decide +kernel
theorem d_X8_readStep_143 : decode prog_10_method_14_code 143 = .ok (.ireturn, 1) := by decide +kernel
theorem d_X8_readStep_144 : decode prog_10_method_14_code 144 = .ok (.aload_n 0, 1) := by decide +kernel
theorem d_X8_readStep_145 : decode prog_10_method_14_code 145 = .ok (.invokevirtual 67, 3) := by decide +kernel
theorem d_X8_readStep_148 : decode prog_10_method_14_code 148 = .ok (.ireturn, 1) := by decide +kernel
theorem d_X8_readPoint_0 : decode prog_10_method_15_code 0 = .ok (.aload_n 0, 1) := by decide +kernel
theorem d_X8_readPoint_1 : decode prog_10_method_15_code 1 = .ok (.iconst 0, 1) := by decide +kernel
theorem d_X8_readPoint_2 : decode prog_10_method_15_code 2 = .ok (.bipush 15, 2) := by decide +kernel
theorem d_X8_readPoint_4 : decode prog_10_method_15_code 4 = .ok (.invokevirtual 85, 3) := by decide +kernel
theorem d_X8_readPoint_7 : decode prog_10_method_15_code 7 = .ok (.istore_n 1, 1) := by decide +kernel
theorem d_X8_readPoint_8 : decode prog_10_method_15_code 8 = .ok (.iload_n 1, 1) := by decide +kernel
theorem d_X8_readPoint_9 : decode prog_10_method_15_code 9 = .ok (.iconst (-1), 1) := by decide +kernel
theorem d_X8_readPoint_10 : decode prog_10_method_15_code 10 = .ok (.if_icmp .eq 24, 3) := by decide +kernel
theorem d_X8_readPoint_13 : decode prog_10_method_15_code 13 = .ok (.aload_n 0, 1) := by decide +kernel
theorem d_X8_readPoint_14 : decode prog_10_method_15_code 14 = .ok (.iconst 2, 1) := by decide +kernel
theorem d_X8_readPoint_15 : decode prog_10_method_15_code 15 = .ok (.iload_n 1, 1) := by decide +kernel
theorem d_X8_readPoint_16 : decode prog_10_method_15_code 16 = .ok (.aload_n 0, 1) := by decide +kernel
theorem d_X8_readPoint_17 : decode prog_10_method_15_code 17 = .ok (.iconst 0, 1) := by decide +kernel
theorem d_X8_readPoint_18 : decode prog_10_method_15_code 18 = .ok (.sipush 1440, 3) := by decide +kernel
theorem d_X8_readPoint_21 : decode prog_10_method_15_code 21 = .ok (.invokevirtual 85, 3) := by decide +kernel
theorem d_X8_readPoint_24 : decode prog_10_method_15_code 24 = .ok (.invokevirtual 89, 3) := by decide +kernel
theorem d_X8_readPoint_27 : decode prog_10_method_15_code 27 = .ok (.ifCond .eq 7, 3) := by decide +kernel
theorem d_X8_readPoint_30 : decode prog_10_method_15_code 30 = .ok (.iconst 1, 1) := by decide +kernel
theorem d_X8_readPoint_31 : decode prog_10_method_15_code 31 = .ok (.goto 4, 3) := by decide +kernel
theorem d_X8_readPoint_34 : decode prog_10_method_15_code 34 = .ok (.iconst 0, 1) := by decide +kernel
theorem d_X8_readPoint_35 : decode prog_10_method_15_code 35 = .ok (.ireturn, 1) := by decide +kernel
theorem d_X8_readGroup_0 : decode prog_10_method_16_code 0 = .ok (.iload_n 1, 1) := by decide +kernel
theorem d_X8_readGroup_1 : decode prog_10_method_16_code 1 = .ok (.iconst 4, 1) := by decide +kernel
theorem d_X8_readGroup_2 : decode prog_10_method_16_code 2 = .ok (.if_icmp .lt 8, 3) := by decide +kernel
theorem d_X8_readGroup_5 : decode prog_10_method_16_code 5 = .ok (.aload_n 0, 1) := by decide +kernel
theorem d_X8_readGroup_6 : decode prog_10_method_16_code 6 = .ok (.invokevirtual 67, 3) := by decide +kernel
theorem d_X8_readGroup_9 : decode prog_10_method_16_code 9 = .ok (.ireturn, 1) := by decide +kernel
theorem d_X8_readGroup_10 : decode prog_10_method_16_code 10 = .ok (.aload_n 0, 1) := by decide +kernel
theorem d_X8_readGroup_11 : decode prog_10_method_16_code 11 = .ok (.dup, 1) := by decide +kernel
theorem d_X8_readGroup_12 : decode prog_10_method_16_code 12 = .ok (.getfield 47, 3) := by decide +kernel
theorem d_X8_readGroup_15 : decode prog_10_method_16_code 15 = .ok (.iconst 1, 1) := by decide +kernel
theorem d_X8_readGroup_16 : decode prog_10_method_16_code 16 = .ok (.iadd, 1) := by decide +kernel
theorem d_X8_readGroup_17 : decode prog_10_method_16_code 17 = .ok (.putfield 47, 3) := by decide +kernel
theorem d_X8_readGroup_20 : decode prog_10_method_16_code 20 = .ok (.aload_n 0, 1) := by decide +kernel
theorem d_X8_readGroup_21 : decode prog_10_method_16_code 21 = .ok (.getfield 53, 3) := by decide +kernel
theorem d_X8_readGroup_24 : decode prog_10_method_16_code 24 = .ok (.istore_n 2, 1) := by decide +kernel
theorem d_X8_readGroup_25 : decode prog_10_method_16_code 25 = .ok (.aload_n 0, 1) := by decide +kernel
theorem d_X8_readGroup_26 : decode prog_10_method_16_code 26 = .ok (.iload_n 1, 1) := by decide +kernel
theorem d_X8_readGroup_27 : decode prog_10_method_16_code 27 = .ok (.iconst 1, 1) := by decide +kernel
theorem d_X8_readGroup_28 : decode prog_10_method_16_code 28 = .ok (.iadd, 1) := by decide +kernel
theorem d_X8_readGroup_29 : decode prog_10_method_16_code 29 = .ok (.invokevirtual 79, 3) := by decide +kernel
theorem d_X8_readGroup_32 : decode prog_10_method_16_code 32 = .ok (.ifCond .eq 12, 3) := by decide +kernel
theorem d_X8_readGroup_35 : decode prog_10_method_16_code 35 = .ok (.aload_n 0, 1) := by decide +kernel
theorem d_X8_readGroup_36 : decode prog_10_method_16_code 36 = .ok (.bipush 41, 2) := by decide +kernel
theorem d_X8_readGroup_38 : decode prog_10_method_16_code 38 = .ok (.invokevirtual 98, 3) := by decide +kernel
theorem d_X8_readGroup_41 : decode prog_10_method_16_code 41 = .ok (.ifCond .ne 5, 3) := by decide +kernel
theorem d_X8_readGroup_44 : decode prog_10_method_16_code 44 = .ok (.iconst 0, 1) := by decide +kernel
theorem d_X8_readGroup_45 : decode prog_10_method_16_code 45 = .ok (.ireturn, 1) := by decide +kernel
theorem d_X8_readGroup_46 : decode prog_10_method_16_code 46 = .ok (.aload_n 0, 1) := by decide +kernel
theorem d_X8_readGroup_47 : decode prog_10_method_16_code 47 = .ok (.iconst 1, 1) := by decide +kernel
theorem d_X8_readGroup_48 : decode prog_10_method_16_code 48 = .ok (.bipush 20, 2) := by decide +kernel
theorem d_X8_readGroup_50 : decode prog_10_method_16_code 50 = .ok (.invokevirtual 85, 3) := by decide +kernel
theorem d_X8_readGroup_53 : decode prog_10_method_16_code 53 = .ok (.istore_n 3, 1) := by decide +kernel
theorem d_X8_readGroup_54 : decode prog_10_method_16_code 54 = .ok (.iload_n 3, 1) := by decide +kernel
theorem d_X8_readGroup_55 : decode prog_10_method_16_code 55 = .ok (.iconst (-1), 1) := by decide +kernel
theorem d_X8_readGroup_56 : decode prog_10_method_16_code 56 = .ok (.if_icmp .ne 5, 3) := by decide +kernel
theorem d_X8_readGroup_59 : decode prog_10_method_16_code 59 = .ok (.iconst 0, 1) := by decide +kernel
theorem d_X8_readGroup_60 : decode prog_10_method_16_code 60 = .ok (.ireturn, 1) := by decide +kernel
theorem d_X8_readGroup_61 : decode prog_10_method_16_code 61 = .ok (.aload_n 0, 1) := by decide +kernel
theorem d_X8_readGroup_62 : decode prog_10_method_16_code 62 = .ok (.getfield 53, 3) := by decide +kernel
theorem d_X8_readGroup_65 : decode prog_10_method_16_code 65 = .ok (.istore 4, 2) := by decide +kernel
theorem d_X8_readGroup_67 : decode prog_10_method_16_code 67 = .ok (.iconst 1, 1) := by decide +kernel
theorem d_X8_readGroup_68 : decode prog_10_method_16_code 68 = .ok (.istore 5, 2) := by decide +kernel
theorem d_X8_readGroup_70 : decode prog_10_method_16_code 70 = .ok (.iload 5, 2) := by decide +kernel
theorem d_X8_readGroup_72 : decode prog_10_method_16_code 72 = .ok (.iload_n 3, 1) := by decide +kernel
theorem d_X8_readGroup_73 : decode prog_10_method_16_code 73 = .ok (.if_icmp .ge 43, 3) := by decide +kernel
theorem d_X8_readGroup_76 : decode prog_10_method_16_code 76 = .ok (.aload_n 0, 1) := by decide +kernel
theorem d_X8_readGroup_77 : decode prog_10_method_16_code 77 = .ok (.getfield 56, 3) := by decide +kernel
theorem d_X8_readGroup_80 : decode prog_10_method_16_code 80 = .ok (.ifCond .ne 36, 3) := by decide +kernel
theorem d_X8_readGroup_83 : decode prog_10_method_16_code 83 = .ok (.iload_n 2, 1) := by decide +kernel
theorem d_X8_readGroup_84 : decode prog_10_method_16_code 84 = .ok (.istore 6, 2) := by decide +kernel
theorem d_X8_readGroup_86 : decode prog_10_method_16_code 86 = .ok (.iload 6, 2) := by decide +kernel
theorem d_X8_readGroup_88 : decode prog_10_method_16_code 88 = .ok (.iload 4, 2) := by decide +kernel
theorem d_X8_readGroup_90 : decode prog_10_method_16_code 90 = .ok (.if_icmp .ge 20, 3) := by decide +kernel
theorem d_X8_readGroup_93 : decode prog_10_method_16_code 93 = .ok (.aload_n 0, 1) := by decide +kernel
theorem d_X8_readGroup_94 : decode prog_10_method_16_code 94 = .ok (.aload_n 0, 1) := by decide +kernel
theorem d_X8_readGroup_95 : decode prog_10_method_16_code 95 = .ok (.getfield 23, 3) := by decide +kernel
theorem d_X8_readGroup_98 : decode prog_10_method_16_code 98 = .ok (.iload 6, 2) := by decide +kernel
theorem d_X8_readGroup_100 : decode prog_10_method_16_code 100 = .ok (.iaload, 1) := by decide +kernel
theorem d_X8_readGroup_101 : decode prog_10_method_16_code 101 = .ok (.invokevirtual 101, 3) := by decide +kernel
theorem d_X8_readGroup_104 : decode prog_10_method_16_code 104 = .ok (.iinc 6 1, 3) := by decide +kernel
theorem d_X8_readGroup_107 : decode prog_10_method_16_code 107 = .ok (.goto (-21), 3) := by decide +kernel
theorem d_X8_readGroup_110 : decode prog_10_method_16_code 110 = .ok (.iinc 5 1, 3) := by decide +kernel
theorem d_X8_readGroup_113 : decode prog_10_method_16_code 113 = .ok (.goto (-43), 3) := by decide +kernel
theorem d_X8_readGroup_116 : decode prog_10_method_16_code 116 = .ok (.iconst 1, 1) := by decide +kernel
theorem d_X8_readGroup_117 : decode prog_10_method_16_code 117 = .ok (.ireturn, 1) := by decide +kernel
theorem d_X8_addStep_0 : decode prog_10_method_17_code 0 = .ok (.iload_n 2, 1) := by decide +kernel
theorem d_X8_addStep_1 : decode prog_10_method_17_code 1 = .ok (.iconst (-1), 1) := by decide +kernel
theorem d_X8_addStep_2 : decode prog_10_method_17_code 2 = .ok (.if_icmp .eq 8, 3) := by decide +kernel
theorem d_X8_addStep_5 : decode prog_10_method_17_code 5 = .ok (.iload_n 3, 1) := by decide +kernel
theorem d_X8_addStep_6 : decode prog_10_method_17_code 6 = .ok (.iconst (-1), 1) := by decide +kernel
theorem d_X8_addStep_7 : decode prog_10_method_17_code 7 = .ok (.if_icmp .ne 5, 3) := by decide +kernel
theorem d_X8_addStep_10 : decode prog_10_method_17_code 10 = .ok (.iconst 0, 1) := by decide +kernel
theorem d_X8_addStep_11 : decode prog_10_method_17_code 11 = .ok (.ireturn, 1) := by decide +kernel
theorem d_X8_addStep_12 : decode prog_10_method_17_code 12 = .ok (.aload_n 0, 1) := by decide +kernel
theorem d_X8_addStep_13 : decode prog_10_method_17_code 13 = .ok (.iload_n 1, 1) := by decide +kernel
theorem d_X8_addStep_14 : decode prog_10_method_17_code 14 = .ok (.iload_n 2, 1) := by decide +kernel
theorem d_X8_addStep_15 : decode prog_10_method_17_code 15 = .ok (.iload_n 3, 1) := by decide +kernel
theorem d_X8_addStep_16 : decode prog_10_method_17_code 16 = .ok (.invokestatic 104, 3) := by decide +kernel
theorem d_X8_addStep_19 : decode prog_10_method_17_code 19 = .ok (.invokevirtual 101, 3) := by decide +kernel
theorem d_X8_addStep_22 : decode prog_10_method_17_code 22 = .ok (.iconst 1, 1) := by decide +kernel
theorem d_X8_addStep_23 : decode prog_10_method_17_code 23 = .ok (.ireturn, 1) := by decide +kernel
theorem d_X8_appendStep_0 : decode prog_10_method_18_code 0 = .ok (.aload_n 0, 1) := by decide +kernel
theorem d_X8_appendStep_1 : decode prog_10_method_18_code 1 = .ok (.getfield 53, 3) := by decide +kernel
theorem d_X8_appendStep_4 : decode prog_10_method_18_code 4 = .ok (.aload_n 0, 1) := by decide +kernel
theorem d_X8_appendStep_5 : decode prog_10_method_18_code 5 = .ok (.getfield 23, 3) := by decide +kernel
theorem d_X8_appendStep_8 : decode prog_10_method_18_code 8 = .ok (.arraylength, 1) := by decide +kernel
theorem d_X8_appendStep_9 : decode prog_10_method_18_code 9 = .ok (.if_icmp .ge 26, 3) := by decide +kernel
theorem d_X8_appendStep_12 : decode prog_10_method_18_code 12 = .ok (.aload_n 0, 1) := by decide +kernel
theorem d_X8_appendStep_13 : decode prog_10_method_18_code 13 = .ok (.getfield 23, 3) := by decide +kernel
theorem d_X8_appendStep_16 : decode prog_10_method_18_code 16 = .ok (.aload_n 0, 1) := by decide +kernel
theorem d_X8_appendStep_17 : decode prog_10_method_18_code 17 = .ok (.getfield 53, 3) := by decide +kernel
theorem d_X8_appendStep_20 : decode prog_10_method_18_code 20 = .ok (.iload_n 1, 1) := by decide +kernel
theorem d_X8_appendStep_21 : decode prog_10_method_18_code 21 = .ok (.iastore, 1) := by decide +kernel
theorem d_X8_appendStep_22 : decode prog_10_method_18_code 22 = .ok (.aload_n 0, 1) := by decide +kernel
theorem d_X8_appendStep_23 : decode prog_10_method_18_code 23 = .ok (.dup, 1) := by decide +kernel
theorem d_X8_appendStep_24 : decode prog_10_method_18_code 24 = .ok (.getfield 53, 3) := by decide +kernel
theorem d_X8_appendStep_27 : decode prog_10_method_18_code 27 = .ok (.iconst 1, 1) := by decide +kernel
theorem d_X8_appendStep_28 : decode prog_10_method_18_code 28 = .ok (.iadd, 1) := by decide +kernel
theorem d_X8_appendStep_29 : decode prog_10_method_18_code 29 = .ok (.putfield 53, 3) := by decide +kernel
theorem d_X8_appendStep_32 : decode prog_10_method_18_code 32 = .ok (.goto 8, 3) := by decide +kernel
theorem d_X8_appendStep_35 : decode prog_10_method_18_code 35 = .ok (.aload_n 0, 1) := by decide +kernel
theorem d_X8_appendStep_36 : decode prog_10_method_18_code 36 = .ok (.iconst 1, 1) := by decide +kernel
theorem d_X8_appendStep_37 : decode prog_10_method_18_code 37 = .ok (.putfield 56, 3) := by decide +kernel
theorem d_X8_appendStep_40 : decode prog_10_method_18_code 40 = .ok (.return_, 1) := by decide +kernel
theorem d_X8_readRule_0 : decode prog_10_method_19_code 0 = .ok (.aload_n 0, 1) := by decide +kernel
theorem d_X8_readRule_1 : decode prog_10_method_19_code 1 = .ok (.iload_n 1, 1) := by decide +kernel
theorem d_X8_readRule_2 : decode prog_10_method_19_code 2 = .ok (.ifCond .eq 8, 3) := by decide +kernel
theorem d_X8_readRule_5 : decode prog_10_method_19_code 5 = .ok (.ldc 108, 2) := by decide +kernel
theorem d_X8_readRule_7 : decode prog_10_method_19_code 7 = .ok (.goto 5, 3) := by decide +kernel
theorem d_X8_readRule_10 : decode prog_10_method_19_code 10 = .ok (.ldc 110, 2) := by decide +kernel
theorem d_X8_readRule_12 : decode prog_10_method_19_code 12 = .ok (.invokevirtual 75, 3) := by decide +kernel
theorem d_X8_readRule_15 : decode prog_10_method_19_code 15 = .ok (.iload_n 1, 1) := by decide +kernel
theorem d_X8_readRule_16 : decode prog_10_method_19_code 16 = .ok (.ifCond .eq 10, 3) := by decide +kernel
theorem d_X8_readRule_19 : decode prog_10_method_19_code 19 = .ok (.aload_n 0, 1) := by decide +kernel
theorem d_X8_readRule_20 : decode prog_10_method_19_code 20 = .ok (.invokevirtual 112, 3) := by decide +kernel
theorem d_X8_readRule_23 : decode prog_10_method_19_code 23 = .ok (.goto 7, 3) := by decide +kernel
theorem d_X8_readRule_26 : decode prog_10_method_19_code 26 = .ok (.aload_n 0, 1) := by decide +kernel
theorem d_X8_readRule_27 : decode prog_10_method_19_code 27 = .ok (.invokevirtual 115, 3) := by decide +kernel
theorem d_X8_readRule_30 : decode prog_10_method_19_code 30 = .ok (.istore_n 2, 1) := by decide +kernel
theorem d_X8_readRule_31 : decode prog_10_method_19_code 31 = .ok (.iconst 0, 1) := by decide +kernel
theorem d_X8_readRule_32 : decode prog_10_method_19_code 32 = .ok (.istore_n 3, 1) := by decide +kernel
theorem d_X8_readRule_33 : decode prog_10_method_19_code 33 = .ok (.iload_n 3, 1) := by decide +kernel
theorem d_X8_readRule_34 : decode prog_10_method_19_code 34 = .ok (.sipush 160, 3) := by decide +kernel
theorem d_X8_readRule_37 : decode prog_10_method_19_code 37 = .ok (.if_icmp .ge 48, 3) := by decide +kernel
theorem d_X8_readRule_40 : decode prog_10_method_19_code 40 = .ok (.iload_n 2, 1) := by decide +kernel
theorem d_X8_readRule_41 : decode prog_10_method_19_code 41 = .ok (.ifCond .eq 44, 3) := by decide +kernel
theorem d_X8_readRule_44 : decode prog_10_method_19_code 44 = .ok (.aload_n 0, 1) := by decide +kernel
theorem d_X8_readRule_45 : decode prog_10_method_19_code 45 = .ok (.invokevirtual 63, 3) := by decide +kernel
theorem d_X8_readRule_48 : decode prog_10_method_19_code 48 = .ok (.bipush 59, 2) := by decide +kernel
theorem d_X8_readRule_50 : decode prog_10_method_19_code 50 = .ok (.if_icmp .ne 35, 3) := by decide +kernel
theorem d_X8_readRule_53 : decode prog_10_method_19_code 53 = .ok (.aload_n 0, 1) := by decide +kernel
theorem d_X8_readRule_54 : decode prog_10_method_19_code 54 = .ok (.dup, 1) := by decide +kernel
theorem d_X8_readRule_55 : decode prog_10_method_19_code 55 = .ok (.getfield 47, 3) := by decide +kernel
theorem d_X8_readRule_58 : decode prog_10_method_19_code 58 = .ok (.iconst 1, 1) := by decide +kernel
theorem d_X8_readRule_59 : decode prog_10_method_19_code 59 = .ok (.iadd, 1) := by decide +kernel
theorem d_X8_readRule_60 : decode prog_10_method_19_code 60 = .ok (.putfield 47, 3) := by decide +kernel
theorem d_X8_readRule_63 : decode prog_10_method_19_code 63 = .ok (.iload_n 1, 1) := by decide +kernel
theorem d_X8_readRule_64 : decode prog_10_method_19_code 64 = .ok (.ifCond .eq 10, 3) := by decide +kernel
theorem d_X8_readRule_67 : decode prog_10_method_19_code 67 = .ok (.aload_n 0, 1) := by decide +kernel
theorem d_X8_readRule_68 : decode prog_10_method_19_code 68 = .ok (.invokevirtual 112, 3) := by decide +kernel
theorem d_X8_readRule_71 : decode prog_10_method_19_code 71 = .ok (.goto 7, 3) := by decide +kernel
theorem d_X8_readRule_74 : decode prog_10_method_19_code 74 = .ok (.aload_n 0, 1) := by decide +kernel
theorem d_X8_readRule_75 : decode prog_10_method_19_code 75 = .ok (.invokevirtual 115, 3) := by decide +kernel
theorem d_X8_readRule_78 : decode prog_10_method_19_code 78 = .ok (.istore_n 2, 1) := by decide +kernel
theorem d_X8_readRule_79 : decode prog_10_method_19_code 79 = .ok (.iinc 3 1, 3) := by decide +kernel
theorem d_X8_readRule_82 : decode prog_10_method_19_code 82 = .ok (.goto (-49), 3) := by decide +kernel
theorem d_X8_readRule_85 : decode prog_10_method_19_code 85 = .ok (.iload_n 2, 1) := by decide +kernel
theorem d_X8_readRule_86 : decode prog_10_method_19_code 86 = .ok (.ifCond .eq 16, 3) := by decide +kernel
theorem d_X8_readRule_89 : decode prog_10_method_19_code 89 = .ok (.aload_n 0, 1) := by decide +kernel
theorem d_X8_readRule_90 : decode prog_10_method_19_code 90 = .ok (.invokevirtual 63, 3) := by decide +kernel
theorem d_X8_readRule_93 : decode prog_10_method_19_code 93 = .ok (.iconst (-1), 1) := by decide +kernel
theorem d_X8_readRule_94 : decode prog_10_method_19_code 94 = .ok (.if_icmp .eq 8, 3) := by decide +kernel
theorem d_X8_readRule_97 : decode prog_10_method_19_code 97 = .ok (.aload_n 0, 1) := by decide +kernel
theorem d_X8_readRule_98 : decode prog_10_method_19_code 98 = .ok (.invokevirtual 67, 3) := by decide +kernel
theorem d_X8_readRule_101 : decode prog_10_method_19_code 101 = .ok (.pop, 1) := by decide +kernel
theorem d_X8_readRule_102 : decode prog_10_method_19_code 102 = .ok (.aload_n 0, 1) := by decide +kernel
theorem d_X8_readRule_103 : decode prog_10_method_19_code 103 = .ok (.getfield 50, 3) := by decide +kernel
theorem d_X8_readRule_106 : decode prog_10_method_19_code 106 = .ok (.ireturn, 1) := by decide +kernel
theorem d_X8_readActClause_0 : decode prog_10_method_20_code 0 = .ok (.aload_n 0, 1) := by decide +kernel
theorem d_X8_readActClause_1 : decode prog_10_method_20_code 1 = .ok (.iconst 0, 1) := by decide +kernel
theorem d_X8_readActClause_2 : decode prog_10_method_20_code 2 = .ok (.invokevirtual 118, 3) := by decide +kernel
theorem d_X8_readActClause_5 : decode prog_10_method_20_code 5 = .ok (.ifCond .eq 12, 3) := by decide +kernel
theorem d_X8_readActClause_8 : decode prog_10_method_20_code 8 = .ok (.aload_n 0, 1) := by decide +kernel
theorem d_X8_readActClause_9 : decode prog_10_method_20_code 9 = .ok (.bipush 63, 2) := by decide +kernel
theorem d_X8_readActClause_11 : decode prog_10_method_20_code 11 = .ok (.invokevirtual 98, 3) := by decide +kernel
theorem d_X8_readActClause_14 : decode prog_10_method_20_code 14 = .ok (.ifCond .ne 5, 3) := by decide +kernel
theorem d_X8_readActClause_17 : decode prog_10_method_20_code 17 = .ok (.iconst 0, 1) := by decide +kernel
theorem d_X8_readActClause_18 : decode prog_10_method_20_code 18 = .ok (.ireturn, 1) := by decide +kernel
theorem d_X8_readActClause_19 : decode prog_10_method_20_code 19 = .ok (.aload_n 0, 1) := by decide +kernel
theorem d_X8_readActClause_20 : decode prog_10_method_20_code 20 = .ok (.iconst 3, 1) := by decide +kernel
theorem d_X8_readActClause_21 : decode prog_10_method_20_code 21 = .ok (.iconst 0, 1) := by decide +kernel
theorem d_X8_readActClause_22 : decode prog_10_method_20_code 22 = .ok (.invokevirtual 121, 3) := by decide +kernel
theorem d_X8_readActClause_25 : decode prog_10_method_20_code 25 = .ok (.istore_n 1, 1) := by decide +kernel
theorem d_X8_readActClause_26 : decode prog_10_method_20_code 26 = .ok (.aload_n 0, 1) := by decide +kernel
theorem d_X8_readActClause_27 : decode prog_10_method_20_code 27 = .ok (.invokevirtual 63, 3) := by decide +kernel
theorem d_X8_readActClause_30 : decode prog_10_method_20_code 30 = .ok (.istore_n 2, 1) := by decide +kernel
theorem d_X8_readActClause_31 : decode prog_10_method_20_code 31 = .ok (.iload_n 2, 1) := by decide +kernel
theorem d_X8_readActClause_32 : decode prog_10_method_20_code 32 = .ok (.iconst (-1), 1) := by decide +kernel
theorem d_X8_readActClause_33 : decode prog_10_method_20_code 33 = .ok (.if_icmp .ne 7, 3) := by decide +kernel
theorem d_X8_readActClause_36 : decode prog_10_method_20_code 36 = .ok (.iconst (-1), 1) := by decide +kernel
theorem d_X8_readActClause_37 : decode prog_10_method_20_code 37 = .ok (.goto 10, 3) := by decide +kernel
theorem d_X8_readActClause_40 : decode prog_10_method_20_code 40 = .ok (.ldc 124, 2) := by decide +kernel
theorem d_X8_readActClause_42 : decode prog_10_method_20_code 42 = .ok (.iload_n 2, 1) := by decide +kernel
theorem d_X8_readActClause_43 : decode prog_10_method_20_code 43 = .ok (.i2c, 1) := by decide +kernel
theorem d_X8_readActClause_44 : decode prog_10_method_20_code 44 = .ok (.invokevirtual 126, 3) := by decide +kernel
theorem d_X8_readActClause_47 : decode prog_10_method_20_code 47 = .ok (.istore_n 3, 1) := by decide +kernel
theorem d_X8_readActClause_48 : decode prog_10_method_20_code 48 = .ok (.iload_n 3, 1) := by decide +kernel
theorem d_X8_readActClause_49 : decode prog_10_method_20_code 49 = .ok (.ifCond .ge 8, 3) := by decide +kernel
theorem d_X8_readActClause_52 : decode prog_10_method_20_code 52 = .ok (.aload_n 0, 1) := by decide +kernel
theorem d_X8_readActClause_53 : decode prog_10_method_20_code 53 = .ok (.invokevirtual 67, 3) := by decide +kernel
theorem d_X8_readActClause_56 : decode prog_10_method_20_code 56 = .ok (.ireturn, 1) := by decide +kernel
theorem d_X8_readActClause_57 : decode prog_10_method_20_code 57 = .ok (.aload_n 0, 1) := by decide +kernel
theorem d_X8_readActClause_58 : decode prog_10_method_20_code 58 = .ok (.dup, 1) := by decide +kernel
theorem d_X8_readActClause_59 : decode prog_10_method_20_code 59 = .ok (.getfield 47, 3) := by decide +kernel
theorem d_X8_readActClause_62 : decode prog_10_method_20_code 62 = .ok (.iconst 1, 1) := by decide +kernel
theorem d_X8_readActClause_63 : decode prog_10_method_20_code 63 = .ok (.iadd, 1) := by decide +kernel
theorem d_X8_readActClause_64 : decode prog_10_method_20_code 64 = .ok (.putfield 47, 3) := by decide +kernel
theorem d_X8_readActClause_67 : decode prog_10_method_20_code 67 = .ok (.aload_n 0, 1) := by decide +kernel
theorem d_X8_readActClause_68 : decode prog_10_method_20_code 68 = .ok (.iconst 0, 1) := by decide +kernel
theorem d_X8_readActClause_69 : decode prog_10_method_20_code 69 = .ok (.iload_n 3, 1) := by decide +kernel
theorem d_X8_readActClause_70 : decode prog_10_method_20_code 70 = .ok (.invokevirtual 121, 3) := by decide +kernel
theorem d_X8_readActClause_73 : decode prog_10_method_20_code 73 = .ok (.pop, 1) := by decide +kernel
theorem d_X8_readActClause_74 : decode prog_10_method_20_code 74 = .ok (.aload_n 0, 1) := by decide +kernel
theorem d_X8_readActClause_75 : decode prog_10_method_20_code 75 = .ok (.iload_n 1, 1) := by decide +kernel
theorem d_X8_readActClause_76 : decode prog_10_method_20_code 76 = .ok (.invokevirtual 131, 3) := by decide +kernel
theorem d_X8_readActClause_79 : decode prog_10_method_20_code 79 = .ok (.iconst 1, 1) := by decide +kernel
theorem d_X8_readActClause_80 : decode prog_10_method_20_code 80 = .ok (.ireturn, 1) := by decide +kernel
theorem d_X8_readPayClause_0 : decode prog_10_method_21_code 0 = .ok (.aload_n 0, 1) := by decide +kernel
theorem d_X8_readPayClause_1 : decode prog_10_method_21_code 1 = .ok (.invokevirtual 63, 3) := by decide +kernel
theorem d_X8_readPayClause_4 : decode prog_10_method_21_code 4 = .ok (.istore_n 1, 1) := by decide +kernel
theorem d_X8_readPayClause_5 : decode prog_10_method_21_code 5 = .ok (.iload_n 1, 1) := by decide +kernel
theorem d_X8_readPayClause_6 : decode prog_10_method_21_code 6 = .ok (.bipush 33, 2) := by decide +kernel
theorem d_X8_readPayClause_8 : decode prog_10_method_21_code 8 = .ok (.if_icmp .eq 9, 3) := by decide +kernel
theorem d_X8_readPayClause_11 : decode prog_10_method_21_code 11 = .ok (.iload_n 1, 1) := by decide +kernel
theorem d_X8_readPayClause_12 : decode prog_10_method_21_code 12 = .ok (.bipush 40, 2) := by decide +kernel
theorem d_X8_readPayClause_14 : decode prog_10_method_21_code 14 = .ok (.if_icmp .ne 24, 3) := by decide +kernel
theorem d_X8_readPayClause_17 : decode prog_10_method_21_code 17 = .ok (.aload_n 0, 1) := by decide +kernel
theorem d_X8_readPayClause_18 : decode prog_10_method_21_code 18 = .ok (.iconst 0, 1) := by decide +kernel
theorem d_X8_readPayClause_19 : decode prog_10_method_21_code 19 = .ok (.invokevirtual 118, 3) := by decide +kernel
theorem d_X8_readPayClause_22 : decode prog_10_method_21_code 22 = .ok (.ifCond .eq 14, 3) := by decide +kernel
theorem d_X8_readPayClause_25 : decode prog_10_method_21_code 25 = .ok (.aload_n 0, 1) := by decide +kernel
theorem d_X8_readPayClause_26 : decode prog_10_method_21_code 26 = .ok (.invokevirtual 134, 3) := by decide +kernel
theorem d_X8_readPayClause_29 : decode prog_10_method_21_code 29 = .ok (.ifCond .eq 7, 3) := by decide +kernel
theorem d_X8_readPayClause_32 : decode prog_10_method_21_code 32 = .ok (.iconst 1, 1) := by decide +kernel
theorem d_X8_readPayClause_33 : decode prog_10_method_21_code 33 = .ok (.goto 4, 3) := by decide +kernel
theorem d_X8_readPayClause_36 : decode prog_10_method_21_code 36 = .ok (.iconst 0, 1) := by decide +kernel
theorem d_X8_readPayClause_37 : decode prog_10_method_21_code 37 = .ok (.ireturn, 1) := by decide +kernel
theorem d_X8_readPayClause_38 : decode prog_10_method_21_code 38 = .ok (.aload_n 0, 1) := by decide +kernel
theorem d_X8_readPayClause_39 : decode prog_10_method_21_code 39 = .ok (.iconst 0, 1) := by decide +kernel
theorem d_X8_readPayClause_40 : decode prog_10_method_21_code 40 = .ok (.invokevirtual 137, 3) := by decide +kernel
theorem d_X8_readPayClause_43 : decode prog_10_method_21_code 43 = .ok (.ifCond .ne 5, 3) := by decide +kernel
theorem d_X8_readPayClause_46 : decode prog_10_method_21_code 46 = .ok (.iconst 0, 1) := by decide +kernel
theorem d_X8_readPayClause_47 : decode prog_10_method_21_code 47 = .ok (.ireturn, 1) := by decide +kernel
theorem d_X8_readPayClause_48 : decode prog_10_method_21_code 48 = .ok (.aload_n 0, 1) := by decide +kernel
theorem d_X8_readPayClause_49 : decode prog_10_method_21_code 49 = .ok (.invokevirtual 63, 3) := by decide +kernel
theorem d_X8_readPayClause_52 : decode prog_10_method_21_code 52 = .ok (.invokestatic 140, 3) := by decide +kernel
theorem d_X8_readPayClause_55 : decode prog_10_method_21_code 55 = .ok (.ifCond .eq 32, 3) := by decide +kernel
theorem d_X8_readPayClause_58 : decode prog_10_method_21_code 58 = .ok (.aload_n 0, 1) := by decide +kernel
theorem d_X8_readPayClause_59 : decode prog_10_method_21_code 59 = .ok (.iconst 0, 1) := by decide +kernel
theorem d_X8_readPayClause_60 : decode prog_10_method_21_code 60 = .ok (.invokevirtual 143, 3) := by decide +kernel
theorem d_X8_readPayClause_63 : decode prog_10_method_21_code 63 = .ok (.ifCond .eq 22, 3) := by decide +kernel
theorem d_X8_readPayClause_66 : decode prog_10_method_21_code 66 = .ok (.aload_n 0, 1) := by decide +kernel
theorem d_X8_readPayClause_67 : decode prog_10_method_21_code 67 = .ok (.iconst 0, 1) := by decide +kernel
theorem d_X8_readPayClause_68 : decode prog_10_method_21_code 68 = .ok (.invokevirtual 146, 3) := by decide +kernel
theorem d_X8_readPayClause_71 : decode prog_10_method_21_code 71 = .ok (.ifCond .eq 14, 3) := by decide +kernel
theorem d_X8_readPayClause_74 : decode prog_10_method_21_code 74 = .ok (.aload_n 0, 1) := by decide +kernel
theorem d_X8_readPayClause_75 : decode prog_10_method_21_code 75 = .ok (.invokevirtual 134, 3) := by decide +kernel
theorem d_X8_readPayClause_78 : decode prog_10_method_21_code 78 = .ok (.ifCond .eq 7, 3) := by decide +kernel
theorem d_X8_readPayClause_81 : decode prog_10_method_21_code 81 = .ok (.iconst 1, 1) := by decide +kernel
theorem d_X8_readPayClause_82 : decode prog_10_method_21_code 82 = .ok (.goto 4, 3) := by decide +kernel
theorem d_X8_readPayClause_85 : decode prog_10_method_21_code 85 = .ok (.iconst 0, 1) := by decide +kernel
theorem d_X8_readPayClause_86 : decode prog_10_method_21_code 86 = .ok (.ireturn, 1) := by decide +kernel
theorem d_X8_readPayClause_87 : decode prog_10_method_21_code 87 = .ok (.aload_n 0, 1) := by decide +kernel
theorem d_X8_readPayClause_88 : decode prog_10_method_21_code 88 = .ok (.iconst (-1), 1) := by decide +kernel
theorem d_X8_readPayClause_89 : decode prog_10_method_21_code 89 = .ok (.invokevirtual 131, 3) := by decide +kernel
theorem d_X8_readPayClause_92 : decode prog_10_method_21_code 92 = .ok (.iconst 1, 1) := by decide +kernel
theorem d_X8_readPayClause_93 : decode prog_10_method_21_code 93 = .ok (.ireturn, 1) := by decide +kernel
theorem d_X8_readPayAnswer_0 : decode prog_10_method_22_code 0 = .ok (.aload_n 0, 1) := by decide +kernel
theorem d_X8_readPayAnswer_1 : decode prog_10_method_22_code 1 = .ok (.bipush 63, 2) := by decide +kernel
theorem d_X8_readPayAnswer_3 : decode prog_10_method_22_code 3 = .ok (.invokevirtual 98, 3) := by decide +kernel
theorem d_X8_readPayAnswer_6 : decode prog_10_method_22_code 6 = .ok (.ifCond .ne 5, 3) := by decide +kernel
theorem d_X8_readPayAnswer_9 : decode prog_10_method_22_code 9 = .ok (.iconst 0, 1) := by decide +kernel
theorem d_X8_readPayAnswer_10 : decode prog_10_method_22_code 10 = .ok (.ireturn, 1) := by decide +kernel
theorem d_X8_readPayAnswer_11 : decode prog_10_method_22_code 11 = .ok (.aload_n 0, 1) := by decide +kernel
theorem d_X8_readPayAnswer_12 : decode prog_10_method_22_code 12 = .ok (.iconst 3, 1) := by decide +kernel
theorem d_X8_readPayAnswer_13 : decode prog_10_method_22_code 13 = .ok (.iconst 0, 1) := by decide +kernel
theorem d_X8_readPayAnswer_14 : decode prog_10_method_22_code 14 = .ok (.invokevirtual 121, 3) := by decide +kernel
theorem d_X8_readPayAnswer_17 : decode prog_10_method_22_code 17 = .ok (.istore_n 1, 1) := by decide +kernel
theorem d_X8_readPayAnswer_18 : decode prog_10_method_22_code 18 = .ok (.aload_n 0, 1) := by decide +kernel
theorem d_X8_readPayAnswer_19 : decode prog_10_method_22_code 19 = .ok (.iconst 0, 1) := by decide +kernel
theorem d_X8_readPayAnswer_20 : decode prog_10_method_22_code 20 = .ok (.invokevirtual 137, 3) := by decide +kernel
theorem d_X8_readPayAnswer_23 : decode prog_10_method_22_code 23 = .ok (.ifCond .ne 5, 3) := by decide +kernel
theorem d_X8_readPayAnswer_26 : decode prog_10_method_22_code 26 = .ok (.iconst 0, 1) := by decide +kernel
theorem d_X8_readPayAnswer_27 : decode prog_10_method_22_code 27 = .ok (.ireturn, 1) := by decide +kernel
theorem d_X8_readPayAnswer_28 : decode prog_10_method_22_code 28 = .ok (.aload_n 0, 1) := by decide +kernel
theorem d_X8_readPayAnswer_29 : decode prog_10_method_22_code 29 = .ok (.iload_n 1, 1) := by decide +kernel
theorem d_X8_readPayAnswer_30 : decode prog_10_method_22_code 30 = .ok (.invokevirtual 131, 3) := by decide +kernel
theorem d_X8_readPayAnswer_33 : decode prog_10_method_22_code 33 = .ok (.iconst 1, 1) := by decide +kernel
theorem d_X8_readPayAnswer_34 : decode prog_10_method_22_code 34 = .ok (.ireturn, 1) := by decide +kernel
theorem d_X8_endClause_0 : decode prog_10_method_23_code 0 = .ok (.aload_n 0, 1) := by decide +kernel
theorem d_X8_endClause_1 : decode prog_10_method_23_code 1 = .ok (.iconst 4, 1) := by decide +kernel
theorem d_X8_endClause_2 : decode prog_10_method_23_code 2 = .ok (.iconst 0, 1) := by decide +kernel
theorem d_X8_endClause_3 : decode prog_10_method_23_code 3 = .ok (.invokevirtual 121, 3) := by decide +kernel
theorem d_X8_endClause_6 : decode prog_10_method_23_code 6 = .ok (.pop, 1) := by decide +kernel
theorem d_X8_endClause_7 : decode prog_10_method_23_code 7 = .ok (.iload_n 1, 1) := by decide +kernel
theorem d_X8_endClause_8 : decode prog_10_method_23_code 8 = .ok (.iconst 0, 1) := by decide +kernel
theorem d_X8_endClause_9 : decode prog_10_method_23_code 9 = .ok (.aload_n 0, 1) := by decide +kernel
theorem d_X8_endClause_10 : decode prog_10_method_23_code 10 = .ok (.getfield 60, 3) := by decide +kernel
theorem d_X8_endClause_13 : decode prog_10_method_23_code 13 = .ok (.iconst 1, 1) := by decide +kernel
theorem d_X8_endClause_14 : decode prog_10_method_23_code 14 = .ok (.isub, 1) := by decide +kernel
theorem d_X8_endClause_15 : decode prog_10_method_23_code 15 = .ok (.invokestatic 43, 3) := by decide +kernel
theorem d_X8_endClause_18 : decode prog_10_method_23_code 18 = .ok (.ifCond .eq 17, 3) := by decide +kernel
theorem d_X8_endClause_21 : decode prog_10_method_23_code 21 = .ok (.aload_n 0, 1) := by decide +kernel
theorem d_X8_endClause_22 : decode prog_10_method_23_code 22 = .ok (.getfield 28, 3) := by decide +kernel
theorem d_X8_endClause_25 : decode prog_10_method_23_code 25 = .ok (.iload_n 1, 1) := by decide +kernel
theorem d_X8_endClause_26 : decode prog_10_method_23_code 26 = .ok (.iconst 3, 1) := by decide +kernel
theorem d_X8_endClause_27 : decode prog_10_method_23_code 27 = .ok (.aload_n 0, 1) := by decide +kernel
theorem d_X8_endClause_28 : decode prog_10_method_23_code 28 = .ok (.getfield 60, 3) := by decide +kernel
theorem d_X8_endClause_31 : decode prog_10_method_23_code 31 = .ok (.invokestatic 149, 3) := by decide +kernel
theorem d_X8_endClause_34 : decode prog_10_method_23_code 34 = .ok (.iastore, 1) := by decide +kernel
theorem d_X8_endClause_35 : decode prog_10_method_23_code 35 = .ok (.return_, 1) := by decide +kernel
theorem d_X8_emit_0 : decode prog_10_method_24_code 0 = .ok (.aload_n 0, 1) := by decide +kernel
theorem d_X8_emit_1 : decode prog_10_method_24_code 1 = .ok (.getfield 60, 3) := by decide +kernel
theorem d_X8_emit_4 : decode prog_10_method_24_code 4 = .ok (.aload_n 0, 1) := by decide +kernel
theorem d_X8_emit_5 : decode prog_10_method_24_code 5 = .ok (.getfield 28, 3) := by decide +kernel
theorem d_X8_emit_8 : decode prog_10_method_24_code 8 = .ok (.arraylength, 1) := by decide +kernel
theorem d_X8_emit_9 : decode prog_10_method_24_code 9 = .ok (.if_icmp .lt 5, 3) := by decide +kernel
theorem d_X8_emit_12 : decode prog_10_method_24_code 12 = .ok (.iconst (-1), 1) := by decide +kernel
theorem d_X8_emit_13 : decode prog_10_method_24_code 13 = .ok (.ireturn, 1) := by decide +kernel
theorem d_X8_emit_14 : decode prog_10_method_24_code 14 = .ok (.aload_n 0, 1) := by decide +kernel
theorem d_X8_emit_15 : decode prog_10_method_24_code 15 = .ok (.getfield 28, 3) := by decide +kernel
theorem d_X8_emit_18 : decode prog_10_method_24_code 18 = .ok (.aload_n 0, 1) := by decide +kernel
theorem d_X8_emit_19 : decode prog_10_method_24_code 19 = .ok (.getfield 60, 3) := by decide +kernel
theorem d_X8_emit_22 : decode prog_10_method_24_code 22 = .ok (.iload_n 1, 1) := by decide +kernel
theorem d_X8_emit_23 : decode prog_10_method_24_code 23 = .ok (.iload_n 2, 1) := by decide +kernel
theorem d_X8_emit_24 : decode prog_10_method_24_code 24 = .ok (.invokestatic 149, 3) := by decide +kernel
theorem d_X8_emit_27 : decode prog_10_method_24_code 27 = .ok (.iastore, 1) := by decide +kernel
theorem d_X8_emit_28 : decode prog_10_method_24_code 28 = .ok (.aload_n 0, 1) := by decide +kernel
theorem d_X8_emit_29 : decode prog_10_method_24_code 29 = .ok (.dup, 1) := by decide +kernel
theorem d_X8_emit_30 : decode prog_10_method_24_code 30 = .ok (.getfield 60, 3) := by decide +kernel
theorem d_X8_emit_33 : decode prog_10_method_24_code 33 = .ok (.iconst 1, 1) := by decide +kernel
theorem d_X8_emit_34 : decode prog_10_method_24_code 34 = .ok (.iadd, 1) := by decide +kernel
theorem d_X8_emit_35 : decode prog_10_method_24_code 35 = .ok (.putfield 60, 3) := by decide +kernel
theorem d_X8_emit_38 : decode prog_10_method_24_code 38 = .ok (.aload_n 0, 1) := by decide +kernel
theorem d_X8_emit_39 : decode prog_10_method_24_code 39 = .ok (.getfield 60, 3) := by decide +kernel
theorem d_X8_emit_42 : decode prog_10_method_24_code 42 = .ok (.iconst 1, 1) := by decide +kernel
theorem d_X8_emit_43 : decode prog_10_method_24_code 43 = .ok (.isub, 1) := by decide +kernel
theorem d_X8_emit_44 : decode prog_10_method_24_code 44 = .ok (.ireturn, 1) := by decide +kernel
theorem d_X8_readCondition_0 : decode prog_10_method_25_code 0 = .ok (.aload_n 0, 1) := by decide +kernel
theorem d_X8_readCondition_1 : decode prog_10_method_25_code 1 = .ok (.iload_n 1, 1) := by decide +kernel
theorem d_X8_readCondition_2 : decode prog_10_method_25_code 2 = .ok (.invokevirtual 151, 3) := by decide +kernel
theorem d_X8_readCondition_5 : decode prog_10_method_25_code 5 = .ok (.ifCond .eq 15, 3) := by decide +kernel
theorem d_X8_readCondition_8 : decode prog_10_method_25_code 8 = .ok (.aload_n 0, 1) := by decide +kernel
theorem d_X8_readCondition_9 : decode prog_10_method_25_code 9 = .ok (.iload_n 1, 1) := by decide +kernel
theorem d_X8_readCondition_10 : decode prog_10_method_25_code 10 = .ok (.invokevirtual 146, 3) := by decide +kernel
theorem d_X8_readCondition_13 : decode prog_10_method_25_code 13 = .ok (.ifCond .eq 7, 3) := by decide +kernel
theorem d_X8_readCondition_16 : decode prog_10_method_25_code 16 = .ok (.iconst 1, 1) := by decide +kernel
theorem d_X8_readCondition_17 : decode prog_10_method_25_code 17 = .ok (.goto 4, 3) := by decide +kernel
theorem d_X8_readCondition_20 : decode prog_10_method_25_code 20 = .ok (.iconst 0, 1) := by decide +kernel
theorem d_X8_readCondition_21 : decode prog_10_method_25_code 21 = .ok (.ireturn, 1) := by decide +kernel
theorem d_X8_readMoreParts_0 : decode prog_10_method_26_code 0 = .ok (.aload_n 0, 1) := by decide +kernel
theorem d_X8_readMoreParts_1 : decode prog_10_method_26_code 1 = .ok (.iload_n 1, 1) := by decide +kernel
theorem d_X8_readMoreParts_2 : decode prog_10_method_26_code 2 = .ok (.invokevirtual 154, 3) := by decide +kernel
theorem d_X8_readMoreParts_5 : decode prog_10_method_26_code 5 = .ok (.istore_n 2, 1) := by decide +kernel
theorem d_X8_readMoreParts_6 : decode prog_10_method_26_code 6 = .ok (.iconst 0, 1) := by decide +kernel
theorem d_X8_readMoreParts_7 : decode prog_10_method_26_code 7 = .ok (.istore_n 3, 1) := by decide +kernel
theorem d_X8_readMoreParts_8 : decode prog_10_method_26_code 8 = .ok (.iload_n 3, 1) := by decide +kernel
theorem d_X8_readMoreParts_9 : decode prog_10_method_26_code 9 = .ok (.sipush 160, 3) := by decide +kernel
theorem d_X8_readMoreParts_12 : decode prog_10_method_26_code 12 = .ok (.if_icmp .ge 62, 3) := by decide +kernel
theorem d_X8_readMoreParts_15 : decode prog_10_method_26_code 15 = .ok (.iload_n 2, 1) := by decide +kernel
theorem d_X8_readMoreParts_16 : decode prog_10_method_26_code 16 = .ok (.ifCond .eq 58, 3) := by decide +kernel
theorem d_X8_readMoreParts_19 : decode prog_10_method_26_code 19 = .ok (.aload_n 0, 1) := by decide +kernel
theorem d_X8_readMoreParts_20 : decode prog_10_method_26_code 20 = .ok (.invokevirtual 63, 3) := by decide +kernel
theorem d_X8_readMoreParts_23 : decode prog_10_method_26_code 23 = .ok (.bipush 124, 2) := by decide +kernel
theorem d_X8_readMoreParts_25 : decode prog_10_method_26_code 25 = .ok (.if_icmp .ne 49, 3) := by decide +kernel
theorem d_X8_readMoreParts_28 : decode prog_10_method_26_code 28 = .ok (.aload_n 0, 1) := by decide +kernel
theorem d_X8_readMoreParts_29 : decode prog_10_method_26_code 29 = .ok (.dup, 1) := by decide +kernel
theorem d_X8_readMoreParts_30 : decode prog_10_method_26_code 30 = .ok (.getfield 47, 3) := by decide +kernel
theorem d_X8_readMoreParts_33 : decode prog_10_method_26_code 33 = .ok (.iconst 1, 1) := by decide +kernel
theorem d_X8_readMoreParts_34 : decode prog_10_method_26_code 34 = .ok (.iadd, 1) := by decide +kernel
theorem d_X8_readMoreParts_35 : decode prog_10_method_26_code 35 = .ok (.putfield 47, 3) := by decide +kernel
theorem d_X8_readMoreParts_38 : decode prog_10_method_26_code 38 = .ok (.aload_n 0, 1) := by decide +kernel
theorem d_X8_readMoreParts_39 : decode prog_10_method_26_code 39 = .ok (.iload_n 1, 1) := by decide +kernel
theorem d_X8_readMoreParts_40 : decode prog_10_method_26_code 40 = .ok (.invokevirtual 151, 3) := by decide +kernel
theorem d_X8_readMoreParts_43 : decode prog_10_method_26_code 43 = .ok (.ifCond .eq 15, 3) := by decide +kernel
theorem d_X8_readMoreParts_46 : decode prog_10_method_26_code 46 = .ok (.aload_n 0, 1) := by decide +kernel
theorem d_X8_readMoreParts_47 : decode prog_10_method_26_code 47 = .ok (.iload_n 1, 1) := by decide +kernel
theorem d_X8_readMoreParts_48 : decode prog_10_method_26_code 48 = .ok (.invokevirtual 154, 3) := by decide +kernel
theorem d_X8_readMoreParts_51 : decode prog_10_method_26_code 51 = .ok (.ifCond .eq 7, 3) := by decide +kernel
theorem d_X8_readMoreParts_54 : decode prog_10_method_26_code 54 = .ok (.iconst 1, 1) := by decide +kernel
theorem d_X8_readMoreParts_55 : decode prog_10_method_26_code 55 = .ok (.goto 4, 3) := by decide +kernel
theorem d_X8_readMoreParts_58 : decode prog_10_method_26_code 58 = .ok (.iconst 0, 1) := by decide +kernel
theorem d_X8_readMoreParts_59 : decode prog_10_method_26_code 59 = .ok (.istore_n 2, 1) := by decide +kernel
theorem d_X8_readMoreParts_60 : decode prog_10_method_26_code 60 = .ok (.aload_n 0, 1) := by decide +kernel
theorem d_X8_readMoreParts_61 : decode prog_10_method_26_code 61 = .ok (.bipush 12, 2) := by decide +kernel
theorem d_X8_readMoreParts_63 : decode prog_10_method_26_code 63 = .ok (.iconst 0, 1) := by decide +kernel
theorem d_X8_readMoreParts_64 : decode prog_10_method_26_code 64 = .ok (.invokevirtual 121, 3) := by decide +kernel
theorem d_X8_readMoreParts_67 : decode prog_10_method_26_code 67 = .ok (.pop, 1) := by decide +kernel
theorem d_X8_readMoreParts_68 : decode prog_10_method_26_code 68 = .ok (.iinc 3 1, 3) := by decide +kernel
theorem d_X8_readMoreParts_71 : decode prog_10_method_26_code 71 = .ok (.goto (-63), 3) := by decide +kernel
theorem d_X8_readMoreParts_74 : decode prog_10_method_26_code 74 = .ok (.iload_n 2, 1) := by decide +kernel
theorem d_X8_readMoreParts_75 : decode prog_10_method_26_code 75 = .ok (.ireturn, 1) := by decide +kernel
theorem d_X8_readMoreUnits_0 : decode prog_10_method_27_code 0 = .ok (.iconst 1, 1) := by decide +kernel
theorem d_X8_readMoreUnits_1 : decode prog_10_method_27_code 1 = .ok (.istore_n 2, 1) := by decide +kernel
theorem d_X8_readMoreUnits_2 : decode prog_10_method_27_code 2 = .ok (.iconst 0, 1) := by decide +kernel
theorem d_X8_readMoreUnits_3 : decode prog_10_method_27_code 3 = .ok (.istore_n 3, 1) := by decide +kernel
theorem d_X8_readMoreUnits_4 : decode prog_10_method_27_code 4 = .ok (.iload_n 3, 1) := by decide +kernel
theorem d_X8_readMoreUnits_5 : decode prog_10_method_27_code 5 = .ok (.sipush 160, 3) := by decide +kernel
theorem d_X8_readMoreUnits_8 : decode prog_10_method_27_code 8 = .ok (.if_icmp .ge 46, 3) := by decide +kernel
theorem d_X8_readMoreUnits_11 : decode prog_10_method_27_code 11 = .ok (.iload_n 2, 1) := by decide +kernel
theorem d_X8_readMoreUnits_12 : decode prog_10_method_27_code 12 = .ok (.ifCond .eq 42, 3) := by decide +kernel
theorem d_X8_readMoreUnits_15 : decode prog_10_method_27_code 15 = .ok (.aload_n 0, 1) := by decide +kernel
theorem d_X8_readMoreUnits_16 : decode prog_10_method_27_code 16 = .ok (.invokevirtual 63, 3) := by decide +kernel
theorem d_X8_readMoreUnits_19 : decode prog_10_method_27_code 19 = .ok (.bipush 38, 2) := by decide +kernel
theorem d_X8_readMoreUnits_21 : decode prog_10_method_27_code 21 = .ok (.if_icmp .ne 33, 3) := by decide +kernel
theorem d_X8_readMoreUnits_24 : decode prog_10_method_27_code 24 = .ok (.aload_n 0, 1) := by decide +kernel
theorem d_X8_readMoreUnits_25 : decode prog_10_method_27_code 25 = .ok (.dup, 1) := by decide +kernel
theorem d_X8_readMoreUnits_26 : decode prog_10_method_27_code 26 = .ok (.getfield 47, 3) := by decide +kernel
theorem d_X8_readMoreUnits_29 : decode prog_10_method_27_code 29 = .ok (.iconst 1, 1) := by decide +kernel
theorem d_X8_readMoreUnits_30 : decode prog_10_method_27_code 30 = .ok (.iadd, 1) := by decide +kernel
theorem d_X8_readMoreUnits_31 : decode prog_10_method_27_code 31 = .ok (.putfield 47, 3) := by decide +kernel
theorem d_X8_readMoreUnits_34 : decode prog_10_method_27_code 34 = .ok (.aload_n 0, 1) := by decide +kernel
theorem d_X8_readMoreUnits_35 : decode prog_10_method_27_code 35 = .ok (.iload_n 1, 1) := by decide +kernel
theorem d_X8_readMoreUnits_36 : decode prog_10_method_27_code 36 = .ok (.invokevirtual 151, 3) := by decide +kernel
theorem d_X8_readMoreUnits_39 : decode prog_10_method_27_code 39 = .ok (.istore_n 2, 1) := by decide +kernel
theorem d_X8_readMoreUnits_40 : decode prog_10_method_27_code 40 = .ok (.aload_n 0, 1) := by decide +kernel
theorem d_X8_readMoreUnits_41 : decode prog_10_method_27_code 41 = .ok (.bipush 11, 2) := by decide +kernel
theorem d_X8_readMoreUnits_43 : decode prog_10_method_27_code 43 = .ok (.iconst 0, 1) := by decide +kernel
theorem d_X8_readMoreUnits_44 : decode prog_10_method_27_code 44 = .ok (.invokevirtual 121, 3) := by decide +kernel
theorem d_X8_readMoreUnits_47 : decode prog_10_method_27_code 47 = .ok (.pop, 1) := by decide +kernel
theorem d_X8_readMoreUnits_48 : decode prog_10_method_27_code 48 = .ok (.iinc 3 1, 3) := by decide +kernel
theorem d_X8_readMoreUnits_51 : decode prog_10_method_27_code 51 = .ok (.goto (-47), 3) := by decide +kernel
theorem d_X8_readMoreUnits_54 : decode prog_10_method_27_code 54 = .ok (.iload_n 2, 1) := by decide +kernel
theorem d_X8_readMoreUnits_55 : decode prog_10_method_27_code 55 = .ok (.ireturn, 1) := by decide +kernel
theorem d_X8_readUnit_0 : decode prog_10_method_28_code 0 = .ok (.aload_n 0, 1) := by decide +kernel
theorem d_X8_readUnit_1 : decode prog_10_method_28_code 1 = .ok (.invokevirtual 63, 3) := by decide +kernel
theorem d_X8_readUnit_4 : decode prog_10_method_28_code 4 = .ok (.istore_n 2, 1) := by decide +kernel
theorem d_X8_readUnit_5 : decode prog_10_method_28_code 5 = .ok (.iload_n 2, 1) := by decide +kernel
theorem d_X8_readUnit_6 : decode prog_10_method_28_code 6 = .ok (.bipush 33, 2) := by decide +kernel
theorem d_X8_readUnit_8 : decode prog_10_method_28_code 8 = .ok (.if_icmp .eq 31, 3) := by decide +kernel
theorem d_X8_readUnit_11 : decode prog_10_method_28_code 11 = .ok (.iload_n 2, 1) := by decide +kernel
theorem d_X8_readUnit_12 : decode prog_10_method_28_code 12 = .ok (.bipush 40, 2) := by decide +kernel
theorem d_X8_readUnit_14 : decode prog_10_method_28_code 14 = .ok (.if_icmp .eq 25, 3) := by decide +kernel
theorem d_X8_readUnit_17 : decode prog_10_method_28_code 17 = .ok (.aload_n 0, 1) := by decide +kernel
theorem d_X8_readUnit_18 : decode prog_10_method_28_code 18 = .ok (.iload_n 1, 1) := by decide +kernel
theorem d_X8_readUnit_19 : decode prog_10_method_28_code 19 = .ok (.invokevirtual 137, 3) := by decide +kernel
theorem d_X8_readUnit_22 : decode prog_10_method_28_code 22 = .ok (.ifCond .eq 15, 3) := by decide +kernel
theorem d_X8_readUnit_25 : decode prog_10_method_28_code 25 = .ok (.aload_n 0, 1) := by decide +kernel
theorem d_X8_readUnit_26 : decode prog_10_method_28_code 26 = .ok (.iload_n 1, 1) := by decide +kernel
theorem d_X8_readUnit_27 : decode prog_10_method_28_code 27 = .ok (.invokevirtual 143, 3) := by decide +kernel
theorem d_X8_readUnit_30 : decode prog_10_method_28_code 30 = .ok (.ifCond .eq 7, 3) := by decide +kernel
theorem d_X8_readUnit_33 : decode prog_10_method_28_code 33 = .ok (.iconst 1, 1) := by decide +kernel
theorem d_X8_readUnit_34 : decode prog_10_method_28_code 34 = .ok (.goto 4, 3) := by decide +kernel
theorem d_X8_readUnit_37 : decode prog_10_method_28_code 37 = .ok (.iconst 0, 1) := by decide +kernel
theorem d_X8_readUnit_38 : decode prog_10_method_28_code 38 = .ok (.ireturn, 1) := by decide +kernel
theorem d_X8_readUnit_39 : decode prog_10_method_28_code 39 = .ok (.iload_n 1, 1) := by decide +kernel
theorem d_X8_readUnit_40 : decode prog_10_method_28_code 40 = .ok (.bipush 6, 2) := by decide +kernel
theorem d_X8_readUnit_42 : decode prog_10_method_28_code 42 = .ok (.if_icmp .lt 8, 3) := by decide +kernel
theorem d_X8_readUnit_45 : decode prog_10_method_28_code 45 = .ok (.aload_n 0, 1) := by decide +kernel
theorem d_X8_readUnit_46 : decode prog_10_method_28_code 46 = .ok (.invokevirtual 67, 3) := by decide +kernel
theorem d_X8_readUnit_49 : decode prog_10_method_28_code 49 = .ok (.ireturn, 1) := by decide +kernel
theorem d_X8_readUnit_50 : decode prog_10_method_28_code 50 = .ok (.aload_n 0, 1) := by decide +kernel
theorem d_X8_readUnit_51 : decode prog_10_method_28_code 51 = .ok (.dup, 1) := by decide +kernel
theorem d_X8_readUnit_52 : decode prog_10_method_28_code 52 = .ok (.getfield 47, 3) := by decide +kernel
theorem d_X8_readUnit_55 : decode prog_10_method_28_code 55 = .ok (.iconst 1, 1) := by decide +kernel
theorem d_X8_readUnit_56 : decode prog_10_method_28_code 56 = .ok (.iadd, 1) := by decide +kernel
theorem d_X8_readUnit_57 : decode prog_10_method_28_code 57 = .ok (.putfield 47, 3) := by decide +kernel
theorem d_X8_readUnit_60 : decode prog_10_method_28_code 60 = .ok (.iload_n 2, 1) := by decide +kernel
theorem d_X8_readUnit_61 : decode prog_10_method_28_code 61 = .ok (.bipush 40, 2) := by decide +kernel
theorem d_X8_readUnit_63 : decode prog_10_method_28_code 63 = .ok (.if_icmp .ne 28, 3) := by decide +kernel
theorem d_X8_readUnit_66 : decode prog_10_method_28_code 66 = .ok (.aload_n 0, 1) := by decide +kernel
theorem d_X8_readUnit_67 : decode prog_10_method_28_code 67 = .ok (.iload_n 1, 1) := by decide +kernel
theorem d_X8_readUnit_68 : decode prog_10_method_28_code 68 = .ok (.iconst 1, 1) := by decide +kernel
theorem d_X8_readUnit_69 : decode prog_10_method_28_code 69 = .ok (.iadd, 1) := by decide +kernel
theorem d_X8_readUnit_70 : decode prog_10_method_28_code 70 = .ok (.invokevirtual 118, 3) := by decide +kernel
theorem d_X8_readUnit_73 : decode prog_10_method_28_code 73 = .ok (.ifCond .eq 16, 3) := by decide +kernel
theorem d_X8_readUnit_76 : decode prog_10_method_28_code 76 = .ok (.aload_n 0, 1) := by decide +kernel
theorem d_X8_readUnit_77 : decode prog_10_method_28_code 77 = .ok (.bipush 41, 2) := by decide +kernel
theorem d_X8_readUnit_79 : decode prog_10_method_28_code 79 = .ok (.invokevirtual 98, 3) := by decide +kernel
theorem d_X8_readUnit_82 : decode prog_10_method_28_code 82 = .ok (.ifCond .eq 7, 3) := by decide +kernel
theorem d_X8_readUnit_85 : decode prog_10_method_28_code 85 = .ok (.iconst 1, 1) := by decide +kernel
theorem d_X8_readUnit_86 : decode prog_10_method_28_code 86 = .ok (.goto 4, 3) := by decide +kernel
theorem d_X8_readUnit_89 : decode prog_10_method_28_code 89 = .ok (.iconst 0, 1) := by decide +kernel
theorem d_X8_readUnit_90 : decode prog_10_method_28_code 90 = .ok (.ireturn, 1) := by decide +kernel
theorem d_X8_readUnit_91 : decode prog_10_method_28_code 91 = .ok (.aload_n 0, 1) := by decide +kernel
theorem d_X8_readUnit_92 : decode prog_10_method_28_code 92 = .ok (.iload_n 1, 1) := by decide +kernel
theorem d_X8_readUnit_93 : decode prog_10_method_28_code 93 = .ok (.iconst 1, 1) := by decide +kernel
theorem d_X8_readUnit_94 : decode prog_10_method_28_code 94 = .ok (.iadd, 1) := by decide +kernel
theorem d_X8_readUnit_95 : decode prog_10_method_28_code 95 = .ok (.invokevirtual 151, 3) := by decide +kernel
theorem d_X8_readUnit_98 : decode prog_10_method_28_code 98 = .ok (.istore_n 3, 1) := by decide +kernel
theorem d_X8_readUnit_99 : decode prog_10_method_28_code 99 = .ok (.aload_n 0, 1) := by decide +kernel
theorem d_X8_readUnit_100 : decode prog_10_method_28_code 100 = .ok (.iconst 2, 1) := by decide +kernel
theorem d_X8_readUnit_101 : decode prog_10_method_28_code 101 = .ok (.iconst 0, 1) := by decide +kernel
theorem d_X8_readUnit_102 : decode prog_10_method_28_code 102 = .ok (.invokevirtual 121, 3) := by decide +kernel
theorem d_X8_readUnit_105 : decode prog_10_method_28_code 105 = .ok (.pop, 1) := by decide +kernel
theorem d_X8_readUnit_106 : decode prog_10_method_28_code 106 = .ok (.iload_n 3, 1) := by decide +kernel
theorem d_X8_readUnit_107 : decode prog_10_method_28_code 107 = .ok (.ireturn, 1) := by decide +kernel
theorem d_X8_isComparison_0 : decode prog_10_method_29_code 0 = .ok (.iload_n 0, 1) := by decide +kernel
theorem d_X8_isComparison_1 : decode prog_10_method_29_code 1 = .ok (.bipush 61, 2) := by decide +kernel
theorem d_X8_isComparison_3 : decode prog_10_method_29_code 3 = .ok (.if_icmp .eq 15, 3) := by decide +kernel
theorem d_X8_isComparison_6 : decode prog_10_method_29_code 6 = .ok (.iload_n 0, 1) := by decide +kernel
theorem d_X8_isComparison_7 : decode prog_10_method_29_code 7 = .ok (.bipush 60, 2) := by decide +kernel
theorem d_X8_isComparison_9 : decode prog_10_method_29_code 9 = .ok (.if_icmp .eq 9, 3) := by decide +kernel
theorem d_X8_isComparison_12 : decode prog_10_method_29_code 12 = .ok (.iload_n 0, 1) := by decide +kernel
theorem d_X8_isComparison_13 : decode prog_10_method_29_code 13 = .ok (.bipush 62, 2) := by decide +kernel
theorem d_X8_isComparison_15 : decode prog_10_method_29_code 15 = .ok (.if_icmp .ne 7, 3) := by decide +kernel
theorem d_X8_isComparison_18 : decode prog_10_method_29_code 18 = .ok (.iconst 1, 1) := by decide +kernel
theorem d_X8_isComparison_19 : decode prog_10_method_29_code 19 = .ok (.goto 4, 3) := by decide +kernel
theorem d_X8_isComparison_22 : decode prog_10_method_29_code 22 = .ok (.iconst 0, 1) := by decide +kernel
theorem d_X8_isComparison_23 : decode prog_10_method_29_code 23 = .ok (.ireturn, 1) := by decide +kernel
theorem d_X8_readComparison_0 : decode prog_10_method_30_code 0 = .ok (.aload_n 0, 1) := by decide +kernel
theorem d_X8_readComparison_1 : decode prog_10_method_30_code 1 = .ok (.invokevirtual 63, 3) := by decide +kernel
theorem d_X8_readComparison_4 : decode prog_10_method_30_code 4 = .ok (.istore_n 2, 1) := by decide +kernel
theorem d_X8_readComparison_5 : decode prog_10_method_30_code 5 = .ok (.iload_n 2, 1) := by decide +kernel
theorem d_X8_readComparison_6 : decode prog_10_method_30_code 6 = .ok (.invokestatic 140, 3) := by decide +kernel
theorem d_X8_readComparison_9 : decode prog_10_method_30_code 9 = .ok (.ifCond .ne 8, 3) := by decide +kernel
theorem d_X8_readComparison_12 : decode prog_10_method_30_code 12 = .ok (.aload_n 0, 1) := by decide +kernel
theorem d_X8_readComparison_13 : decode prog_10_method_30_code 13 = .ok (.invokevirtual 67, 3) := by decide +kernel
theorem d_X8_readComparison_16 : decode prog_10_method_30_code 16 = .ok (.ireturn, 1) := by decide +kernel
theorem d_X8_readComparison_17 : decode prog_10_method_30_code 17 = .ok (.aload_n 0, 1) := by decide +kernel
theorem d_X8_readComparison_18 : decode prog_10_method_30_code 18 = .ok (.dup, 1) := by decide +kernel
theorem d_X8_readComparison_19 : decode prog_10_method_30_code 19 = .ok (.getfield 47, 3) := by decide +kernel
theorem d_X8_readComparison_22 : decode prog_10_method_30_code 22 = .ok (.iconst 1, 1) := by decide +kernel
theorem d_X8_readComparison_23 : decode prog_10_method_30_code 23 = .ok (.iadd, 1) := by decide +kernel
theorem d_X8_readComparison_24 : decode prog_10_method_30_code 24 = .ok (.putfield 47, 3) := by decide +kernel
theorem d_X8_readComparison_27 : decode prog_10_method_30_code 27 = .ok (.aload_n 0, 1) := by decide +kernel
theorem d_X8_readComparison_28 : decode prog_10_method_30_code 28 = .ok (.iload_n 1, 1) := by decide +kernel
theorem d_X8_readComparison_29 : decode prog_10_method_30_code 29 = .ok (.invokevirtual 137, 3) := by decide +kernel
theorem d_X8_readComparison_32 : decode prog_10_method_30_code 32 = .ok (.istore_n 3, 1) := by decide +kernel
theorem d_X8_readComparison_33 : decode prog_10_method_30_code 33 = .ok (.aload_n 0, 1) := by decide +kernel
theorem d_X8_readComparison_34 : decode prog_10_method_30_code 34 = .ok (.iload_n 2, 1) := by decide +kernel
theorem d_X8_readComparison_35 : decode prog_10_method_30_code 35 = .ok (.bipush 61, 2) := by decide +kernel
theorem d_X8_readComparison_37 : decode prog_10_method_30_code 37 = .ok (.if_icmp .ne 8, 3) := by decide +kernel
theorem d_X8_readComparison_40 : decode prog_10_method_30_code 40 = .ok (.bipush 8, 2) := by decide +kernel
theorem d_X8_readComparison_42 : decode prog_10_method_30_code 42 = .ok (.goto 16, 3) := by decide +kernel
theorem d_X8_readComparison_45 : decode prog_10_method_30_code 45 = .ok (.iload_n 2, 1) := by decide +kernel
theorem d_X8_readComparison_46 : decode prog_10_method_30_code 46 = .ok (.bipush 60, 2) := by decide +kernel
theorem d_X8_readComparison_48 : decode prog_10_method_30_code 48 = .ok (.if_icmp .ne 8, 3) := by decide +kernel
theorem d_X8_readComparison_51 : decode prog_10_method_30_code 51 = .ok (.bipush 9, 2) := by decide +kernel
theorem d_X8_readComparison_53 : decode prog_10_method_30_code 53 = .ok (.goto 5, 3) := by decide +kernel
theorem d_X8_readComparison_56 : decode prog_10_method_30_code 56 = .ok (.bipush 10, 2) := by decide +kernel
theorem d_X8_readComparison_58 : decode prog_10_method_30_code 58 = .ok (.iconst 0, 1) := by decide +kernel
theorem d_X8_readComparison_59 : decode prog_10_method_30_code 59 = .ok (.invokevirtual 121, 3) := by decide +kernel
theorem d_X8_readComparison_62 : decode prog_10_method_30_code 62 = .ok (.pop, 1) := by decide +kernel
theorem d_X8_readComparison_63 : decode prog_10_method_30_code 63 = .ok (.iload_n 3, 1) := by decide +kernel
theorem d_X8_readComparison_64 : decode prog_10_method_30_code 64 = .ok (.ireturn, 1) := by decide +kernel
theorem d_X8_readSum_0 : decode prog_10_method_31_code 0 = .ok (.aload_n 0, 1) := by decide +kernel
theorem d_X8_readSum_1 : decode prog_10_method_31_code 1 = .ok (.iload_n 1, 1) := by decide +kernel
theorem d_X8_readSum_2 : decode prog_10_method_31_code 2 = .ok (.invokevirtual 157, 3) := by decide +kernel
theorem d_X8_readSum_5 : decode prog_10_method_31_code 5 = .ok (.istore_n 2, 1) := by decide +kernel
theorem d_X8_readSum_6 : decode prog_10_method_31_code 6 = .ok (.iconst 0, 1) := by decide +kernel
theorem d_X8_readSum_7 : decode prog_10_method_31_code 7 = .ok (.istore_n 3, 1) := by decide +kernel
theorem d_X8_readSum_8 : decode prog_10_method_31_code 8 = .ok (.iload_n 3, 1) := by decide +kernel
theorem d_X8_readSum_9 : decode prog_10_method_31_code 9 = .ok (.sipush 160, 3) := by decide +kernel
theorem d_X8_readSum_12 : decode prog_10_method_31_code 12 = .ok (.if_icmp .ge 72, 3) := by decide +kernel
theorem d_X8_readSum_15 : decode prog_10_method_31_code 15 = .ok (.iload_n 2, 1) := by decide +kernel
theorem d_X8_readSum_16 : decode prog_10_method_31_code 16 = .ok (.ifCond .eq 68, 3) := by decide +kernel
theorem d_X8_readSum_19 : decode prog_10_method_31_code 19 = .ok (.aload_n 0, 1) := by decide +kernel
theorem d_X8_readSum_20 : decode prog_10_method_31_code 20 = .ok (.invokevirtual 63, 3) := by decide +kernel
theorem d_X8_readSum_23 : decode prog_10_method_31_code 23 = .ok (.bipush 43, 2) := by decide +kernel
theorem d_X8_readSum_25 : decode prog_10_method_31_code 25 = .ok (.if_icmp .eq 12, 3) := by decide +kernel
theorem d_X8_readSum_28 : decode prog_10_method_31_code 28 = .ok (.aload_n 0, 1) := by decide +kernel
theorem d_X8_readSum_29 : decode prog_10_method_31_code 29 = .ok (.invokevirtual 63, 3) := by decide +kernel
theorem d_X8_readSum_32 : decode prog_10_method_31_code 32 = .ok (.bipush 45, 2) := by decide +kernel
theorem d_X8_readSum_34 : decode prog_10_method_31_code 34 = .ok (.if_icmp .ne 50, 3) := by decide +kernel
theorem d_X8_readSum_37 : decode prog_10_method_31_code 37 = .ok (.aload_n 0, 1) := by decide +kernel
theorem d_X8_readSum_38 : decode prog_10_method_31_code 38 = .ok (.invokevirtual 63, 3) := by decide +kernel
theorem d_X8_readSum_41 : decode prog_10_method_31_code 41 = .ok (.bipush 43, 2) := by decide +kernel
theorem d_X8_readSum_43 : decode prog_10_method_31_code 43 = .ok (.if_icmp .ne 7, 3) := by decide +kernel
theorem d_X8_readSum_46 : decode prog_10_method_31_code 46 = .ok (.iconst 5, 1) := by decide +kernel
theorem d_X8_readSum_47 : decode prog_10_method_31_code 47 = .ok (.goto 5, 3) := by decide +kernel
theorem d_X8_readSum_50 : decode prog_10_method_31_code 50 = .ok (.bipush 6, 2) := by decide +kernel
theorem d_X8_readSum_52 : decode prog_10_method_31_code 52 = .ok (.istore 4, 2) := by decide +kernel
theorem d_X8_readSum_54 : decode prog_10_method_31_code 54 = .ok (.aload_n 0, 1) := by decide +kernel
theorem d_X8_readSum_55 : decode prog_10_method_31_code 55 = .ok (.dup, 1) := by decide +kernel
theorem d_X8_readSum_56 : decode prog_10_method_31_code 56 = .ok (.getfield 47, 3) := by decide +kernel
theorem d_X8_readSum_59 : decode prog_10_method_31_code 59 = .ok (.iconst 1, 1) := by decide +kernel
theorem d_X8_readSum_60 : decode prog_10_method_31_code 60 = .ok (.iadd, 1) := by decide +kernel
theorem d_X8_readSum_61 : decode prog_10_method_31_code 61 = .ok (.putfield 47, 3) := by decide +kernel
theorem d_X8_readSum_64 : decode prog_10_method_31_code 64 = .ok (.aload_n 0, 1) := by decide +kernel
theorem d_X8_readSum_65 : decode prog_10_method_31_code 65 = .ok (.iload_n 1, 1) := by decide +kernel
theorem d_X8_readSum_66 : decode prog_10_method_31_code 66 = .ok (.invokevirtual 157, 3) := by decide +kernel
theorem d_X8_readSum_69 : decode prog_10_method_31_code 69 = .ok (.istore_n 2, 1) := by decide +kernel
theorem d_X8_readSum_70 : decode prog_10_method_31_code 70 = .ok (.aload_n 0, 1) := by decide +kernel
theorem d_X8_readSum_71 : decode prog_10_method_31_code 71 = .ok (.iload 4, 2) := by decide +kernel
theorem d_X8_readSum_73 : decode prog_10_method_31_code 73 = .ok (.iconst 0, 1) := by decide +kernel
theorem d_X8_readSum_74 : decode prog_10_method_31_code 74 = .ok (.invokevirtual 121, 3) := by decide +kernel
theorem d_X8_readSum_77 : decode prog_10_method_31_code 77 = .ok (.pop, 1) := by decide +kernel
theorem d_X8_readSum_78 : decode prog_10_method_31_code 78 = .ok (.iinc 3 1, 3) := by decide +kernel
theorem d_X8_readSum_81 : decode prog_10_method_31_code 81 = .ok (.goto (-73), 3) := by decide +kernel
theorem d_X8_readSum_84 : decode prog_10_method_31_code 84 = .ok (.iload_n 2, 1) := by decide +kernel
theorem d_X8_readSum_85 : decode prog_10_method_31_code 85 = .ok (.ireturn, 1) := by decide +kernel
theorem d_X8_readTerm_0 : decode prog_10_method_32_code 0 = .ok (.aload_n 0, 1) := by decide +kernel
theorem d_X8_readTerm_1 : decode prog_10_method_32_code 1 = .ok (.iload_n 1, 1) := by decide +kernel
theorem d_X8_readTerm_2 : decode prog_10_method_32_code 2 = .ok (.invokevirtual 160, 3) := by decide +kernel
theorem d_X8_readTerm_5 : decode prog_10_method_32_code 5 = .ok (.istore_n 2, 1) := by decide +kernel
theorem d_X8_readTerm_6 : decode prog_10_method_32_code 6 = .ok (.iconst 0, 1) := by decide +kernel
theorem d_X8_readTerm_7 : decode prog_10_method_32_code 7 = .ok (.istore_n 3, 1) := by decide +kernel
theorem d_X8_readTerm_8 : decode prog_10_method_32_code 8 = .ok (.iload_n 3, 1) := by decide +kernel
theorem d_X8_readTerm_9 : decode prog_10_method_32_code 9 = .ok (.sipush 160, 3) := by decide +kernel
theorem d_X8_readTerm_12 : decode prog_10_method_32_code 12 = .ok (.if_icmp .ge 46, 3) := by decide +kernel
theorem d_X8_readTerm_15 : decode prog_10_method_32_code 15 = .ok (.iload_n 2, 1) := by decide +kernel
theorem d_X8_readTerm_16 : decode prog_10_method_32_code 16 = .ok (.ifCond .eq 42, 3) := by decide +kernel
theorem d_X8_readTerm_19 : decode prog_10_method_32_code 19 = .ok (.aload_n 0, 1) := by decide +kernel
theorem d_X8_readTerm_20 : decode prog_10_method_32_code 20 = .ok (.invokevirtual 63, 3) := by decide +kernel
theorem d_X8_readTerm_23 : decode prog_10_method_32_code 23 = .ok (.bipush 42, 2) := by decide +kernel
theorem d_X8_readTerm_25 : decode prog_10_method_32_code 25 = .ok (.if_icmp .ne 33, 3) := by decide +kernel
theorem d_X8_readTerm_28 : decode prog_10_method_32_code 28 = .ok (.aload_n 0, 1) := by decide +kernel
theorem d_X8_readTerm_29 : decode prog_10_method_32_code 29 = .ok (.dup, 1) := by decide +kernel
theorem d_X8_readTerm_30 : decode prog_10_method_32_code 30 = .ok (.getfield 47, 3) := by decide +kernel
theorem d_X8_readTerm_33 : decode prog_10_method_32_code 33 = .ok (.iconst 1, 1) := by decide +kernel
theorem d_X8_readTerm_34 : decode prog_10_method_32_code 34 = .ok (.iadd, 1) := by decide +kernel
theorem d_X8_readTerm_35 : decode prog_10_method_32_code 35 = .ok (.putfield 47, 3) := by decide +kernel
theorem d_X8_readTerm_38 : decode prog_10_method_32_code 38 = .ok (.aload_n 0, 1) := by decide +kernel
theorem d_X8_readTerm_39 : decode prog_10_method_32_code 39 = .ok (.iload_n 1, 1) := by decide +kernel
theorem d_X8_readTerm_40 : decode prog_10_method_32_code 40 = .ok (.invokevirtual 160, 3) := by decide +kernel
theorem d_X8_readTerm_43 : decode prog_10_method_32_code 43 = .ok (.istore_n 2, 1) := by decide +kernel
theorem d_X8_readTerm_44 : decode prog_10_method_32_code 44 = .ok (.aload_n 0, 1) := by decide +kernel
theorem d_X8_readTerm_45 : decode prog_10_method_32_code 45 = .ok (.bipush 7, 2) := by decide +kernel
theorem d_X8_readTerm_47 : decode prog_10_method_32_code 47 = .ok (.iconst 0, 1) := by decide +kernel
theorem d_X8_readTerm_48 : decode prog_10_method_32_code 48 = .ok (.invokevirtual 121, 3) := by decide +kernel
theorem d_X8_readTerm_51 : decode prog_10_method_32_code 51 = .ok (.pop, 1) := by decide +kernel
theorem d_X8_readTerm_52 : decode prog_10_method_32_code 52 = .ok (.iinc 3 1, 3) := by decide +kernel
theorem d_X8_readTerm_55 : decode prog_10_method_32_code 55 = .ok (.goto (-47), 3) := by decide +kernel
theorem d_X8_readTerm_58 : decode prog_10_method_32_code 58 = .ok (.iload_n 2, 1) := by decide +kernel
theorem d_X8_readTerm_59 : decode prog_10_method_32_code 59 = .ok (.ireturn, 1) := by decide +kernel
theorem d_X8_readAtom_0 : decode prog_10_method_33_code 0 = .ok (.aload_n 0, 1) := by decide +kernel
theorem d_X8_readAtom_1 : decode prog_10_method_33_code 1 = .ok (.invokevirtual 63, 3) := by decide +kernel
theorem d_X8_readAtom_4 : decode prog_10_method_33_code 4 = .ok (.istore_n 2, 1) := by decide +kernel
theorem d_X8_readAtom_5 : decode prog_10_method_33_code 5 = .ok (.iload_n 2, 1) := by decide +kernel
theorem d_X8_readAtom_6 : decode prog_10_method_33_code 6 = .ok (.invokestatic 71, 3) := by decide +kernel
theorem d_X8_readAtom_9 : decode prog_10_method_33_code 9 = .ok (.ifCond .eq 30, 3) := by decide +kernel
theorem d_X8_readAtom_12 : decode prog_10_method_33_code 12 = .ok (.aload_n 0, 1) := by decide +kernel
theorem d_X8_readAtom_13 : decode prog_10_method_33_code 13 = .ok (.iconst 0, 1) := by decide +kernel
theorem d_X8_readAtom_14 : decode prog_10_method_33_code 14 = .ok (.sipush 9999, 3) := by decide +kernel
theorem d_X8_readAtom_17 : decode prog_10_method_33_code 17 = .ok (.invokevirtual 85, 3) := by decide +kernel
theorem d_X8_readAtom_20 : decode prog_10_method_33_code 20 = .ok (.istore_n 3, 1) := by decide +kernel
theorem d_X8_readAtom_21 : decode prog_10_method_33_code 21 = .ok (.aload_n 0, 1) := by decide +kernel
theorem d_X8_readAtom_22 : decode prog_10_method_33_code 22 = .ok (.iconst 0, 1) := by decide +kernel
theorem d_X8_readAtom_23 : decode prog_10_method_33_code 23 = .ok (.iload_n 3, 1) := by decide +kernel
theorem d_X8_readAtom_24 : decode prog_10_method_33_code 24 = .ok (.invokevirtual 121, 3) := by decide +kernel
theorem d_X8_readAtom_27 : decode prog_10_method_33_code 27 = .ok (.pop, 1) := by decide +kernel
theorem d_X8_readAtom_28 : decode prog_10_method_33_code 28 = .ok (.iload_n 3, 1) := by decide +kernel
theorem d_X8_readAtom_29 : decode prog_10_method_33_code 29 = .ok (.iconst (-1), 1) := by decide +kernel
theorem d_X8_readAtom_30 : decode prog_10_method_33_code 30 = .ok (.if_icmp .eq 7, 3) := by decide +kernel
theorem d_X8_readAtom_33 : decode prog_10_method_33_code 33 = .ok (.iconst 1, 1) := by decide +kernel
theorem d_X8_readAtom_34 : decode prog_10_method_33_code 34 = .ok (.goto 4, 3) := by decide +kernel
theorem d_X8_readAtom_37 : decode prog_10_method_33_code 37 = .ok (.iconst 0, 1) := by decide +kernel
theorem d_X8_readAtom_38 : decode prog_10_method_33_code 38 = .ok (.ireturn, 1) := by decide +kernel
theorem d_X8_readAtom_39 : decode prog_10_method_33_code 39 = .ok (.iload_n 2, 1) := by decide +kernel
theorem d_X8_readAtom_40 : decode prog_10_method_33_code 40 = .ok (.bipush 91, 2) := by decide +kernel
theorem d_X8_readAtom_42 : decode prog_10_method_33_code 42 = .ok (.if_icmp .ne 49, 3) := by decide +kernel
theorem d_X8_readAtom_45 : decode prog_10_method_33_code 45 = .ok (.iload_n 1, 1) := by decide +kernel
theorem d_X8_readAtom_46 : decode prog_10_method_33_code 46 = .ok (.bipush 6, 2) := by decide +kernel
theorem d_X8_readAtom_48 : decode prog_10_method_33_code 48 = .ok (.if_icmp .lt 8, 3) := by decide +kernel
theorem d_X8_readAtom_51 : decode prog_10_method_33_code 51 = .ok (.aload_n 0, 1) := by decide +kernel
theorem d_X8_readAtom_52 : decode prog_10_method_33_code 52 = .ok (.invokevirtual 67, 3) := by decide +kernel
theorem d_X8_readAtom_55 : decode prog_10_method_33_code 55 = .ok (.ireturn, 1) := by decide +kernel
theorem d_X8_readAtom_56 : decode prog_10_method_33_code 56 = .ok (.aload_n 0, 1) := by decide +kernel
theorem d_X8_readAtom_57 : decode prog_10_method_33_code 57 = .ok (.dup, 1) := by decide +kernel
theorem d_X8_readAtom_58 : decode prog_10_method_33_code 58 = .ok (.getfield 47, 3) := by decide +kernel
theorem d_X8_readAtom_61 : decode prog_10_method_33_code 61 = .ok (.iconst 1, 1) := by decide +kernel
theorem d_X8_readAtom_62 : decode prog_10_method_33_code 62 = .ok (.iadd, 1) := by decide +kernel
theorem d_X8_readAtom_63 : decode prog_10_method_33_code 63 = .ok (.putfield 47, 3) := by decide +kernel
theorem d_X8_readAtom_66 : decode prog_10_method_33_code 66 = .ok (.aload_n 0, 1) := by decide +kernel
theorem d_X8_readAtom_67 : decode prog_10_method_33_code 67 = .ok (.iload_n 1, 1) := by decide +kernel
theorem d_X8_readAtom_68 : decode prog_10_method_33_code 68 = .ok (.iconst 1, 1) := by decide +kernel
theorem d_X8_readAtom_69 : decode prog_10_method_33_code 69 = .ok (.iadd, 1) := by decide +kernel
theorem d_X8_readAtom_70 : decode prog_10_method_33_code 70 = .ok (.invokevirtual 137, 3) := by decide +kernel
theorem d_X8_readAtom_73 : decode prog_10_method_33_code 73 = .ok (.ifCond .eq 16, 3) := by decide +kernel
theorem d_X8_readAtom_76 : decode prog_10_method_33_code 76 = .ok (.aload_n 0, 1) := by decide +kernel
theorem d_X8_readAtom_77 : decode prog_10_method_33_code 77 = .ok (.bipush 93, 2) := by decide +kernel
theorem d_X8_readAtom_79 : decode prog_10_method_33_code 79 = .ok (.invokevirtual 98, 3) := by decide +kernel
theorem d_X8_readAtom_82 : decode prog_10_method_33_code 82 = .ok (.ifCond .eq 7, 3) := by decide +kernel
theorem d_X8_readAtom_85 : decode prog_10_method_33_code 85 = .ok (.iconst 1, 1) := by decide +kernel
theorem d_X8_readAtom_86 : decode prog_10_method_33_code 86 = .ok (.goto 4, 3) := by decide +kernel
theorem d_X8_readAtom_89 : decode prog_10_method_33_code 89 = .ok (.iconst 0, 1) := by decide +kernel
theorem d_X8_readAtom_90 : decode prog_10_method_33_code 90 = .ok (.ireturn, 1) := by decide +kernel
theorem d_X8_readAtom_91 : decode prog_10_method_33_code 91 = .ok (.iload_n 2, 1) := by decide +kernel
theorem d_X8_readAtom_92 : decode prog_10_method_33_code 92 = .ok (.iconst (-1), 1) := by decide +kernel
theorem d_X8_readAtom_93 : decode prog_10_method_33_code 93 = .ok (.if_icmp .ne 7, 3) := by decide +kernel
theorem d_X8_readAtom_96 : decode prog_10_method_33_code 96 = .ok (.iconst (-1), 1) := by decide +kernel
theorem d_X8_readAtom_97 : decode prog_10_method_33_code 97 = .ok (.goto 12, 3) := by decide +kernel
theorem d_X8_readAtom_100 : decode prog_10_method_33_code 100 = .ok (.aload_n 0, 1) := by decide +kernel
theorem d_X8_readAtom_101 : decode prog_10_method_33_code 101 = .ok (.getfield 17, 3) := by decide +kernel
theorem d_X8_readAtom_104 : decode prog_10_method_33_code 104 = .ok (.iload_n 2, 1) := by decide +kernel
theorem d_X8_readAtom_105 : decode prog_10_method_33_code 105 = .ok (.i2c, 1) := by decide +kernel
theorem d_X8_readAtom_106 : decode prog_10_method_33_code 106 = .ok (.invokevirtual 126, 3) := by decide +kernel
theorem d_X8_readAtom_109 : decode prog_10_method_33_code 109 = .ok (.istore_n 3, 1) := by decide +kernel
theorem d_X8_readAtom_110 : decode prog_10_method_33_code 110 = .ok (.iload_n 3, 1) := by decide +kernel
theorem d_X8_readAtom_111 : decode prog_10_method_33_code 111 = .ok (.ifCond .ge 8, 3) := by decide +kernel
theorem d_X8_readAtom_114 : decode prog_10_method_33_code 114 = .ok (.aload_n 0, 1) := by decide +kernel
theorem d_X8_readAtom_115 : decode prog_10_method_33_code 115 = .ok (.invokevirtual 67, 3) := by decide +kernel
theorem d_X8_readAtom_118 : decode prog_10_method_33_code 118 = .ok (.ireturn, 1) := by decide +kernel
theorem d_X8_readAtom_119 : decode prog_10_method_33_code 119 = .ok (.aload_n 0, 1) := by decide +kernel
theorem d_X8_readAtom_120 : decode prog_10_method_33_code 120 = .ok (.dup, 1) := by decide +kernel
theorem d_X8_readAtom_121 : decode prog_10_method_33_code 121 = .ok (.getfield 47, 3) := by decide +kernel
theorem d_X8_readAtom_124 : decode prog_10_method_33_code 124 = .ok (.iconst 1, 1) := by decide +kernel
theorem d_X8_readAtom_125 : decode prog_10_method_33_code 125 = .ok (.iadd, 1) := by decide +kernel
theorem d_X8_readAtom_126 : decode prog_10_method_33_code 126 = .ok (.putfield 47, 3) := by decide +kernel
theorem d_X8_readAtom_129 : decode prog_10_method_33_code 129 = .ok (.aload_n 0, 1) := by decide +kernel
theorem d_X8_readAtom_130 : decode prog_10_method_33_code 130 = .ok (.iconst 1, 1) := by decide +kernel
theorem d_X8_readAtom_131 : decode prog_10_method_33_code 131 = .ok (.iload_n 3, 1) := by decide +kernel
theorem d_X8_readAtom_132 : decode prog_10_method_33_code 132 = .ok (.invokevirtual 121, 3) := by decide +kernel
theorem d_X8_readAtom_135 : decode prog_10_method_33_code 135 = .ok (.pop, 1) := by decide +kernel
theorem d_X8_readAtom_136 : decode prog_10_method_33_code 136 = .ok (.iconst 1, 1) := by decide +kernel
theorem d_X8_readAtom_137 : decode prog_10_method_33_code 137 = .ok (.ireturn, 1) := by decide +kernel
theorem d_X9_init_0 : decode prog_11_method_1_code 0 = .ok (.aload_n 0, 1) := by decide +kernel
theorem d_X9_init_1 : decode prog_11_method_1_code 1 = .ok (.invokespecial 3, 3) := by decide +kernel
theorem d_X9_init_4 : decode prog_11_method_1_code 4 = .ok (.aload_n 0, 1) := by decide +kernel
theorem d_X9_init_5 : decode prog_11_method_1_code 5 = .ok (.sipush 256, 3) := by decide +kernel
theorem d_X9_init_8 : decode prog_11_method_1_code 8 = .ok (.newarray .int, 2) := by decide +kernel
theorem d_X9_init_10 : decode prog_11_method_1_code 10 = .ok (.putfield 9, 3) := by decide +kernel
theorem d_X9_init_13 : decode prog_11_method_1_code 13 = .ok (.iconst 0, 1) := by decide +kernel
theorem d_X9_init_14 : decode prog_11_method_1_code 14 = .ok (.istore_n 1, 1) := by decide +kernel
theorem d_X9_init_15 : decode prog_11_method_1_code 15 = .ok (.iload_n 1, 1) := by decide +kernel
theorem d_X9_init_16 : decode prog_11_method_1_code 16 = .ok (.aload_n 0, 1) := by decide +kernel
theorem d_X9_init_17 : decode prog_11_method_1_code 17 = .ok (.getfield 9, 3) := by decide +kernel
theorem d_X9_init_20 : decode prog_11_method_1_code 20 = .ok (.arraylength, 1) := by decide +kernel
theorem d_X9_init_21 : decode prog_11_method_1_code 21 = .ok (.if_icmp .ge 32, 3) := by decide +kernel
theorem d_X9_init_24 : decode prog_11_method_1_code 24 = .ok (.aload_n 0, 1) := by decide +kernel
theorem d_X9_init_25 : decode prog_11_method_1_code 25 = .ok (.getfield 9, 3) := by decide +kernel
theorem d_X9_init_28 : decode prog_11_method_1_code 28 = .ok (.iload_n 1, 1) := by decide +kernel
theorem d_X9_init_29 : decode prog_11_method_1_code 29 = .ok (.iload_n 1, 1) := by decide +kernel
theorem d_X9_init_30 : decode prog_11_method_1_code 30 = .ok (.bipush 16, 2) := by decide +kernel
theorem d_X9_init_32 : decode prog_11_method_1_code 32 = .ok (.idiv, 1) := by decide +kernel
theorem d_X9_init_33 : decode prog_11_method_1_code 33 = .ok (.iload_n 1, 1) := by decide +kernel
theorem d_X9_init_34 : decode prog_11_method_1_code 34 = .ok (.bipush 16, 2) := by decide +kernel
theorem d_X9_init_36 : decode prog_11_method_1_code 36 = .ok (.irem, 1) := by decide +kernel
theorem d_X9_init_37 : decode prog_11_method_1_code 37 = .ok (.if_icmp .ne 7, 3) := by decide +kernel
theorem d_X9_init_40 : decode prog_11_method_1_code 40 = .ok (.iconst 0, 1) := by decide +kernel
theorem d_X9_init_41 : decode prog_11_method_1_code 41 = .ok (.goto 5, 3) := by decide +kernel
theorem d_X9_init_44 : decode prog_11_method_1_code 44 = .ok (.ldc 15, 2) := by decide +kernel
theorem d_X9_init_46 : decode prog_11_method_1_code 46 = .ok (.iastore, 1) := by decide +kernel
theorem d_X9_init_47 : decode prog_11_method_1_code 47 = .ok (.iinc 1 1, 3) := by decide +kernel
theorem d_X9_init_50 : decode prog_11_method_1_code 50 = .ok (.goto (-35), 3) := by decide +kernel
theorem d_X9_init_53 : decode prog_11_method_1_code 53 = .ok (.return_, 1) := by decide +kernel
theorem d_X9_minutes_0 : decode prog_11_method_2_code 0 = .ok (.iload_n 1, 1) := by decide +kernel
theorem d_X9_minutes_1 : decode prog_11_method_2_code 1 = .ok (.invokestatic 16, 3) := by decide +kernel
theorem d_X9_minutes_4 : decode prog_11_method_2_code 4 = .ok (.ifCond .eq 10, 3) := by decide +kernel
theorem d_X9_minutes_7 : decode prog_11_method_2_code 7 = .ok (.iload_n 2, 1) := by decide +kernel
theorem d_X9_minutes_8 : decode prog_11_method_2_code 8 = .ok (.invokestatic 16, 3) := by decide +kernel
theorem d_X9_minutes_11 : decode prog_11_method_2_code 11 = .ok (.ifCond .ne 5, 3) := by decide +kernel
theorem d_X9_minutes_14 : decode prog_11_method_2_code 14 = .ok (.iconst (-1), 1) := by decide +kernel
theorem d_X9_minutes_15 : decode prog_11_method_2_code 15 = .ok (.ireturn, 1) := by decide +kernel
theorem d_X9_minutes_16 : decode prog_11_method_2_code 16 = .ok (.aload_n 0, 1) := by decide +kernel
theorem d_X9_minutes_17 : decode prog_11_method_2_code 17 = .ok (.getfield 9, 3) := by decide +kernel
theorem d_X9_minutes_20 : decode prog_11_method_2_code 20 = .ok (.iload_n 1, 1) := by decide +kernel
theorem d_X9_minutes_21 : decode prog_11_method_2_code 21 = .ok (.bipush 16, 2) := by decide +kernel
theorem d_X9_minutes_23 : decode prog_11_method_2_code 23 = .ok (.imul, 1) := by decide +kernel
theorem d_X9_minutes_24 : decode prog_11_method_2_code 24 = .ok (.iload_n 2, 1) := by decide +kernel
theorem d_X9_minutes_25 : decode prog_11_method_2_code 25 = .ok (.iadd, 1) := by decide +kernel
theorem d_X9_minutes_26 : decode prog_11_method_2_code 26 = .ok (.iaload, 1) := by decide +kernel
theorem d_X9_minutes_27 : decode prog_11_method_2_code 27 = .ok (.istore_n 3, 1) := by decide +kernel
theorem d_X9_minutes_28 : decode prog_11_method_2_code 28 = .ok (.iload_n 3, 1) := by decide +kernel
theorem d_X9_minutes_29 : decode prog_11_method_2_code 29 = .ok (.ldc 15, 2) := by decide +kernel
theorem d_X9_minutes_31 : decode prog_11_method_2_code 31 = .ok (.if_icmp .lt 7, 3) := by decide +kernel
theorem d_X9_minutes_34 : decode prog_11_method_2_code 34 = .ok (.iconst (-1), 1) := by decide +kernel
theorem d_X9_minutes_35 : decode prog_11_method_2_code 35 = .ok (.goto 4, 3) := by decide +kernel
theorem d_X9_minutes_38 : decode prog_11_method_2_code 38 = .ok (.iload_n 3, 1) := by decide +kernel
theorem d_X9_minutes_39 : decode prog_11_method_2_code 39 = .ok (.ireturn, 1) := by decide +kernel
theorem d_X9_lay_0 : decode prog_11_method_3_code 0 = .ok (.aload_n 0, 1) := by decide +kernel
theorem d_X9_lay_1 : decode prog_11_method_3_code 1 = .ok (.getfield 20, 3) := by decide +kernel
theorem d_X9_lay_4 : decode prog_11_method_3_code 4 = .ok (.bipush 40, 2) := by decide +kernel
theorem d_X9_lay_6 : decode prog_11_method_3_code 6 = .ok (.if_icmp .lt 5, 3) := by decide +kernel
theorem d_X9_lay_9 : decode prog_11_method_3_code 9 = .ok (.iconst (-1), 1) := by decide +kernel
theorem d_X9_lay_10 : decode prog_11_method_3_code 10 = .ok (.ireturn, 1) := by decide +kernel
theorem d_X9_lay_11 : decode prog_11_method_3_code 11 = .ok (.iconst 0, 1) := by decide +kernel
theorem d_X9_lay_12 : decode prog_11_method_3_code 12 = .ok (.istore 4, 2) := by decide +kernel
theorem d_X9_lay_14 : decode prog_11_method_3_code 14 = .ok (.iload 4, 2) := by decide +kernel
theorem d_X9_lay_16 : decode prog_11_method_3_code 16 = .ok (.bipush 16, 2) := by decide +kernel
theorem d_X9_lay_18 : decode prog_11_method_3_code 18 = .ok (.if_icmp .ge 117, 3) := by decide +kernel
theorem d_X9_lay_21 : decode prog_11_method_3_code 21 = .ok (.iconst 0, 1) := by decide +kernel
theorem d_X9_lay_22 : decode prog_11_method_3_code 22 = .ok (.istore 5, 2) := by decide +kernel
theorem d_X9_lay_24 : decode prog_11_method_3_code 24 = .ok (.iload 5, 2) := by decide +kernel
theorem d_X9_lay_26 : decode prog_11_method_3_code 26 = .ok (.bipush 16, 2) := by decide +kernel
theorem d_X9_lay_28 : decode prog_11_method_3_code 28 = .ok (.if_icmp .ge 101, 3) := by decide +kernel
theorem d_X9_lay_31 : decode prog_11_method_3_code 31 = .ok (.aload_n 0, 1) := by decide +kernel
theorem d_X9_lay_32 : decode prog_11_method_3_code 32 = .ok (.getfield 9, 3) := by decide +kernel
theorem d_X9_lay_35 : decode prog_11_method_3_code 35 = .ok (.iload 4, 2) := by decide +kernel
theorem d_X9_lay_37 : decode prog_11_method_3_code 37 = .ok (.bipush 16, 2) := by decide +kernel
theorem d_X9_lay_39 : decode prog_11_method_3_code 39 = .ok (.imul, 1) := by decide +kernel
theorem d_X9_lay_40 : decode prog_11_method_3_code 40 = .ok (.iload_n 1, 1) := by decide +kernel
theorem d_X9_lay_41 : decode prog_11_method_3_code 41 = .ok (.iadd, 1) := by decide +kernel
theorem d_X9_lay_42 : decode prog_11_method_3_code 42 = .ok (.iaload, 1) := by decide +kernel
theorem d_X9_lay_43 : decode prog_11_method_3_code 43 = .ok (.iload_n 3, 1) := by decide +kernel
theorem d_X9_lay_44 : decode prog_11_method_3_code 44 = .ok (.iadd, 1) := by decide +kernel
theorem d_X9_lay_45 : decode prog_11_method_3_code 45 = .ok (.aload_n 0, 1) := by decide +kernel
theorem d_X9_lay_46 : decode prog_11_method_3_code 46 = .ok (.getfield 9, 3) := by decide +kernel
theorem d_X9_lay_49 : decode prog_11_method_3_code 49 = .ok (.iload_n 2, 1) := by decide +kernel
theorem d_X9_lay_50 : decode prog_11_method_3_code 50 = .ok (.bipush 16, 2) := by decide +kernel
theorem d_X9_lay_52 : decode prog_11_method_3_code 52 = .ok (.imul, 1) := by decide +kernel
theorem d_X9_lay_53 : decode prog_11_method_3_code 53 = .ok (.iload 5, 2) := by decide +kernel
theorem d_X9_lay_55 : decode prog_11_method_3_code 55 = .ok (.iadd, 1) := by decide +kernel
theorem d_X9_lay_56 : decode prog_11_method_3_code 56 = .ok (.iaload, 1) := by decide +kernel
theorem d_X9_lay_57 : decode prog_11_method_3_code 57 = .ok (.iadd, 1) := by decide +kernel
theorem d_X9_lay_58 : decode prog_11_method_3_code 58 = .ok (.istore 6, 2) := by decide +kernel
theorem d_X9_lay_60 : decode prog_11_method_3_code 60 = .ok (.aload_n 0, 1) := by decide +kernel
theorem d_X9_lay_61 : decode prog_11_method_3_code 61 = .ok (.getfield 9, 3) := by decide +kernel
theorem d_X9_lay_64 : decode prog_11_method_3_code 64 = .ok (.iload 4, 2) := by decide +kernel
theorem d_X9_lay_66 : decode prog_11_method_3_code 66 = .ok (.bipush 16, 2) := by decide +kernel
theorem d_X9_lay_68 : decode prog_11_method_3_code 68 = .ok (.imul, 1) := by decide +kernel
theorem d_X9_lay_69 : decode prog_11_method_3_code 69 = .ok (.iload_n 2, 1) := by decide +kernel
theorem d_X9_lay_70 : decode prog_11_method_3_code 70 = .ok (.iadd, 1) := by decide +kernel
theorem d_X9_lay_71 : decode prog_11_method_3_code 71 = .ok (.iaload, 1) := by decide +kernel
theorem d_X9_lay_72 : decode prog_11_method_3_code 72 = .ok (.iload_n 3, 1) := by decide +kernel
theorem d_X9_lay_73 : decode prog_11_method_3_code 73 = .ok (.iadd, 1) := by decide +kernel
theorem d_X9_lay_74 : decode prog_11_method_3_code 74 = .ok (.aload_n 0, 1) := by decide +kernel
theorem d_X9_lay_75 : decode prog_11_method_3_code 75 = .ok (.getfield 9, 3) := by decide +kernel
theorem d_X9_lay_78 : decode prog_11_method_3_code 78 = .ok (.iload_n 1, 1) := by decide +kernel
theorem d_X9_lay_79 : decode prog_11_method_3_code 79 = .ok (.bipush 16, 2) := by decide +kernel
theorem d_X9_lay_81 : decode prog_11_method_3_code 81 = .ok (.imul, 1) := by decide +kernel
theorem d_X9_lay_82 : decode prog_11_method_3_code 82 = .ok (.iload 5, 2) := by decide +kernel
theorem d_X9_lay_84 : decode prog_11_method_3_code 84 = .ok (.iadd, 1) := by decide +kernel
theorem d_X9_lay_85 : decode prog_11_method_3_code 85 = .ok (.iaload, 1) := by decide +kernel
theorem d_X9_lay_86 : decode prog_11_method_3_code 86 = .ok (.iadd, 1) := by decide +kernel
theorem d_X9_lay_87 : decode prog_11_method_3_code 87 = .ok (.istore 7, 2) := by decide +kernel
theorem d_X9_lay_89 : decode prog_11_method_3_code 89 = .ok (.iload 4, 2) := by decide +kernel
theorem d_X9_lay_91 : decode prog_11_method_3_code 91 = .ok (.bipush 16, 2) := by decide +kernel
theorem d_X9_lay_93 : decode prog_11_method_3_code 93 = .ok (.imul, 1) := by decide +kernel
theorem d_X9_lay_94 : decode prog_11_method_3_code 94 = .ok (.iload 5, 2) := by decide +kernel
theorem d_X9_lay_96 : decode prog_11_method_3_code 96 = .ok (.iadd, 1) := by decide +kernel
theorem d_X9_lay_97 : decode prog_11_method_3_code 97 = .ok (.istore 8, 2) := by decide +kernel
theorem d_X9_lay_99 : decode prog_11_method_3_code 99 = .ok (.aload_n 0, 1) := by decide +kernel
theorem d_X9_lay_100 : decode prog_11_method_3_code 100 = .ok (.getfield 9, 3) := by decide +kernel
theorem d_X9_lay_103 : decode prog_11_method_3_code 103 = .ok (.iload 8, 2) := by decide +kernel
theorem d_X9_lay_105 : decode prog_11_method_3_code 105 = .ok (.aload_n 0, 1) := by decide +kernel
theorem d_X9_lay_106 : decode prog_11_method_3_code 106 = .ok (.getfield 9, 3) := by decide +kernel
theorem d_X9_lay_109 : decode prog_11_method_3_code 109 = .ok (.iload 8, 2) := by decide +kernel
theorem d_X9_lay_111 : decode prog_11_method_3_code 111 = .ok (.iaload, 1) := by decide +kernel
theorem d_X9_lay_112 : decode prog_11_method_3_code 112 = .ok (.iload 6, 2) := by decide +kernel
theorem d_X9_lay_114 : decode prog_11_method_3_code 114 = .ok (.iload 7, 2) := by decide +kernel
theorem d_X9_lay_116 : decode prog_11_method_3_code 116 = .ok (.invokestatic 24, 3) := by decide +kernel
theorem d_X9_lay_119 : decode prog_11_method_3_code 119 = .ok (.invokestatic 24, 3) := by decide +kernel
theorem d_X9_lay_122 : decode prog_11_method_3_code 122 = .ok (.iastore, 1) := by decide +kernel
theorem d_X9_lay_123 : decode prog_11_method_3_code 123 = .ok (.iinc 5 1, 3) := by decide +kernel
theorem d_X9_lay_126 : decode prog_11_method_3_code 126 = .ok (.goto (-102), 3) := by decide +kernel
theorem d_X9_lay_129 : decode prog_11_method_3_code 129 = .ok (.iinc 4 1, 3) := by decide +kernel
theorem d_X9_lay_132 : decode prog_11_method_3_code 132 = .ok (.goto (-118), 3) := by decide +kernel
theorem d_X9_lay_135 : decode prog_11_method_3_code 135 = .ok (.aload_n 0, 1) := by decide +kernel
theorem d_X9_lay_136 : decode prog_11_method_3_code 136 = .ok (.dup, 1) := by decide +kernel
theorem d_X9_lay_137 : decode prog_11_method_3_code 137 = .ok (.getfield 20, 3) := by decide +kernel
theorem d_X9_lay_140 : decode prog_11_method_3_code 140 = .ok (.iconst 1, 1) := by decide +kernel
theorem d_X9_lay_141 : decode prog_11_method_3_code 141 = .ok (.iadd, 1) := by decide +kernel
theorem d_X9_lay_142 : decode prog_11_method_3_code 142 = .ok (.putfield 20, 3) := by decide +kernel
theorem d_X9_lay_145 : decode prog_11_method_3_code 145 = .ok (.aload_n 0, 1) := by decide +kernel
theorem d_X9_lay_146 : decode prog_11_method_3_code 146 = .ok (.getfield 20, 3) := by decide +kernel
theorem d_X9_lay_149 : decode prog_11_method_3_code 149 = .ok (.iconst 1, 1) := by decide +kernel
theorem d_X9_lay_150 : decode prog_11_method_3_code 150 = .ok (.isub, 1) := by decide +kernel
theorem d_X9_lay_151 : decode prog_11_method_3_code 151 = .ok (.ireturn, 1) := by decide +kernel
theorem d_X10_init_0 : decode prog_12_method_1_code 0 = .ok (.aload_n 0, 1) := by decide +kernel
theorem d_X10_init_1 : decode prog_12_method_1_code 1 = .ok (.invokespecial 3, 3) := by decide +kernel
theorem d_X10_init_4 : decode prog_12_method_1_code 4 = .ok (.aload_n 0, 1) := by decide +kernel
theorem d_X10_init_5 : decode prog_12_method_1_code 5 = .ok (.bipush 20, 2) := by decide +kernel
theorem d_X10_init_7 : decode prog_12_method_1_code 7 = .ok (.newarray .int, 2) := by decide +kernel
theorem d_X10_init_9 : decode prog_12_method_1_code 9 = .ok (.putfield 11, 3) := by decide +kernel
theorem d_X10_init_12 : decode prog_12_method_1_code 12 = .ok (.aload_n 0, 1) := by decide +kernel
theorem d_X10_init_13 : decode prog_12_method_1_code 13 = .ok (.bipush 20, 2) := by decide +kernel
theorem d_X10_init_15 : decode prog_12_method_1_code 15 = .ok (.newarray .int, 2) := by decide +kernel
theorem d_X10_init_17 : decode prog_12_method_1_code 17 = .ok (.putfield 15, 3) := by decide +kernel
theorem d_X10_init_20 : decode prog_12_method_1_code 20 = .ok (.aload_n 0, 1) := by decide +kernel
theorem d_X10_init_21 : decode prog_12_method_1_code 21 = .ok (.bipush 20, 2) := by decide +kernel
theorem d_X10_init_23 : decode prog_12_method_1_code 23 = .ok (.newarray .int, 2) := by decide +kernel
theorem d_X10_init_25 : decode prog_12_method_1_code 25 = .ok (.putfield 18, 3) := by decide +kernel
theorem d_X10_init_28 : decode prog_12_method_1_code 28 = .ok (.aload_n 0, 1) := by decide +kernel
theorem d_X10_init_29 : decode prog_12_method_1_code 29 = .ok (.sipush 3280, 3) := by decide +kernel
theorem d_X10_init_32 : decode prog_12_method_1_code 32 = .ok (.newarray .int, 2) := by decide +kernel
theorem d_X10_init_34 : decode prog_12_method_1_code 34 = .ok (.putfield 21, 3) := by decide +kernel
theorem d_X10_init_37 : decode prog_12_method_1_code 37 = .ok (.aload_n 0, 1) := by decide +kernel
theorem d_X10_init_38 : decode prog_12_method_1_code 38 = .ok (.sipush 164, 3) := by decide +kernel
theorem d_X10_init_41 : decode prog_12_method_1_code 41 = .ok (.newarray .int, 2) := by decide +kernel
theorem d_X10_init_43 : decode prog_12_method_1_code 43 = .ok (.putfield 24, 3) := by decide +kernel
theorem d_X10_init_46 : decode prog_12_method_1_code 46 = .ok (.return_, 1) := by decide +kernel
theorem d_X10_pack_0 : decode prog_12_method_2_code 0 = .ok (.iload_n 0, 1) := by decide +kernel
theorem d_X10_pack_1 : decode prog_12_method_2_code 1 = .ok (.iload_n 1, 1) := by decide +kernel
theorem d_X10_pack_2 : decode prog_12_method_2_code 2 = .ok (.iconst 4, 1) := by decide +kernel
theorem d_X10_pack_3 : decode prog_12_method_2_code 3 = .ok (.ishl, 1) := by decide +kernel
theorem d_X10_pack_4 : decode prog_12_method_2_code 4 = .ok (.ior, 1) := by decide +kernel
theorem d_X10_pack_5 : decode prog_12_method_2_code 5 = .ok (.ireturn, 1) := by decide +kernel
theorem d_X10_keep_0 : decode prog_12_method_3_code 0 = .ok (.aload_n 0, 1) := by decide +kernel
theorem d_X10_keep_1 : decode prog_12_method_3_code 1 = .ok (.getfield 27, 3) := by decide +kernel
theorem d_X10_keep_4 : decode prog_12_method_3_code 4 = .ok (.bipush 20, 2) := by decide +kernel
theorem d_X10_keep_6 : decode prog_12_method_3_code 6 = .ok (.if_icmp .lt 5, 3) := by decide +kernel
theorem d_X10_keep_9 : decode prog_12_method_3_code 9 = .ok (.iconst (-1), 1) := by decide +kernel
theorem d_X10_keep_10 : decode prog_12_method_3_code 10 = .ok (.ireturn, 1) := by decide +kernel
theorem d_X10_keep_11 : decode prog_12_method_3_code 11 = .ok (.aload_n 0, 1) := by decide +kernel
theorem d_X10_keep_12 : decode prog_12_method_3_code 12 = .ok (.getfield 11, 3) := by decide +kernel
theorem d_X10_keep_15 : decode prog_12_method_3_code 15 = .ok (.aload_n 0, 1) := by decide +kernel
theorem d_X10_keep_16 : decode prog_12_method_3_code 16 = .ok (.getfield 27, 3) := by decide +kernel
theorem d_X10_keep_19 : decode prog_12_method_3_code 19 = .ok (.iload_n 1, 1) := by decide +kernel
theorem d_X10_keep_20 : decode prog_12_method_3_code 20 = .ok (.iastore, 1) := by decide +kernel
theorem d_X10_keep_21 : decode prog_12_method_3_code 21 = .ok (.aload_n 0, 1) := by decide +kernel
theorem d_X10_keep_22 : decode prog_12_method_3_code 22 = .ok (.getfield 15, 3) := by decide +kernel
theorem d_X10_keep_25 : decode prog_12_method_3_code 25 = .ok (.aload_n 0, 1) := by decide +kernel
theorem d_X10_keep_26 : decode prog_12_method_3_code 26 = .ok (.getfield 27, 3) := by decide +kernel
theorem d_X10_keep_29 : decode prog_12_method_3_code 29 = .ok (.iload_n 2, 1) := by decide +kernel
theorem d_X10_keep_30 : decode prog_12_method_3_code 30 = .ok (.iastore, 1) := by decide +kernel
theorem d_X10_keep_31 : decode prog_12_method_3_code 31 = .ok (.aload_n 0, 1) := by decide +kernel
theorem d_X10_keep_32 : decode prog_12_method_3_code 32 = .ok (.getfield 18, 3) := by decide +kernel
theorem d_X10_keep_35 : decode prog_12_method_3_code 35 = .ok (.aload_n 0, 1) := by decide +kernel
theorem d_X10_keep_36 : decode prog_12_method_3_code 36 = .ok (.getfield 27, 3) := by decide +kernel
theorem d_X10_keep_39 : decode prog_12_method_3_code 39 = .ok (.aload_n 3, 1) := by decide +kernel
theorem d_X10_keep_40 : decode prog_12_method_3_code 40 = .ok (.getfield 31, 3) := by decide +kernel
theorem d_X10_keep_43 : decode prog_12_method_3_code 43 = .ok (.iastore, 1) := by decide +kernel
theorem d_X10_keep_44 : decode prog_12_method_3_code 44 = .ok (.aload_n 3, 1) := by decide +kernel
theorem d_X10_keep_45 : decode prog_12_method_3_code 45 = .ok (.getfield 36, 3) := by decide +kernel
theorem d_X10_keep_48 : decode prog_12_method_3_code 48 = .ok (.iconst 0, 1) := by decide +kernel
theorem d_X10_keep_49 : decode prog_12_method_3_code 49 = .ok (.aload_n 0, 1) := by decide +kernel
theorem d_X10_keep_50 : decode prog_12_method_3_code 50 = .ok (.getfield 21, 3) := by decide +kernel
theorem d_X10_keep_53 : decode prog_12_method_3_code 53 = .ok (.aload_n 0, 1) := by decide +kernel
theorem d_X10_keep_54 : decode prog_12_method_3_code 54 = .ok (.getfield 27, 3) := by decide +kernel
theorem d_X10_keep_57 : decode prog_12_method_3_code 57 = .ok (.sipush 164, 3) := by decide +kernel
theorem d_X10_keep_60 : decode prog_12_method_3_code 60 = .ok (.imul, 1) := by decide +kernel
theorem d_X10_keep_61 : decode prog_12_method_3_code 61 = .ok (.aload_n 3, 1) := by decide +kernel
theorem d_X10_keep_62 : decode prog_12_method_3_code 62 = .ok (.getfield 31, 3) := by decide +kernel
theorem d_X10_keep_65 : decode prog_12_method_3_code 65 = .ok (.invokestatic 39, 3) := by decide +kernel
theorem d_X10_keep_68 : decode prog_12_method_3_code 68 = .ok (.aload_n 0, 1) := by decide +kernel
theorem d_X10_keep_69 : decode prog_12_method_3_code 69 = .ok (.dup, 1) := by decide +kernel
theorem d_X10_keep_70 : decode prog_12_method_3_code 70 = .ok (.getfield 27, 3) := by decide +kernel
theorem d_X10_keep_73 : decode prog_12_method_3_code 73 = .ok (.iconst 1, 1) := by decide +kernel
theorem d_X10_keep_74 : decode prog_12_method_3_code 74 = .ok (.iadd, 1) := by decide +kernel
theorem d_X10_keep_75 : decode prog_12_method_3_code 75 = .ok (.putfield 27, 3) := by decide +kernel
theorem d_X10_keep_78 : decode prog_12_method_3_code 78 = .ok (.aload_n 0, 1) := by decide +kernel
theorem d_X10_keep_79 : decode prog_12_method_3_code 79 = .ok (.getfield 27, 3) := by decide +kernel
theorem d_X10_keep_82 : decode prog_12_method_3_code 82 = .ok (.iconst 1, 1) := by decide +kernel
theorem d_X10_keep_83 : decode prog_12_method_3_code 83 = .ok (.isub, 1) := by decide +kernel
theorem d_X10_keep_84 : decode prog_12_method_3_code 84 = .ok (.ireturn, 1) := by decide +kernel
theorem d_X10_inForce_0 : decode prog_12_method_4_code 0 = .ok (.iconst (-1), 1) := by decide +kernel
theorem d_X10_inForce_1 : decode prog_12_method_4_code 1 = .ok (.istore_n 3, 1) := by decide +kernel
theorem d_X10_inForce_2 : decode prog_12_method_4_code 2 = .ok (.iconst 0, 1) := by decide +kernel
theorem d_X10_inForce_3 : decode prog_12_method_4_code 3 = .ok (.istore 4, 2) := by decide +kernel
theorem d_X10_inForce_5 : decode prog_12_method_4_code 5 = .ok (.iload 4, 2) := by decide +kernel
theorem d_X10_inForce_7 : decode prog_12_method_4_code 7 = .ok (.aload_n 0, 1) := by decide +kernel
theorem d_X10_inForce_8 : decode prog_12_method_4_code 8 = .ok (.getfield 27, 3) := by decide +kernel
theorem d_X10_inForce_11 : decode prog_12_method_4_code 11 = .ok (.if_icmp .ge 55, 3) := by decide +kernel
theorem d_X10_inForce_14 : decode prog_12_method_4_code 14 = .ok (.aload_n 0, 1) := by decide +kernel
theorem d_X10_inForce_15 : decode prog_12_method_4_code 15 = .ok (.getfield 15, 3) := by decide +kernel
theorem d_X10_inForce_18 : decode prog_12_method_4_code 18 = .ok (.iload 4, 2) := by decide +kernel
theorem d_X10_inForce_20 : decode prog_12_method_4_code 20 = .ok (.iaload, 1) := by decide +kernel
theorem d_X10_inForce_21 : decode prog_12_method_4_code 21 = .ok (.iload_n 2, 1) := by decide +kernel
theorem d_X10_inForce_22 : decode prog_12_method_4_code 22 = .ok (.if_icmp .gt 38, 3) := by decide +kernel
theorem d_X10_inForce_25 : decode prog_12_method_4_code 25 = .ok (.aload_n 0, 1) := by decide +kernel
theorem d_X10_inForce_26 : decode prog_12_method_4_code 26 = .ok (.getfield 11, 3) := by decide +kernel
theorem d_X10_inForce_29 : decode prog_12_method_4_code 29 = .ok (.iload 4, 2) := by decide +kernel
theorem d_X10_inForce_31 : decode prog_12_method_4_code 31 = .ok (.iaload, 1) := by decide +kernel
theorem d_X10_inForce_32 : decode prog_12_method_4_code 32 = .ok (.iload_n 1, 1) := by decide +kernel
theorem d_X10_inForce_33 : decode prog_12_method_4_code 33 = .ok (.if_icmp .gt 27, 3) := by decide +kernel
theorem d_X10_inForce_36 : decode prog_12_method_4_code 36 = .ok (.iload_n 3, 1) := by decide +kernel
theorem d_X10_inForce_37 : decode prog_12_method_4_code 37 = .ok (.iconst (-1), 1) := by decide +kernel
theorem d_X10_inForce_38 : decode prog_12_method_4_code 38 = .ok (.if_icmp .eq 19, 3) := by decide +kernel
theorem d_X10_inForce_41 : decode prog_12_method_4_code 41 = .ok (.aload_n 0, 1) := by decide +kernel
theorem d_X10_inForce_42 : decode prog_12_method_4_code 42 = .ok (.getfield 11, 3) := by decide +kernel
theorem d_X10_inForce_45 : decode prog_12_method_4_code 45 = .ok (.iload 4, 2) := by decide +kernel
theorem d_X10_inForce_47 : decode prog_12_method_4_code 47 = .ok (.iaload, 1) := by decide +kernel
theorem d_X10_inForce_48 : decode prog_12_method_4_code 48 = .ok (.aload_n 0, 1) := by decide +kernel
theorem d_X10_inForce_49 : decode prog_12_method_4_code 49 = .ok (.getfield 11, 3) := by decide +kernel
theorem d_X10_inForce_52 : decode prog_12_method_4_code 52 = .ok (.iload_n 3, 1) := by decide +kernel
theorem d_X10_inForce_53 : decode prog_12_method_4_code 53 = .ok (.iaload, 1) := by decide +kernel
theorem d_X10_inForce_54 : decode prog_12_method_4_code 54 = .ok (.if_icmp .lt 6, 3) := by decide +kernel
theorem d_X10_inForce_57 : decode prog_12_method_4_code 57 = .ok (.iload 4, 2) := by decide +kernel
theorem d_X10_inForce_59 : decode prog_12_method_4_code 59 = .ok (.istore_n 3, 1) := by decide +kernel
theorem d_X10_inForce_60 : decode prog_12_method_4_code 60 = .ok (.iinc 4 1, 3) := by decide +kernel
theorem d_X10_inForce_63 : decode prog_12_method_4_code 63 = .ok (.goto (-58), 3) := by decide +kernel
theorem d_X10_inForce_66 : decode prog_12_method_4_code 66 = .ok (.iload_n 3, 1) := by decide +kernel
theorem d_X10_inForce_67 : decode prog_12_method_4_code 67 = .ok (.ireturn, 1) := by decide +kernel
theorem d_X10_answer_0 : decode prog_12_method_5_code 0 = .ok (.iload_n 1, 1) := by decide +kernel
theorem d_X10_answer_1 : decode prog_12_method_5_code 1 = .ok (.iconst 0, 1) := by decide +kernel
theorem d_X10_answer_2 : decode prog_12_method_5_code 2 = .ok (.aload_n 0, 1) := by decide +kernel
theorem d_X10_answer_3 : decode prog_12_method_5_code 3 = .ok (.getfield 27, 3) := by decide +kernel
theorem d_X10_answer_6 : decode prog_12_method_5_code 6 = .ok (.iconst 1, 1) := by decide +kernel
theorem d_X10_answer_7 : decode prog_12_method_5_code 7 = .ok (.isub, 1) := by decide +kernel
theorem d_X10_answer_8 : decode prog_12_method_5_code 8 = .ok (.invokestatic 45, 3) := by decide +kernel
theorem d_X10_answer_11 : decode prog_12_method_5_code 11 = .ok (.ifCond .ne 5, 3) := by decide +kernel
theorem d_X10_answer_14 : decode prog_12_method_5_code 14 = .ok (.iconst 0, 1) := by decide +kernel
theorem d_X10_answer_15 : decode prog_12_method_5_code 15 = .ok (.ireturn, 1) := by decide +kernel
theorem d_X10_answer_16 : decode prog_12_method_5_code 16 = .ok (.iconst 0, 1) := by decide +kernel
theorem d_X10_answer_17 : decode prog_12_method_5_code 17 = .ok (.istore 4, 2) := by decide +kernel
theorem d_X10_answer_19 : decode prog_12_method_5_code 19 = .ok (.iconst 0, 1) := by decide +kernel
theorem d_X10_answer_20 : decode prog_12_method_5_code 20 = .ok (.istore 5, 2) := by decide +kernel
theorem d_X10_answer_22 : decode prog_12_method_5_code 22 = .ok (.iload 5, 2) := by decide +kernel
theorem d_X10_answer_24 : decode prog_12_method_5_code 24 = .ok (.aload_n 0, 1) := by decide +kernel
theorem d_X10_answer_25 : decode prog_12_method_5_code 25 = .ok (.getfield 18, 3) := by decide +kernel
theorem d_X10_answer_28 : decode prog_12_method_5_code 28 = .ok (.iload_n 1, 1) := by decide +kernel
theorem d_X10_answer_29 : decode prog_12_method_5_code 29 = .ok (.iaload, 1) := by decide +kernel
theorem d_X10_answer_30 : decode prog_12_method_5_code 30 = .ok (.if_icmp .ge 230, 3) := by decide +kernel
theorem d_X10_answer_33 : decode prog_12_method_5_code 33 = .ok (.aload_n 0, 1) := by decide +kernel
theorem d_X10_answer_34 : decode prog_12_method_5_code 34 = .ok (.getfield 21, 3) := by decide +kernel
theorem d_X10_answer_37 : decode prog_12_method_5_code 37 = .ok (.iload_n 1, 1) := by decide +kernel
theorem d_X10_answer_38 : decode prog_12_method_5_code 38 = .ok (.sipush 164, 3) := by decide +kernel
theorem d_X10_answer_41 : decode prog_12_method_5_code 41 = .ok (.imul, 1) := by decide +kernel
theorem d_X10_answer_42 : decode prog_12_method_5_code 42 = .ok (.iload 5, 2) := by decide +kernel
theorem d_X10_answer_44 : decode prog_12_method_5_code 44 = .ok (.iadd, 1) := by decide +kernel
theorem d_X10_answer_45 : decode prog_12_method_5_code 45 = .ok (.iaload, 1) := by decide +kernel
theorem d_X10_answer_46 : decode prog_12_method_5_code 46 = .ok (.bipush 15, 2) := by decide +kernel
theorem d_X10_answer_48 : decode prog_12_method_5_code 48 = .ok (.iand, 1) := by decide +kernel
theorem d_X10_answer_49 : decode prog_12_method_5_code 49 = .ok (.istore 6, 2) := by decide +kernel
theorem d_X10_answer_51 : decode prog_12_method_5_code 51 = .ok (.aload_n 0, 1) := by decide +kernel
theorem d_X10_answer_52 : decode prog_12_method_5_code 52 = .ok (.getfield 21, 3) := by decide +kernel
theorem d_X10_answer_55 : decode prog_12_method_5_code 55 = .ok (.iload_n 1, 1) := by decide +kernel
theorem d_X10_answer_56 : decode prog_12_method_5_code 56 = .ok (.sipush 164, 3) := by decide +kernel
theorem d_X10_answer_59 : decode prog_12_method_5_code 59 = .ok (.imul, 1) := by decide +kernel
theorem d_X10_answer_60 : decode prog_12_method_5_code 60 = .ok (.iload 5, 2) := by decide +kernel
theorem d_X10_answer_62 : decode prog_12_method_5_code 62 = .ok (.iadd, 1) := by decide +kernel
theorem d_X10_answer_63 : decode prog_12_method_5_code 63 = .ok (.iaload, 1) := by decide +kernel
theorem d_X10_answer_64 : decode prog_12_method_5_code 64 = .ok (.iconst 4, 1) := by decide +kernel
theorem d_X10_answer_65 : decode prog_12_method_5_code 65 = .ok (.ishr, 1) := by decide +kernel
theorem d_X10_answer_66 : decode prog_12_method_5_code 66 = .ok (.istore 7, 2) := by decide +kernel
theorem d_X10_answer_68 : decode prog_12_method_5_code 68 = .ok (.iload 6, 2) := by decide +kernel
theorem d_X10_answer_70 : decode prog_12_method_5_code 70 = .ok (.ifCond .eq 9, 3) := by decide +kernel
theorem d_X10_answer_73 : decode prog_12_method_5_code 73 = .ok (.iload 6, 2) := by decide +kernel
theorem d_X10_answer_75 : decode prog_12_method_5_code 75 = .ok (.iconst 1, 1) := by decide +kernel
theorem d_X10_answer_76 : decode prog_12_method_5_code 76 = .ok (.if_icmp .ne 46, 3) := by decide +kernel
theorem d_X10_answer_79 : decode prog_12_method_5_code 79 = .ok (.iload 4, 2) := by decide +kernel
theorem d_X10_answer_81 : decode prog_12_method_5_code 81 = .ok (.aload_n 0, 1) := by decide +kernel
theorem d_X10_answer_82 : decode prog_12_method_5_code 82 = .ok (.getfield 24, 3) := by decide +kernel
theorem d_X10_answer_85 : decode prog_12_method_5_code 85 = .ok (.arraylength, 1) := by decide +kernel
theorem d_X10_answer_86 : decode prog_12_method_5_code 86 = .ok (.if_icmp .lt 5, 3) := by decide +kernel
theorem d_X10_answer_89 : decode prog_12_method_5_code 89 = .ok (.iconst 0, 1) := by decide +kernel
theorem d_X10_answer_90 : decode prog_12_method_5_code 90 = .ok (.ireturn, 1) := by decide +kernel
theorem d_X10_answer_91 : decode prog_12_method_5_code 91 = .ok (.aload_n 0, 1) := by decide +kernel
theorem d_X10_answer_92 : decode prog_12_method_5_code 92 = .ok (.getfield 24, 3) := by decide +kernel
theorem d_X10_answer_95 : decode prog_12_method_5_code 95 = .ok (.iload 4, 2) := by decide +kernel
theorem d_X10_answer_97 : decode prog_12_method_5_code 97 = .ok (.iload 6, 2) := by decide +kernel
theorem d_X10_answer_99 : decode prog_12_method_5_code 99 = .ok (.ifCond .ne 8, 3) := by decide +kernel
theorem d_X10_answer_102 : decode prog_12_method_5_code 102 = .ok (.iload 7, 2) := by decide +kernel
theorem d_X10_answer_104 : decode prog_12_method_5_code 104 = .ok (.goto 11, 3) := by decide +kernel
theorem d_X10_answer_107 : decode prog_12_method_5_code 107 = .ok (.aload_n 2, 1) := by decide +kernel
theorem d_X10_answer_108 : decode prog_12_method_5_code 108 = .ok (.iload_n 3, 1) := by decide +kernel
theorem d_X10_answer_109 : decode prog_12_method_5_code 109 = .ok (.iload 7, 2) := by decide +kernel
theorem d_X10_answer_111 : decode prog_12_method_5_code 111 = .ok (.iadd, 1) := by decide +kernel
theorem d_X10_answer_112 : decode prog_12_method_5_code 112 = .ok (.invokestatic 49, 3) := by decide +kernel
theorem d_X10_answer_115 : decode prog_12_method_5_code 115 = .ok (.iastore, 1) := by decide +kernel
theorem d_X10_answer_116 : decode prog_12_method_5_code 116 = .ok (.iinc 4 1, 3) := by decide +kernel
theorem d_X10_answer_119 : decode prog_12_method_5_code 119 = .ok (.goto 135, 3) := by decide +kernel
theorem d_X10_answer_122 : decode prog_12_method_5_code 122 = .ok (.iload 6, 2) := by decide +kernel
theorem d_X10_answer_124 : decode prog_12_method_5_code 124 = .ok (.iconst 5, 1) := by decide +kernel
theorem d_X10_answer_125 : decode prog_12_method_5_code 125 = .ok (.if_icmp .lt 47, 3) := by decide +kernel
theorem d_X10_answer_128 : decode prog_12_method_5_code 128 = .ok (.iload 4, 2) := by decide +kernel
theorem d_X10_answer_130 : decode prog_12_method_5_code 130 = .ok (.iconst 2, 1) := by decide +kernel
theorem d_X10_answer_131 : decode prog_12_method_5_code 131 = .ok (.if_icmp .ge 5, 3) := by decide +kernel
theorem d_X10_answer_134 : decode prog_12_method_5_code 134 = .ok (.iconst 0, 1) := by decide +kernel
theorem d_X10_answer_135 : decode prog_12_method_5_code 135 = .ok (.ireturn, 1) := by decide +kernel
theorem d_X10_answer_136 : decode prog_12_method_5_code 136 = .ok (.iinc 4 (-1), 3) := by decide +kernel
theorem d_X10_answer_139 : decode prog_12_method_5_code 139 = .ok (.aload_n 0, 1) := by decide +kernel
theorem d_X10_answer_140 : decode prog_12_method_5_code 140 = .ok (.getfield 24, 3) := by decide +kernel
theorem d_X10_answer_143 : decode prog_12_method_5_code 143 = .ok (.iload 4, 2) := by decide +kernel
theorem d_X10_answer_145 : decode prog_12_method_5_code 145 = .ok (.iconst 1, 1) := by decide +kernel
theorem d_X10_answer_146 : decode prog_12_method_5_code 146 = .ok (.isub, 1) := by decide +kernel
theorem d_X10_answer_147 : decode prog_12_method_5_code 147 = .ok (.iload 6, 2) := by decide +kernel
theorem d_X10_answer_149 : decode prog_12_method_5_code 149 = .ok (.aload_n 0, 1) := by decide +kernel
theorem d_X10_answer_150 : decode prog_12_method_5_code 150 = .ok (.getfield 24, 3) := by decide +kernel
theorem d_X10_answer_153 : decode prog_12_method_5_code 153 = .ok (.iload 4, 2) := by decide +kernel
theorem d_X10_answer_155 : decode prog_12_method_5_code 155 = .ok (.iconst 1, 1) := by decide +kernel
theorem d_X10_answer_156 : decode prog_12_method_5_code 156 = .ok (.isub, 1) := by decide +kernel
theorem d_X10_answer_157 : decode prog_12_method_5_code 157 = .ok (.iaload, 1) := by decide +kernel
theorem d_X10_answer_158 : decode prog_12_method_5_code 158 = .ok (.aload_n 0, 1) := by decide +kernel
theorem d_X10_answer_159 : decode prog_12_method_5_code 159 = .ok (.getfield 24, 3) := by decide +kernel
theorem d_X10_answer_162 : decode prog_12_method_5_code 162 = .ok (.iload 4, 2) := by decide +kernel
theorem d_X10_answer_164 : decode prog_12_method_5_code 164 = .ok (.iaload, 1) := by decide +kernel
theorem d_X10_answer_165 : decode prog_12_method_5_code 165 = .ok (.invokestatic 53, 3) := by decide +kernel
theorem d_X10_answer_168 : decode prog_12_method_5_code 168 = .ok (.iastore, 1) := by decide +kernel
theorem d_X10_answer_169 : decode prog_12_method_5_code 169 = .ok (.goto 85, 3) := by decide +kernel
theorem d_X10_answer_172 : decode prog_12_method_5_code 172 = .ok (.iload 4, 2) := by decide +kernel
theorem d_X10_answer_174 : decode prog_12_method_5_code 174 = .ok (.iconst 1, 1) := by decide +kernel
theorem d_X10_answer_175 : decode prog_12_method_5_code 175 = .ok (.if_icmp .ge 5, 3) := by decide +kernel
theorem d_X10_answer_178 : decode prog_12_method_5_code 178 = .ok (.iconst 0, 1) := by decide +kernel
theorem d_X10_answer_179 : decode prog_12_method_5_code 179 = .ok (.ireturn, 1) := by decide +kernel
theorem d_X10_answer_180 : decode prog_12_method_5_code 180 = .ok (.iload 6, 2) := by decide +kernel
theorem d_X10_answer_182 : decode prog_12_method_5_code 182 = .ok (.iconst 2, 1) := by decide +kernel
theorem d_X10_answer_183 : decode prog_12_method_5_code 183 = .ok (.if_icmp .ne 26, 3) := by decide +kernel
theorem d_X10_answer_186 : decode prog_12_method_5_code 186 = .ok (.aload_n 0, 1) := by decide +kernel
theorem d_X10_answer_187 : decode prog_12_method_5_code 187 = .ok (.getfield 24, 3) := by decide +kernel
theorem d_X10_answer_190 : decode prog_12_method_5_code 190 = .ok (.iload 4, 2) := by decide +kernel
theorem d_X10_answer_192 : decode prog_12_method_5_code 192 = .ok (.iconst 1, 1) := by decide +kernel
theorem d_X10_answer_193 : decode prog_12_method_5_code 193 = .ok (.isub, 1) := by decide +kernel
theorem d_X10_answer_194 : decode prog_12_method_5_code 194 = .ok (.iconst 1, 1) := by decide +kernel
theorem d_X10_answer_195 : decode prog_12_method_5_code 195 = .ok (.aload_n 0, 1) := by decide +kernel
theorem d_X10_answer_196 : decode prog_12_method_5_code 196 = .ok (.getfield 24, 3) := by decide +kernel
theorem d_X10_answer_199 : decode prog_12_method_5_code 199 = .ok (.iload 4, 2) := by decide +kernel
theorem d_X10_answer_201 : decode prog_12_method_5_code 201 = .ok (.iconst 1, 1) := by decide +kernel
theorem d_X10_answer_202 : decode prog_12_method_5_code 202 = .ok (.isub, 1) := by decide +kernel
theorem d_X10_answer_203 : decode prog_12_method_5_code 203 = .ok (.iaload, 1) := by decide +kernel
theorem d_X10_answer_204 : decode prog_12_method_5_code 204 = .ok (.isub, 1) := by decide +kernel
theorem d_X10_answer_205 : decode prog_12_method_5_code 205 = .ok (.iastore, 1) := by decide +kernel
theorem d_X10_answer_206 : decode prog_12_method_5_code 206 = .ok (.goto 48, 3) := by decide +kernel
theorem d_X10_answer_209 : decode prog_12_method_5_code 209 = .ok (.iload 6, 2) := by decide +kernel
theorem d_X10_answer_211 : decode prog_12_method_5_code 211 = .ok (.iconst 4, 1) := by decide +kernel
theorem d_X10_answer_212 : decode prog_12_method_5_code 212 = .ok (.if_icmp .ne 13, 3) := by decide +kernel
theorem d_X10_answer_215 : decode prog_12_method_5_code 215 = .ok (.aload_n 0, 1) := by decide +kernel
theorem d_X10_answer_216 : decode prog_12_method_5_code 216 = .ok (.getfield 24, 3) := by decide +kernel
theorem d_X10_answer_219 : decode prog_12_method_5_code 219 = .ok (.iload 4, 2) := by decide +kernel
theorem d_X10_answer_221 : decode prog_12_method_5_code 221 = .ok (.iconst 1, 1) := by decide +kernel
theorem d_X10_answer_222 : decode prog_12_method_5_code 222 = .ok (.isub, 1) := by decide +kernel
theorem d_X10_answer_223 : decode prog_12_method_5_code 223 = .ok (.iaload, 1) := by decide +kernel
theorem d_X10_answer_224 : decode prog_12_method_5_code 224 = .ok (.ireturn, 1) := by decide +kernel
theorem d_X10_answer_225 : decode prog_12_method_5_code 225 = .ok (.iinc 4 (-1), 3) := by decide +kernel
theorem d_X10_answer_228 : decode prog_12_method_5_code 228 = .ok (.aload_n 0, 1) := by decide +kernel
theorem d_X10_answer_229 : decode prog_12_method_5_code 229 = .ok (.getfield 24, 3) := by decide +kernel
theorem d_X10_answer_232 : decode prog_12_method_5_code 232 = .ok (.iload 4, 2) := by decide +kernel
theorem d_X10_answer_234 : decode prog_12_method_5_code 234 = .ok (.iaload, 1) := by decide +kernel
theorem d_X10_answer_235 : decode prog_12_method_5_code 235 = .ok (.ifCond .ne 15, 3) := by decide +kernel
theorem d_X10_answer_238 : decode prog_12_method_5_code 238 = .ok (.iload 5, 2) := by decide +kernel
theorem d_X10_answer_240 : decode prog_12_method_5_code 240 = .ok (.iload 7, 2) := by decide +kernel
theorem d_X10_answer_242 : decode prog_12_method_5_code 242 = .ok (.iconst 1, 1) := by decide +kernel
theorem d_X10_answer_243 : decode prog_12_method_5_code 243 = .ok (.isub, 1) := by decide +kernel
theorem d_X10_answer_244 : decode prog_12_method_5_code 244 = .ok (.invokestatic 57, 3) := by decide +kernel
theorem d_X10_answer_247 : decode prog_12_method_5_code 247 = .ok (.goto 5, 3) := by decide +kernel
theorem d_X10_answer_250 : decode prog_12_method_5_code 250 = .ok (.iload 5, 2) := by decide +kernel
theorem d_X10_answer_252 : decode prog_12_method_5_code 252 = .ok (.istore 5, 2) := by decide +kernel
theorem d_X10_answer_254 : decode prog_12_method_5_code 254 = .ok (.iinc 5 1, 3) := by decide +kernel
theorem d_X10_answer_257 : decode prog_12_method_5_code 257 = .ok (.goto (-235), 3) := by decide +kernel
theorem d_X10_answer_260 : decode prog_12_method_5_code 260 = .ok (.iconst 0, 1) := by decide +kernel
theorem d_X10_answer_261 : decode prog_12_method_5_code 261 = .ok (.ireturn, 1) := by decide +kernel
theorem d_X10_valueOf_0 : decode prog_12_method_6_code 0 = .ok (.iload_n 1, 1) := by decide +kernel
theorem d_X10_valueOf_1 : decode prog_12_method_6_code 1 = .ok (.iconst 0, 1) := by decide +kernel
theorem d_X10_valueOf_2 : decode prog_12_method_6_code 2 = .ok (.aload_n 0, 1) := by decide +kernel
theorem d_X10_valueOf_3 : decode prog_12_method_6_code 3 = .ok (.arraylength, 1) := by decide +kernel
theorem d_X10_valueOf_4 : decode prog_12_method_6_code 4 = .ok (.iconst 1, 1) := by decide +kernel
theorem d_X10_valueOf_5 : decode prog_12_method_6_code 5 = .ok (.isub, 1) := by decide +kernel
theorem d_X10_valueOf_6 : decode prog_12_method_6_code 6 = .ok (.invokestatic 45, 3) := by decide +kernel
theorem d_X10_valueOf_9 : decode prog_12_method_6_code 9 = .ok (.ifCond .eq 9, 3) := by decide +kernel
theorem d_X10_valueOf_12 : decode prog_12_method_6_code 12 = .ok (.aload_n 0, 1) := by decide +kernel
theorem d_X10_valueOf_13 : decode prog_12_method_6_code 13 = .ok (.iload_n 1, 1) := by decide +kernel
theorem d_X10_valueOf_14 : decode prog_12_method_6_code 14 = .ok (.iaload, 1) := by decide +kernel
theorem d_X10_valueOf_15 : decode prog_12_method_6_code 15 = .ok (.goto 4, 3) := by decide +kernel
theorem d_X10_valueOf_18 : decode prog_12_method_6_code 18 = .ok (.iconst 0, 1) := by decide +kernel
theorem d_X10_valueOf_19 : decode prog_12_method_6_code 19 = .ok (.ireturn, 1) := by decide +kernel
theorem d_X10_combine_0 : decode prog_12_method_7_code 0 = .ok (.iload_n 0, 1) := by decide +kernel
theorem d_X10_combine_1 : decode prog_12_method_7_code 1 = .ok (.tableswitch 107 5 11 #[43, 52, 61, 70, 81, 92, 103], 43) := by decide +kernel
theorem d_X10_combine_44 : decode prog_12_method_7_code 44 = .ok (.iload_n 1, 1) := by decide +kernel
theorem d_X10_combine_45 : decode prog_12_method_7_code 45 = .ok (.i2l, 1) := by decide +kernel
theorem d_X10_combine_46 : decode prog_12_method_7_code 46 = .ok (.iload_n 2, 1) := by decide +kernel
theorem d_X10_combine_47 : decode prog_12_method_7_code 47 = .ok (.i2l, 1) := by decide +kernel
theorem d_X10_combine_48 : decode prog_12_method_7_code 48 = .ok (.ladd, 1) := by decide +kernel
theorem d_X10_combine_49 : decode prog_12_method_7_code 49 = .ok (.invokestatic 63, 3) := by decide +kernel
theorem d_X10_combine_52 : decode prog_12_method_7_code 52 = .ok (.ireturn, 1) := by decide +kernel
theorem d_X10_combine_53 : decode prog_12_method_7_code 53 = .ok (.iload_n 1, 1) := by decide +kernel
theorem d_X10_combine_54 : decode prog_12_method_7_code 54 = .ok (.i2l, 1) := by decide +kernel
theorem d_X10_combine_55 : decode prog_12_method_7_code 55 = .ok (.iload_n 2, 1) := by decide +kernel
theorem d_X10_combine_56 : decode prog_12_method_7_code 56 = .ok (.i2l, 1) := by decide +kernel
theorem d_X10_combine_57 : decode prog_12_method_7_code 57 = .ok (.lsub, 1) := by decide +kernel
theorem d_X10_combine_58 : decode prog_12_method_7_code 58 = .ok (.invokestatic 63, 3) := by decide +kernel
theorem d_X10_combine_61 : decode prog_12_method_7_code 61 = .ok (.ireturn, 1) := by decide +kernel
theorem d_X10_combine_62 : decode prog_12_method_7_code 62 = .ok (.iload_n 1, 1) := by decide +kernel
theorem d_X10_combine_63 : decode prog_12_method_7_code 63 = .ok (.i2l, 1) := by decide +kernel
theorem d_X10_combine_64 : decode prog_12_method_7_code 64 = .ok (.iload_n 2, 1) := by decide +kernel
theorem d_X10_combine_65 : decode prog_12_method_7_code 65 = .ok (.i2l, 1) := by decide +kernel
theorem d_X10_combine_66 : decode prog_12_method_7_code 66 = .ok (.lmul, 1) := by decide +kernel
theorem d_X10_combine_67 : decode prog_12_method_7_code 67 = .ok (.invokestatic 63, 3) := by decide +kernel
theorem d_X10_combine_70 : decode prog_12_method_7_code 70 = .ok (.ireturn, 1) := by decide +kernel
theorem d_X10_combine_71 : decode prog_12_method_7_code 71 = .ok (.iload_n 1, 1) := by decide +kernel
theorem d_X10_combine_72 : decode prog_12_method_7_code 72 = .ok (.iload_n 2, 1) := by decide +kernel
theorem d_X10_combine_73 : decode prog_12_method_7_code 73 = .ok (.if_icmp .ne 7, 3) := by decide +kernel
theorem d_X10_combine_76 : decode prog_12_method_7_code 76 = .ok (.iconst 1, 1) := by decide +kernel
theorem d_X10_combine_77 : decode prog_12_method_7_code 77 = .ok (.goto 4, 3) := by decide +kernel
theorem d_X10_combine_80 : decode prog_12_method_7_code 80 = .ok (.iconst 0, 1) := by decide +kernel
theorem d_X10_combine_81 : decode prog_12_method_7_code 81 = .ok (.ireturn, 1) := by decide +kernel
theorem d_X10_combine_82 : decode prog_12_method_7_code 82 = .ok (.iload_n 1, 1) := by decide +kernel
theorem d_X10_combine_83 : decode prog_12_method_7_code 83 = .ok (.iload_n 2, 1) := by decide +kernel
theorem d_X10_combine_84 : decode prog_12_method_7_code 84 = .ok (.if_icmp .ge 7, 3) := by decide +kernel
theorem d_X10_combine_87 : decode prog_12_method_7_code 87 = .ok (.iconst 1, 1) := by decide +kernel
theorem d_X10_combine_88 : decode prog_12_method_7_code 88 = .ok (.goto 4, 3) := by decide +kernel
theorem d_X10_combine_91 : decode prog_12_method_7_code 91 = .ok (.iconst 0, 1) := by decide +kernel
theorem d_X10_combine_92 : decode prog_12_method_7_code 92 = .ok (.ireturn, 1) := by decide +kernel
theorem d_X10_combine_93 : decode prog_12_method_7_code 93 = .ok (.iload_n 1, 1) := by decide +kernel
theorem d_X10_combine_94 : decode prog_12_method_7_code 94 = .ok (.iload_n 2, 1) := by decide +kernel
theorem d_X10_combine_95 : decode prog_12_method_7_code 95 = .ok (.if_icmp .le 7, 3) := by decide +kernel
theorem d_X10_combine_98 : decode prog_12_method_7_code 98 = .ok (.iconst 1, 1) := by decide +kernel
theorem d_X10_combine_99 : decode prog_12_method_7_code 99 = .ok (.goto 4, 3) := by decide +kernel
theorem d_X10_combine_102 : decode prog_12_method_7_code 102 = .ok (.iconst 0, 1) := by decide +kernel
theorem d_X10_combine_103 : decode prog_12_method_7_code 103 = .ok (.ireturn, 1) := by decide +kernel
theorem d_X10_combine_104 : decode prog_12_method_7_code 104 = .ok (.iload_n 1, 1) := by decide +kernel
theorem d_X10_combine_105 : decode prog_12_method_7_code 105 = .ok (.iload_n 2, 1) := by decide +kernel
theorem d_X10_combine_106 : decode prog_12_method_7_code 106 = .ok (.iand, 1) := by decide +kernel
theorem d_X10_combine_107 : decode prog_12_method_7_code 107 = .ok (.ireturn, 1) := by decide +kernel
theorem d_X10_combine_108 : decode prog_12_method_7_code 108 = .ok (.iload_n 1, 1) := by decide +kernel
theorem d_X10_combine_109 : decode prog_12_method_7_code 109 = .ok (.iload_n 2, 1) := by decide +kernel
theorem d_X10_combine_110 : decode prog_12_method_7_code 110 = .ok (.ior, 1) := by decide +kernel
theorem d_X10_combine_111 : decode prog_12_method_7_code 111 = .ok (.ireturn, 1) := by decide +kernel
theorem d_X10_bounded_0 : decode prog_12_method_8_code 0 = .ok (.lload_n 0, 1) := by decide +kernel
theorem d_X10_bounded_1 : decode prog_12_method_8_code 1 = .ok (.ldc2_w 67, 3) := by decide +kernel
theorem d_X10_bounded_4 : decode prog_12_method_8_code 4 = .ok (.lcmp, 1) := by decide +kernel
theorem d_X10_bounded_5 : decode prog_12_method_8_code 5 = .ok (.ifCond .le 8, 3) := by decide +kernel
theorem d_X10_bounded_8 : decode prog_12_method_8_code 8 = .ok (.ldc 69, 2) := by decide +kernel
theorem d_X10_bounded_10 : decode prog_12_method_8_code 10 = .ok (.goto 18, 3) := by decide +kernel
theorem d_X10_bounded_13 : decode prog_12_method_8_code 13 = .ok (.lload_n 0, 1) := by decide +kernel
theorem d_X10_bounded_14 : decode prog_12_method_8_code 14 = .ok (.ldc2_w 70, 3) := by decide +kernel
theorem d_X10_bounded_17 : decode prog_12_method_8_code 17 = .ok (.lcmp, 1) := by decide +kernel
theorem d_X10_bounded_18 : decode prog_12_method_8_code 18 = .ok (.ifCond .ge 8, 3) := by decide +kernel
theorem d_X10_bounded_21 : decode prog_12_method_8_code 21 = .ok (.ldc 72, 2) := by decide +kernel
theorem d_X10_bounded_23 : decode prog_12_method_8_code 23 = .ok (.goto 5, 3) := by decide +kernel
theorem d_X10_bounded_26 : decode prog_12_method_8_code 26 = .ok (.lload_n 0, 1) := by decide +kernel
theorem d_X10_bounded_27 : decode prog_12_method_8_code 27 = .ok (.l2i, 1) := by decide +kernel
theorem d_X10_bounded_28 : decode prog_12_method_8_code 28 = .ok (.ireturn, 1) := by decide +kernel
theorem d_X11_init_0 : decode prog_1_method_1_code 0 = .ok (.aload_n 0, 1) := by decide +kernel
theorem d_X11_init_1 : decode prog_1_method_1_code 1 = .ok (.invokespecial 1, 3) := by decide +kernel
theorem d_X11_init_4 : decode prog_1_method_1_code 4 = .ok (.aload_n 0, 1) := by decide +kernel
theorem d_X11_init_5 : decode prog_1_method_1_code 5 = .ok (.new 7, 3) := by decide +kernel
theorem d_X11_init_8 : decode prog_1_method_1_code 8 = .ok (.dup, 1) := by decide +kernel
theorem d_X11_init_9 : decode prog_1_method_1_code 9 = .ok (.invokespecial 9, 3) := by decide +kernel
theorem d_X11_init_12 : decode prog_1_method_1_code 12 = .ok (.putfield 10, 3) := by decide +kernel
theorem d_X11_init_15 : decode prog_1_method_1_code 15 = .ok (.aload_n 0, 1) := by decide +kernel
theorem d_X11_init_16 : decode prog_1_method_1_code 16 = .ok (.new 16, 3) := by decide +kernel
theorem d_X11_init_19 : decode prog_1_method_1_code 19 = .ok (.dup, 1) := by decide +kernel
theorem d_X11_init_20 : decode prog_1_method_1_code 20 = .ok (.invokespecial 18, 3) := by decide +kernel
theorem d_X11_init_23 : decode prog_1_method_1_code 23 = .ok (.putfield 19, 3) := by decide +kernel
theorem d_X11_init_26 : decode prog_1_method_1_code 26 = .ok (.aload_n 0, 1) := by decide +kernel
theorem d_X11_init_27 : decode prog_1_method_1_code 27 = .ok (.new 23, 3) := by decide +kernel
theorem d_X11_init_30 : decode prog_1_method_1_code 30 = .ok (.dup, 1) := by decide +kernel
theorem d_X11_init_31 : decode prog_1_method_1_code 31 = .ok (.invokespecial 25, 3) := by decide +kernel
theorem d_X11_init_34 : decode prog_1_method_1_code 34 = .ok (.putfield 26, 3) := by decide +kernel
theorem d_X11_init_37 : decode prog_1_method_1_code 37 = .ok (.aload_n 0, 1) := by decide +kernel
theorem d_X11_init_38 : decode prog_1_method_1_code 38 = .ok (.new 30, 3) := by decide +kernel
theorem d_X11_init_41 : decode prog_1_method_1_code 41 = .ok (.dup, 1) := by decide +kernel
theorem d_X11_init_42 : decode prog_1_method_1_code 42 = .ok (.invokespecial 32, 3) := by decide +kernel
theorem d_X11_init_45 : decode prog_1_method_1_code 45 = .ok (.putfield 33, 3) := by decide +kernel
theorem d_X11_init_48 : decode prog_1_method_1_code 48 = .ok (.aload_n 0, 1) := by decide +kernel
theorem d_X11_init_49 : decode prog_1_method_1_code 49 = .ok (.new 30, 3) := by decide +kernel
theorem d_X11_init_52 : decode prog_1_method_1_code 52 = .ok (.dup, 1) := by decide +kernel
theorem d_X11_init_53 : decode prog_1_method_1_code 53 = .ok (.invokespecial 32, 3) := by decide +kernel
theorem d_X11_init_56 : decode prog_1_method_1_code 56 = .ok (.putfield 37, 3) := by decide +kernel
theorem d_X11_init_59 : decode prog_1_method_1_code 59 = .ok (.aload_n 0, 1) := by decide +kernel
theorem d_X11_init_60 : decode prog_1_method_1_code 60 = .ok (.bipush 12, 2) := by decide +kernel
theorem d_X11_init_62 : decode prog_1_method_1_code 62 = .ok (.anewarray 40, 3) := by decide +kernel
theorem d_X11_init_65 : decode prog_1_method_1_code 65 = .ok (.putfield 42, 3) := by decide +kernel
theorem d_X11_init_68 : decode prog_1_method_1_code 68 = .ok (.aload_n 0, 1) := by decide +kernel
theorem d_X11_init_69 : decode prog_1_method_1_code 69 = .ok (.new 46, 3) := by decide +kernel
theorem d_X11_init_72 : decode prog_1_method_1_code 72 = .ok (.dup, 1) := by decide +kernel
theorem d_X11_init_73 : decode prog_1_method_1_code 73 = .ok (.invokespecial 48, 3) := by decide +kernel
theorem d_X11_init_76 : decode prog_1_method_1_code 76 = .ok (.putfield 49, 3) := by decide +kernel
theorem d_X11_init_79 : decode prog_1_method_1_code 79 = .ok (.aload_n 0, 1) := by decide +kernel
theorem d_X11_init_80 : decode prog_1_method_1_code 80 = .ok (.new 53, 3) := by decide +kernel
theorem d_X11_init_83 : decode prog_1_method_1_code 83 = .ok (.dup, 1) := by decide +kernel
theorem d_X11_init_84 : decode prog_1_method_1_code 84 = .ok (.invokespecial 55, 3) := by decide +kernel
theorem d_X11_init_87 : decode prog_1_method_1_code 87 = .ok (.putfield 56, 3) := by decide +kernel
theorem d_X11_init_90 : decode prog_1_method_1_code 90 = .ok (.aload_n 0, 1) := by decide +kernel
theorem d_X11_init_91 : decode prog_1_method_1_code 91 = .ok (.new 60, 3) := by decide +kernel
theorem d_X11_init_94 : decode prog_1_method_1_code 94 = .ok (.dup, 1) := by decide +kernel
theorem d_X11_init_95 : decode prog_1_method_1_code 95 = .ok (.invokespecial 62, 3) := by decide +kernel
theorem d_X11_init_98 : decode prog_1_method_1_code 98 = .ok (.putfield 63, 3) := by decide +kernel
theorem d_X11_init_101 : decode prog_1_method_1_code 101 = .ok (.aload_n 0, 1) := by decide +kernel
theorem d_X11_init_102 : decode prog_1_method_1_code 102 = .ok (.new 67, 3) := by decide +kernel
theorem d_X11_init_105 : decode prog_1_method_1_code 105 = .ok (.dup, 1) := by decide +kernel
theorem d_X11_init_106 : decode prog_1_method_1_code 106 = .ok (.invokespecial 69, 3) := by decide +kernel
theorem d_X11_init_109 : decode prog_1_method_1_code 109 = .ok (.putfield 70, 3) := by decide +kernel
theorem d_X11_init_112 : decode prog_1_method_1_code 112 = .ok (.aload_n 0, 1) := by decide +kernel
theorem d_X11_init_113 : decode prog_1_method_1_code 113 = .ok (.new 74, 3) := by decide +kernel
theorem d_X11_init_116 : decode prog_1_method_1_code 116 = .ok (.dup, 1) := by decide +kernel
theorem d_X11_init_117 : decode prog_1_method_1_code 117 = .ok (.invokespecial 76, 3) := by decide +kernel
theorem d_X11_init_120 : decode prog_1_method_1_code 120 = .ok (.putfield 77, 3) := by decide +kernel
theorem d_X11_init_123 : decode prog_1_method_1_code 123 = .ok (.aload_n 0, 1) := by decide +kernel
theorem d_X11_init_124 : decode prog_1_method_1_code 124 = .ok (.new 81, 3) := by decide +kernel
theorem d_X11_init_127 : decode prog_1_method_1_code 127 = .ok (.dup, 1) := by decide +kernel
theorem d_X11_init_128 : decode prog_1_method_1_code 128 = .ok (.invokespecial 83, 3) := by decide +kernel
theorem d_X11_init_131 : decode prog_1_method_1_code 131 = .ok (.putfield 84, 3) := by decide +kernel
theorem d_X11_init_134 : decode prog_1_method_1_code 134 = .ok (.aload_n 0, 1) := by decide +kernel
theorem d_X11_init_135 : decode prog_1_method_1_code 135 = .ok (.iconst 0, 1) := by decide +kernel
theorem d_X11_init_136 : decode prog_1_method_1_code 136 = .ok (.newarray .long, 2) := by decide +kernel
theorem d_X11_init_138 : decode prog_1_method_1_code 138 = .ok (.putfield 88, 3) := by decide +kernel
theorem d_X11_init_141 : decode prog_1_method_1_code 141 = .ok (.return_, 1) := by decide +kernel
theorem d_X11_within_0 : decode prog_1_method_2_code 0 = .ok (.iload_n 0, 1) := by decide +kernel
theorem d_X11_within_1 : decode prog_1_method_2_code 1 = .ok (.iload_n 1, 1) := by decide +kernel
theorem d_X11_within_2 : decode prog_1_method_2_code 2 = .ok (.if_icmp .lt 12, 3) := by decide +kernel
theorem d_X11_within_5 : decode prog_1_method_2_code 5 = .ok (.iload_n 0, 1) := by decide +kernel
theorem d_X11_within_6 : decode prog_1_method_2_code 6 = .ok (.iload_n 2, 1) := by decide +kernel
theorem d_X11_within_7 : decode prog_1_method_2_code 7 = .ok (.if_icmp .gt 7, 3) := by decide +kernel
theorem d_X11_within_10 : decode prog_1_method_2_code 10 = .ok (.iconst 1, 1) := by decide +kernel
theorem d_X11_within_11 : decode prog_1_method_2_code 11 = .ok (.goto 4, 3) := by decide +kernel
theorem d_X11_within_14 : decode prog_1_method_2_code 14 = .ok (.iconst 0, 1) := by decide +kernel
theorem d_X11_within_15 : decode prog_1_method_2_code 15 = .ok (.ireturn, 1) := by decide +kernel
theorem d_X11_isPlace_0 : decode prog_1_method_3_code 0 = .ok (.iload_n 0, 1) := by decide +kernel
theorem d_X11_isPlace_1 : decode prog_1_method_3_code 1 = .ok (.ifCond .lt 13, 3) := by decide +kernel
theorem d_X11_isPlace_4 : decode prog_1_method_3_code 4 = .ok (.iload_n 0, 1) := by decide +kernel
theorem d_X11_isPlace_5 : decode prog_1_method_3_code 5 = .ok (.bipush 16, 2) := by decide +kernel
theorem d_X11_isPlace_7 : decode prog_1_method_3_code 7 = .ok (.if_icmp .ge 7, 3) := by decide +kernel
theorem d_X11_isPlace_10 : decode prog_1_method_3_code 10 = .ok (.iconst 1, 1) := by decide +kernel
theorem d_X11_isPlace_11 : decode prog_1_method_3_code 11 = .ok (.goto 4, 3) := by decide +kernel
theorem d_X11_isPlace_14 : decode prog_1_method_3_code 14 = .ok (.iconst 0, 1) := by decide +kernel
theorem d_X11_isPlace_15 : decode prog_1_method_3_code 15 = .ok (.ireturn, 1) := by decide +kernel
theorem d_X11_isKnown_0 : decode prog_1_method_4_code 0 = .ok (.iload_n 1, 1) := by decide +kernel
theorem d_X11_isKnown_1 : decode prog_1_method_4_code 1 = .ok (.iconst 0, 1) := by decide +kernel
theorem d_X11_isKnown_2 : decode prog_1_method_4_code 2 = .ok (.aload_n 0, 1) := by decide +kernel
theorem d_X11_isKnown_3 : decode prog_1_method_4_code 3 = .ok (.getfield 92, 3) := by decide +kernel
theorem d_X11_isKnown_6 : decode prog_1_method_4_code 6 = .ok (.invokestatic 96, 3) := by decide +kernel
theorem d_X11_isKnown_9 : decode prog_1_method_4_code 9 = .ok (.ireturn, 1) := by decide +kernel
theorem d_X11_isMan_0 : decode prog_1_method_5_code 0 = .ok (.aload_n 0, 1) := by decide +kernel
theorem d_X11_isMan_1 : decode prog_1_method_5_code 1 = .ok (.iload_n 1, 1) := by decide +kernel
theorem d_X11_isMan_2 : decode prog_1_method_5_code 2 = .ok (.invokevirtual 100, 3) := by decide +kernel
theorem d_X11_isMan_5 : decode prog_1_method_5_code 5 = .ok (.ifnull 7, 3) := by decide +kernel
theorem d_X11_isMan_8 : decode prog_1_method_5_code 8 = .ok (.iconst 1, 1) := by decide +kernel
theorem d_X11_isMan_9 : decode prog_1_method_5_code 9 = .ok (.goto 4, 3) := by decide +kernel
theorem d_X11_isMan_12 : decode prog_1_method_5_code 12 = .ok (.iconst 0, 1) := by decide +kernel
theorem d_X11_isMan_13 : decode prog_1_method_5_code 13 = .ok (.ireturn, 1) := by decide +kernel
theorem d_X11_manOf_0 : decode prog_1_method_6_code 0 = .ok (.iload_n 1, 1) := by decide +kernel
theorem d_X11_manOf_1 : decode prog_1_method_6_code 1 = .ok (.iconst 0, 1) := by decide +kernel
theorem d_X11_manOf_2 : decode prog_1_method_6_code 2 = .ok (.aload_n 0, 1) := by decide +kernel
theorem d_X11_manOf_3 : decode prog_1_method_6_code 3 = .ok (.getfield 104, 3) := by decide +kernel
theorem d_X11_manOf_6 : decode prog_1_method_6_code 6 = .ok (.iconst 1, 1) := by decide +kernel
theorem d_X11_manOf_7 : decode prog_1_method_6_code 7 = .ok (.isub, 1) := by decide +kernel
theorem d_X11_manOf_8 : decode prog_1_method_6_code 8 = .ok (.invokestatic 96, 3) := by decide +kernel
theorem d_X11_manOf_11 : decode prog_1_method_6_code 11 = .ok (.ifCond .eq 12, 3) := by decide +kernel
theorem d_X11_manOf_14 : decode prog_1_method_6_code 14 = .ok (.aload_n 0, 1) := by decide +kernel
theorem d_X11_manOf_15 : decode prog_1_method_6_code 15 = .ok (.getfield 42, 3) := by decide +kernel
theorem d_X11_manOf_18 : decode prog_1_method_6_code 18 = .ok (.iload_n 1, 1) := by decide +kernel
theorem d_X11_manOf_19 : decode prog_1_method_6_code 19 = .ok (.aaload, 1) := by decide +kernel
theorem d_X11_manOf_20 : decode prog_1_method_6_code 20 = .ok (.goto 4, 3) := by decide +kernel
theorem d_X11_manOf_23 : decode prog_1_method_6_code 23 = .ok (.aconst_null, 1) := by decide +kernel
theorem d_X11_manOf_24 : decode prog_1_method_6_code 24 = .ok (.areturn, 1) := by decide +kernel
theorem d_X11_path_0 : decode prog_1_method_7_code 0 = .ok (.iload_n 1, 1) := by decide +kernel
theorem d_X11_path_1 : decode prog_1_method_7_code 1 = .ok (.invokestatic 107, 3) := by decide +kernel
theorem d_X11_path_4 : decode prog_1_method_7_code 4 = .ok (.ifCond .eq 25, 3) := by decide +kernel
theorem d_X11_path_7 : decode prog_1_method_7_code 7 = .ok (.iload_n 2, 1) := by decide +kernel
theorem d_X11_path_8 : decode prog_1_method_7_code 8 = .ok (.invokestatic 107, 3) := by decide +kernel
theorem d_X11_path_11 : decode prog_1_method_7_code 11 = .ok (.ifCond .eq 18, 3) := by decide +kernel
theorem d_X11_path_14 : decode prog_1_method_7_code 14 = .ok (.iload_n 1, 1) := by decide +kernel
theorem d_X11_path_15 : decode prog_1_method_7_code 15 = .ok (.iload_n 2, 1) := by decide +kernel
theorem d_X11_path_16 : decode prog_1_method_7_code 16 = .ok (.if_icmp .eq 13, 3) := by decide +kernel
theorem d_X11_path_19 : decode prog_1_method_7_code 19 = .ok (.iload_n 3, 1) := by decide +kernel
theorem d_X11_path_20 : decode prog_1_method_7_code 20 = .ok (.iconst 1, 1) := by decide +kernel
theorem d_X11_path_21 : decode prog_1_method_7_code 21 = .ok (.bipush 60, 2) := by decide +kernel
theorem d_X11_path_23 : decode prog_1_method_7_code 23 = .ok (.invokestatic 96, 3) := by decide +kernel
theorem d_X11_path_26 : decode prog_1_method_7_code 26 = .ok (.ifCond .ne 5, 3) := by decide +kernel
theorem d_X11_path_29 : decode prog_1_method_7_code 29 = .ok (.iconst (-1), 1) := by decide +kernel
theorem d_X11_path_30 : decode prog_1_method_7_code 30 = .ok (.ireturn, 1) := by decide +kernel
theorem d_X11_path_31 : decode prog_1_method_7_code 31 = .ok (.aload_n 0, 1) := by decide +kernel
theorem d_X11_path_32 : decode prog_1_method_7_code 32 = .ok (.getfield 10, 3) := by decide +kernel
theorem d_X11_path_35 : decode prog_1_method_7_code 35 = .ok (.iload_n 1, 1) := by decide +kernel
theorem d_X11_path_36 : decode prog_1_method_7_code 36 = .ok (.iload_n 2, 1) := by decide +kernel
theorem d_X11_path_37 : decode prog_1_method_7_code 37 = .ok (.iload_n 3, 1) := by decide +kernel
theorem d_X11_path_38 : decode prog_1_method_7_code 38 = .ok (.invokevirtual 111, 3) := by decide +kernel
theorem d_X11_path_41 : decode prog_1_method_7_code 41 = .ok (.ireturn, 1) := by decide +kernel
theorem d_X11_walk_0 : decode prog_1_method_8_code 0 = .ok (.iload_n 1, 1) := by decide +kernel
theorem d_X11_walk_1 : decode prog_1_method_8_code 1 = .ok (.invokestatic 107, 3) := by decide +kernel
theorem d_X11_walk_4 : decode prog_1_method_8_code 4 = .ok (.ifCond .eq 22, 3) := by decide +kernel
theorem d_X11_walk_7 : decode prog_1_method_8_code 7 = .ok (.iload_n 2, 1) := by decide +kernel
theorem d_X11_walk_8 : decode prog_1_method_8_code 8 = .ok (.invokestatic 107, 3) := by decide +kernel
theorem d_X11_walk_11 : decode prog_1_method_8_code 11 = .ok (.ifCond .eq 15, 3) := by decide +kernel
theorem d_X11_walk_14 : decode prog_1_method_8_code 14 = .ok (.aload_n 0, 1) := by decide +kernel
theorem d_X11_walk_15 : decode prog_1_method_8_code 15 = .ok (.getfield 10, 3) := by decide +kernel
theorem d_X11_walk_18 : decode prog_1_method_8_code 18 = .ok (.iload_n 1, 1) := by decide +kernel
theorem d_X11_walk_19 : decode prog_1_method_8_code 19 = .ok (.iload_n 2, 1) := by decide +kernel
theorem d_X11_walk_20 : decode prog_1_method_8_code 20 = .ok (.invokevirtual 115, 3) := by decide +kernel
theorem d_X11_walk_23 : decode prog_1_method_8_code 23 = .ok (.goto 4, 3) := by decide +kernel
theorem d_X11_walk_26 : decode prog_1_method_8_code 26 = .ok (.iconst (-1), 1) := by decide +kernel
theorem d_X11_walk_27 : decode prog_1_method_8_code 27 = .ok (.ireturn, 1) := by decide +kernel
theorem d_X11_constable_0 : decode prog_1_method_9_code 0 = .ok (.iload_n 1, 1) := by decide +kernel
theorem d_X11_constable_1 : decode prog_1_method_9_code 1 = .ok (.iconst 1, 1) := by decide +kernel
theorem d_X11_constable_2 : decode prog_1_method_9_code 2 = .ok (.iconst 4, 1) := by decide +kernel
theorem d_X11_constable_3 : decode prog_1_method_9_code 3 = .ok (.invokestatic 96, 3) := by decide +kernel
theorem d_X11_constable_6 : decode prog_1_method_9_code 6 = .ok (.ifCond .eq 24, 3) := by decide +kernel
theorem d_X11_constable_9 : decode prog_1_method_9_code 9 = .ok (.iload_n 2, 1) := by decide +kernel
theorem d_X11_constable_10 : decode prog_1_method_9_code 10 = .ok (.iconst 0, 1) := by decide +kernel
theorem d_X11_constable_11 : decode prog_1_method_9_code 11 = .ok (.bipush 40, 2) := by decide +kernel
theorem d_X11_constable_13 : decode prog_1_method_9_code 13 = .ok (.invokestatic 96, 3) := by decide +kernel
theorem d_X11_constable_16 : decode prog_1_method_9_code 16 = .ok (.ifCond .eq 14, 3) := by decide +kernel
theorem d_X11_constable_19 : decode prog_1_method_9_code 19 = .ok (.iload_n 3, 1) := by decide +kernel
theorem d_X11_constable_20 : decode prog_1_method_9_code 20 = .ok (.invokestatic 107, 3) := by decide +kernel
theorem d_X11_constable_23 : decode prog_1_method_9_code 23 = .ok (.ifCond .eq 7, 3) := by decide +kernel
theorem d_X11_constable_26 : decode prog_1_method_9_code 26 = .ok (.iconst 1, 1) := by decide +kernel
theorem d_X11_constable_27 : decode prog_1_method_9_code 27 = .ok (.goto 4, 3) := by decide +kernel
theorem d_X11_constable_30 : decode prog_1_method_9_code 30 = .ok (.iconst 0, 1) := by decide +kernel
theorem d_X11_constable_31 : decode prog_1_method_9_code 31 = .ok (.istore 4, 2) := by decide +kernel
theorem d_X11_constable_33 : decode prog_1_method_9_code 33 = .ok (.iload 4, 2) := by decide +kernel
theorem d_X11_constable_35 : decode prog_1_method_9_code 35 = .ok (.ifCond .eq 12, 3) := by decide +kernel
theorem d_X11_constable_38 : decode prog_1_method_9_code 38 = .ok (.aload_n 0, 1) := by decide +kernel
theorem d_X11_constable_39 : decode prog_1_method_9_code 39 = .ok (.getfield 104, 3) := by decide +kernel
theorem d_X11_constable_42 : decode prog_1_method_9_code 42 = .ok (.bipush 12, 2) := by decide +kernel
theorem d_X11_constable_44 : decode prog_1_method_9_code 44 = .ok (.if_icmp .lt 5, 3) := by decide +kernel
theorem d_X11_constable_47 : decode prog_1_method_9_code 47 = .ok (.iconst (-1), 1) := by decide +kernel
theorem d_X11_constable_48 : decode prog_1_method_9_code 48 = .ok (.ireturn, 1) := by decide +kernel
theorem d_X11_constable_49 : decode prog_1_method_9_code 49 = .ok (.new 40, 3) := by decide +kernel
theorem d_X11_constable_52 : decode prog_1_method_9_code 52 = .ok (.dup, 1) := by decide +kernel
theorem d_X11_constable_53 : decode prog_1_method_9_code 53 = .ok (.aload_n 0, 1) := by decide +kernel
theorem d_X11_constable_54 : decode prog_1_method_9_code 54 = .ok (.getfield 104, 3) := by decide +kernel
theorem d_X11_constable_57 : decode prog_1_method_9_code 57 = .ok (.iload_n 1, 1) := by decide +kernel
theorem d_X11_constable_58 : decode prog_1_method_9_code 58 = .ok (.iload_n 2, 1) := by decide +kernel
theorem d_X11_constable_59 : decode prog_1_method_9_code 59 = .ok (.iload_n 3, 1) := by decide +kernel
theorem d_X11_constable_60 : decode prog_1_method_9_code 60 = .ok (.invokespecial 119, 3) := by decide +kernel
theorem d_X11_constable_63 : decode prog_1_method_9_code 63 = .ok (.astore 5, 2) := by decide +kernel
theorem d_X11_constable_65 : decode prog_1_method_9_code 65 = .ok (.aload_n 0, 1) := by decide +kernel
theorem d_X11_constable_66 : decode prog_1_method_9_code 66 = .ok (.getfield 42, 3) := by decide +kernel
theorem d_X11_constable_69 : decode prog_1_method_9_code 69 = .ok (.aload_n 0, 1) := by decide +kernel
theorem d_X11_constable_70 : decode prog_1_method_9_code 70 = .ok (.getfield 104, 3) := by decide +kernel
theorem d_X11_constable_73 : decode prog_1_method_9_code 73 = .ok (.aload 5, 2) := by decide +kernel
theorem d_X11_constable_75 : decode prog_1_method_9_code 75 = .ok (.aastore, 1) := by decide +kernel
theorem d_X11_constable_76 : decode prog_1_method_9_code 76 = .ok (.aload_n 0, 1) := by decide +kernel
theorem d_X11_constable_77 : decode prog_1_method_9_code 77 = .ok (.dup, 1) := by decide +kernel
theorem d_X11_constable_78 : decode prog_1_method_9_code 78 = .ok (.getfield 104, 3) := by decide +kernel
theorem d_X11_constable_81 : decode prog_1_method_9_code 81 = .ok (.iconst 1, 1) := by decide +kernel
theorem d_X11_constable_82 : decode prog_1_method_9_code 82 = .ok (.iadd, 1) := by decide +kernel
theorem d_X11_constable_83 : decode prog_1_method_9_code 83 = .ok (.putfield 104, 3) := by decide +kernel
theorem d_X11_constable_86 : decode prog_1_method_9_code 86 = .ok (.aload_n 0, 1) := by decide +kernel
theorem d_X11_constable_87 : decode prog_1_method_9_code 87 = .ok (.aload 5, 2) := by decide +kernel
theorem d_X11_constable_89 : decode prog_1_method_9_code 89 = .ok (.iload_n 3, 1) := by decide +kernel
theorem d_X11_constable_90 : decode prog_1_method_9_code 90 = .ok (.invokevirtual 122, 3) := by decide +kernel
theorem d_X11_constable_93 : decode prog_1_method_9_code 93 = .ok (.aload 5, 2) := by decide +kernel
theorem d_X11_constable_95 : decode prog_1_method_9_code 95 = .ok (.getfield 126, 3) := by decide +kernel
theorem d_X11_constable_98 : decode prog_1_method_9_code 98 = .ok (.ireturn, 1) := by decide +kernel
theorem d_X11_feed_0 : decode prog_1_method_10_code 0 = .ok (.aload_n 0, 1) := by decide +kernel
theorem d_X11_feed_1 : decode prog_1_method_10_code 1 = .ok (.getfield 19, 3) := by decide +kernel
theorem d_X11_feed_4 : decode prog_1_method_10_code 4 = .ok (.iload_n 1, 1) := by decide +kernel
theorem d_X11_feed_5 : decode prog_1_method_10_code 5 = .ok (.iload_n 2, 1) := by decide +kernel
theorem d_X11_feed_6 : decode prog_1_method_10_code 6 = .ok (.iload_n 3, 1) := by decide +kernel
theorem d_X11_feed_7 : decode prog_1_method_10_code 7 = .ok (.iload 4, 2) := by decide +kernel
theorem d_X11_feed_9 : decode prog_1_method_10_code 9 = .ok (.iload 5, 2) := by decide +kernel
theorem d_X11_feed_11 : decode prog_1_method_10_code 11 = .ok (.invokevirtual 129, 3) := by decide +kernel
theorem d_X11_feed_14 : decode prog_1_method_10_code 14 = .ok (.ireturn, 1) := by decide +kernel
theorem d_X11_end_0 : decode prog_1_method_11_code 0 = .ok (.aload_n 0, 1) := by decide +kernel
theorem d_X11_end_1 : decode prog_1_method_11_code 1 = .ok (.getfield 19, 3) := by decide +kernel
theorem d_X11_end_4 : decode prog_1_method_11_code 4 = .ok (.iload_n 1, 1) := by decide +kernel
theorem d_X11_end_5 : decode prog_1_method_11_code 5 = .ok (.invokevirtual 133, 3) := by decide +kernel
theorem d_X11_end_8 : decode prog_1_method_11_code 8 = .ok (.ireturn, 1) := by decide +kernel
theorem d_X11_fault_0 : decode prog_1_method_12_code 0 = .ok (.iload_n 1, 1) := by decide +kernel
theorem d_X11_fault_1 : decode prog_1_method_12_code 1 = .ok (.tableswitch 53 0 2 #[27, 35, 44], 27) := by decide +kernel
theorem d_X11_fault_28 : decode prog_1_method_12_code 28 = .ok (.aload_n 0, 1) := by decide +kernel
theorem d_X11_fault_29 : decode prog_1_method_12_code 29 = .ok (.getfield 19, 3) := by decide +kernel
theorem d_X11_fault_32 : decode prog_1_method_12_code 32 = .ok (.invokevirtual 136, 3) := by decide +kernel
theorem d_X11_fault_35 : decode prog_1_method_12_code 35 = .ok (.ireturn, 1) := by decide +kernel
theorem d_X11_fault_36 : decode prog_1_method_12_code 36 = .ok (.aload_n 0, 1) := by decide +kernel
theorem d_X11_fault_37 : decode prog_1_method_12_code 37 = .ok (.getfield 19, 3) := by decide +kernel
theorem d_X11_fault_40 : decode prog_1_method_12_code 40 = .ok (.iconst 1, 1) := by decide +kernel
theorem d_X11_fault_41 : decode prog_1_method_12_code 41 = .ok (.invokevirtual 140, 3) := by decide +kernel
theorem d_X11_fault_44 : decode prog_1_method_12_code 44 = .ok (.ireturn, 1) := by decide +kernel
theorem d_X11_fault_45 : decode prog_1_method_12_code 45 = .ok (.aload_n 0, 1) := by decide +kernel
theorem d_X11_fault_46 : decode prog_1_method_12_code 46 = .ok (.getfield 19, 3) := by decide +kernel
theorem d_X11_fault_49 : decode prog_1_method_12_code 49 = .ok (.iconst 0, 1) := by decide +kernel
theorem d_X11_fault_50 : decode prog_1_method_12_code 50 = .ok (.invokevirtual 140, 3) := by decide +kernel
theorem d_X11_fault_53 : decode prog_1_method_12_code 53 = .ok (.ireturn, 1) := by decide +kernel
theorem d_X11_fault_54 : decode prog_1_method_12_code 54 = .ok (.bipush (-2), 2) := by decide +kernel
theorem d_X11_fault_56 : decode prog_1_method_12_code 56 = .ok (.ireturn, 1) := by decide +kernel
theorem d_X11_beat_0 : decode prog_1_method_13_code 0 = .ok (.aload_n 0, 1) := by decide +kernel
theorem d_X11_beat_1 : decode prog_1_method_13_code 1 = .ok (.getfield 19, 3) := by decide +kernel
theorem d_X11_beat_4 : decode prog_1_method_13_code 4 = .ok (.invokevirtual 136, 3) := by decide +kernel
theorem d_X11_beat_7 : decode prog_1_method_13_code 7 = .ok (.iconst (-1), 1) := by decide +kernel
theorem d_X11_beat_8 : decode prog_1_method_13_code 8 = .ok (.if_icmp .eq 5, 3) := by decide +kernel
theorem d_X11_beat_11 : decode prog_1_method_13_code 11 = .ok (.iconst (-1), 1) := by decide +kernel
theorem d_X11_beat_12 : decode prog_1_method_13_code 12 = .ok (.ireturn, 1) := by decide +kernel
theorem d_X11_beat_13 : decode prog_1_method_13_code 13 = .ok (.aload_n 0, 1) := by decide +kernel
theorem d_X11_beat_14 : decode prog_1_method_13_code 14 = .ok (.getfield 26, 3) := by decide +kernel
theorem d_X11_beat_17 : decode prog_1_method_13_code 17 = .ok (.aload_n 0, 1) := by decide +kernel
theorem d_X11_beat_18 : decode prog_1_method_13_code 18 = .ok (.getfield 19, 3) := by decide +kernel
theorem d_X11_beat_21 : decode prog_1_method_13_code 21 = .ok (.invokevirtual 144, 3) := by decide +kernel
theorem d_X11_beat_24 : decode prog_1_method_13_code 24 = .ok (.istore_n 1, 1) := by decide +kernel
theorem d_X11_beat_25 : decode prog_1_method_13_code 25 = .ok (.iload_n 1, 1) := by decide +kernel
theorem d_X11_beat_26 : decode prog_1_method_13_code 26 = .ok (.iconst (-1), 1) := by decide +kernel
theorem d_X11_beat_27 : decode prog_1_method_13_code 27 = .ok (.if_icmp .eq 12, 3) := by decide +kernel
theorem d_X11_beat_30 : decode prog_1_method_13_code 30 = .ok (.aload_n 0, 1) := by decide +kernel
theorem d_X11_beat_31 : decode prog_1_method_13_code 31 = .ok (.getfield 19, 3) := by decide +kernel
theorem d_X11_beat_34 : decode prog_1_method_13_code 34 = .ok (.iconst 0, 1) := by decide +kernel
theorem d_X11_beat_35 : decode prog_1_method_13_code 35 = .ok (.invokevirtual 133, 3) := by decide +kernel
theorem d_X11_beat_38 : decode prog_1_method_13_code 38 = .ok (.pop, 1) := by decide +kernel
theorem d_X11_beat_39 : decode prog_1_method_13_code 39 = .ok (.iload_n 1, 1) := by decide +kernel
theorem d_X11_beat_40 : decode prog_1_method_13_code 40 = .ok (.ireturn, 1) := by decide +kernel
theorem d_X11_beaten_0 : decode prog_1_method_14_code 0 = .ok (.aload_n 0, 1) := by decide +kernel
theorem d_X11_beaten_1 : decode prog_1_method_14_code 1 = .ok (.getfield 26, 3) := by decide +kernel
theorem d_X11_beaten_4 : decode prog_1_method_14_code 4 = .ok (.iload_n 1, 1) := by decide +kernel
theorem d_X11_beaten_5 : decode prog_1_method_14_code 5 = .ok (.invokevirtual 148, 3) := by decide +kernel
theorem d_X11_beaten_8 : decode prog_1_method_14_code 8 = .ok (.ifCond .ne 5, 3) := by decide +kernel
theorem d_X11_beaten_11 : decode prog_1_method_14_code 11 = .ok (.iconst (-1), 1) := by decide +kernel
theorem d_X11_beaten_12 : decode prog_1_method_14_code 12 = .ok (.ireturn, 1) := by decide +kernel
theorem d_X11_beaten_13 : decode prog_1_method_14_code 13 = .ok (.iload_n 2, 1) := by decide +kernel
theorem d_X11_beaten_14 : decode prog_1_method_14_code 14 = .ok (.lookupswitch 44 #[(0, 26), (1, 35)], 26) := by decide +kernel
theorem d_X11_beaten_40 : decode prog_1_method_14_code 40 = .ok (.aload_n 0, 1) := by decide +kernel
theorem d_X11_beaten_41 : decode prog_1_method_14_code 41 = .ok (.getfield 26, 3) := by decide +kernel
theorem d_X11_beaten_44 : decode prog_1_method_14_code 44 = .ok (.iload_n 1, 1) := by decide +kernel
theorem d_X11_beaten_45 : decode prog_1_method_14_code 45 = .ok (.invokevirtual 151, 3) := by decide +kernel
theorem d_X11_beaten_48 : decode prog_1_method_14_code 48 = .ok (.ireturn, 1) := by decide +kernel
theorem d_X11_beaten_49 : decode prog_1_method_14_code 49 = .ok (.aload_n 0, 1) := by decide +kernel
theorem d_X11_beaten_50 : decode prog_1_method_14_code 50 = .ok (.getfield 26, 3) := by decide +kernel
theorem d_X11_beaten_53 : decode prog_1_method_14_code 53 = .ok (.iload_n 1, 1) := by decide +kernel
theorem d_X11_beaten_54 : decode prog_1_method_14_code 54 = .ok (.invokevirtual 155, 3) := by decide +kernel
theorem d_X11_beaten_57 : decode prog_1_method_14_code 57 = .ok (.ireturn, 1) := by decide +kernel
theorem d_X11_beaten_58 : decode prog_1_method_14_code 58 = .ok (.iconst (-1), 1) := by decide +kernel
theorem d_X11_beaten_59 : decode prog_1_method_14_code 59 = .ok (.ireturn, 1) := by decide +kernel
theorem d_X11_begin_0 : decode prog_1_method_15_code 0 = .ok (.aload_n 0, 1) := by decide +kernel
theorem d_X11_begin_1 : decode prog_1_method_15_code 1 = .ok (.iload_n 1, 1) := by decide +kernel
theorem d_X11_begin_2 : decode prog_1_method_15_code 2 = .ok (.invokevirtual 100, 3) := by decide +kernel
theorem d_X11_begin_5 : decode prog_1_method_15_code 5 = .ok (.astore_n 3, 1) := by decide +kernel
theorem d_X11_begin_6 : decode prog_1_method_15_code 6 = .ok (.aload_n 3, 1) := by decide +kernel
theorem d_X11_begin_7 : decode prog_1_method_15_code 7 = .ok (.ifnull 39, 3) := by decide +kernel
theorem d_X11_begin_10 : decode prog_1_method_15_code 10 = .ok (.aload_n 0, 1) := by decide +kernel
theorem d_X11_begin_11 : decode prog_1_method_15_code 11 = .ok (.getfield 26, 3) := by decide +kernel
theorem d_X11_begin_14 : decode prog_1_method_15_code 14 = .ok (.iload_n 2, 1) := by decide +kernel
theorem d_X11_begin_15 : decode prog_1_method_15_code 15 = .ok (.invokevirtual 148, 3) := by decide +kernel
theorem d_X11_begin_18 : decode prog_1_method_15_code 18 = .ok (.ifCond .eq 28, 3) := by decide +kernel
theorem d_X11_begin_21 : decode prog_1_method_15_code 21 = .ok (.aload_n 3, 1) := by decide +kernel
theorem d_X11_begin_22 : decode prog_1_method_15_code 22 = .ok (.getfield 158, 3) := by decide +kernel
theorem d_X11_begin_25 : decode prog_1_method_15_code 25 = .ok (.ifCond .ne 21, 3) := by decide +kernel
theorem d_X11_begin_28 : decode prog_1_method_15_code 28 = .ok (.aload_n 0, 1) := by decide +kernel
theorem d_X11_begin_29 : decode prog_1_method_15_code 29 = .ok (.getfield 49, 3) := by decide +kernel
theorem d_X11_begin_32 : decode prog_1_method_15_code 32 = .ok (.aload_n 0, 1) := by decide +kernel
theorem d_X11_begin_33 : decode prog_1_method_15_code 33 = .ok (.getfield 26, 3) := by decide +kernel
theorem d_X11_begin_36 : decode prog_1_method_15_code 36 = .ok (.iload_n 2, 1) := by decide +kernel
theorem d_X11_begin_37 : decode prog_1_method_15_code 37 = .ok (.invokevirtual 155, 3) := by decide +kernel
theorem d_X11_begin_40 : decode prog_1_method_15_code 40 = .ok (.invokevirtual 161, 3) := by decide +kernel
theorem d_X11_begin_43 : decode prog_1_method_15_code 43 = .ok (.ifCond .ne 5, 3) := by decide +kernel
theorem d_X11_begin_46 : decode prog_1_method_15_code 46 = .ok (.iconst 0, 1) := by decide +kernel
theorem d_X11_begin_47 : decode prog_1_method_15_code 47 = .ok (.ireturn, 1) := by decide +kernel
theorem d_X11_begin_48 : decode prog_1_method_15_code 48 = .ok (.aload_n 3, 1) := by decide +kernel
theorem d_X11_begin_49 : decode prog_1_method_15_code 49 = .ok (.iconst 1, 1) := by decide +kernel
theorem d_X11_begin_50 : decode prog_1_method_15_code 50 = .ok (.putfield 158, 3) := by decide +kernel
theorem d_X11_begin_53 : decode prog_1_method_15_code 53 = .ok (.aload_n 3, 1) := by decide +kernel
theorem d_X11_begin_54 : decode prog_1_method_15_code 54 = .ok (.iload_n 2, 1) := by decide +kernel
theorem d_X11_begin_55 : decode prog_1_method_15_code 55 = .ok (.putfield 164, 3) := by decide +kernel
theorem d_X11_begin_58 : decode prog_1_method_15_code 58 = .ok (.aload_n 3, 1) := by decide +kernel
theorem d_X11_begin_59 : decode prog_1_method_15_code 59 = .ok (.iconst 0, 1) := by decide +kernel
theorem d_X11_begin_60 : decode prog_1_method_15_code 60 = .ok (.putfield 167, 3) := by decide +kernel
theorem d_X11_begin_63 : decode prog_1_method_15_code 63 = .ok (.aload_n 3, 1) := by decide +kernel
theorem d_X11_begin_64 : decode prog_1_method_15_code 64 = .ok (.aload_n 0, 1) := by decide +kernel
theorem d_X11_begin_65 : decode prog_1_method_15_code 65 = .ok (.getfield 92, 3) := by decide +kernel
theorem d_X11_begin_68 : decode prog_1_method_15_code 68 = .ok (.putfield 170, 3) := by decide +kernel
theorem d_X11_begin_71 : decode prog_1_method_15_code 71 = .ok (.aload_n 3, 1) := by decide +kernel
theorem d_X11_begin_72 : decode prog_1_method_15_code 72 = .ok (.aload_n 0, 1) := by decide +kernel
theorem d_X11_begin_73 : decode prog_1_method_15_code 73 = .ok (.getfield 49, 3) := by decide +kernel
theorem d_X11_begin_76 : decode prog_1_method_15_code 76 = .ok (.getfield 173, 3) := by decide +kernel
theorem d_X11_begin_79 : decode prog_1_method_15_code 79 = .ok (.putfield 176, 3) := by decide +kernel
theorem d_X11_begin_82 : decode prog_1_method_15_code 82 = .ok (.aload_n 0, 1) := by decide +kernel
theorem d_X11_begin_83 : decode prog_1_method_15_code 83 = .ok (.aload_n 3, 1) := by decide +kernel
theorem d_X11_begin_84 : decode prog_1_method_15_code 84 = .ok (.invokevirtual 179, 3) := by decide +kernel
theorem d_X11_begin_87 : decode prog_1_method_15_code 87 = .ok (.aload_n 3, 1) := by decide +kernel
theorem d_X11_begin_88 : decode prog_1_method_15_code 88 = .ok (.aload_n 0, 1) := by decide +kernel
theorem d_X11_begin_89 : decode prog_1_method_15_code 89 = .ok (.getfield 49, 3) := by decide +kernel
theorem d_X11_begin_92 : decode prog_1_method_15_code 92 = .ok (.getfield 173, 3) := by decide +kernel
theorem d_X11_begin_95 : decode prog_1_method_15_code 95 = .ok (.putfield 183, 3) := by decide +kernel
theorem d_X11_begin_98 : decode prog_1_method_15_code 98 = .ok (.aload_n 0, 1) := by decide +kernel
theorem d_X11_begin_99 : decode prog_1_method_15_code 99 = .ok (.aload_n 3, 1) := by decide +kernel
theorem d_X11_begin_100 : decode prog_1_method_15_code 100 = .ok (.invokevirtual 186, 3) := by decide +kernel
theorem d_X11_begin_103 : decode prog_1_method_15_code 103 = .ok (.iconst 1, 1) := by decide +kernel
theorem d_X11_begin_104 : decode prog_1_method_15_code 104 = .ok (.ireturn, 1) := by decide +kernel
theorem d_X11_writeRows_0 : decode prog_1_method_16_code 0 = .ok (.aload_n 0, 1) := by decide +kernel
theorem d_X11_writeRows_1 : decode prog_1_method_16_code 1 = .ok (.getfield 26, 3) := by decide +kernel
theorem d_X11_writeRows_4 : decode prog_1_method_16_code 4 = .ok (.aload_n 1, 1) := by decide +kernel
theorem d_X11_writeRows_5 : decode prog_1_method_16_code 5 = .ok (.getfield 164, 3) := by decide +kernel
theorem d_X11_writeRows_8 : decode prog_1_method_16_code 8 = .ok (.invokevirtual 151, 3) := by decide +kernel
theorem d_X11_writeRows_11 : decode prog_1_method_16_code 11 = .ok (.istore_n 2, 1) := by decide +kernel
theorem d_X11_writeRows_12 : decode prog_1_method_16_code 12 = .ok (.iconst 0, 1) := by decide +kernel
theorem d_X11_writeRows_13 : decode prog_1_method_16_code 13 = .ok (.istore_n 3, 1) := by decide +kernel
theorem d_X11_writeRows_14 : decode prog_1_method_16_code 14 = .ok (.iload_n 3, 1) := by decide +kernel
theorem d_X11_writeRows_15 : decode prog_1_method_16_code 15 = .ok (.iload_n 2, 1) := by decide +kernel
theorem d_X11_writeRows_16 : decode prog_1_method_16_code 16 = .ok (.if_icmp .ge 62, 3) := by decide +kernel
theorem d_X11_writeRows_19 : decode prog_1_method_16_code 19 = .ok (.aload_n 0, 1) := by decide +kernel
theorem d_X11_writeRows_20 : decode prog_1_method_16_code 20 = .ok (.getfield 26, 3) := by decide +kernel
theorem d_X11_writeRows_23 : decode prog_1_method_16_code 23 = .ok (.aload_n 1, 1) := by decide +kernel
theorem d_X11_writeRows_24 : decode prog_1_method_16_code 24 = .ok (.getfield 164, 3) := by decide +kernel
theorem d_X11_writeRows_27 : decode prog_1_method_16_code 27 = .ok (.iload_n 3, 1) := by decide +kernel
theorem d_X11_writeRows_28 : decode prog_1_method_16_code 28 = .ok (.invokevirtual 189, 3) := by decide +kernel
theorem d_X11_writeRows_31 : decode prog_1_method_16_code 31 = .ok (.istore 4, 2) := by decide +kernel
theorem d_X11_writeRows_33 : decode prog_1_method_16_code 33 = .ok (.iload 4, 2) := by decide +kernel
theorem d_X11_writeRows_35 : decode prog_1_method_16_code 35 = .ok (.invokestatic 192, 3) := by decide +kernel
theorem d_X11_writeRows_38 : decode prog_1_method_16_code 38 = .ok (.iconst 2, 1) := by decide +kernel
theorem d_X11_writeRows_39 : decode prog_1_method_16_code 39 = .ok (.if_icmp .ne 33, 3) := by decide +kernel
theorem d_X11_writeRows_42 : decode prog_1_method_16_code 42 = .ok (.aload_n 0, 1) := by decide +kernel
theorem d_X11_writeRows_43 : decode prog_1_method_16_code 43 = .ok (.getfield 49, 3) := by decide +kernel
theorem d_X11_writeRows_46 : decode prog_1_method_16_code 46 = .ok (.aload_n 1, 1) := by decide +kernel
theorem d_X11_writeRows_47 : decode prog_1_method_16_code 47 = .ok (.getfield 126, 3) := by decide +kernel
theorem d_X11_writeRows_50 : decode prog_1_method_16_code 50 = .ok (.iload 4, 2) := by decide +kernel
theorem d_X11_writeRows_52 : decode prog_1_method_16_code 52 = .ok (.invokestatic 195, 3) := by decide +kernel
theorem d_X11_writeRows_55 : decode prog_1_method_16_code 55 = .ok (.aload_n 0, 1) := by decide +kernel
theorem d_X11_writeRows_56 : decode prog_1_method_16_code 56 = .ok (.getfield 92, 3) := by decide +kernel
theorem d_X11_writeRows_59 : decode prog_1_method_16_code 59 = .ok (.iload 4, 2) := by decide +kernel
theorem d_X11_writeRows_61 : decode prog_1_method_16_code 61 = .ok (.invokestatic 198, 3) := by decide +kernel
theorem d_X11_writeRows_64 : decode prog_1_method_16_code 64 = .ok (.iadd, 1) := by decide +kernel
theorem d_X11_writeRows_65 : decode prog_1_method_16_code 65 = .ok (.aload_n 0, 1) := by decide +kernel
theorem d_X11_writeRows_66 : decode prog_1_method_16_code 66 = .ok (.getfield 92, 3) := by decide +kernel
theorem d_X11_writeRows_69 : decode prog_1_method_16_code 69 = .ok (.invokevirtual 201, 3) := by decide +kernel
theorem d_X11_writeRows_72 : decode prog_1_method_16_code 72 = .ok (.iinc 3 1, 3) := by decide +kernel
theorem d_X11_writeRows_75 : decode prog_1_method_16_code 75 = .ok (.goto (-61), 3) := by decide +kernel
theorem d_X11_writeRows_78 : decode prog_1_method_16_code 78 = .ok (.return_, 1) := by decide +kernel
theorem d_X11_draw_0 : decode prog_1_method_17_code 0 = .ok (.aload_n 0, 1) := by decide +kernel
theorem d_X11_draw_1 : decode prog_1_method_17_code 1 = .ok (.iload_n 1, 1) := by decide +kernel
theorem d_X11_draw_2 : decode prog_1_method_17_code 2 = .ok (.invokevirtual 100, 3) := by decide +kernel
theorem d_X11_draw_5 : decode prog_1_method_17_code 5 = .ok (.astore 4, 2) := by decide +kernel
theorem d_X11_draw_7 : decode prog_1_method_17_code 7 = .ok (.aload 4, 2) := by decide +kernel
theorem d_X11_draw_9 : decode prog_1_method_17_code 9 = .ok (.ifnull 24, 3) := by decide +kernel
theorem d_X11_draw_12 : decode prog_1_method_17_code 12 = .ok (.iload_n 2, 1) := by decide +kernel
theorem d_X11_draw_13 : decode prog_1_method_17_code 13 = .ok (.invokestatic 107, 3) := by decide +kernel
theorem d_X11_draw_16 : decode prog_1_method_17_code 16 = .ok (.ifCond .eq 17, 3) := by decide +kernel
theorem d_X11_draw_19 : decode prog_1_method_17_code 19 = .ok (.iload_n 3, 1) := by decide +kernel
theorem d_X11_draw_20 : decode prog_1_method_17_code 20 = .ok (.aload_n 0, 1) := by decide +kernel
theorem d_X11_draw_21 : decode prog_1_method_17_code 21 = .ok (.getfield 92, 3) := by decide +kernel
theorem d_X11_draw_24 : decode prog_1_method_17_code 24 = .ok (.sipush 30000, 3) := by decide +kernel
theorem d_X11_draw_27 : decode prog_1_method_17_code 27 = .ok (.invokestatic 96, 3) := by decide +kernel
theorem d_X11_draw_30 : decode prog_1_method_17_code 30 = .ok (.ifCond .ne 5, 3) := by decide +kernel
theorem d_X11_draw_33 : decode prog_1_method_17_code 33 = .ok (.iconst 0, 1) := by decide +kernel
theorem d_X11_draw_34 : decode prog_1_method_17_code 34 = .ok (.ireturn, 1) := by decide +kernel
theorem d_X11_draw_35 : decode prog_1_method_17_code 35 = .ok (.aload_n 0, 1) := by decide +kernel
theorem d_X11_draw_36 : decode prog_1_method_17_code 36 = .ok (.getfield 10, 3) := by decide +kernel
theorem d_X11_draw_39 : decode prog_1_method_17_code 39 = .ok (.aload 4, 2) := by decide +kernel
theorem d_X11_draw_41 : decode prog_1_method_17_code 41 = .ok (.getfield 204, 3) := by decide +kernel
theorem d_X11_draw_44 : decode prog_1_method_17_code 44 = .ok (.iload_n 2, 1) := by decide +kernel
theorem d_X11_draw_45 : decode prog_1_method_17_code 45 = .ok (.invokevirtual 115, 3) := by decide +kernel
theorem d_X11_draw_48 : decode prog_1_method_17_code 48 = .ok (.iconst (-1), 1) := by decide +kernel
theorem d_X11_draw_49 : decode prog_1_method_17_code 49 = .ok (.if_icmp .eq 21, 3) := by decide +kernel
theorem d_X11_draw_52 : decode prog_1_method_17_code 52 = .ok (.aload 4, 2) := by decide +kernel
theorem d_X11_draw_54 : decode prog_1_method_17_code 54 = .ok (.getfield 158, 3) := by decide +kernel
theorem d_X11_draw_57 : decode prog_1_method_17_code 57 = .ok (.iconst 3, 1) := by decide +kernel
theorem d_X11_draw_58 : decode prog_1_method_17_code 58 = .ok (.if_icmp .eq 12, 3) := by decide +kernel
theorem d_X11_draw_61 : decode prog_1_method_17_code 61 = .ok (.aload 4, 2) := by decide +kernel
theorem d_X11_draw_63 : decode prog_1_method_17_code 63 = .ok (.getfield 158, 3) := by decide +kernel
theorem d_X11_draw_66 : decode prog_1_method_17_code 66 = .ok (.iconst 4, 1) := by decide +kernel
theorem d_X11_draw_67 : decode prog_1_method_17_code 67 = .ok (.if_icmp .ne 5, 3) := by decide +kernel
theorem d_X11_draw_70 : decode prog_1_method_17_code 70 = .ok (.iconst 0, 1) := by decide +kernel
theorem d_X11_draw_71 : decode prog_1_method_17_code 71 = .ok (.ireturn, 1) := by decide +kernel
theorem d_X11_draw_72 : decode prog_1_method_17_code 72 = .ok (.aload_n 0, 1) := by decide +kernel
theorem d_X11_draw_73 : decode prog_1_method_17_code 73 = .ok (.aload 4, 2) := by decide +kernel
theorem d_X11_draw_75 : decode prog_1_method_17_code 75 = .ok (.iconst 3, 1) := by decide +kernel
theorem d_X11_draw_76 : decode prog_1_method_17_code 76 = .ok (.invokevirtual 207, 3) := by decide +kernel
theorem d_X11_draw_79 : decode prog_1_method_17_code 79 = .ok (.aload 4, 2) := by decide +kernel
theorem d_X11_draw_81 : decode prog_1_method_17_code 81 = .ok (.iconst 3, 1) := by decide +kernel
theorem d_X11_draw_82 : decode prog_1_method_17_code 82 = .ok (.putfield 158, 3) := by decide +kernel
theorem d_X11_draw_85 : decode prog_1_method_17_code 85 = .ok (.aload 4, 2) := by decide +kernel
theorem d_X11_draw_87 : decode prog_1_method_17_code 87 = .ok (.iload_n 2, 1) := by decide +kernel
theorem d_X11_draw_88 : decode prog_1_method_17_code 88 = .ok (.putfield 210, 3) := by decide +kernel
theorem d_X11_draw_91 : decode prog_1_method_17_code 91 = .ok (.aload 4, 2) := by decide +kernel
theorem d_X11_draw_93 : decode prog_1_method_17_code 93 = .ok (.iload_n 3, 1) := by decide +kernel
theorem d_X11_draw_94 : decode prog_1_method_17_code 94 = .ok (.putfield 213, 3) := by decide +kernel
theorem d_X11_draw_97 : decode prog_1_method_17_code 97 = .ok (.aload 4, 2) := by decide +kernel
theorem d_X11_draw_99 : decode prog_1_method_17_code 99 = .ok (.getfield 216, 3) := by decide +kernel
theorem d_X11_draw_102 : decode prog_1_method_17_code 102 = .ok (.iconst (-1), 1) := by decide +kernel
theorem d_X11_draw_103 : decode prog_1_method_17_code 103 = .ok (.if_icmp .ne 15, 3) := by decide +kernel
theorem d_X11_draw_106 : decode prog_1_method_17_code 106 = .ok (.aload 4, 2) := by decide +kernel
theorem d_X11_draw_108 : decode prog_1_method_17_code 108 = .ok (.iconst (-1), 1) := by decide +kernel
theorem d_X11_draw_109 : decode prog_1_method_17_code 109 = .ok (.putfield 219, 3) := by decide +kernel
theorem d_X11_draw_112 : decode prog_1_method_17_code 112 = .ok (.aload_n 0, 1) := by decide +kernel
theorem d_X11_draw_113 : decode prog_1_method_17_code 113 = .ok (.aload 4, 2) := by decide +kernel
theorem d_X11_draw_115 : decode prog_1_method_17_code 115 = .ok (.invokevirtual 222, 3) := by decide +kernel
theorem d_X11_draw_118 : decode prog_1_method_17_code 118 = .ok (.iconst 1, 1) := by decide +kernel
theorem d_X11_draw_119 : decode prog_1_method_17_code 119 = .ok (.ireturn, 1) := by decide +kernel
theorem d_X11_ill_0 : decode prog_1_method_18_code 0 = .ok (.aload_n 0, 1) := by decide +kernel
theorem d_X11_ill_1 : decode prog_1_method_18_code 1 = .ok (.iload_n 1, 1) := by decide +kernel
theorem d_X11_ill_2 : decode prog_1_method_18_code 2 = .ok (.invokevirtual 100, 3) := by decide +kernel
theorem d_X11_ill_5 : decode prog_1_method_18_code 5 = .ok (.astore_n 3, 1) := by decide +kernel
theorem d_X11_ill_6 : decode prog_1_method_18_code 6 = .ok (.aload_n 3, 1) := by decide +kernel
theorem d_X11_ill_7 : decode prog_1_method_18_code 7 = .ok (.ifnull 20, 3) := by decide +kernel
theorem d_X11_ill_10 : decode prog_1_method_18_code 10 = .ok (.iload_n 2, 1) := by decide +kernel
theorem d_X11_ill_11 : decode prog_1_method_18_code 11 = .ok (.aload_n 3, 1) := by decide +kernel
theorem d_X11_ill_12 : decode prog_1_method_18_code 12 = .ok (.getfield 158, 3) := by decide +kernel
theorem d_X11_ill_15 : decode prog_1_method_18_code 15 = .ok (.iconst 4, 1) := by decide +kernel
theorem d_X11_ill_16 : decode prog_1_method_18_code 16 = .ok (.if_icmp .ne 7, 3) := by decide +kernel
theorem d_X11_ill_19 : decode prog_1_method_18_code 19 = .ok (.iconst 1, 1) := by decide +kernel
theorem d_X11_ill_20 : decode prog_1_method_18_code 20 = .ok (.goto 4, 3) := by decide +kernel
theorem d_X11_ill_23 : decode prog_1_method_18_code 23 = .ok (.iconst 0, 1) := by decide +kernel
theorem d_X11_ill_24 : decode prog_1_method_18_code 24 = .ok (.if_icmp .ne 5, 3) := by decide +kernel
theorem d_X11_ill_27 : decode prog_1_method_18_code 27 = .ok (.iconst 0, 1) := by decide +kernel
theorem d_X11_ill_28 : decode prog_1_method_18_code 28 = .ok (.ireturn, 1) := by decide +kernel
theorem d_X11_ill_29 : decode prog_1_method_18_code 29 = .ok (.iload_n 2, 1) := by decide +kernel
theorem d_X11_ill_30 : decode prog_1_method_18_code 30 = .ok (.ifCond .eq 36, 3) := by decide +kernel
theorem d_X11_ill_33 : decode prog_1_method_18_code 33 = .ok (.aload_n 0, 1) := by decide +kernel
theorem d_X11_ill_34 : decode prog_1_method_18_code 34 = .ok (.aload_n 3, 1) := by decide +kernel
theorem d_X11_ill_35 : decode prog_1_method_18_code 35 = .ok (.iconst 4, 1) := by decide +kernel
theorem d_X11_ill_36 : decode prog_1_method_18_code 36 = .ok (.invokevirtual 207, 3) := by decide +kernel
theorem d_X11_ill_39 : decode prog_1_method_18_code 39 = .ok (.aload_n 3, 1) := by decide +kernel
theorem d_X11_ill_40 : decode prog_1_method_18_code 40 = .ok (.iconst 4, 1) := by decide +kernel
theorem d_X11_ill_41 : decode prog_1_method_18_code 41 = .ok (.putfield 158, 3) := by decide +kernel
theorem d_X11_ill_44 : decode prog_1_method_18_code 44 = .ok (.aload_n 3, 1) := by decide +kernel
theorem d_X11_ill_45 : decode prog_1_method_18_code 45 = .ok (.iconst (-1), 1) := by decide +kernel
theorem d_X11_ill_46 : decode prog_1_method_18_code 46 = .ok (.putfield 216, 3) := by decide +kernel
theorem d_X11_ill_49 : decode prog_1_method_18_code 49 = .ok (.aload_n 3, 1) := by decide +kernel
theorem d_X11_ill_50 : decode prog_1_method_18_code 50 = .ok (.iconst (-1), 1) := by decide +kernel
theorem d_X11_ill_51 : decode prog_1_method_18_code 51 = .ok (.putfield 219, 3) := by decide +kernel
theorem d_X11_ill_54 : decode prog_1_method_18_code 54 = .ok (.aload_n 0, 1) := by decide +kernel
theorem d_X11_ill_55 : decode prog_1_method_18_code 55 = .ok (.aload_n 3, 1) := by decide +kernel
theorem d_X11_ill_56 : decode prog_1_method_18_code 56 = .ok (.aload_n 3, 1) := by decide +kernel
theorem d_X11_ill_57 : decode prog_1_method_18_code 57 = .ok (.getfield 204, 3) := by decide +kernel
theorem d_X11_ill_60 : decode prog_1_method_18_code 60 = .ok (.invokevirtual 122, 3) := by decide +kernel
theorem d_X11_ill_63 : decode prog_1_method_18_code 63 = .ok (.goto 8, 3) := by decide +kernel
theorem d_X11_ill_66 : decode prog_1_method_18_code 66 = .ok (.aload_n 0, 1) := by decide +kernel
theorem d_X11_ill_67 : decode prog_1_method_18_code 67 = .ok (.aload_n 3, 1) := by decide +kernel
theorem d_X11_ill_68 : decode prog_1_method_18_code 68 = .ok (.invokevirtual 225, 3) := by decide +kernel
theorem d_X11_ill_71 : decode prog_1_method_18_code 71 = .ok (.iconst 1, 1) := by decide +kernel
theorem d_X11_ill_72 : decode prog_1_method_18_code 72 = .ok (.ireturn, 1) := by decide +kernel
theorem d_X11_tick_0 : decode prog_1_method_19_code 0 = .ok (.iload_n 1, 1) := by decide +kernel
theorem d_X11_tick_1 : decode prog_1_method_19_code 1 = .ok (.iconst 0, 1) := by decide +kernel
theorem d_X11_tick_2 : decode prog_1_method_19_code 2 = .ok (.sipush 1500, 3) := by decide +kernel
theorem d_X11_tick_5 : decode prog_1_method_19_code 5 = .ok (.invokestatic 96, 3) := by decide +kernel
theorem d_X11_tick_8 : decode prog_1_method_19_code 8 = .ok (.ifCond .eq 15, 3) := by decide +kernel
theorem d_X11_tick_11 : decode prog_1_method_19_code 11 = .ok (.aload_n 0, 1) := by decide +kernel
theorem d_X11_tick_12 : decode prog_1_method_19_code 12 = .ok (.getfield 92, 3) := by decide +kernel
theorem d_X11_tick_15 : decode prog_1_method_19_code 15 = .ok (.iload_n 1, 1) := by decide +kernel
theorem d_X11_tick_16 : decode prog_1_method_19_code 16 = .ok (.iadd, 1) := by decide +kernel
theorem d_X11_tick_17 : decode prog_1_method_19_code 17 = .ok (.sipush 20000, 3) := by decide +kernel
theorem d_X11_tick_20 : decode prog_1_method_19_code 20 = .ok (.if_icmp .le 5, 3) := by decide +kernel
theorem d_X11_tick_23 : decode prog_1_method_19_code 23 = .ok (.iconst (-1), 1) := by decide +kernel
theorem d_X11_tick_24 : decode prog_1_method_19_code 24 = .ok (.ireturn, 1) := by decide +kernel
theorem d_X11_tick_25 : decode prog_1_method_19_code 25 = .ok (.aload_n 0, 1) := by decide +kernel
theorem d_X11_tick_26 : decode prog_1_method_19_code 26 = .ok (.aload_n 0, 1) := by decide +kernel
theorem d_X11_tick_27 : decode prog_1_method_19_code 27 = .ok (.getfield 92, 3) := by decide +kernel
theorem d_X11_tick_30 : decode prog_1_method_19_code 30 = .ok (.iload_n 1, 1) := by decide +kernel
theorem d_X11_tick_31 : decode prog_1_method_19_code 31 = .ok (.iadd, 1) := by decide +kernel
theorem d_X11_tick_32 : decode prog_1_method_19_code 32 = .ok (.invokevirtual 228, 3) := by decide +kernel
theorem d_X11_tick_35 : decode prog_1_method_19_code 35 = .ok (.iconst 0, 1) := by decide +kernel
theorem d_X11_tick_36 : decode prog_1_method_19_code 36 = .ok (.istore_n 2, 1) := by decide +kernel
theorem d_X11_tick_37 : decode prog_1_method_19_code 37 = .ok (.iload_n 2, 1) := by decide +kernel
theorem d_X11_tick_38 : decode prog_1_method_19_code 38 = .ok (.iload_n 1, 1) := by decide +kernel
theorem d_X11_tick_39 : decode prog_1_method_19_code 39 = .ok (.if_icmp .ge 79, 3) := by decide +kernel
theorem d_X11_tick_42 : decode prog_1_method_19_code 42 = .ok (.aload_n 0, 1) := by decide +kernel
theorem d_X11_tick_43 : decode prog_1_method_19_code 43 = .ok (.getfield 88, 3) := by decide +kernel
theorem d_X11_tick_46 : decode prog_1_method_19_code 46 = .ok (.aload_n 0, 1) := by decide +kernel
theorem d_X11_tick_47 : decode prog_1_method_19_code 47 = .ok (.getfield 92, 3) := by decide +kernel
theorem d_X11_tick_50 : decode prog_1_method_19_code 50 = .ok (.aload_n 0, 1) := by decide +kernel
theorem d_X11_tick_51 : decode prog_1_method_19_code 51 = .ok (.getfield 232, 3) := by decide +kernel
theorem d_X11_tick_54 : decode prog_1_method_19_code 54 = .ok (.lastore, 1) := by decide +kernel
theorem d_X11_tick_55 : decode prog_1_method_19_code 55 = .ok (.aload_n 0, 1) := by decide +kernel
theorem d_X11_tick_56 : decode prog_1_method_19_code 56 = .ok (.dup, 1) := by decide +kernel
theorem d_X11_tick_57 : decode prog_1_method_19_code 57 = .ok (.getfield 92, 3) := by decide +kernel
theorem d_X11_tick_60 : decode prog_1_method_19_code 60 = .ok (.iconst 1, 1) := by decide +kernel
theorem d_X11_tick_61 : decode prog_1_method_19_code 61 = .ok (.iadd, 1) := by decide +kernel
theorem d_X11_tick_62 : decode prog_1_method_19_code 62 = .ok (.putfield 92, 3) := by decide +kernel
theorem d_X11_tick_65 : decode prog_1_method_19_code 65 = .ok (.iconst 0, 1) := by decide +kernel
theorem d_X11_tick_66 : decode prog_1_method_19_code 66 = .ok (.istore_n 3, 1) := by decide +kernel
theorem d_X11_tick_67 : decode prog_1_method_19_code 67 = .ok (.iload_n 3, 1) := by decide +kernel
theorem d_X11_tick_68 : decode prog_1_method_19_code 68 = .ok (.aload_n 0, 1) := by decide +kernel
theorem d_X11_tick_69 : decode prog_1_method_19_code 69 = .ok (.getfield 104, 3) := by decide +kernel
theorem d_X11_tick_72 : decode prog_1_method_19_code 72 = .ok (.if_icmp .ge 40, 3) := by decide +kernel
theorem d_X11_tick_75 : decode prog_1_method_19_code 75 = .ok (.aload_n 0, 1) := by decide +kernel
theorem d_X11_tick_76 : decode prog_1_method_19_code 76 = .ok (.getfield 42, 3) := by decide +kernel
theorem d_X11_tick_79 : decode prog_1_method_19_code 79 = .ok (.iload_n 3, 1) := by decide +kernel
theorem d_X11_tick_80 : decode prog_1_method_19_code 80 = .ok (.aaload, 1) := by decide +kernel
theorem d_X11_tick_81 : decode prog_1_method_19_code 81 = .ok (.astore 4, 2) := by decide +kernel
theorem d_X11_tick_83 : decode prog_1_method_19_code 83 = .ok (.aload 4, 2) := by decide +kernel
theorem d_X11_tick_85 : decode prog_1_method_19_code 85 = .ok (.ifnull 21, 3) := by decide +kernel
theorem d_X11_tick_88 : decode prog_1_method_19_code 88 = .ok (.aload 4, 2) := by decide +kernel
theorem d_X11_tick_90 : decode prog_1_method_19_code 90 = .ok (.getfield 219, 3) := by decide +kernel
theorem d_X11_tick_93 : decode prog_1_method_19_code 93 = .ok (.aload_n 0, 1) := by decide +kernel
theorem d_X11_tick_94 : decode prog_1_method_19_code 94 = .ok (.getfield 92, 3) := by decide +kernel
theorem d_X11_tick_97 : decode prog_1_method_19_code 97 = .ok (.if_icmp .ne 9, 3) := by decide +kernel
theorem d_X11_tick_100 : decode prog_1_method_19_code 100 = .ok (.aload_n 0, 1) := by decide +kernel
theorem d_X11_tick_101 : decode prog_1_method_19_code 101 = .ok (.aload 4, 2) := by decide +kernel
theorem d_X11_tick_103 : decode prog_1_method_19_code 103 = .ok (.invokevirtual 236, 3) := by decide +kernel
theorem d_X11_tick_106 : decode prog_1_method_19_code 106 = .ok (.iinc 3 1, 3) := by decide +kernel
theorem d_X11_tick_109 : decode prog_1_method_19_code 109 = .ok (.goto (-42), 3) := by decide +kernel
theorem d_X11_tick_112 : decode prog_1_method_19_code 112 = .ok (.iinc 2 1, 3) := by decide +kernel
theorem d_X11_tick_115 : decode prog_1_method_19_code 115 = .ok (.goto (-78), 3) := by decide +kernel
theorem d_X11_tick_118 : decode prog_1_method_19_code 118 = .ok (.aload_n 0, 1) := by decide +kernel
theorem d_X11_tick_119 : decode prog_1_method_19_code 119 = .ok (.getfield 92, 3) := by decide +kernel
theorem d_X11_tick_122 : decode prog_1_method_19_code 122 = .ok (.ireturn, 1) := by decide +kernel
theorem d_X11_makeHistory_0 : decode prog_1_method_20_code 0 = .ok (.iload_n 1, 1) := by decide +kernel
theorem d_X11_makeHistory_1 : decode prog_1_method_20_code 1 = .ok (.aload_n 0, 1) := by decide +kernel
theorem d_X11_makeHistory_2 : decode prog_1_method_20_code 2 = .ok (.getfield 88, 3) := by decide +kernel
theorem d_X11_makeHistory_5 : decode prog_1_method_20_code 5 = .ok (.arraylength, 1) := by decide +kernel
theorem d_X11_makeHistory_6 : decode prog_1_method_20_code 6 = .ok (.if_icmp .le 33, 3) := by decide +kernel
theorem d_X11_makeHistory_9 : decode prog_1_method_20_code 9 = .ok (.iload_n 1, 1) := by decide +kernel
theorem d_X11_makeHistory_10 : decode prog_1_method_20_code 10 = .ok (.iconst 2, 1) := by decide +kernel
theorem d_X11_makeHistory_11 : decode prog_1_method_20_code 11 = .ok (.aload_n 0, 1) := by decide +kernel
theorem d_X11_makeHistory_12 : decode prog_1_method_20_code 12 = .ok (.getfield 88, 3) := by decide +kernel
theorem d_X11_makeHistory_15 : decode prog_1_method_20_code 15 = .ok (.arraylength, 1) := by decide +kernel
theorem d_X11_makeHistory_16 : decode prog_1_method_20_code 16 = .ok (.imul, 1) := by decide +kernel
theorem d_X11_makeHistory_17 : decode prog_1_method_20_code 17 = .ok (.sipush 20000, 3) := by decide +kernel
theorem d_X11_makeHistory_20 : decode prog_1_method_20_code 20 = .ok (.invokestatic 239, 3) := by decide +kernel
theorem d_X11_makeHistory_23 : decode prog_1_method_20_code 23 = .ok (.invokestatic 244, 3) := by decide +kernel
theorem d_X11_makeHistory_26 : decode prog_1_method_20_code 26 = .ok (.istore_n 2, 1) := by decide +kernel
theorem d_X11_makeHistory_27 : decode prog_1_method_20_code 27 = .ok (.aload_n 0, 1) := by decide +kernel
theorem d_X11_makeHistory_28 : decode prog_1_method_20_code 28 = .ok (.aload_n 0, 1) := by decide +kernel
theorem d_X11_makeHistory_29 : decode prog_1_method_20_code 29 = .ok (.getfield 88, 3) := by decide +kernel
theorem d_X11_makeHistory_32 : decode prog_1_method_20_code 32 = .ok (.iload_n 2, 1) := by decide +kernel
theorem d_X11_makeHistory_33 : decode prog_1_method_20_code 33 = .ok (.invokestatic 247, 3) := by decide +kernel
theorem d_X11_makeHistory_36 : decode prog_1_method_20_code 36 = .ok (.putfield 88, 3) := by decide +kernel
theorem d_X11_makeHistory_39 : decode prog_1_method_20_code 39 = .ok (.return_, 1) := by decide +kernel
theorem d_X11_goOn_0 : decode prog_1_method_21_code 0 = .ok (.aload_n 1, 1) := by decide +kernel
theorem d_X11_goOn_1 : decode prog_1_method_21_code 1 = .ok (.getfield 216, 3) := by decide +kernel
theorem d_X11_goOn_4 : decode prog_1_method_21_code 4 = .ok (.iconst (-1), 1) := by decide +kernel
theorem d_X11_goOn_5 : decode prog_1_method_21_code 5 = .ok (.if_icmp .eq 7, 3) := by decide +kernel
theorem d_X11_goOn_8 : decode prog_1_method_21_code 8 = .ok (.iconst 1, 1) := by decide +kernel
theorem d_X11_goOn_9 : decode prog_1_method_21_code 9 = .ok (.goto 4, 3) := by decide +kernel
theorem d_X11_goOn_12 : decode prog_1_method_21_code 12 = .ok (.iconst 0, 1) := by decide +kernel
theorem d_X11_goOn_13 : decode prog_1_method_21_code 13 = .ok (.istore_n 2, 1) := by decide +kernel
theorem d_X11_goOn_14 : decode prog_1_method_21_code 14 = .ok (.iload_n 2, 1) := by decide +kernel
theorem d_X11_goOn_15 : decode prog_1_method_21_code 15 = .ok (.ifCond .eq 19, 3) := by decide +kernel
theorem d_X11_goOn_18 : decode prog_1_method_21_code 18 = .ok (.aload_n 1, 1) := by decide +kernel
theorem d_X11_goOn_19 : decode prog_1_method_21_code 19 = .ok (.getfield 216, 3) := by decide +kernel
theorem d_X11_goOn_22 : decode prog_1_method_21_code 22 = .ok (.istore_n 3, 1) := by decide +kernel
theorem d_X11_goOn_23 : decode prog_1_method_21_code 23 = .ok (.aload_n 1, 1) := by decide +kernel
theorem d_X11_goOn_24 : decode prog_1_method_21_code 24 = .ok (.iconst (-1), 1) := by decide +kernel
theorem d_X11_goOn_25 : decode prog_1_method_21_code 25 = .ok (.putfield 216, 3) := by decide +kernel
theorem d_X11_goOn_28 : decode prog_1_method_21_code 28 = .ok (.aload_n 0, 1) := by decide +kernel
theorem d_X11_goOn_29 : decode prog_1_method_21_code 29 = .ok (.aload_n 1, 1) := by decide +kernel
theorem d_X11_goOn_30 : decode prog_1_method_21_code 30 = .ok (.iload_n 3, 1) := by decide +kernel
theorem d_X11_goOn_31 : decode prog_1_method_21_code 31 = .ok (.invokevirtual 122, 3) := by decide +kernel
theorem d_X11_goOn_34 : decode prog_1_method_21_code 34 = .ok (.aload_n 1, 1) := by decide +kernel
theorem d_X11_goOn_35 : decode prog_1_method_21_code 35 = .ok (.iconst (-1), 1) := by decide +kernel
theorem d_X11_goOn_36 : decode prog_1_method_21_code 36 = .ok (.putfield 219, 3) := by decide +kernel
theorem d_X11_goOn_39 : decode prog_1_method_21_code 39 = .ok (.aload_n 1, 1) := by decide +kernel
theorem d_X11_goOn_40 : decode prog_1_method_21_code 40 = .ok (.getfield 158, 3) := by decide +kernel
theorem d_X11_goOn_43 : decode prog_1_method_21_code 43 = .ok (.iconst 1, 1) := by decide +kernel
theorem d_X11_goOn_44 : decode prog_1_method_21_code 44 = .ok (.if_icmp .ne 30, 3) := by decide +kernel
theorem d_X11_goOn_47 : decode prog_1_method_21_code 47 = .ok (.aload_n 0, 1) := by decide +kernel
theorem d_X11_goOn_48 : decode prog_1_method_21_code 48 = .ok (.aload_n 1, 1) := by decide +kernel
theorem d_X11_goOn_49 : decode prog_1_method_21_code 49 = .ok (.iload_n 2, 1) := by decide +kernel
theorem d_X11_goOn_50 : decode prog_1_method_21_code 50 = .ok (.invokevirtual 253, 3) := by decide +kernel
theorem d_X11_goOn_53 : decode prog_1_method_21_code 53 = .ok (.ifCond .eq 50, 3) := by decide +kernel
theorem d_X11_goOn_56 : decode prog_1_method_21_code 56 = .ok (.aload_n 1, 1) := by decide +kernel
theorem d_X11_goOn_57 : decode prog_1_method_21_code 57 = .ok (.dup, 1) := by decide +kernel
theorem d_X11_goOn_58 : decode prog_1_method_21_code 58 = .ok (.getfield 167, 3) := by decide +kernel
theorem d_X11_goOn_61 : decode prog_1_method_21_code 61 = .ok (.iconst 1, 1) := by decide +kernel
theorem d_X11_goOn_62 : decode prog_1_method_21_code 62 = .ok (.iadd, 1) := by decide +kernel
theorem d_X11_goOn_63 : decode prog_1_method_21_code 63 = .ok (.putfield 167, 3) := by decide +kernel
theorem d_X11_goOn_66 : decode prog_1_method_21_code 66 = .ok (.aload_n 0, 1) := by decide +kernel
theorem d_X11_goOn_67 : decode prog_1_method_21_code 67 = .ok (.aload_n 1, 1) := by decide +kernel
theorem d_X11_goOn_68 : decode prog_1_method_21_code 68 = .ok (.invokevirtual 186, 3) := by decide +kernel
theorem d_X11_goOn_71 : decode prog_1_method_21_code 71 = .ok (.goto 32, 3) := by decide +kernel
theorem d_X11_goOn_74 : decode prog_1_method_21_code 74 = .ok (.aload_n 1, 1) := by decide +kernel
theorem d_X11_goOn_75 : decode prog_1_method_21_code 75 = .ok (.getfield 158, 3) := by decide +kernel
theorem d_X11_goOn_78 : decode prog_1_method_21_code 78 = .ok (.iconst 2, 1) := by decide +kernel
theorem d_X11_goOn_79 : decode prog_1_method_21_code 79 = .ok (.if_icmp .ne 11, 3) := by decide +kernel
theorem d_X11_goOn_82 : decode prog_1_method_21_code 82 = .ok (.aload_n 0, 1) := by decide +kernel
theorem d_X11_goOn_83 : decode prog_1_method_21_code 83 = .ok (.aload_n 1, 1) := by decide +kernel
theorem d_X11_goOn_84 : decode prog_1_method_21_code 84 = .ok (.invokevirtual 225, 3) := by decide +kernel
theorem d_X11_goOn_87 : decode prog_1_method_21_code 87 = .ok (.goto 16, 3) := by decide +kernel
theorem d_X11_goOn_90 : decode prog_1_method_21_code 90 = .ok (.aload_n 1, 1) := by decide +kernel
theorem d_X11_goOn_91 : decode prog_1_method_21_code 91 = .ok (.getfield 158, 3) := by decide +kernel
theorem d_X11_goOn_94 : decode prog_1_method_21_code 94 = .ok (.iconst 3, 1) := by decide +kernel
theorem d_X11_goOn_95 : decode prog_1_method_21_code 95 = .ok (.if_icmp .ne 8, 3) := by decide +kernel
theorem d_X11_goOn_98 : decode prog_1_method_21_code 98 = .ok (.aload_n 0, 1) := by decide +kernel
theorem d_X11_goOn_99 : decode prog_1_method_21_code 99 = .ok (.aload_n 1, 1) := by decide +kernel
theorem d_X11_goOn_100 : decode prog_1_method_21_code 100 = .ok (.invokevirtual 222, 3) := by decide +kernel
theorem d_X11_goOn_103 : decode prog_1_method_21_code 103 = .ok (.return_, 1) := by decide +kernel
theorem d_X11_endsStep_0 : decode prog_1_method_22_code 0 = .ok (.aload_n 0, 1) := by decide +kernel
theorem d_X11_endsStep_1 : decode prog_1_method_22_code 1 = .ok (.getfield 26, 3) := by decide +kernel
theorem d_X11_endsStep_4 : decode prog_1_method_22_code 4 = .ok (.aload_n 1, 1) := by decide +kernel
theorem d_X11_endsStep_5 : decode prog_1_method_22_code 5 = .ok (.getfield 164, 3) := by decide +kernel
theorem d_X11_endsStep_8 : decode prog_1_method_22_code 8 = .ok (.aload_n 1, 1) := by decide +kernel
theorem d_X11_endsStep_9 : decode prog_1_method_22_code 9 = .ok (.getfield 167, 3) := by decide +kernel
theorem d_X11_endsStep_12 : decode prog_1_method_22_code 12 = .ok (.invokevirtual 189, 3) := by decide +kernel
theorem d_X11_endsStep_15 : decode prog_1_method_22_code 15 = .ok (.istore_n 3, 1) := by decide +kernel
theorem d_X11_endsStep_16 : decode prog_1_method_22_code 16 = .ok (.iload_n 3, 1) := by decide +kernel
theorem d_X11_endsStep_17 : decode prog_1_method_22_code 17 = .ok (.invokestatic 192, 3) := by decide +kernel
theorem d_X11_endsStep_20 : decode prog_1_method_22_code 20 = .ok (.istore 4, 2) := by decide +kernel
theorem d_X11_endsStep_22 : decode prog_1_method_22_code 22 = .ok (.iload 4, 2) := by decide +kernel
theorem d_X11_endsStep_24 : decode prog_1_method_22_code 24 = .ok (.iconst 3, 1) := by decide +kernel
theorem d_X11_endsStep_25 : decode prog_1_method_22_code 25 = .ok (.if_icmp .ne 8, 3) := by decide +kernel
theorem d_X11_endsStep_28 : decode prog_1_method_22_code 28 = .ok (.aload_n 0, 1) := by decide +kernel
theorem d_X11_endsStep_29 : decode prog_1_method_22_code 29 = .ok (.aload_n 1, 1) := by decide +kernel
theorem d_X11_endsStep_30 : decode prog_1_method_22_code 30 = .ok (.invokevirtual 257, 3) := by decide +kernel
theorem d_X11_endsStep_33 : decode prog_1_method_22_code 33 = .ok (.iload 4, 2) := by decide +kernel
theorem d_X11_endsStep_35 : decode prog_1_method_22_code 35 = .ok (.iconst 2, 1) := by decide +kernel
theorem d_X11_endsStep_36 : decode prog_1_method_22_code 36 = .ok (.if_icmp .ne 16, 3) := by decide +kernel
theorem d_X11_endsStep_39 : decode prog_1_method_22_code 39 = .ok (.iload_n 2, 1) := by decide +kernel
theorem d_X11_endsStep_40 : decode prog_1_method_22_code 40 = .ok (.ifCond .eq 12, 3) := by decide +kernel
theorem d_X11_endsStep_43 : decode prog_1_method_22_code 43 = .ok (.aload_n 0, 1) := by decide +kernel
theorem d_X11_endsStep_44 : decode prog_1_method_22_code 44 = .ok (.aload_n 1, 1) := by decide +kernel
theorem d_X11_endsStep_45 : decode prog_1_method_22_code 45 = .ok (.iload_n 3, 1) := by decide +kernel
theorem d_X11_endsStep_46 : decode prog_1_method_22_code 46 = .ok (.invokevirtual 260, 3) := by decide +kernel
theorem d_X11_endsStep_49 : decode prog_1_method_22_code 49 = .ok (.ifCond .ne 7, 3) := by decide +kernel
theorem d_X11_endsStep_52 : decode prog_1_method_22_code 52 = .ok (.iconst 1, 1) := by decide +kernel
theorem d_X11_endsStep_53 : decode prog_1_method_22_code 53 = .ok (.goto 4, 3) := by decide +kernel
theorem d_X11_endsStep_56 : decode prog_1_method_22_code 56 = .ok (.iconst 0, 1) := by decide +kernel
theorem d_X11_endsStep_57 : decode prog_1_method_22_code 57 = .ok (.ireturn, 1) := by decide +kernel
theorem d_X11_doSteps_0 : decode prog_1_method_23_code 0 = .ok (.aload_n 0, 1) := by decide +kernel
theorem d_X11_doSteps_1 : decode prog_1_method_23_code 1 = .ok (.getfield 26, 3) := by decide +kernel
theorem d_X11_doSteps_4 : decode prog_1_method_23_code 4 = .ok (.aload_n 1, 1) := by decide +kernel
theorem d_X11_doSteps_5 : decode prog_1_method_23_code 5 = .ok (.getfield 164, 3) := by decide +kernel
theorem d_X11_doSteps_8 : decode prog_1_method_23_code 8 = .ok (.invokevirtual 151, 3) := by decide +kernel
theorem d_X11_doSteps_11 : decode prog_1_method_23_code 11 = .ok (.istore_n 2, 1) := by decide +kernel
theorem d_X11_doSteps_12 : decode prog_1_method_23_code 12 = .ok (.aload_n 1, 1) := by decide +kernel
theorem d_X11_doSteps_13 : decode prog_1_method_23_code 13 = .ok (.getfield 167, 3) := by decide +kernel
theorem d_X11_doSteps_16 : decode prog_1_method_23_code 16 = .ok (.iload_n 2, 1) := by decide +kernel
theorem d_X11_doSteps_17 : decode prog_1_method_23_code 17 = .ok (.if_icmp .ge 25, 3) := by decide +kernel
theorem d_X11_doSteps_20 : decode prog_1_method_23_code 20 = .ok (.aload_n 0, 1) := by decide +kernel
theorem d_X11_doSteps_21 : decode prog_1_method_23_code 21 = .ok (.aload_n 1, 1) := by decide +kernel
theorem d_X11_doSteps_22 : decode prog_1_method_23_code 22 = .ok (.invokevirtual 264, 3) := by decide +kernel
theorem d_X11_doSteps_25 : decode prog_1_method_23_code 25 = .ok (.ifCond .eq 4, 3) := by decide +kernel
theorem d_X11_doSteps_28 : decode prog_1_method_23_code 28 = .ok (.return_, 1) := by decide +kernel
theorem d_X11_doSteps_29 : decode prog_1_method_23_code 29 = .ok (.aload_n 1, 1) := by decide +kernel
theorem d_X11_doSteps_30 : decode prog_1_method_23_code 30 = .ok (.dup, 1) := by decide +kernel
theorem d_X11_doSteps_31 : decode prog_1_method_23_code 31 = .ok (.getfield 167, 3) := by decide +kernel
theorem d_X11_doSteps_34 : decode prog_1_method_23_code 34 = .ok (.iconst 1, 1) := by decide +kernel
theorem d_X11_doSteps_35 : decode prog_1_method_23_code 35 = .ok (.iadd, 1) := by decide +kernel
theorem d_X11_doSteps_36 : decode prog_1_method_23_code 36 = .ok (.putfield 167, 3) := by decide +kernel
theorem d_X11_doSteps_39 : decode prog_1_method_23_code 39 = .ok (.goto (-27), 3) := by decide +kernel
theorem d_X11_doSteps_42 : decode prog_1_method_23_code 42 = .ok (.aload_n 0, 1) := by decide +kernel
theorem d_X11_doSteps_43 : decode prog_1_method_23_code 43 = .ok (.aload_n 1, 1) := by decide +kernel
theorem d_X11_doSteps_44 : decode prog_1_method_23_code 44 = .ok (.invokevirtual 268, 3) := by decide +kernel
theorem d_X11_doSteps_47 : decode prog_1_method_23_code 47 = .ok (.return_, 1) := by decide +kernel
theorem d_X11_takesTime_0 : decode prog_1_method_24_code 0 = .ok (.aload_n 0, 1) := by decide +kernel
theorem d_X11_takesTime_1 : decode prog_1_method_24_code 1 = .ok (.getfield 26, 3) := by decide +kernel
theorem d_X11_takesTime_4 : decode prog_1_method_24_code 4 = .ok (.aload_n 1, 1) := by decide +kernel
theorem d_X11_takesTime_5 : decode prog_1_method_24_code 5 = .ok (.getfield 164, 3) := by decide +kernel
theorem d_X11_takesTime_8 : decode prog_1_method_24_code 8 = .ok (.aload_n 1, 1) := by decide +kernel
theorem d_X11_takesTime_9 : decode prog_1_method_24_code 9 = .ok (.getfield 167, 3) := by decide +kernel
theorem d_X11_takesTime_12 : decode prog_1_method_24_code 12 = .ok (.invokevirtual 189, 3) := by decide +kernel
theorem d_X11_takesTime_15 : decode prog_1_method_24_code 15 = .ok (.istore_n 2, 1) := by decide +kernel
theorem d_X11_takesTime_16 : decode prog_1_method_24_code 16 = .ok (.iload_n 2, 1) := by decide +kernel
theorem d_X11_takesTime_17 : decode prog_1_method_24_code 17 = .ok (.invokestatic 192, 3) := by decide +kernel
theorem d_X11_takesTime_20 : decode prog_1_method_24_code 20 = .ok (.tableswitch 62 1 3 #[28, 55, 43], 28) := by decide +kernel
theorem d_X11_takesTime_48 : decode prog_1_method_24_code 48 = .ok (.aload_n 1, 1) := by decide +kernel
theorem d_X11_takesTime_49 : decode prog_1_method_24_code 49 = .ok (.aload_n 0, 1) := by decide +kernel
theorem d_X11_takesTime_50 : decode prog_1_method_24_code 50 = .ok (.getfield 92, 3) := by decide +kernel
theorem d_X11_takesTime_53 : decode prog_1_method_24_code 53 = .ok (.iload_n 2, 1) := by decide +kernel
theorem d_X11_takesTime_54 : decode prog_1_method_24_code 54 = .ok (.invokestatic 198, 3) := by decide +kernel
theorem d_X11_takesTime_57 : decode prog_1_method_24_code 57 = .ok (.iadd, 1) := by decide +kernel
theorem d_X11_takesTime_58 : decode prog_1_method_24_code 58 = .ok (.putfield 219, 3) := by decide +kernel
theorem d_X11_takesTime_61 : decode prog_1_method_24_code 61 = .ok (.iconst 1, 1) := by decide +kernel
theorem d_X11_takesTime_62 : decode prog_1_method_24_code 62 = .ok (.ireturn, 1) := by decide +kernel
theorem d_X11_takesTime_63 : decode prog_1_method_24_code 63 = .ok (.aload_n 1, 1) := by decide +kernel
theorem d_X11_takesTime_64 : decode prog_1_method_24_code 64 = .ok (.aload_n 0, 1) := by decide +kernel
theorem d_X11_takesTime_65 : decode prog_1_method_24_code 65 = .ok (.getfield 92, 3) := by decide +kernel
theorem d_X11_takesTime_68 : decode prog_1_method_24_code 68 = .ok (.iconst 1, 1) := by decide +kernel
theorem d_X11_takesTime_69 : decode prog_1_method_24_code 69 = .ok (.iadd, 1) := by decide +kernel
theorem d_X11_takesTime_70 : decode prog_1_method_24_code 70 = .ok (.putfield 219, 3) := by decide +kernel
theorem d_X11_takesTime_73 : decode prog_1_method_24_code 73 = .ok (.iconst 1, 1) := by decide +kernel
theorem d_X11_takesTime_74 : decode prog_1_method_24_code 74 = .ok (.ireturn, 1) := by decide +kernel
theorem d_X11_takesTime_75 : decode prog_1_method_24_code 75 = .ok (.aload_n 0, 1) := by decide +kernel
theorem d_X11_takesTime_76 : decode prog_1_method_24_code 76 = .ok (.aload_n 1, 1) := by decide +kernel
theorem d_X11_takesTime_77 : decode prog_1_method_24_code 77 = .ok (.iload_n 2, 1) := by decide +kernel
theorem d_X11_takesTime_78 : decode prog_1_method_24_code 78 = .ok (.invokevirtual 271, 3) := by decide +kernel
theorem d_X11_takesTime_81 : decode prog_1_method_24_code 81 = .ok (.ireturn, 1) := by decide +kernel
theorem d_X11_takesTime_82 : decode prog_1_method_24_code 82 = .ok (.aload_n 0, 1) := by decide +kernel
theorem d_X11_takesTime_83 : decode prog_1_method_24_code 83 = .ok (.aload_n 1, 1) := by decide +kernel
theorem d_X11_takesTime_84 : decode prog_1_method_24_code 84 = .ok (.iload_n 2, 1) := by decide +kernel
theorem d_X11_takesTime_85 : decode prog_1_method_24_code 85 = .ok (.invokestatic 195, 3) := by decide +kernel
theorem d_X11_takesTime_88 : decode prog_1_method_24_code 88 = .ok (.invokevirtual 274, 3) := by decide +kernel
theorem d_X11_takesTime_91 : decode prog_1_method_24_code 91 = .ok (.ireturn, 1) := by decide +kernel
theorem d_X11_goesToMeet_0 : decode prog_1_method_25_code 0 = .ok (.iload_n 2, 1) := by decide +kernel
theorem d_X11_goesToMeet_1 : decode prog_1_method_25_code 1 = .ok (.invokestatic 195, 3) := by decide +kernel
theorem d_X11_goesToMeet_4 : decode prog_1_method_25_code 4 = .ok (.istore_n 3, 1) := by decide +kernel
theorem d_X11_goesToMeet_5 : decode prog_1_method_25_code 5 = .ok (.aload_n 0, 1) := by decide +kernel
theorem d_X11_goesToMeet_6 : decode prog_1_method_25_code 6 = .ok (.getfield 10, 3) := by decide +kernel
theorem d_X11_goesToMeet_9 : decode prog_1_method_25_code 9 = .ok (.aload_n 1, 1) := by decide +kernel
theorem d_X11_goesToMeet_10 : decode prog_1_method_25_code 10 = .ok (.getfield 277, 3) := by decide +kernel
theorem d_X11_goesToMeet_13 : decode prog_1_method_25_code 13 = .ok (.iload_n 3, 1) := by decide +kernel
theorem d_X11_goesToMeet_14 : decode prog_1_method_25_code 14 = .ok (.invokevirtual 115, 3) := by decide +kernel
theorem d_X11_goesToMeet_17 : decode prog_1_method_25_code 17 = .ok (.iconst (-1), 1) := by decide +kernel
theorem d_X11_goesToMeet_18 : decode prog_1_method_25_code 18 = .ok (.if_icmp .ne 12, 3) := by decide +kernel
theorem d_X11_goesToMeet_21 : decode prog_1_method_25_code 21 = .ok (.aload_n 0, 1) := by decide +kernel
theorem d_X11_goesToMeet_22 : decode prog_1_method_25_code 22 = .ok (.aload_n 1, 1) := by decide +kernel
theorem d_X11_goesToMeet_23 : decode prog_1_method_25_code 23 = .ok (.iconst 2, 1) := by decide +kernel
theorem d_X11_goesToMeet_24 : decode prog_1_method_25_code 24 = .ok (.iconst 2, 1) := by decide +kernel
theorem d_X11_goesToMeet_25 : decode prog_1_method_25_code 25 = .ok (.invokevirtual 280, 3) := by decide +kernel
theorem d_X11_goesToMeet_28 : decode prog_1_method_25_code 28 = .ok (.iconst 0, 1) := by decide +kernel
theorem d_X11_goesToMeet_29 : decode prog_1_method_25_code 29 = .ok (.ireturn, 1) := by decide +kernel
theorem d_X11_goesToMeet_30 : decode prog_1_method_25_code 30 = .ok (.aload_n 0, 1) := by decide +kernel
theorem d_X11_goesToMeet_31 : decode prog_1_method_25_code 31 = .ok (.aload_n 1, 1) := by decide +kernel
theorem d_X11_goesToMeet_32 : decode prog_1_method_25_code 32 = .ok (.iload_n 3, 1) := by decide +kernel
theorem d_X11_goesToMeet_33 : decode prog_1_method_25_code 33 = .ok (.invokevirtual 274, 3) := by decide +kernel
theorem d_X11_goesToMeet_36 : decode prog_1_method_25_code 36 = .ok (.ifCond .ne 12, 3) := by decide +kernel
theorem d_X11_goesToMeet_39 : decode prog_1_method_25_code 39 = .ok (.aload_n 0, 1) := by decide +kernel
theorem d_X11_goesToMeet_40 : decode prog_1_method_25_code 40 = .ok (.aload_n 1, 1) := by decide +kernel
theorem d_X11_goesToMeet_41 : decode prog_1_method_25_code 41 = .ok (.iload_n 2, 1) := by decide +kernel
theorem d_X11_goesToMeet_42 : decode prog_1_method_25_code 42 = .ok (.invokevirtual 260, 3) := by decide +kernel
theorem d_X11_goesToMeet_45 : decode prog_1_method_25_code 45 = .ok (.ifCond .eq 7, 3) := by decide +kernel
theorem d_X11_goesToMeet_48 : decode prog_1_method_25_code 48 = .ok (.iconst 1, 1) := by decide +kernel
theorem d_X11_goesToMeet_49 : decode prog_1_method_25_code 49 = .ok (.goto 4, 3) := by decide +kernel
theorem d_X11_goesToMeet_52 : decode prog_1_method_25_code 52 = .ok (.iconst 0, 1) := by decide +kernel
theorem d_X11_goesToMeet_53 : decode prog_1_method_25_code 53 = .ok (.ireturn, 1) := by decide +kernel
theorem d_X11_waitsAtPoint_0 : decode prog_1_method_26_code 0 = .ok (.aload_n 1, 1) := by decide +kernel
theorem d_X11_waitsAtPoint_1 : decode prog_1_method_26_code 1 = .ok (.getfield 170, 3) := by decide +kernel
theorem d_X11_waitsAtPoint_4 : decode prog_1_method_26_code 4 = .ok (.iload_n 2, 1) := by decide +kernel
theorem d_X11_waitsAtPoint_5 : decode prog_1_method_26_code 5 = .ok (.invokestatic 198, 3) := by decide +kernel
theorem d_X11_waitsAtPoint_8 : decode prog_1_method_26_code 8 = .ok (.iadd, 1) := by decide +kernel
theorem d_X11_waitsAtPoint_9 : decode prog_1_method_26_code 9 = .ok (.istore_n 3, 1) := by decide +kernel
theorem d_X11_waitsAtPoint_10 : decode prog_1_method_26_code 10 = .ok (.aload_n 0, 1) := by decide +kernel
theorem d_X11_waitsAtPoint_11 : decode prog_1_method_26_code 11 = .ok (.getfield 92, 3) := by decide +kernel
theorem d_X11_waitsAtPoint_14 : decode prog_1_method_26_code 14 = .ok (.iload_n 3, 1) := by decide +kernel
theorem d_X11_waitsAtPoint_15 : decode prog_1_method_26_code 15 = .ok (.if_icmp .le 12, 3) := by decide +kernel
theorem d_X11_waitsAtPoint_18 : decode prog_1_method_26_code 18 = .ok (.aload_n 0, 1) := by decide +kernel
theorem d_X11_waitsAtPoint_19 : decode prog_1_method_26_code 19 = .ok (.aload_n 1, 1) := by decide +kernel
theorem d_X11_waitsAtPoint_20 : decode prog_1_method_26_code 20 = .ok (.iconst 2, 1) := by decide +kernel
theorem d_X11_waitsAtPoint_21 : decode prog_1_method_26_code 21 = .ok (.iconst 1, 1) := by decide +kernel
theorem d_X11_waitsAtPoint_22 : decode prog_1_method_26_code 22 = .ok (.invokevirtual 280, 3) := by decide +kernel
theorem d_X11_waitsAtPoint_25 : decode prog_1_method_26_code 25 = .ok (.iconst 0, 1) := by decide +kernel
theorem d_X11_waitsAtPoint_26 : decode prog_1_method_26_code 26 = .ok (.ireturn, 1) := by decide +kernel
theorem d_X11_waitsAtPoint_27 : decode prog_1_method_26_code 27 = .ok (.aload_n 0, 1) := by decide +kernel
theorem d_X11_waitsAtPoint_28 : decode prog_1_method_26_code 28 = .ok (.aload_n 1, 1) := by decide +kernel
theorem d_X11_waitsAtPoint_29 : decode prog_1_method_26_code 29 = .ok (.iconst 1, 1) := by decide +kernel
theorem d_X11_waitsAtPoint_30 : decode prog_1_method_26_code 30 = .ok (.iconst (-1), 1) := by decide +kernel
theorem d_X11_waitsAtPoint_31 : decode prog_1_method_26_code 31 = .ok (.invokevirtual 280, 3) := by decide +kernel
theorem d_X11_waitsAtPoint_34 : decode prog_1_method_26_code 34 = .ok (.iload_n 3, 1) := by decide +kernel
theorem d_X11_waitsAtPoint_35 : decode prog_1_method_26_code 35 = .ok (.aload_n 0, 1) := by decide +kernel
theorem d_X11_waitsAtPoint_36 : decode prog_1_method_26_code 36 = .ok (.getfield 92, 3) := by decide +kernel
theorem d_X11_waitsAtPoint_39 : decode prog_1_method_26_code 39 = .ok (.if_icmp .le 10, 3) := by decide +kernel
theorem d_X11_waitsAtPoint_42 : decode prog_1_method_26_code 42 = .ok (.aload_n 1, 1) := by decide +kernel
theorem d_X11_waitsAtPoint_43 : decode prog_1_method_26_code 43 = .ok (.iload_n 3, 1) := by decide +kernel
theorem d_X11_waitsAtPoint_44 : decode prog_1_method_26_code 44 = .ok (.putfield 219, 3) := by decide +kernel
theorem d_X11_waitsAtPoint_47 : decode prog_1_method_26_code 47 = .ok (.iconst 1, 1) := by decide +kernel
theorem d_X11_waitsAtPoint_48 : decode prog_1_method_26_code 48 = .ok (.ireturn, 1) := by decide +kernel
theorem d_X11_waitsAtPoint_49 : decode prog_1_method_26_code 49 = .ok (.iconst 0, 1) := by decide +kernel
theorem d_X11_waitsAtPoint_50 : decode prog_1_method_26_code 50 = .ok (.ireturn, 1) := by decide +kernel
theorem d_X11_setsOut_0 : decode prog_1_method_27_code 0 = .ok (.aload_n 0, 1) := by decide +kernel
theorem d_X11_setsOut_1 : decode prog_1_method_27_code 1 = .ok (.getfield 10, 3) := by decide +kernel
theorem d_X11_setsOut_4 : decode prog_1_method_27_code 4 = .ok (.aload_n 1, 1) := by decide +kernel
theorem d_X11_setsOut_5 : decode prog_1_method_27_code 5 = .ok (.getfield 277, 3) := by decide +kernel
theorem d_X11_setsOut_8 : decode prog_1_method_27_code 8 = .ok (.iload_n 2, 1) := by decide +kernel
theorem d_X11_setsOut_9 : decode prog_1_method_27_code 9 = .ok (.invokevirtual 115, 3) := by decide +kernel
theorem d_X11_setsOut_12 : decode prog_1_method_27_code 12 = .ok (.istore_n 3, 1) := by decide +kernel
