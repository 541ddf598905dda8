theorem d_X12_payOf_263 : decode prog_14_method_127_code 263 = .ok (.iastore, 1) := by decide +kernel
theorem d_X12_payOf_264 : decode prog_14_method_127_code 264 = .ok (.aload_n 0, 1) := by decide +kernel
theorem d_X12_payOf_265 : decode prog_14_method_127_code 265 = .ok (.getfield 120, 3) := by decide +kernel
theorem d_X12_payOf_268 : decode prog_14_method_127_code 268 = .ok (.bipush 120, 2) := by decide +kernel
theorem d_X12_payOf_270 : decode prog_14_method_127_code 270 = .ok (.iload 5, 2) := by decide +kernel
theorem d_X12_payOf_272 : decode prog_14_method_127_code 272 = .ok (.iastore, 1) := by decide +kernel
theorem d_X12_payOf_273 : decode prog_14_method_127_code 273 = .ok (.aload_n 0, 1) := by decide +kernel
theorem d_X12_payOf_274 : decode prog_14_method_127_code 274 = .ok (.getfield 120, 3) := by decide +kernel
theorem d_X12_payOf_277 : decode prog_14_method_127_code 277 = .ok (.bipush 116, 2) := by decide +kernel
theorem d_X12_payOf_279 : decode prog_14_method_127_code 279 = .ok (.iload 6, 2) := by decide +kernel
theorem d_X12_payOf_281 : decode prog_14_method_127_code 281 = .ok (.iastore, 1) := by decide +kernel
theorem d_X12_payOf_282 : decode prog_14_method_127_code 282 = .ok (.aload_n 0, 1) := by decide +kernel
theorem d_X12_payOf_283 : decode prog_14_method_127_code 283 = .ok (.getfield 120, 3) := by decide +kernel
theorem d_X12_payOf_286 : decode prog_14_method_127_code 286 = .ok (.bipush 97, 2) := by decide +kernel
theorem d_X12_payOf_288 : decode prog_14_method_127_code 288 = .ok (.iload 7, 2) := by decide +kernel
theorem d_X12_payOf_290 : decode prog_14_method_127_code 290 = .ok (.iastore, 1) := by decide +kernel
theorem d_X12_payOf_291 : decode prog_14_method_127_code 291 = .ok (.iconst 0, 1) := by decide +kernel
theorem d_X12_payOf_292 : decode prog_14_method_127_code 292 = .ok (.sipush 10000, 3) := by decide +kernel
theorem d_X12_payOf_295 : decode prog_14_method_127_code 295 = .ok (.aload_n 0, 1) := by decide +kernel
theorem d_X12_payOf_296 : decode prog_14_method_127_code 296 = .ok (.iconst 1, 1) := by decide +kernel
theorem d_X12_payOf_297 : decode prog_14_method_127_code 297 = .ok (.aload_n 0, 1) := by decide +kernel
theorem d_X12_payOf_298 : decode prog_14_method_127_code 298 = .ok (.iconst 1, 1) := by decide +kernel
theorem d_X12_payOf_299 : decode prog_14_method_127_code 299 = .ok (.iload_n 2, 1) := by decide +kernel
theorem d_X12_payOf_300 : decode prog_14_method_127_code 300 = .ok (.iload_n 3, 1) := by decide +kernel
theorem d_X12_payOf_301 : decode prog_14_method_127_code 301 = .ok (.invokevirtual 471, 3) := by decide +kernel
theorem d_X12_payOf_304 : decode prog_14_method_127_code 304 = .ok (.invokevirtual 585, 3) := by decide +kernel
theorem d_X12_payOf_307 : decode prog_14_method_127_code 307 = .ok (.invokestatic 617, 3) := by decide +kernel
theorem d_X12_payOf_310 : decode prog_14_method_127_code 310 = .ok (.invokestatic 560, 3) := by decide +kernel
theorem d_X12_payOf_313 : decode prog_14_method_127_code 313 = .ok (.ireturn, 1) := by decide +kernel
theorem d_X12_paid_0 : decode prog_14_method_128_code 0 = .ok (.aload_n 0, 1) := by decide +kernel
theorem d_X12_paid_1 : decode prog_14_method_128_code 1 = .ok (.iload_n 1, 1) := by decide +kernel
theorem d_X12_paid_2 : decode prog_14_method_128_code 2 = .ok (.invokevirtual 345, 3) := by decide +kernel
theorem d_X12_paid_5 : decode prog_14_method_128_code 5 = .ok (.ifCond .eq 36, 3) := by decide +kernel
theorem d_X12_paid_8 : decode prog_14_method_128_code 8 = .ok (.aload_n 0, 1) := by decide +kernel
theorem d_X12_paid_9 : decode prog_14_method_128_code 9 = .ok (.iload_n 3, 1) := by decide +kernel
theorem d_X12_paid_10 : decode prog_14_method_128_code 10 = .ok (.invokevirtual 351, 3) := by decide +kernel
theorem d_X12_paid_13 : decode prog_14_method_128_code 13 = .ok (.ifCond .eq 28, 3) := by decide +kernel
theorem d_X12_paid_16 : decode prog_14_method_128_code 16 = .ok (.iload_n 2, 1) := by decide +kernel
theorem d_X12_paid_17 : decode prog_14_method_128_code 17 = .ok (.iconst 0, 1) := by decide +kernel
theorem d_X12_paid_18 : decode prog_14_method_128_code 18 = .ok (.iload_n 3, 1) := by decide +kernel
theorem d_X12_paid_19 : decode prog_14_method_128_code 19 = .ok (.sipush 1440, 3) := by decide +kernel
theorem d_X12_paid_22 : decode prog_14_method_128_code 22 = .ok (.idiv, 1) := by decide +kernel
theorem d_X12_paid_23 : decode prog_14_method_128_code 23 = .ok (.iconst 1, 1) := by decide +kernel
theorem d_X12_paid_24 : decode prog_14_method_128_code 24 = .ok (.isub, 1) := by decide +kernel
theorem d_X12_paid_25 : decode prog_14_method_128_code 25 = .ok (.invokestatic 323, 3) := by decide +kernel
theorem d_X12_paid_28 : decode prog_14_method_128_code 28 = .ok (.ifCond .eq 13, 3) := by decide +kernel
theorem d_X12_paid_31 : decode prog_14_method_128_code 31 = .ok (.aload_n 0, 1) := by decide +kernel
theorem d_X12_paid_32 : decode prog_14_method_128_code 32 = .ok (.iload_n 1, 1) := by decide +kernel
theorem d_X12_paid_33 : decode prog_14_method_128_code 33 = .ok (.iload_n 2, 1) := by decide +kernel
theorem d_X12_paid_34 : decode prog_14_method_128_code 34 = .ok (.iload_n 3, 1) := by decide +kernel
theorem d_X12_paid_35 : decode prog_14_method_128_code 35 = .ok (.invokevirtual 682, 3) := by decide +kernel
theorem d_X12_paid_38 : decode prog_14_method_128_code 38 = .ok (.goto 4, 3) := by decide +kernel
theorem d_X12_paid_41 : decode prog_14_method_128_code 41 = .ok (.iconst (-1), 1) := by decide +kernel
theorem d_X12_paid_42 : decode prog_14_method_128_code 42 = .ok (.ireturn, 1) := by decide +kernel
theorem d_X12_book_0 : decode prog_14_method_129_code 0 = .ok (.iconst 0, 1) := by decide +kernel
theorem d_X12_book_1 : decode prog_14_method_129_code 1 = .ok (.istore_n 1, 1) := by decide +kernel
theorem d_X12_book_2 : decode prog_14_method_129_code 2 = .ok (.iconst 0, 1) := by decide +kernel
theorem d_X12_book_3 : decode prog_14_method_129_code 3 = .ok (.istore_n 2, 1) := by decide +kernel
theorem d_X12_book_4 : decode prog_14_method_129_code 4 = .ok (.iload_n 2, 1) := by decide +kernel
theorem d_X12_book_5 : decode prog_14_method_129_code 5 = .ok (.aload_n 0, 1) := by decide +kernel
theorem d_X12_book_6 : decode prog_14_method_129_code 6 = .ok (.getfield 342, 3) := by decide +kernel
theorem d_X12_book_9 : decode prog_14_method_129_code 9 = .ok (.sipush 1440, 3) := by decide +kernel
theorem d_X12_book_12 : decode prog_14_method_129_code 12 = .ok (.idiv, 1) := by decide +kernel
theorem d_X12_book_13 : decode prog_14_method_129_code 13 = .ok (.if_icmp .ge 57, 3) := by decide +kernel
theorem d_X12_book_16 : decode prog_14_method_129_code 16 = .ok (.iconst 0, 1) := by decide +kernel
theorem d_X12_book_17 : decode prog_14_method_129_code 17 = .ok (.istore_n 3, 1) := by decide +kernel
theorem d_X12_book_18 : decode prog_14_method_129_code 18 = .ok (.iload_n 3, 1) := by decide +kernel
theorem d_X12_book_19 : decode prog_14_method_129_code 19 = .ok (.aload_n 0, 1) := by decide +kernel
theorem d_X12_book_20 : decode prog_14_method_129_code 20 = .ok (.getfield 339, 3) := by decide +kernel
theorem d_X12_book_23 : decode prog_14_method_129_code 23 = .ok (.if_icmp .ge 41, 3) := by decide +kernel
theorem d_X12_book_26 : decode prog_14_method_129_code 26 = .ok (.iload_n 1, 1) := by decide +kernel
theorem d_X12_book_27 : decode prog_14_method_129_code 27 = .ok (.aload_n 0, 1) := by decide +kernel
theorem d_X12_book_28 : decode prog_14_method_129_code 28 = .ok (.iload_n 3, 1) := by decide +kernel
theorem d_X12_book_29 : decode prog_14_method_129_code 29 = .ok (.iload_n 2, 1) := by decide +kernel
theorem d_X12_book_30 : decode prog_14_method_129_code 30 = .ok (.aload_n 0, 1) := by decide +kernel
theorem d_X12_book_31 : decode prog_14_method_129_code 31 = .ok (.getfield 342, 3) := by decide +kernel
theorem d_X12_book_34 : decode prog_14_method_129_code 34 = .ok (.invokevirtual 682, 3) := by decide +kernel
theorem d_X12_book_37 : decode prog_14_method_129_code 37 = .ok (.aload_n 0, 1) := by decide +kernel
theorem d_X12_book_38 : decode prog_14_method_129_code 38 = .ok (.getfield 296, 3) := by decide +kernel
theorem d_X12_book_41 : decode prog_14_method_129_code 41 = .ok (.bipush 31, 2) := by decide +kernel
theorem d_X12_book_43 : decode prog_14_method_129_code 43 = .ok (.iload_n 3, 1) := by decide +kernel
theorem d_X12_book_44 : decode prog_14_method_129_code 44 = .ok (.imul, 1) := by decide +kernel
theorem d_X12_book_45 : decode prog_14_method_129_code 45 = .ok (.iload_n 2, 1) := by decide +kernel
theorem d_X12_book_46 : decode prog_14_method_129_code 46 = .ok (.iadd, 1) := by decide +kernel
theorem d_X12_book_47 : decode prog_14_method_129_code 47 = .ok (.iaload, 1) := by decide +kernel
theorem d_X12_book_48 : decode prog_14_method_129_code 48 = .ok (.if_icmp .eq 7, 3) := by decide +kernel
theorem d_X12_book_51 : decode prog_14_method_129_code 51 = .ok (.iconst 1, 1) := by decide +kernel
theorem d_X12_book_52 : decode prog_14_method_129_code 52 = .ok (.goto 4, 3) := by decide +kernel
theorem d_X12_book_55 : decode prog_14_method_129_code 55 = .ok (.iconst 0, 1) := by decide +kernel
theorem d_X12_book_56 : decode prog_14_method_129_code 56 = .ok (.iadd, 1) := by decide +kernel
theorem d_X12_book_57 : decode prog_14_method_129_code 57 = .ok (.istore_n 1, 1) := by decide +kernel
theorem d_X12_book_58 : decode prog_14_method_129_code 58 = .ok (.iinc 3 1, 3) := by decide +kernel
theorem d_X12_book_61 : decode prog_14_method_129_code 61 = .ok (.goto (-43), 3) := by decide +kernel
theorem d_X12_book_64 : decode prog_14_method_129_code 64 = .ok (.iinc 2 1, 3) := by decide +kernel
theorem d_X12_book_67 : decode prog_14_method_129_code 67 = .ok (.goto (-63), 3) := by decide +kernel
theorem d_X12_book_70 : decode prog_14_method_129_code 70 = .ok (.aload_n 0, 1) := by decide +kernel
theorem d_X12_book_71 : decode prog_14_method_129_code 71 = .ok (.getfield 685, 3) := by decide +kernel
theorem d_X12_book_74 : decode prog_14_method_129_code 74 = .ok (.iload_n 1, 1) := by decide +kernel
theorem d_X12_book_75 : decode prog_14_method_129_code 75 = .ok (.iadd, 1) := by decide +kernel
theorem d_X12_book_76 : decode prog_14_method_129_code 76 = .ok (.sipush 600, 3) := by decide +kernel
theorem d_X12_book_79 : decode prog_14_method_129_code 79 = .ok (.if_icmp .le 5, 3) := by decide +kernel
theorem d_X12_book_82 : decode prog_14_method_129_code 82 = .ok (.iconst (-1), 1) := by decide +kernel
theorem d_X12_book_83 : decode prog_14_method_129_code 83 = .ok (.ireturn, 1) := by decide +kernel
theorem d_X12_book_84 : decode prog_14_method_129_code 84 = .ok (.iconst 0, 1) := by decide +kernel
theorem d_X12_book_85 : decode prog_14_method_129_code 85 = .ok (.istore_n 2, 1) := by decide +kernel
theorem d_X12_book_86 : decode prog_14_method_129_code 86 = .ok (.iload_n 2, 1) := by decide +kernel
theorem d_X12_book_87 : decode prog_14_method_129_code 87 = .ok (.aload_n 0, 1) := by decide +kernel
theorem d_X12_book_88 : decode prog_14_method_129_code 88 = .ok (.getfield 342, 3) := by decide +kernel
theorem d_X12_book_91 : decode prog_14_method_129_code 91 = .ok (.sipush 1440, 3) := by decide +kernel
theorem d_X12_book_94 : decode prog_14_method_129_code 94 = .ok (.idiv, 1) := by decide +kernel
theorem d_X12_book_95 : decode prog_14_method_129_code 95 = .ok (.if_icmp .ge 132, 3) := by decide +kernel
theorem d_X12_book_98 : decode prog_14_method_129_code 98 = .ok (.iconst 0, 1) := by decide +kernel
theorem d_X12_book_99 : decode prog_14_method_129_code 99 = .ok (.istore_n 3, 1) := by decide +kernel
theorem d_X12_book_100 : decode prog_14_method_129_code 100 = .ok (.iload_n 3, 1) := by decide +kernel
theorem d_X12_book_101 : decode prog_14_method_129_code 101 = .ok (.aload_n 0, 1) := by decide +kernel
theorem d_X12_book_102 : decode prog_14_method_129_code 102 = .ok (.getfield 339, 3) := by decide +kernel
theorem d_X12_book_105 : decode prog_14_method_129_code 105 = .ok (.if_icmp .ge 116, 3) := by decide +kernel
theorem d_X12_book_108 : decode prog_14_method_129_code 108 = .ok (.aload_n 0, 1) := by decide +kernel
theorem d_X12_book_109 : decode prog_14_method_129_code 109 = .ok (.iload_n 3, 1) := by decide +kernel
theorem d_X12_book_110 : decode prog_14_method_129_code 110 = .ok (.iload_n 2, 1) := by decide +kernel
theorem d_X12_book_111 : decode prog_14_method_129_code 111 = .ok (.aload_n 0, 1) := by decide +kernel
theorem d_X12_book_112 : decode prog_14_method_129_code 112 = .ok (.getfield 342, 3) := by decide +kernel
theorem d_X12_book_115 : decode prog_14_method_129_code 115 = .ok (.invokevirtual 682, 3) := by decide +kernel
theorem d_X12_book_118 : decode prog_14_method_129_code 118 = .ok (.istore 4, 2) := by decide +kernel
theorem d_X12_book_120 : decode prog_14_method_129_code 120 = .ok (.iload 4, 2) := by decide +kernel
theorem d_X12_book_122 : decode prog_14_method_129_code 122 = .ok (.aload_n 0, 1) := by decide +kernel
theorem d_X12_book_123 : decode prog_14_method_129_code 123 = .ok (.getfield 296, 3) := by decide +kernel
theorem d_X12_book_126 : decode prog_14_method_129_code 126 = .ok (.bipush 31, 2) := by decide +kernel
theorem d_X12_book_128 : decode prog_14_method_129_code 128 = .ok (.iload_n 3, 1) := by decide +kernel
theorem d_X12_book_129 : decode prog_14_method_129_code 129 = .ok (.imul, 1) := by decide +kernel
theorem d_X12_book_130 : decode prog_14_method_129_code 130 = .ok (.iload_n 2, 1) := by decide +kernel
theorem d_X12_book_131 : decode prog_14_method_129_code 131 = .ok (.iadd, 1) := by decide +kernel
theorem d_X12_book_132 : decode prog_14_method_129_code 132 = .ok (.iaload, 1) := by decide +kernel
theorem d_X12_book_133 : decode prog_14_method_129_code 133 = .ok (.if_icmp .eq 82, 3) := by decide +kernel
theorem d_X12_book_136 : decode prog_14_method_129_code 136 = .ok (.aload_n 0, 1) := by decide +kernel
theorem d_X12_book_137 : decode prog_14_method_129_code 137 = .ok (.getfield 299, 3) := by decide +kernel
theorem d_X12_book_140 : decode prog_14_method_129_code 140 = .ok (.aload_n 0, 1) := by decide +kernel
theorem d_X12_book_141 : decode prog_14_method_129_code 141 = .ok (.getfield 685, 3) := by decide +kernel
theorem d_X12_book_144 : decode prog_14_method_129_code 144 = .ok (.iload_n 3, 1) := by decide +kernel
theorem d_X12_book_145 : decode prog_14_method_129_code 145 = .ok (.iastore, 1) := by decide +kernel
theorem d_X12_book_146 : decode prog_14_method_129_code 146 = .ok (.aload_n 0, 1) := by decide +kernel
theorem d_X12_book_147 : decode prog_14_method_129_code 147 = .ok (.getfield 302, 3) := by decide +kernel
theorem d_X12_book_150 : decode prog_14_method_129_code 150 = .ok (.aload_n 0, 1) := by decide +kernel
theorem d_X12_book_151 : decode prog_14_method_129_code 151 = .ok (.getfield 685, 3) := by decide +kernel
theorem d_X12_book_154 : decode prog_14_method_129_code 154 = .ok (.iload_n 2, 1) := by decide +kernel
theorem d_X12_book_155 : decode prog_14_method_129_code 155 = .ok (.iastore, 1) := by decide +kernel
theorem d_X12_book_156 : decode prog_14_method_129_code 156 = .ok (.aload_n 0, 1) := by decide +kernel
theorem d_X12_book_157 : decode prog_14_method_129_code 157 = .ok (.getfield 305, 3) := by decide +kernel
theorem d_X12_book_160 : decode prog_14_method_129_code 160 = .ok (.aload_n 0, 1) := by decide +kernel
theorem d_X12_book_161 : decode prog_14_method_129_code 161 = .ok (.getfield 685, 3) := by decide +kernel
theorem d_X12_book_164 : decode prog_14_method_129_code 164 = .ok (.iload 4, 2) := by decide +kernel
theorem d_X12_book_166 : decode prog_14_method_129_code 166 = .ok (.aload_n 0, 1) := by decide +kernel
theorem d_X12_book_167 : decode prog_14_method_129_code 167 = .ok (.getfield 296, 3) := by decide +kernel
theorem d_X12_book_170 : decode prog_14_method_129_code 170 = .ok (.bipush 31, 2) := by decide +kernel
theorem d_X12_book_172 : decode prog_14_method_129_code 172 = .ok (.iload_n 3, 1) := by decide +kernel
theorem d_X12_book_173 : decode prog_14_method_129_code 173 = .ok (.imul, 1) := by decide +kernel
theorem d_X12_book_174 : decode prog_14_method_129_code 174 = .ok (.iload_n 2, 1) := by decide +kernel
theorem d_X12_book_175 : decode prog_14_method_129_code 175 = .ok (.iadd, 1) := by decide +kernel
theorem d_X12_book_176 : decode prog_14_method_129_code 176 = .ok (.iaload, 1) := by decide +kernel
theorem d_X12_book_177 : decode prog_14_method_129_code 177 = .ok (.isub, 1) := by decide +kernel
theorem d_X12_book_178 : decode prog_14_method_129_code 178 = .ok (.iastore, 1) := by decide +kernel
theorem d_X12_book_179 : decode prog_14_method_129_code 179 = .ok (.aload_n 0, 1) := by decide +kernel
theorem d_X12_book_180 : decode prog_14_method_129_code 180 = .ok (.getfield 308, 3) := by decide +kernel
theorem d_X12_book_183 : decode prog_14_method_129_code 183 = .ok (.aload_n 0, 1) := by decide +kernel
theorem d_X12_book_184 : decode prog_14_method_129_code 184 = .ok (.getfield 685, 3) := by decide +kernel
theorem d_X12_book_187 : decode prog_14_method_129_code 187 = .ok (.aload_n 0, 1) := by decide +kernel
theorem d_X12_book_188 : decode prog_14_method_129_code 188 = .ok (.getfield 342, 3) := by decide +kernel
theorem d_X12_book_191 : decode prog_14_method_129_code 191 = .ok (.iastore, 1) := by decide +kernel
theorem d_X12_book_192 : decode prog_14_method_129_code 192 = .ok (.aload_n 0, 1) := by decide +kernel
theorem d_X12_book_193 : decode prog_14_method_129_code 193 = .ok (.dup, 1) := by decide +kernel
theorem d_X12_book_194 : decode prog_14_method_129_code 194 = .ok (.getfield 685, 3) := by decide +kernel
theorem d_X12_book_197 : decode prog_14_method_129_code 197 = .ok (.iconst 1, 1) := by decide +kernel
theorem d_X12_book_198 : decode prog_14_method_129_code 198 = .ok (.iadd, 1) := by decide +kernel
theorem d_X12_book_199 : decode prog_14_method_129_code 199 = .ok (.putfield 685, 3) := by decide +kernel
theorem d_X12_book_202 : decode prog_14_method_129_code 202 = .ok (.aload_n 0, 1) := by decide +kernel
theorem d_X12_book_203 : decode prog_14_method_129_code 203 = .ok (.getfield 296, 3) := by decide +kernel
theorem d_X12_book_206 : decode prog_14_method_129_code 206 = .ok (.bipush 31, 2) := by decide +kernel
theorem d_X12_book_208 : decode prog_14_method_129_code 208 = .ok (.iload_n 3, 1) := by decide +kernel
theorem d_X12_book_209 : decode prog_14_method_129_code 209 = .ok (.imul, 1) := by decide +kernel
theorem d_X12_book_210 : decode prog_14_method_129_code 210 = .ok (.iload_n 2, 1) := by decide +kernel
theorem d_X12_book_211 : decode prog_14_method_129_code 211 = .ok (.iadd, 1) := by decide +kernel
theorem d_X12_book_212 : decode prog_14_method_129_code 212 = .ok (.iload 4, 2) := by decide +kernel
theorem d_X12_book_214 : decode prog_14_method_129_code 214 = .ok (.iastore, 1) := by decide +kernel
theorem d_X12_book_215 : decode prog_14_method_129_code 215 = .ok (.iinc 3 1, 3) := by decide +kernel
theorem d_X12_book_218 : decode prog_14_method_129_code 218 = .ok (.goto (-118), 3) := by decide +kernel
theorem d_X12_book_221 : decode prog_14_method_129_code 221 = .ok (.iinc 2 1, 3) := by decide +kernel
theorem d_X12_book_224 : decode prog_14_method_129_code 224 = .ok (.goto (-138), 3) := by decide +kernel
theorem d_X12_book_227 : decode prog_14_method_129_code 227 = .ok (.iload_n 1, 1) := by decide +kernel
theorem d_X12_book_228 : decode prog_14_method_129_code 228 = .ok (.ireturn, 1) := by decide +kernel
theorem d_X12_line_0 : decode prog_14_method_130_code 0 = .ok (.iload_n 1, 1) := by decide +kernel
theorem d_X12_line_1 : decode prog_14_method_130_code 1 = .ok (.iconst 0, 1) := by decide +kernel
theorem d_X12_line_2 : decode prog_14_method_130_code 2 = .ok (.aload_n 0, 1) := by decide +kernel
theorem d_X12_line_3 : decode prog_14_method_130_code 3 = .ok (.getfield 685, 3) := by decide +kernel
theorem d_X12_line_6 : decode prog_14_method_130_code 6 = .ok (.iconst 1, 1) := by decide +kernel
theorem d_X12_line_7 : decode prog_14_method_130_code 7 = .ok (.isub, 1) := by decide +kernel
theorem d_X12_line_8 : decode prog_14_method_130_code 8 = .ok (.invokestatic 323, 3) := by decide +kernel
theorem d_X12_line_11 : decode prog_14_method_130_code 11 = .ok (.ifCond .ne 7, 3) := by decide +kernel
theorem d_X12_line_14 : decode prog_14_method_130_code 14 = .ok (.ldc_w 688, 3) := by decide +kernel
theorem d_X12_line_17 : decode prog_14_method_130_code 17 = .ok (.ireturn, 1) := by decide +kernel
theorem d_X12_line_18 : decode prog_14_method_130_code 18 = .ok (.iload_n 2, 1) := by decide +kernel
theorem d_X12_line_19 : decode prog_14_method_130_code 19 = .ok (.tableswitch 57 0 3 #[29, 36, 43, 50], 29) := by decide +kernel
theorem d_X12_line_48 : decode prog_14_method_130_code 48 = .ok (.aload_n 0, 1) := by decide +kernel
theorem d_X12_line_49 : decode prog_14_method_130_code 49 = .ok (.getfield 299, 3) := by decide +kernel
theorem d_X12_line_52 : decode prog_14_method_130_code 52 = .ok (.iload_n 1, 1) := by decide +kernel
theorem d_X12_line_53 : decode prog_14_method_130_code 53 = .ok (.iaload, 1) := by decide +kernel
theorem d_X12_line_54 : decode prog_14_method_130_code 54 = .ok (.ireturn, 1) := by decide +kernel
theorem d_X12_line_55 : decode prog_14_method_130_code 55 = .ok (.aload_n 0, 1) := by decide +kernel
theorem d_X12_line_56 : decode prog_14_method_130_code 56 = .ok (.getfield 302, 3) := by decide +kernel
theorem d_X12_line_59 : decode prog_14_method_130_code 59 = .ok (.iload_n 1, 1) := by decide +kernel
theorem d_X12_line_60 : decode prog_14_method_130_code 60 = .ok (.iaload, 1) := by decide +kernel
theorem d_X12_line_61 : decode prog_14_method_130_code 61 = .ok (.ireturn, 1) := by decide +kernel
theorem d_X12_line_62 : decode prog_14_method_130_code 62 = .ok (.aload_n 0, 1) := by decide +kernel
theorem d_X12_line_63 : decode prog_14_method_130_code 63 = .ok (.getfield 305, 3) := by decide +kernel
theorem d_X12_line_66 : decode prog_14_method_130_code 66 = .ok (.iload_n 1, 1) := by decide +kernel
theorem d_X12_line_67 : decode prog_14_method_130_code 67 = .ok (.iaload, 1) := by decide +kernel
theorem d_X12_line_68 : decode prog_14_method_130_code 68 = .ok (.ireturn, 1) := by decide +kernel
theorem d_X12_line_69 : decode prog_14_method_130_code 69 = .ok (.aload_n 0, 1) := by decide +kernel
theorem d_X12_line_70 : decode prog_14_method_130_code 70 = .ok (.getfield 308, 3) := by decide +kernel
theorem d_X12_line_73 : decode prog_14_method_130_code 73 = .ok (.iload_n 1, 1) := by decide +kernel
theorem d_X12_line_74 : decode prog_14_method_130_code 74 = .ok (.iaload, 1) := by decide +kernel
theorem d_X12_line_75 : decode prog_14_method_130_code 75 = .ok (.ireturn, 1) := by decide +kernel
theorem d_X12_line_76 : decode prog_14_method_130_code 76 = .ok (.ldc_w 688, 3) := by decide +kernel
theorem d_X12_line_79 : decode prog_14_method_130_code 79 = .ok (.ireturn, 1) := by decide +kernel
theorem d_X12_mark_0 : decode prog_14_method_131_code 0 = .ok (.iload_n 1, 1) := by decide +kernel
theorem d_X12_mark_1 : decode prog_14_method_131_code 1 = .ok (.iconst 0, 1) := by decide +kernel
theorem d_X12_mark_2 : decode prog_14_method_131_code 2 = .ok (.iconst 3, 1) := by decide +kernel
theorem d_X12_mark_3 : decode prog_14_method_131_code 3 = .ok (.invokestatic 323, 3) := by decide +kernel
theorem d_X12_mark_6 : decode prog_14_method_131_code 6 = .ok (.ifCond .eq 21, 3) := by decide +kernel
theorem d_X12_mark_9 : decode prog_14_method_131_code 9 = .ok (.aload_n 0, 1) := by decide +kernel
theorem d_X12_mark_10 : decode prog_14_method_131_code 10 = .ok (.iload_n 2, 1) := by decide +kernel
theorem d_X12_mark_11 : decode prog_14_method_131_code 11 = .ok (.invokevirtual 345, 3) := by decide +kernel
theorem d_X12_mark_14 : decode prog_14_method_131_code 14 = .ok (.ifCond .eq 13, 3) := by decide +kernel
theorem d_X12_mark_17 : decode prog_14_method_131_code 17 = .ok (.iload_n 3, 1) := by decide +kernel
theorem d_X12_mark_18 : decode prog_14_method_131_code 18 = .ok (.iconst 0, 1) := by decide +kernel
theorem d_X12_mark_19 : decode prog_14_method_131_code 19 = .ok (.bipush 10, 2) := by decide +kernel
theorem d_X12_mark_21 : decode prog_14_method_131_code 21 = .ok (.invokestatic 323, 3) := by decide +kernel
theorem d_X12_mark_24 : decode prog_14_method_131_code 24 = .ok (.ifCond .ne 5, 3) := by decide +kernel
theorem d_X12_mark_27 : decode prog_14_method_131_code 27 = .ok (.iconst 0, 1) := by decide +kernel
theorem d_X12_mark_28 : decode prog_14_method_131_code 28 = .ok (.ireturn, 1) := by decide +kernel
theorem d_X12_mark_29 : decode prog_14_method_131_code 29 = .ok (.aload_n 0, 1) := by decide +kernel
theorem d_X12_mark_30 : decode prog_14_method_131_code 30 = .ok (.getfield 311, 3) := by decide +kernel
theorem d_X12_mark_33 : decode prog_14_method_131_code 33 = .ok (.bipush 12, 2) := by decide +kernel
theorem d_X12_mark_35 : decode prog_14_method_131_code 35 = .ok (.iload_n 1, 1) := by decide +kernel
theorem d_X12_mark_36 : decode prog_14_method_131_code 36 = .ok (.imul, 1) := by decide +kernel
theorem d_X12_mark_37 : decode prog_14_method_131_code 37 = .ok (.iload_n 2, 1) := by decide +kernel
theorem d_X12_mark_38 : decode prog_14_method_131_code 38 = .ok (.iadd, 1) := by decide +kernel
theorem d_X12_mark_39 : decode prog_14_method_131_code 39 = .ok (.iload_n 3, 1) := by decide +kernel
theorem d_X12_mark_40 : decode prog_14_method_131_code 40 = .ok (.iastore, 1) := by decide +kernel
theorem d_X12_mark_41 : decode prog_14_method_131_code 41 = .ok (.aload_n 0, 1) := by decide +kernel
theorem d_X12_mark_42 : decode prog_14_method_131_code 42 = .ok (.getfield 314, 3) := by decide +kernel
theorem d_X12_mark_45 : decode prog_14_method_131_code 45 = .ok (.bipush 12, 2) := by decide +kernel
theorem d_X12_mark_47 : decode prog_14_method_131_code 47 = .ok (.iload_n 1, 1) := by decide +kernel
theorem d_X12_mark_48 : decode prog_14_method_131_code 48 = .ok (.imul, 1) := by decide +kernel
theorem d_X12_mark_49 : decode prog_14_method_131_code 49 = .ok (.iload_n 2, 1) := by decide +kernel
theorem d_X12_mark_50 : decode prog_14_method_131_code 50 = .ok (.iadd, 1) := by decide +kernel
theorem d_X12_mark_51 : decode prog_14_method_131_code 51 = .ok (.iconst 1, 1) := by decide +kernel
theorem d_X12_mark_52 : decode prog_14_method_131_code 52 = .ok (.bastore, 1) := by decide +kernel
theorem d_X12_mark_53 : decode prog_14_method_131_code 53 = .ok (.iconst 1, 1) := by decide +kernel
theorem d_X12_mark_54 : decode prog_14_method_131_code 54 = .ok (.ireturn, 1) := by decide +kernel
theorem d_X12_size_0 : decode prog_14_method_132_code 0 = .ok (.iload_n 1, 1) := by decide +kernel
theorem d_X12_size_1 : decode prog_14_method_132_code 1 = .ok (.iconst 1, 1) := by decide +kernel
theorem d_X12_size_2 : decode prog_14_method_132_code 2 = .ok (.bipush 12, 2) := by decide +kernel
theorem d_X12_size_4 : decode prog_14_method_132_code 4 = .ok (.invokestatic 323, 3) := by decide +kernel
theorem d_X12_size_7 : decode prog_14_method_132_code 7 = .ok (.ifCond .ne 5, 3) := by decide +kernel
theorem d_X12_size_10 : decode prog_14_method_132_code 10 = .ok (.iconst 0, 1) := by decide +kernel
theorem d_X12_size_11 : decode prog_14_method_132_code 11 = .ok (.ireturn, 1) := by decide +kernel
theorem d_X12_size_12 : decode prog_14_method_132_code 12 = .ok (.aload_n 0, 1) := by decide +kernel
theorem d_X12_size_13 : decode prog_14_method_132_code 13 = .ok (.iload_n 1, 1) := by decide +kernel
theorem d_X12_size_14 : decode prog_14_method_132_code 14 = .ok (.putfield 317, 3) := by decide +kernel
theorem d_X12_size_17 : decode prog_14_method_132_code 17 = .ok (.iconst 1, 1) := by decide +kernel
theorem d_X12_size_18 : decode prog_14_method_132_code 18 = .ok (.ireturn, 1) := by decide +kernel
theorem d_X12_habit_0 : decode prog_14_method_133_code 0 = .ok (.iload_n 1, 1) := by decide +kernel
theorem d_X12_habit_1 : decode prog_14_method_133_code 1 = .ok (.iconst 0, 1) := by decide +kernel
theorem d_X12_habit_2 : decode prog_14_method_133_code 2 = .ok (.iconst 3, 1) := by decide +kernel
theorem d_X12_habit_3 : decode prog_14_method_133_code 3 = .ok (.invokestatic 323, 3) := by decide +kernel
theorem d_X12_habit_6 : decode prog_14_method_133_code 6 = .ok (.ifCond .eq 17, 3) := by decide +kernel
theorem d_X12_habit_9 : decode prog_14_method_133_code 9 = .ok (.iload_n 2, 1) := by decide +kernel
theorem d_X12_habit_10 : decode prog_14_method_133_code 10 = .ok (.iconst 0, 1) := by decide +kernel
theorem d_X12_habit_11 : decode prog_14_method_133_code 11 = .ok (.iconst 3, 1) := by decide +kernel
theorem d_X12_habit_12 : decode prog_14_method_133_code 12 = .ok (.invokestatic 323, 3) := by decide +kernel
theorem d_X12_habit_15 : decode prog_14_method_133_code 15 = .ok (.ifCond .eq 8, 3) := by decide +kernel
theorem d_X12_habit_18 : decode prog_14_method_133_code 18 = .ok (.iload_n 1, 1) := by decide +kernel
theorem d_X12_habit_19 : decode prog_14_method_133_code 19 = .ok (.iload_n 2, 1) := by decide +kernel
theorem d_X12_habit_20 : decode prog_14_method_133_code 20 = .ok (.if_icmp .ne 7, 3) := by decide +kernel
theorem d_X12_habit_23 : decode prog_14_method_133_code 23 = .ok (.ldc_w 688, 3) := by decide +kernel
theorem d_X12_habit_26 : decode prog_14_method_133_code 26 = .ok (.ireturn, 1) := by decide +kernel
theorem d_X12_habit_27 : decode prog_14_method_133_code 27 = .ok (.iconst 0, 1) := by decide +kernel
theorem d_X12_habit_28 : decode prog_14_method_133_code 28 = .ok (.istore_n 3, 1) := by decide +kernel
theorem d_X12_habit_29 : decode prog_14_method_133_code 29 = .ok (.iconst 0, 1) := by decide +kernel
theorem d_X12_habit_30 : decode prog_14_method_133_code 30 = .ok (.istore 4, 2) := by decide +kernel
theorem d_X12_habit_32 : decode prog_14_method_133_code 32 = .ok (.iconst 0, 1) := by decide +kernel
theorem d_X12_habit_33 : decode prog_14_method_133_code 33 = .ok (.istore 5, 2) := by decide +kernel
theorem d_X12_habit_35 : decode prog_14_method_133_code 35 = .ok (.iload 5, 2) := by decide +kernel
theorem d_X12_habit_37 : decode prog_14_method_133_code 37 = .ok (.aload_n 0, 1) := by decide +kernel
theorem d_X12_habit_38 : decode prog_14_method_133_code 38 = .ok (.getfield 339, 3) := by decide +kernel
theorem d_X12_habit_41 : decode prog_14_method_133_code 41 = .ok (.if_icmp .ge 72, 3) := by decide +kernel
theorem d_X12_habit_44 : decode prog_14_method_133_code 44 = .ok (.aload_n 0, 1) := by decide +kernel
theorem d_X12_habit_45 : decode prog_14_method_133_code 45 = .ok (.getfield 314, 3) := by decide +kernel
theorem d_X12_habit_48 : decode prog_14_method_133_code 48 = .ok (.bipush 12, 2) := by decide +kernel
theorem d_X12_habit_50 : decode prog_14_method_133_code 50 = .ok (.iload_n 1, 1) := by decide +kernel
theorem d_X12_habit_51 : decode prog_14_method_133_code 51 = .ok (.imul, 1) := by decide +kernel
theorem d_X12_habit_52 : decode prog_14_method_133_code 52 = .ok (.iload 5, 2) := by decide +kernel
theorem d_X12_habit_54 : decode prog_14_method_133_code 54 = .ok (.iadd, 1) := by decide +kernel
theorem d_X12_habit_55 : decode prog_14_method_133_code 55 = .ok (.baload, 1) := by decide +kernel
theorem d_X12_habit_56 : decode prog_14_method_133_code 56 = .ok (.ifCond .eq 51, 3) := by decide +kernel
theorem d_X12_habit_59 : decode prog_14_method_133_code 59 = .ok (.aload_n 0, 1) := by decide +kernel
theorem d_X12_habit_60 : decode prog_14_method_133_code 60 = .ok (.getfield 314, 3) := by decide +kernel
theorem d_X12_habit_63 : decode prog_14_method_133_code 63 = .ok (.bipush 12, 2) := by decide +kernel
theorem d_X12_habit_65 : decode prog_14_method_133_code 65 = .ok (.iload_n 2, 1) := by decide +kernel
theorem d_X12_habit_66 : decode prog_14_method_133_code 66 = .ok (.imul, 1) := by decide +kernel
theorem d_X12_habit_67 : decode prog_14_method_133_code 67 = .ok (.iload 5, 2) := by decide +kernel
theorem d_X12_habit_69 : decode prog_14_method_133_code 69 = .ok (.iadd, 1) := by decide +kernel
theorem d_X12_habit_70 : decode prog_14_method_133_code 70 = .ok (.baload, 1) := by decide +kernel
theorem d_X12_habit_71 : decode prog_14_method_133_code 71 = .ok (.ifCond .eq 36, 3) := by decide +kernel
theorem d_X12_habit_74 : decode prog_14_method_133_code 74 = .ok (.iinc 3 1, 3) := by decide +kernel
theorem d_X12_habit_77 : decode prog_14_method_133_code 77 = .ok (.iload 4, 2) := by decide +kernel
theorem d_X12_habit_79 : decode prog_14_method_133_code 79 = .ok (.aload_n 0, 1) := by decide +kernel
theorem d_X12_habit_80 : decode prog_14_method_133_code 80 = .ok (.getfield 311, 3) := by decide +kernel
theorem d_X12_habit_83 : decode prog_14_method_133_code 83 = .ok (.bipush 12, 2) := by decide +kernel
theorem d_X12_habit_85 : decode prog_14_method_133_code 85 = .ok (.iload_n 1, 1) := by decide +kernel
theorem d_X12_habit_86 : decode prog_14_method_133_code 86 = .ok (.imul, 1) := by decide +kernel
theorem d_X12_habit_87 : decode prog_14_method_133_code 87 = .ok (.iload 5, 2) := by decide +kernel
theorem d_X12_habit_89 : decode prog_14_method_133_code 89 = .ok (.iadd, 1) := by decide +kernel
theorem d_X12_habit_90 : decode prog_14_method_133_code 90 = .ok (.iaload, 1) := by decide +kernel
theorem d_X12_habit_91 : decode prog_14_method_133_code 91 = .ok (.aload_n 0, 1) := by decide +kernel
theorem d_X12_habit_92 : decode prog_14_method_133_code 92 = .ok (.getfield 311, 3) := by decide +kernel
theorem d_X12_habit_95 : decode prog_14_method_133_code 95 = .ok (.bipush 12, 2) := by decide +kernel
theorem d_X12_habit_97 : decode prog_14_method_133_code 97 = .ok (.iload_n 2, 1) := by decide +kernel
theorem d_X12_habit_98 : decode prog_14_method_133_code 98 = .ok (.imul, 1) := by decide +kernel
theorem d_X12_habit_99 : decode prog_14_method_133_code 99 = .ok (.iload 5, 2) := by decide +kernel
theorem d_X12_habit_101 : decode prog_14_method_133_code 101 = .ok (.iadd, 1) := by decide +kernel
theorem d_X12_habit_102 : decode prog_14_method_133_code 102 = .ok (.iaload, 1) := by decide +kernel
theorem d_X12_habit_103 : decode prog_14_method_133_code 103 = .ok (.isub, 1) := by decide +kernel
theorem d_X12_habit_104 : decode prog_14_method_133_code 104 = .ok (.iadd, 1) := by decide +kernel
theorem d_X12_habit_105 : decode prog_14_method_133_code 105 = .ok (.istore 4, 2) := by decide +kernel
theorem d_X12_habit_107 : decode prog_14_method_133_code 107 = .ok (.iinc 5 1, 3) := by decide +kernel
theorem d_X12_habit_110 : decode prog_14_method_133_code 110 = .ok (.goto (-75), 3) := by decide +kernel
theorem d_X12_habit_113 : decode prog_14_method_133_code 113 = .ok (.iload_n 3, 1) := by decide +kernel
theorem d_X12_habit_114 : decode prog_14_method_133_code 114 = .ok (.aload_n 0, 1) := by decide +kernel
theorem d_X12_habit_115 : decode prog_14_method_133_code 115 = .ok (.getfield 317, 3) := by decide +kernel
theorem d_X12_habit_118 : decode prog_14_method_133_code 118 = .ok (.if_icmp .ge 9, 3) := by decide +kernel
theorem d_X12_habit_121 : decode prog_14_method_133_code 121 = .ok (.ldc_w 688, 3) := by decide +kernel
theorem d_X12_habit_124 : decode prog_14_method_133_code 124 = .ok (.goto 5, 3) := by decide +kernel
theorem d_X12_habit_127 : decode prog_14_method_133_code 127 = .ok (.iload 4, 2) := by decide +kernel
theorem d_X12_habit_129 : decode prog_14_method_133_code 129 = .ok (.ireturn, 1) := by decide +kernel
theorem d_X12_count_0 : decode prog_14_method_134_code 0 = .ok (.iconst 0, 1) := by decide +kernel
theorem d_X12_count_1 : decode prog_14_method_134_code 1 = .ok (.istore_n 2, 1) := by decide +kernel
theorem d_X12_count_2 : decode prog_14_method_134_code 2 = .ok (.iconst 0, 1) := by decide +kernel
theorem d_X12_count_3 : decode prog_14_method_134_code 3 = .ok (.istore_n 3, 1) := by decide +kernel
theorem d_X12_count_4 : decode prog_14_method_134_code 4 = .ok (.iconst 0, 1) := by decide +kernel
theorem d_X12_count_5 : decode prog_14_method_134_code 5 = .ok (.istore 4, 2) := by decide +kernel
theorem d_X12_count_7 : decode prog_14_method_134_code 7 = .ok (.iload 4, 2) := by decide +kernel
theorem d_X12_count_9 : decode prog_14_method_134_code 9 = .ok (.aload_n 0, 1) := by decide +kernel
theorem d_X12_count_10 : decode prog_14_method_134_code 10 = .ok (.getfield 562, 3) := by decide +kernel
theorem d_X12_count_13 : decode prog_14_method_134_code 13 = .ok (.if_icmp .ge 27, 3) := by decide +kernel
theorem d_X12_count_16 : decode prog_14_method_134_code 16 = .ok (.iload_n 2, 1) := by decide +kernel
theorem d_X12_count_17 : decode prog_14_method_134_code 17 = .ok (.aload_n 0, 1) := by decide +kernel
theorem d_X12_count_18 : decode prog_14_method_134_code 18 = .ok (.getfield 175, 3) := by decide +kernel
theorem d_X12_count_21 : decode prog_14_method_134_code 21 = .ok (.iload 4, 2) := by decide +kernel
theorem d_X12_count_23 : decode prog_14_method_134_code 23 = .ok (.baload, 1) := by decide +kernel
theorem d_X12_count_24 : decode prog_14_method_134_code 24 = .ok (.ifCond .eq 7, 3) := by decide +kernel
theorem d_X12_count_27 : decode prog_14_method_134_code 27 = .ok (.iconst 1, 1) := by decide +kernel
theorem d_X12_count_28 : decode prog_14_method_134_code 28 = .ok (.goto 4, 3) := by decide +kernel
theorem d_X12_count_31 : decode prog_14_method_134_code 31 = .ok (.iconst 0, 1) := by decide +kernel
theorem d_X12_count_32 : decode prog_14_method_134_code 32 = .ok (.iadd, 1) := by decide +kernel
theorem d_X12_count_33 : decode prog_14_method_134_code 33 = .ok (.istore_n 2, 1) := by decide +kernel
theorem d_X12_count_34 : decode prog_14_method_134_code 34 = .ok (.iinc 4 1, 3) := by decide +kernel
theorem d_X12_count_37 : decode prog_14_method_134_code 37 = .ok (.goto (-30), 3) := by decide +kernel
theorem d_X12_count_40 : decode prog_14_method_134_code 40 = .ok (.iconst 0, 1) := by decide +kernel
theorem d_X12_count_41 : decode prog_14_method_134_code 41 = .ok (.istore 4, 2) := by decide +kernel
theorem d_X12_count_43 : decode prog_14_method_134_code 43 = .ok (.iload 4, 2) := by decide +kernel
theorem d_X12_count_45 : decode prog_14_method_134_code 45 = .ok (.aload_n 0, 1) := by decide +kernel
theorem d_X12_count_46 : decode prog_14_method_134_code 46 = .ok (.getfield 685, 3) := by decide +kernel
theorem d_X12_count_49 : decode prog_14_method_134_code 49 = .ok (.if_icmp .ge 19, 3) := by decide +kernel
theorem d_X12_count_52 : decode prog_14_method_134_code 52 = .ok (.iload_n 3, 1) := by decide +kernel
theorem d_X12_count_53 : decode prog_14_method_134_code 53 = .ok (.aload_n 0, 1) := by decide +kernel
theorem d_X12_count_54 : decode prog_14_method_134_code 54 = .ok (.getfield 305, 3) := by decide +kernel
theorem d_X12_count_57 : decode prog_14_method_134_code 57 = .ok (.iload 4, 2) := by decide +kernel
theorem d_X12_count_59 : decode prog_14_method_134_code 59 = .ok (.iaload, 1) := by decide +kernel
theorem d_X12_count_60 : decode prog_14_method_134_code 60 = .ok (.iadd, 1) := by decide +kernel
theorem d_X12_count_61 : decode prog_14_method_134_code 61 = .ok (.istore_n 3, 1) := by decide +kernel
theorem d_X12_count_62 : decode prog_14_method_134_code 62 = .ok (.iinc 4 1, 3) := by decide +kernel
theorem d_X12_count_65 : decode prog_14_method_134_code 65 = .ok (.goto (-22), 3) := by decide +kernel
theorem d_X12_count_68 : decode prog_14_method_134_code 68 = .ok (.iload_n 1, 1) := by decide +kernel
theorem d_X12_count_69 : decode prog_14_method_134_code 69 = .ok (.tableswitch 184 0 18 #[91, 96, 101, 106, 111, 116, 121, 123, 130, 135, 140, 145, 150, 155, 160, 165, 172, 177, 179], 91) := by decide +kernel
theorem d_X12_count_160 : decode prog_14_method_134_code 160 = .ok (.aload_n 0, 1) := by decide +kernel
theorem d_X12_count_161 : decode prog_14_method_134_code 161 = .ok (.getfield 342, 3) := by decide +kernel
theorem d_X12_count_164 : decode prog_14_method_134_code 164 = .ok (.ireturn, 1) := by decide +kernel
theorem d_X12_count_165 : decode prog_14_method_134_code 165 = .ok (.aload_n 0, 1) := by decide +kernel
theorem d_X12_count_166 : decode prog_14_method_134_code 166 = .ok (.getfield 331, 3) := by decide +kernel
theorem d_X12_count_169 : decode prog_14_method_134_code 169 = .ok (.ireturn, 1) := by decide +kernel
theorem d_X12_count_170 : decode prog_14_method_134_code 170 = .ok (.aload_n 0, 1) := by decide +kernel
theorem d_X12_count_171 : decode prog_14_method_134_code 171 = .ok (.getfield 339, 3) := by decide +kernel
theorem d_X12_count_174 : decode prog_14_method_134_code 174 = .ok (.ireturn, 1) := by decide +kernel
theorem d_X12_count_175 : decode prog_14_method_134_code 175 = .ok (.aload_n 0, 1) := by decide +kernel
theorem d_X12_count_176 : decode prog_14_method_134_code 176 = .ok (.getfield 413, 3) := by decide +kernel
theorem d_X12_count_179 : decode prog_14_method_134_code 179 = .ok (.ireturn, 1) := by decide +kernel
theorem d_X12_count_180 : decode prog_14_method_134_code 180 = .ok (.aload_n 0, 1) := by decide +kernel
theorem d_X12_count_181 : decode prog_14_method_134_code 181 = .ok (.getfield 507, 3) := by decide +kernel
theorem d_X12_count_184 : decode prog_14_method_134_code 184 = .ok (.ireturn, 1) := by decide +kernel
theorem d_X12_count_185 : decode prog_14_method_134_code 185 = .ok (.aload_n 0, 1) := by decide +kernel
theorem d_X12_count_186 : decode prog_14_method_134_code 186 = .ok (.getfield 562, 3) := by decide +kernel
theorem d_X12_count_189 : decode prog_14_method_134_code 189 = .ok (.ireturn, 1) := by decide +kernel
theorem d_X12_count_190 : decode prog_14_method_134_code 190 = .ok (.iload_n 2, 1) := by decide +kernel
theorem d_X12_count_191 : decode prog_14_method_134_code 191 = .ok (.ireturn, 1) := by decide +kernel
theorem d_X12_count_192 : decode prog_14_method_134_code 192 = .ok (.aload_n 0, 1) := by decide +kernel
theorem d_X12_count_193 : decode prog_14_method_134_code 193 = .ok (.getfield 117, 3) := by decide +kernel
theorem d_X12_count_196 : decode prog_14_method_134_code 196 = .ok (.iconst 0, 1) := by decide +kernel
theorem d_X12_count_197 : decode prog_14_method_134_code 197 = .ok (.iaload, 1) := by decide +kernel
theorem d_X12_count_198 : decode prog_14_method_134_code 198 = .ok (.ireturn, 1) := by decide +kernel
theorem d_X12_count_199 : decode prog_14_method_134_code 199 = .ok (.aload_n 0, 1) := by decide +kernel
theorem d_X12_count_200 : decode prog_14_method_134_code 200 = .ok (.getfield 516, 3) := by decide +kernel
theorem d_X12_count_203 : decode prog_14_method_134_code 203 = .ok (.ireturn, 1) := by decide +kernel
theorem d_X12_count_204 : decode prog_14_method_134_code 204 = .ok (.aload_n 0, 1) := by decide +kernel
theorem d_X12_count_205 : decode prog_14_method_134_code 205 = .ok (.getfield 576, 3) := by decide +kernel
theorem d_X12_count_208 : decode prog_14_method_134_code 208 = .ok (.ireturn, 1) := by decide +kernel
theorem d_X12_count_209 : decode prog_14_method_134_code 209 = .ok (.aload_n 0, 1) := by decide +kernel
theorem d_X12_count_210 : decode prog_14_method_134_code 210 = .ok (.getfield 591, 3) := by decide +kernel
theorem d_X12_count_213 : decode prog_14_method_134_code 213 = .ok (.ireturn, 1) := by decide +kernel
theorem d_X12_count_214 : decode prog_14_method_134_code 214 = .ok (.aload_n 0, 1) := by decide +kernel
theorem d_X12_count_215 : decode prog_14_method_134_code 215 = .ok (.getfield 620, 3) := by decide +kernel
theorem d_X12_count_218 : decode prog_14_method_134_code 218 = .ok (.ireturn, 1) := by decide +kernel
theorem d_X12_count_219 : decode prog_14_method_134_code 219 = .ok (.aload_n 0, 1) := by decide +kernel
theorem d_X12_count_220 : decode prog_14_method_134_code 220 = .ok (.getfield 623, 3) := by decide +kernel
theorem d_X12_count_223 : decode prog_14_method_134_code 223 = .ok (.ireturn, 1) := by decide +kernel
theorem d_X12_count_224 : decode prog_14_method_134_code 224 = .ok (.aload_n 0, 1) := by decide +kernel
theorem d_X12_count_225 : decode prog_14_method_134_code 225 = .ok (.getfield 641, 3) := by decide +kernel
theorem d_X12_count_228 : decode prog_14_method_134_code 228 = .ok (.ireturn, 1) := by decide +kernel
theorem d_X12_count_229 : decode prog_14_method_134_code 229 = .ok (.aload_n 0, 1) := by decide +kernel
theorem d_X12_count_230 : decode prog_14_method_134_code 230 = .ok (.getfield 665, 3) := by decide +kernel
theorem d_X12_count_233 : decode prog_14_method_134_code 233 = .ok (.ireturn, 1) := by decide +kernel
theorem d_X12_count_234 : decode prog_14_method_134_code 234 = .ok (.aload_n 0, 1) := by decide +kernel
theorem d_X12_count_235 : decode prog_14_method_134_code 235 = .ok (.getfield 117, 3) := by decide +kernel
theorem d_X12_count_238 : decode prog_14_method_134_code 238 = .ok (.iconst 1, 1) := by decide +kernel
theorem d_X12_count_239 : decode prog_14_method_134_code 239 = .ok (.iaload, 1) := by decide +kernel
theorem d_X12_count_240 : decode prog_14_method_134_code 240 = .ok (.ireturn, 1) := by decide +kernel
theorem d_X12_count_241 : decode prog_14_method_134_code 241 = .ok (.aload_n 0, 1) := by decide +kernel
theorem d_X12_count_242 : decode prog_14_method_134_code 242 = .ok (.getfield 685, 3) := by decide +kernel
theorem d_X12_count_245 : decode prog_14_method_134_code 245 = .ok (.ireturn, 1) := by decide +kernel
theorem d_X12_count_246 : decode prog_14_method_134_code 246 = .ok (.iload_n 3, 1) := by decide +kernel
theorem d_X12_count_247 : decode prog_14_method_134_code 247 = .ok (.ireturn, 1) := by decide +kernel
theorem d_X12_count_248 : decode prog_14_method_134_code 248 = .ok (.aload_n 0, 1) := by decide +kernel
theorem d_X12_count_249 : decode prog_14_method_134_code 249 = .ok (.getfield 362, 3) := by decide +kernel
theorem d_X12_count_252 : decode prog_14_method_134_code 252 = .ok (.ireturn, 1) := by decide +kernel
theorem d_X12_count_253 : decode prog_14_method_134_code 253 = .ok (.iconst (-1), 1) := by decide +kernel
theorem d_X12_count_254 : decode prog_14_method_134_code 254 = .ok (.ireturn, 1) := by decide +kernel
theorem d_J11_isValidCodePoint_9a6ad_0 : decode prog_15_method_11_code 0 = .ok (.iload_n 0, 1) := by decide +kernel
theorem d_J11_isValidCodePoint_9a6ad_1 : decode prog_15_method_11_code 1 = .ok (.bipush 16, 2) := by decide +kernel
theorem d_J11_isValidCodePoint_9a6ad_3 : decode prog_15_method_11_code 3 = .ok (.iushr, 1) := by decide +kernel
theorem d_J11_isValidCodePoint_9a6ad_4 : decode prog_15_method_11_code 4 = .ok (.istore_n 1, 1) := by decide +kernel
theorem d_J11_isValidCodePoint_9a6ad_5 : decode prog_15_method_11_code 5 = .ok (.iload_n 1, 1) := by decide +kernel
theorem d_J11_isValidCodePoint_9a6ad_6 : decode prog_15_method_11_code 6 = .ok (.bipush 17, 2) := by decide +kernel
theorem d_J11_isValidCodePoint_9a6ad_8 : decode prog_15_method_11_code 8 = .ok (.if_icmp .ge 7, 3) := by decide +kernel
theorem d_J11_isValidCodePoint_9a6ad_11 : decode prog_15_method_11_code 11 = .ok (.iconst 1, 1) := by decide +kernel
theorem d_J11_isValidCodePoint_9a6ad_12 : decode prog_15_method_11_code 12 = .ok (.goto 4, 3) := by decide +kernel
theorem d_J11_isValidCodePoint_9a6ad_15 : decode prog_15_method_11_code 15 = .ok (.iconst 0, 1) := by decide +kernel
theorem d_J11_isValidCodePoint_9a6ad_16 : decode prog_15_method_11_code 16 = .ok (.ireturn, 1) := by decide +kernel
theorem d_J11_highSurrogate_5068e_0 : decode prog_15_method_28_code 0 = .ok (.iload_n 0, 1) := by decide +kernel
theorem d_J11_highSurrogate_5068e_1 : decode prog_15_method_28_code 1 = .ok (.bipush 10, 2) := by decide +kernel
theorem d_J11_highSurrogate_5068e_3 : decode prog_15_method_28_code 3 = .ok (.iushr, 1) := by decide +kernel
theorem d_J11_highSurrogate_5068e_4 : decode prog_15_method_28_code 4 = .ok (.ldc 110, 2) := by decide +kernel
theorem d_J11_highSurrogate_5068e_6 : decode prog_15_method_28_code 6 = .ok (.iadd, 1) := by decide +kernel
theorem d_J11_highSurrogate_5068e_7 : decode prog_15_method_28_code 7 = .ok (.i2c, 1) := by decide +kernel
theorem d_J11_highSurrogate_5068e_8 : decode prog_15_method_28_code 8 = .ok (.ireturn, 1) := by decide +kernel
theorem d_J11_lowSurrogate_5068e_0 : decode prog_15_method_29_code 0 = .ok (.iload_n 0, 1) := by decide +kernel
theorem d_J11_lowSurrogate_5068e_1 : decode prog_15_method_29_code 1 = .ok (.sipush 1023, 3) := by decide +kernel
theorem d_J11_lowSurrogate_5068e_4 : decode prog_15_method_29_code 4 = .ok (.iand, 1) := by decide +kernel
theorem d_J11_lowSurrogate_5068e_5 : decode prog_15_method_29_code 5 = .ok (.ldc 76, 2) := by decide +kernel
theorem d_J11_lowSurrogate_5068e_7 : decode prog_15_method_29_code 7 = .ok (.iadd, 1) := by decide +kernel
theorem d_J11_lowSurrogate_5068e_8 : decode prog_15_method_29_code 8 = .ok (.i2c, 1) := by decide +kernel
theorem d_J11_lowSurrogate_5068e_9 : decode prog_15_method_29_code 9 = .ok (.ireturn, 1) := by decide +kernel
theorem d_J6_bitCount_0f7a4_0 : decode prog_18_method_49_code 0 = .ok (.iload_n 0, 1) := by decide +kernel
theorem d_J6_bitCount_0f7a4_1 : decode prog_18_method_49_code 1 = .ok (.iload_n 0, 1) := by decide +kernel
theorem d_J6_bitCount_0f7a4_2 : decode prog_18_method_49_code 2 = .ok (.iconst 1, 1) := by decide +kernel
theorem d_J6_bitCount_0f7a4_3 : decode prog_18_method_49_code 3 = .ok (.iushr, 1) := by decide +kernel
theorem d_J6_bitCount_0f7a4_4 : decode prog_18_method_49_code 4 = .ok (.ldc_w 265, 3) := by decide +kernel
theorem d_J6_bitCount_0f7a4_7 : decode prog_18_method_49_code 7 = .ok (.iand, 1) := by decide +kernel
theorem d_J6_bitCount_0f7a4_8 : decode prog_18_method_49_code 8 = .ok (.isub, 1) := by decide +kernel
theorem d_J6_bitCount_0f7a4_9 : decode prog_18_method_49_code 9 = .ok (.istore_n 0, 1) := by decide +kernel
theorem d_J6_bitCount_0f7a4_10 : decode prog_18_method_49_code 10 = .ok (.iload_n 0, 1) := by decide +kernel
theorem d_J6_bitCount_0f7a4_11 : decode prog_18_method_49_code 11 = .ok (.ldc_w 266, 3) := by decide +kernel
theorem d_J6_bitCount_0f7a4_14 : decode prog_18_method_49_code 14 = .ok (.iand, 1) := by decide +kernel
theorem d_J6_bitCount_0f7a4_15 : decode prog_18_method_49_code 15 = .ok (.iload_n 0, 1) := by decide +kernel
theorem d_J6_bitCount_0f7a4_16 : decode prog_18_method_49_code 16 = .ok (.iconst 2, 1) := by decide +kernel
theorem d_J6_bitCount_0f7a4_17 : decode prog_18_method_49_code 17 = .ok (.iushr, 1) := by decide +kernel
theorem d_J6_bitCount_0f7a4_18 : decode prog_18_method_49_code 18 = .ok (.ldc_w 266, 3) := by decide +kernel
theorem d_J6_bitCount_0f7a4_21 : decode prog_18_method_49_code 21 = .ok (.iand, 1) := by decide +kernel
theorem d_J6_bitCount_0f7a4_22 : decode prog_18_method_49_code 22 = .ok (.iadd, 1) := by decide +kernel
theorem d_J6_bitCount_0f7a4_23 : decode prog_18_method_49_code 23 = .ok (.istore_n 0, 1) := by decide +kernel
theorem d_J6_bitCount_0f7a4_24 : decode prog_18_method_49_code 24 = .ok (.iload_n 0, 1) := by decide +kernel
theorem d_J6_bitCount_0f7a4_25 : decode prog_18_method_49_code 25 = .ok (.iload_n 0, 1) := by decide +kernel
theorem d_J6_bitCount_0f7a4_26 : decode prog_18_method_49_code 26 = .ok (.iconst 4, 1) := by decide +kernel
theorem d_J6_bitCount_0f7a4_27 : decode prog_18_method_49_code 27 = .ok (.iushr, 1) := by decide +kernel
theorem d_J6_bitCount_0f7a4_28 : decode prog_18_method_49_code 28 = .ok (.iadd, 1) := by decide +kernel
theorem d_J6_bitCount_0f7a4_29 : decode prog_18_method_49_code 29 = .ok (.ldc_w 267, 3) := by decide +kernel
theorem d_J6_bitCount_0f7a4_32 : decode prog_18_method_49_code 32 = .ok (.iand, 1) := by decide +kernel
theorem d_J6_bitCount_0f7a4_33 : decode prog_18_method_49_code 33 = .ok (.istore_n 0, 1) := by decide +kernel
theorem d_J6_bitCount_0f7a4_34 : decode prog_18_method_49_code 34 = .ok (.iload_n 0, 1) := by decide +kernel
theorem d_J6_bitCount_0f7a4_35 : decode prog_18_method_49_code 35 = .ok (.iload_n 0, 1) := by decide +kernel
theorem d_J6_bitCount_0f7a4_36 : decode prog_18_method_49_code 36 = .ok (.bipush 8, 2) := by decide +kernel
theorem d_J6_bitCount_0f7a4_38 : decode prog_18_method_49_code 38 = .ok (.iushr, 1) := by decide +kernel
theorem d_J6_bitCount_0f7a4_39 : decode prog_18_method_49_code 39 = .ok (.iadd, 1) := by decide +kernel
theorem d_J6_bitCount_0f7a4_40 : decode prog_18_method_49_code 40 = .ok (.istore_n 0, 1) := by decide +kernel
theorem d_J6_bitCount_0f7a4_41 : decode prog_18_method_49_code 41 = .ok (.iload_n 0, 1) := by decide +kernel
theorem d_J6_bitCount_0f7a4_42 : decode prog_18_method_49_code 42 = .ok (.iload_n 0, 1) := by decide +kernel
theorem d_J6_bitCount_0f7a4_43 : decode prog_18_method_49_code 43 = .ok (.bipush 16, 2) := by decide +kernel
theorem d_J6_bitCount_0f7a4_45 : decode prog_18_method_49_code 45 = .ok (.iushr, 1) := by decide +kernel
theorem d_J6_bitCount_0f7a4_46 : decode prog_18_method_49_code 46 = .ok (.iadd, 1) := by decide +kernel
theorem d_J6_bitCount_0f7a4_47 : decode prog_18_method_49_code 47 = .ok (.istore_n 0, 1) := by decide +kernel
theorem d_J6_bitCount_0f7a4_48 : decode prog_18_method_49_code 48 = .ok (.iload_n 0, 1) := by decide +kernel
theorem d_J6_bitCount_0f7a4_49 : decode prog_18_method_49_code 49 = .ok (.bipush 63, 2) := by decide +kernel
theorem d_J6_bitCount_0f7a4_51 : decode prog_18_method_49_code 51 = .ok (.iand, 1) := by decide +kernel
theorem d_J6_bitCount_0f7a4_52 : decode prog_18_method_49_code 52 = .ok (.ireturn, 1) := by decide +kernel
theorem d_J9_max_7cf53_0 : decode prog_19_method_65_code 0 = .ok (.iload_n 0, 1) := by decide +kernel
theorem d_J9_max_7cf53_1 : decode prog_19_method_65_code 1 = .ok (.iload_n 1, 1) := by decide +kernel
theorem d_J9_max_7cf53_2 : decode prog_19_method_65_code 2 = .ok (.if_icmp .lt 7, 3) := by decide +kernel
theorem d_J9_max_7cf53_5 : decode prog_19_method_65_code 5 = .ok (.iload_n 0, 1) := by decide +kernel
theorem d_J9_max_7cf53_6 : decode prog_19_method_65_code 6 = .ok (.goto 4, 3) := by decide +kernel
theorem d_J9_max_7cf53_9 : decode prog_19_method_65_code 9 = .ok (.iload_n 1, 1) := by decide +kernel
theorem d_J9_max_7cf53_10 : decode prog_19_method_65_code 10 = .ok (.ireturn, 1) := by decide +kernel
theorem d_J9_max_f86c9_0 : decode prog_19_method_66_code 0 = .ok (.lload_n 0, 1) := by decide +kernel
theorem d_J9_max_f86c9_1 : decode prog_19_method_66_code 1 = .ok (.lload_n 2, 1) := by decide +kernel
theorem d_J9_max_f86c9_2 : decode prog_19_method_66_code 2 = .ok (.lcmp, 1) := by decide +kernel
theorem d_J9_max_f86c9_3 : decode prog_19_method_66_code 3 = .ok (.ifCond .lt 7, 3) := by decide +kernel
theorem d_J9_max_f86c9_6 : decode prog_19_method_66_code 6 = .ok (.lload_n 0, 1) := by decide +kernel
theorem d_J9_max_f86c9_7 : decode prog_19_method_66_code 7 = .ok (.goto 4, 3) := by decide +kernel
theorem d_J9_max_f86c9_10 : decode prog_19_method_66_code 10 = .ok (.lload_n 2, 1) := by decide +kernel
theorem d_J9_max_f86c9_11 : decode prog_19_method_66_code 11 = .ok (.lreturn, 1) := by decide +kernel
theorem d_J9_min_7cf53_0 : decode prog_19_method_69_code 0 = .ok (.iload_n 0, 1) := by decide +kernel
theorem d_J9_min_7cf53_1 : decode prog_19_method_69_code 1 = .ok (.iload_n 1, 1) := by decide +kernel
theorem d_J9_min_7cf53_2 : decode prog_19_method_69_code 2 = .ok (.if_icmp .gt 7, 3) := by decide +kernel
theorem d_J9_min_7cf53_5 : decode prog_19_method_69_code 5 = .ok (.iload_n 0, 1) := by decide +kernel
theorem d_J9_min_7cf53_6 : decode prog_19_method_69_code 6 = .ok (.goto 4, 3) := by decide +kernel
theorem d_J9_min_7cf53_9 : decode prog_19_method_69_code 9 = .ok (.iload_n 1, 1) := by decide +kernel
theorem d_J9_min_7cf53_10 : decode prog_19_method_69_code 10 = .ok (.ireturn, 1) := by decide +kernel
theorem d_J9_min_f86c9_0 : decode prog_19_method_70_code 0 = .ok (.lload_n 0, 1) := by decide +kernel
theorem d_J9_min_f86c9_1 : decode prog_19_method_70_code 1 = .ok (.lload_n 2, 1) := by decide +kernel
theorem d_J9_min_f86c9_2 : decode prog_19_method_70_code 2 = .ok (.lcmp, 1) := by decide +kernel
theorem d_J9_min_f86c9_3 : decode prog_19_method_70_code 3 = .ok (.ifCond .gt 7, 3) := by decide +kernel
theorem d_J9_min_f86c9_6 : decode prog_19_method_70_code 6 = .ok (.lload_n 0, 1) := by decide +kernel
theorem d_J9_min_f86c9_7 : decode prog_19_method_70_code 7 = .ok (.goto 4, 3) := by decide +kernel
theorem d_J9_min_f86c9_10 : decode prog_19_method_70_code 10 = .ok (.lload_n 2, 1) := by decide +kernel
theorem d_J9_min_f86c9_11 : decode prog_19_method_70_code 11 = .ok (.lreturn, 1) := by decide +kernel
theorem d_J0_length_8abf5_0 : decode prog_21_method_54_code 0 = .ok (.aload_n 0, 1) := by decide +kernel
theorem d_J0_length_8abf5_1 : decode prog_21_method_54_code 1 = .ok (.getfield 9, 3) := by decide +kernel
theorem d_J0_length_8abf5_4 : decode prog_21_method_54_code 4 = .ok (.arraylength, 1) := by decide +kernel
theorem d_J0_length_8abf5_5 : decode prog_21_method_54_code 5 = .ok (.aload_n 0, 1) := by decide +kernel
theorem d_J0_length_8abf5_6 : decode prog_21_method_54_code 6 = .ok (.invokevirtual 335, 3) := by decide +kernel
theorem d_J0_length_8abf5_9 : decode prog_21_method_54_code 9 = .ok (.ishr, 1) := by decide +kernel
theorem d_J0_length_8abf5_10 : decode prog_21_method_54_code 10 = .ok (.ireturn, 1) := by decide +kernel
theorem d_J0_charAt_5068e_0 : decode prog_21_method_56_code 0 = .ok (.aload_n 0, 1) := by decide +kernel
theorem d_J0_charAt_5068e_1 : decode prog_21_method_56_code 1 = .ok (.invokevirtual 492, 3) := by decide +kernel
theorem d_J0_charAt_5068e_4 : decode prog_21_method_56_code 4 = .ok (.ifCond .eq 12, 3) := by decide +kernel
theorem d_J0_charAt_5068e_7 : decode prog_21_method_56_code 7 = .ok (.aload_n 0, 1) := by decide +kernel
theorem d_J0_charAt_5068e_8 : decode prog_21_method_56_code 8 = .ok (.getfield 9, 3) := by decide +kernel
theorem d_J0_charAt_5068e_11 : decode prog_21_method_56_code 11 = .ok (.iload_n 1, 1) := by decide +kernel
theorem d_J0_charAt_5068e_12 : decode prog_21_method_56_code 12 = .ok (.invokestatic 495, 3) := by decide +kernel
theorem d_J0_charAt_5068e_15 : decode prog_21_method_56_code 15 = .ok (.ireturn, 1) := by decide +kernel
theorem d_J0_charAt_5068e_16 : decode prog_21_method_56_code 16 = .ok (.aload_n 0, 1) := by decide +kernel
theorem d_J0_charAt_5068e_17 : decode prog_21_method_56_code 17 = .ok (.getfield 9, 3) := by decide +kernel
theorem d_J0_charAt_5068e_20 : decode prog_21_method_56_code 20 = .ok (.iload_n 1, 1) := by decide +kernel
theorem d_J0_charAt_5068e_21 : decode prog_21_method_56_code 21 = .ok (.invokestatic 498, 3) := by decide +kernel
theorem d_J0_charAt_5068e_24 : decode prog_21_method_56_code 24 = .ok (.ireturn, 1) := by decide +kernel
theorem d_J0_indexOf_0f7a4_0 : decode prog_21_method_79_code 0 = .ok (.aload_n 0, 1) := by decide +kernel
theorem d_J0_indexOf_0f7a4_1 : decode prog_21_method_79_code 1 = .ok (.iload_n 1, 1) := by decide +kernel
theorem d_J0_indexOf_0f7a4_2 : decode prog_21_method_79_code 2 = .ok (.iconst 0, 1) := by decide +kernel
theorem d_J0_indexOf_0f7a4_3 : decode prog_21_method_79_code 3 = .ok (.invokevirtual 633, 3) := by decide +kernel
theorem d_J0_indexOf_0f7a4_6 : decode prog_21_method_79_code 6 = .ok (.ireturn, 1) := by decide +kernel
theorem d_J0_indexOf_7cf53_0 : decode prog_21_method_80_code 0 = .ok (.aload_n 0, 1) := by decide +kernel
theorem d_J0_indexOf_7cf53_1 : decode prog_21_method_80_code 1 = .ok (.invokevirtual 492, 3) := by decide +kernel
theorem d_J0_indexOf_7cf53_4 : decode prog_21_method_80_code 4 = .ok (.ifCond .eq 19, 3) := by decide +kernel
theorem d_J0_indexOf_7cf53_7 : decode prog_21_method_80_code 7 = .ok (.aload_n 0, 1) := by decide +kernel
theorem d_J0_indexOf_7cf53_8 : decode prog_21_method_80_code 8 = .ok (.getfield 9, 3) := by decide +kernel
theorem d_J0_indexOf_7cf53_11 : decode prog_21_method_80_code 11 = .ok (.iload_n 1, 1) := by decide +kernel
theorem d_J0_indexOf_7cf53_12 : decode prog_21_method_80_code 12 = .ok (.iload_n 2, 1) := by decide +kernel
theorem d_J0_indexOf_7cf53_13 : decode prog_21_method_80_code 13 = .ok (.aload_n 0, 1) := by decide +kernel
theorem d_J0_indexOf_7cf53_14 : decode prog_21_method_80_code 14 = .ok (.invokevirtual 505, 3) := by decide +kernel
theorem d_J0_indexOf_7cf53_17 : decode prog_21_method_80_code 17 = .ok (.invokestatic 637, 3) := by decide +kernel
theorem d_J0_indexOf_7cf53_20 : decode prog_21_method_80_code 20 = .ok (.goto 16, 3) := by decide +kernel
theorem d_J0_indexOf_7cf53_23 : decode prog_21_method_80_code 23 = .ok (.aload_n 0, 1) := by decide +kernel
theorem d_J0_indexOf_7cf53_24 : decode prog_21_method_80_code 24 = .ok (.getfield 9, 3) := by decide +kernel
theorem d_J0_indexOf_7cf53_27 : decode prog_21_method_80_code 27 = .ok (.iload_n 1, 1) := by decide +kernel
theorem d_J0_indexOf_7cf53_28 : decode prog_21_method_80_code 28 = .ok (.iload_n 2, 1) := by decide +kernel
theorem d_J0_indexOf_7cf53_29 : decode prog_21_method_80_code 29 = .ok (.aload_n 0, 1) := by decide +kernel
theorem d_J0_indexOf_7cf53_30 : decode prog_21_method_80_code 30 = .ok (.invokevirtual 505, 3) := by decide +kernel
theorem d_J0_indexOf_7cf53_33 : decode prog_21_method_80_code 33 = .ok (.invokestatic 640, 3) := by decide +kernel
theorem d_J0_indexOf_7cf53_36 : decode prog_21_method_80_code 36 = .ok (.ireturn, 1) := by decide +kernel
theorem d_J0_coder_7d493_0 : decode prog_21_method_152_code 0 = .ok (.getstatic 38, 3) := by decide +kernel
theorem d_J0_coder_7d493_3 : decode prog_21_method_152_code 3 = .ok (.ifCond .eq 10, 3) := by decide +kernel
theorem d_J0_coder_7d493_6 : decode prog_21_method_152_code 6 = .ok (.aload_n 0, 1) := by decide +kernel
theorem d_J0_coder_7d493_7 : decode prog_21_method_152_code 7 = .ok (.getfield 15, 3) := by decide +kernel
theorem d_J0_coder_7d493_10 : decode prog_21_method_152_code 10 = .ok (.goto 4, 3) := by decide +kernel
theorem d_J0_coder_7d493_13 : decode prog_21_method_152_code 13 = .ok (.iconst 1, 1) := by decide +kernel
theorem d_J0_coder_7d493_14 : decode prog_21_method_152_code 14 = .ok (.ireturn, 1) := by decide +kernel
theorem d_J0_isLatin1_aae02_0 : decode prog_21_method_154_code 0 = .ok (.getstatic 38, 3) := by decide +kernel
theorem d_J0_isLatin1_aae02_3 : decode prog_21_method_154_code 3 = .ok (.ifCond .eq 14, 3) := by decide +kernel
theorem d_J0_isLatin1_aae02_6 : decode prog_21_method_154_code 6 = .ok (.aload_n 0, 1) := by decide +kernel
theorem d_J0_isLatin1_aae02_7 : decode prog_21_method_154_code 7 = .ok (.getfield 15, 3) := by decide +kernel
theorem d_J0_isLatin1_aae02_10 : decode prog_21_method_154_code 10 = .ok (.ifCond .ne 7, 3) := by decide +kernel
theorem d_J0_isLatin1_aae02_13 : decode prog_21_method_154_code 13 = .ok (.iconst 1, 1) := by decide +kernel
theorem d_J0_isLatin1_aae02_14 : decode prog_21_method_154_code 14 = .ok (.goto 4, 3) := by decide +kernel
theorem d_J0_isLatin1_aae02_17 : decode prog_21_method_154_code 17 = .ok (.iconst 0, 1) := by decide +kernel
theorem d_J0_isLatin1_aae02_18 : decode prog_21_method_154_code 18 = .ok (.ireturn, 1) := by decide +kernel
theorem d_J0_checkIndex_df160_0 : decode prog_21_method_155_code 0 = .ok (.iload_n 0, 1) := by decide +kernel
theorem d_J0_checkIndex_df160_1 : decode prog_21_method_155_code 1 = .ok (.iload_n 1, 1) := by decide +kernel
theorem d_J0_checkIndex_df160_2 : decode prog_21_method_155_code 2 = .ok (.getstatic 1053, 3) := by decide +kernel
theorem d_J0_checkIndex_df160_5 : decode prog_21_method_155_code 5 = .ok (.invokestatic 1059, 3) := by decide +kernel
theorem d_J0_checkIndex_df160_8 : decode prog_21_method_155_code 8 = .ok (.pop, 1) := by decide +kernel
theorem d_J0_checkIndex_df160_9 : decode prog_21_method_155_code 9 = .ok (.return_, 1) := by decide +kernel
theorem d_J0_checkBoundsBeginEnd_23922_0 : decode prog_21_method_158_code 0 = .ok (.iload_n 0, 1) := by decide +kernel
theorem d_J0_checkBoundsBeginEnd_23922_1 : decode prog_21_method_158_code 1 = .ok (.iload_n 1, 1) := by decide +kernel
theorem d_J0_checkBoundsBeginEnd_23922_2 : decode prog_21_method_158_code 2 = .ok (.iload_n 2, 1) := by decide +kernel
theorem d_J0_checkBoundsBeginEnd_23922_3 : decode prog_21_method_158_code 3 = .ok (.getstatic 1053, 3) := by decide +kernel
theorem d_J0_checkBoundsBeginEnd_23922_6 : decode prog_21_method_158_code 6 = .ok (.invokestatic 1062, 3) := by decide +kernel
theorem d_J0_checkBoundsBeginEnd_23922_9 : decode prog_21_method_158_code 9 = .ok (.pop, 1) := by decide +kernel
theorem d_J0_checkBoundsBeginEnd_23922_10 : decode prog_21_method_158_code 10 = .ok (.return_, 1) := by decide +kernel
theorem d_J1_charAt_3b067_0 : decode prog_22_method_2_code 0 = .ok (.iload_n 1, 1) := by decide +kernel
theorem d_J1_charAt_3b067_1 : decode prog_22_method_2_code 1 = .ok (.aload_n 0, 1) := by decide +kernel
theorem d_J1_charAt_3b067_2 : decode prog_22_method_2_code 2 = .ok (.arraylength, 1) := by decide +kernel
theorem d_J1_charAt_3b067_3 : decode prog_22_method_2_code 3 = .ok (.invokestatic 9, 3) := by decide +kernel
theorem d_J1_charAt_3b067_6 : decode prog_22_method_2_code 6 = .ok (.aload_n 0, 1) := by decide +kernel
theorem d_J1_charAt_3b067_7 : decode prog_22_method_2_code 7 = .ok (.iload_n 1, 1) := by decide +kernel
theorem d_J1_charAt_3b067_8 : decode prog_22_method_2_code 8 = .ok (.baload, 1) := by decide +kernel
theorem d_J1_charAt_3b067_9 : decode prog_22_method_2_code 9 = .ok (.sipush 255, 3) := by decide +kernel
theorem d_J1_charAt_3b067_12 : decode prog_22_method_2_code 12 = .ok (.iand, 1) := by decide +kernel
theorem d_J1_charAt_3b067_13 : decode prog_22_method_2_code 13 = .ok (.i2c, 1) := by decide +kernel
theorem d_J1_charAt_3b067_14 : decode prog_22_method_2_code 14 = .ok (.ireturn, 1) := by decide +kernel
theorem d_J1_canEncode_9a6ad_0 : decode prog_22_method_4_code 0 = .ok (.iload_n 0, 1) := by decide +kernel
theorem d_J1_canEncode_9a6ad_1 : decode prog_22_method_4_code 1 = .ok (.ifCond .lt 14, 3) := by decide +kernel
theorem d_J1_canEncode_9a6ad_4 : decode prog_22_method_4_code 4 = .ok (.iload_n 0, 1) := by decide +kernel
theorem d_J1_canEncode_9a6ad_5 : decode prog_22_method_4_code 5 = .ok (.sipush 255, 3) := by decide +kernel
theorem d_J1_canEncode_9a6ad_8 : decode prog_22_method_4_code 8 = .ok (.if_icmp .gt 7, 3) := by decide +kernel
theorem d_J1_canEncode_9a6ad_11 : decode prog_22_method_4_code 11 = .ok (.iconst 1, 1) := by decide +kernel
theorem d_J1_canEncode_9a6ad_12 : decode prog_22_method_4_code 12 = .ok (.goto 4, 3) := by decide +kernel
theorem d_J1_canEncode_9a6ad_15 : decode prog_22_method_4_code 15 = .ok (.iconst 0, 1) := by decide +kernel
theorem d_J1_canEncode_9a6ad_16 : decode prog_22_method_4_code 16 = .ok (.ireturn, 1) := by decide +kernel
theorem d_J1_indexOf_4cfef_0 : decode prog_22_method_22_code 0 = .ok (.iload_n 1, 1) := by decide +kernel
theorem d_J1_indexOf_4cfef_1 : decode prog_22_method_22_code 1 = .ok (.invokestatic 88, 3) := by decide +kernel
theorem d_J1_indexOf_4cfef_4 : decode prog_22_method_22_code 4 = .ok (.ifCond .ne 5, 3) := by decide +kernel
theorem d_J1_indexOf_4cfef_7 : decode prog_22_method_22_code 7 = .ok (.iconst (-1), 1) := by decide +kernel
theorem d_J1_indexOf_4cfef_8 : decode prog_22_method_22_code 8 = .ok (.ireturn, 1) := by decide +kernel
theorem d_J1_indexOf_4cfef_9 : decode prog_22_method_22_code 9 = .ok (.iload_n 2, 1) := by decide +kernel
theorem d_J1_indexOf_4cfef_10 : decode prog_22_method_22_code 10 = .ok (.iconst 0, 1) := by decide +kernel
theorem d_J1_indexOf_4cfef_11 : decode prog_22_method_22_code 11 = .ok (.invokestatic 92, 3) := by decide +kernel
theorem d_J1_indexOf_4cfef_14 : decode prog_22_method_22_code 14 = .ok (.istore_n 2, 1) := by decide +kernel
theorem d_J1_indexOf_4cfef_15 : decode prog_22_method_22_code 15 = .ok (.iload_n 3, 1) := by decide +kernel
theorem d_J1_indexOf_4cfef_16 : decode prog_22_method_22_code 16 = .ok (.aload_n 0, 1) := by decide +kernel
theorem d_J1_indexOf_4cfef_17 : decode prog_22_method_22_code 17 = .ok (.arraylength, 1) := by decide +kernel
theorem d_J1_indexOf_4cfef_18 : decode prog_22_method_22_code 18 = .ok (.invokestatic 38, 3) := by decide +kernel
theorem d_J1_indexOf_4cfef_21 : decode prog_22_method_22_code 21 = .ok (.istore_n 3, 1) := by decide +kernel
theorem d_J1_indexOf_4cfef_22 : decode prog_22_method_22_code 22 = .ok (.iload_n 2, 1) := by decide +kernel
theorem d_J1_indexOf_4cfef_23 : decode prog_22_method_22_code 23 = .ok (.iload_n 3, 1) := by decide +kernel
theorem d_J1_indexOf_4cfef_24 : decode prog_22_method_22_code 24 = .ok (.if_icmp .lt 5, 3) := by decide +kernel
theorem d_J1_indexOf_4cfef_27 : decode prog_22_method_22_code 27 = .ok (.iconst (-1), 1) := by decide +kernel
theorem d_J1_indexOf_4cfef_28 : decode prog_22_method_22_code 28 = .ok (.ireturn, 1) := by decide +kernel
theorem d_J1_indexOf_4cfef_29 : decode prog_22_method_22_code 29 = .ok (.aload_n 0, 1) := by decide +kernel
theorem d_J1_indexOf_4cfef_30 : decode prog_22_method_22_code 30 = .ok (.iload_n 1, 1) := by decide +kernel
theorem d_J1_indexOf_4cfef_31 : decode prog_22_method_22_code 31 = .ok (.iload_n 2, 1) := by decide +kernel
theorem d_J1_indexOf_4cfef_32 : decode prog_22_method_22_code 32 = .ok (.iload_n 3, 1) := by decide +kernel
theorem d_J1_indexOf_4cfef_33 : decode prog_22_method_22_code 33 = .ok (.invokestatic 95, 3) := by decide +kernel
theorem d_J1_indexOf_4cfef_36 : decode prog_22_method_22_code 36 = .ok (.ireturn, 1) := by decide +kernel
theorem d_J1_indexOfChar_4cfef_0 : decode prog_22_method_23_code 0 = .ok (.iload_n 1, 1) := by decide +kernel
theorem d_J1_indexOfChar_4cfef_1 : decode prog_22_method_23_code 1 = .ok (.i2b, 1) := by decide +kernel
theorem d_J1_indexOfChar_4cfef_2 : decode prog_22_method_23_code 2 = .ok (.istore 4, 2) := by decide +kernel
theorem d_J1_indexOfChar_4cfef_4 : decode prog_22_method_23_code 4 = .ok (.iload_n 2, 1) := by decide +kernel
theorem d_J1_indexOfChar_4cfef_5 : decode prog_22_method_23_code 5 = .ok (.istore 5, 2) := by decide +kernel
theorem d_J1_indexOfChar_4cfef_7 : decode prog_22_method_23_code 7 = .ok (.iload 5, 2) := by decide +kernel
theorem d_J1_indexOfChar_4cfef_9 : decode prog_22_method_23_code 9 = .ok (.iload_n 3, 1) := by decide +kernel
theorem d_J1_indexOfChar_4cfef_10 : decode prog_22_method_23_code 10 = .ok (.if_icmp .ge 21, 3) := by decide +kernel
theorem d_J1_indexOfChar_4cfef_13 : decode prog_22_method_23_code 13 = .ok (.aload_n 0, 1) := by decide +kernel
theorem d_J1_indexOfChar_4cfef_14 : decode prog_22_method_23_code 14 = .ok (.iload 5, 2) := by decide +kernel
theorem d_J1_indexOfChar_4cfef_16 : decode prog_22_method_23_code 16 = .ok (.baload, 1) := by decide +kernel
theorem d_J1_indexOfChar_4cfef_17 : decode prog_22_method_23_code 17 = .ok (.iload 4, 2) := by decide +kernel
theorem d_J1_indexOfChar_4cfef_19 : decode prog_22_method_23_code 19 = .ok (.if_icmp .ne 6, 3) := by decide +kernel
theorem d_J1_indexOfChar_4cfef_22 : decode prog_22_method_23_code 22 = .ok (.iload 5, 2) := by decide +kernel
theorem d_J1_indexOfChar_4cfef_24 : decode prog_22_method_23_code 24 = .ok (.ireturn, 1) := by decide +kernel
theorem d_J1_indexOfChar_4cfef_25 : decode prog_22_method_23_code 25 = .ok (.iinc 5 1, 3) := by decide +kernel
theorem d_J1_indexOfChar_4cfef_28 : decode prog_22_method_23_code 28 = .ok (.goto (-21), 3) := by decide +kernel
theorem d_J1_indexOfChar_4cfef_31 : decode prog_22_method_23_code 31 = .ok (.iconst (-1), 1) := by decide +kernel
theorem d_J1_indexOfChar_4cfef_32 : decode prog_22_method_23_code 32 = .ok (.ireturn, 1) := by decide +kernel
theorem d_J2_getChar_3b067_0 : decode prog_23_method_5_code 0 = .ok (.getstatic 44, 3) := by decide +kernel
theorem d_J2_getChar_3b067_3 : decode prog_23_method_5_code 3 = .ok (.ifCond .ne 25, 3) := by decide +kernel
theorem d_J2_getChar_3b067_6 : decode prog_23_method_5_code 6 = .ok (.iload_n 1, 1) := by decide +kernel
theorem d_J2_getChar_3b067_7 : decode prog_23_method_5_code 7 = .ok (.ifCond .lt 11, 3) := by decide +kernel
theorem d_J2_getChar_3b067_10 : decode prog_23_method_5_code 10 = .ok (.iload_n 1, 1) := by decide +kernel
theorem d_J2_getChar_3b067_11 : decode prog_23_method_5_code 11 = .ok (.aload_n 0, 1) := by decide +kernel
theorem d_J2_getChar_3b067_12 : decode prog_23_method_5_code 12 = .ok (.invokestatic 48, 3) := by decide +kernel
theorem d_J2_getChar_3b067_15 : decode prog_23_method_5_code 15 = .ok (.if_icmp .lt 13, 3) := by decide +kernel
theorem d_J2_getChar_3b067_18 : decode prog_23_method_5_code 18 = .ok (.new 52, 3) := by decide +kernel
theorem d_J2_getChar_3b067_21 : decode prog_23_method_5_code 21 = .ok (.dup, 1) := by decide +kernel
theorem d_J2_getChar_3b067_22 : decode prog_23_method_5_code 22 = .ok (.ldc 54, 2) := by decide +kernel
theorem d_J2_getChar_3b067_24 : decode prog_23_method_5_code 24 = .ok (.invokespecial 56, 3) := by decide +kernel
theorem d_J2_getChar_3b067_27 : decode prog_23_method_5_code 27 = .ok (.athrow, 1) := by decide +kernel
theorem d_J2_getChar_3b067_28 : decode prog_23_method_5_code 28 = .ok (.iload_n 1, 1) := by decide +kernel
theorem d_J2_getChar_3b067_29 : decode prog_23_method_5_code 29 = .ok (.iconst 1, 1) := by decide +kernel
theorem d_J2_getChar_3b067_30 : decode prog_23_method_5_code 30 = .ok (.ishl, 1) := by decide +kernel
theorem d_J2_getChar_3b067_31 : decode prog_23_method_5_code 31 = .ok (.istore_n 1, 1) := by decide +kernel
theorem d_J2_getChar_3b067_32 : decode prog_23_method_5_code 32 = .ok (.aload_n 0, 1) := by decide +kernel
theorem d_J2_getChar_3b067_33 : decode prog_23_method_5_code 33 = .ok (.iload_n 1, 1) := by decide +kernel
theorem d_J2_getChar_3b067_34 : decode prog_23_method_5_code 34 = .ok (.iinc 1 1, 3) := by decide +kernel
theorem d_J2_getChar_3b067_37 : decode prog_23_method_5_code 37 = .ok (.baload, 1) := by decide +kernel
theorem d_J2_getChar_3b067_38 : decode prog_23_method_5_code 38 = .ok (.sipush 255, 3) := by decide +kernel
theorem d_J2_getChar_3b067_41 : decode prog_23_method_5_code 41 = .ok (.iand, 1) := by decide +kernel
theorem d_J2_getChar_3b067_42 : decode prog_23_method_5_code 42 = .ok (.getstatic 59, 3) := by decide +kernel
theorem d_J2_getChar_3b067_45 : decode prog_23_method_5_code 45 = .ok (.ishl, 1) := by decide +kernel
theorem d_J2_getChar_3b067_46 : decode prog_23_method_5_code 46 = .ok (.aload_n 0, 1) := by decide +kernel
theorem d_J2_getChar_3b067_47 : decode prog_23_method_5_code 47 = .ok (.iload_n 1, 1) := by decide +kernel
theorem d_J2_getChar_3b067_48 : decode prog_23_method_5_code 48 = .ok (.baload, 1) := by decide +kernel
theorem d_J2_getChar_3b067_49 : decode prog_23_method_5_code 49 = .ok (.sipush 255, 3) := by decide +kernel
theorem d_J2_getChar_3b067_52 : decode prog_23_method_5_code 52 = .ok (.iand, 1) := by decide +kernel
theorem d_J2_getChar_3b067_53 : decode prog_23_method_5_code 53 = .ok (.getstatic 63, 3) := by decide +kernel
theorem d_J2_getChar_3b067_56 : decode prog_23_method_5_code 56 = .ok (.ishl, 1) := by decide +kernel
theorem d_J2_getChar_3b067_57 : decode prog_23_method_5_code 57 = .ok (.ior, 1) := by decide +kernel
theorem d_J2_getChar_3b067_58 : decode prog_23_method_5_code 58 = .ok (.i2c, 1) := by decide +kernel
theorem d_J2_getChar_3b067_59 : decode prog_23_method_5_code 59 = .ok (.ireturn, 1) := by decide +kernel
theorem d_J2_length_9d52b_0 : decode prog_23_method_6_code 0 = .ok (.aload_n 0, 1) := by decide +kernel
theorem d_J2_length_9d52b_1 : decode prog_23_method_6_code 1 = .ok (.arraylength, 1) := by decide +kernel
theorem d_J2_length_9d52b_2 : decode prog_23_method_6_code 2 = .ok (.iconst 1, 1) := by decide +kernel
theorem d_J2_length_9d52b_3 : decode prog_23_method_6_code 3 = .ok (.ishr, 1) := by decide +kernel
theorem d_J2_length_9d52b_4 : decode prog_23_method_6_code 4 = .ok (.ireturn, 1) := by decide +kernel
theorem d_J2_indexOf_4cfef_0 : decode prog_23_method_40_code 0 = .ok (.iload_n 2, 1) := by decide +kernel
theorem d_J2_indexOf_4cfef_1 : decode prog_23_method_40_code 1 = .ok (.iconst 0, 1) := by decide +kernel
theorem d_J2_indexOf_4cfef_2 : decode prog_23_method_40_code 2 = .ok (.invokestatic 224, 3) := by decide +kernel
theorem d_J2_indexOf_4cfef_5 : decode prog_23_method_40_code 5 = .ok (.istore_n 2, 1) := by decide +kernel
theorem d_J2_indexOf_4cfef_6 : decode prog_23_method_40_code 6 = .ok (.iload_n 3, 1) := by decide +kernel
theorem d_J2_indexOf_4cfef_7 : decode prog_23_method_40_code 7 = .ok (.aload_n 0, 1) := by decide +kernel
theorem d_J2_indexOf_4cfef_8 : decode prog_23_method_40_code 8 = .ok (.arraylength, 1) := by decide +kernel
theorem d_J2_indexOf_4cfef_9 : decode prog_23_method_40_code 9 = .ok (.iconst 1, 1) := by decide +kernel
theorem d_J2_indexOf_4cfef_10 : decode prog_23_method_40_code 10 = .ok (.ishr, 1) := by decide +kernel
theorem d_J2_indexOf_4cfef_11 : decode prog_23_method_40_code 11 = .ok (.invokestatic 183, 3) := by decide +kernel
theorem d_J2_indexOf_4cfef_14 : decode prog_23_method_40_code 14 = .ok (.istore_n 3, 1) := by decide +kernel
theorem d_J2_indexOf_4cfef_15 : decode prog_23_method_40_code 15 = .ok (.iload_n 2, 1) := by decide +kernel
theorem d_J2_indexOf_4cfef_16 : decode prog_23_method_40_code 16 = .ok (.iload_n 3, 1) := by decide +kernel
theorem d_J2_indexOf_4cfef_17 : decode prog_23_method_40_code 17 = .ok (.if_icmp .lt 5, 3) := by decide +kernel
theorem d_J2_indexOf_4cfef_20 : decode prog_23_method_40_code 20 = .ok (.iconst (-1), 1) := by decide +kernel
theorem d_J2_indexOf_4cfef_21 : decode prog_23_method_40_code 21 = .ok (.ireturn, 1) := by decide +kernel
theorem d_J2_indexOf_4cfef_22 : decode prog_23_method_40_code 22 = .ok (.iload_n 1, 1) := by decide +kernel
theorem d_J2_indexOf_4cfef_23 : decode prog_23_method_40_code 23 = .ok (.ldc 227, 2) := by decide +kernel
theorem d_J2_indexOf_4cfef_25 : decode prog_23_method_40_code 25 = .ok (.if_icmp .ge 11, 3) := by decide +kernel
theorem d_J2_indexOf_4cfef_28 : decode prog_23_method_40_code 28 = .ok (.aload_n 0, 1) := by decide +kernel
theorem d_J2_indexOf_4cfef_29 : decode prog_23_method_40_code 29 = .ok (.iload_n 1, 1) := by decide +kernel
theorem d_J2_indexOf_4cfef_30 : decode prog_23_method_40_code 30 = .ok (.iload_n 2, 1) := by decide +kernel
theorem d_J2_indexOf_4cfef_31 : decode prog_23_method_40_code 31 = .ok (.iload_n 3, 1) := by decide +kernel
theorem d_J2_indexOf_4cfef_32 : decode prog_23_method_40_code 32 = .ok (.invokestatic 228, 3) := by decide +kernel
theorem d_J2_indexOf_4cfef_35 : decode prog_23_method_40_code 35 = .ok (.ireturn, 1) := by decide +kernel
theorem d_J2_indexOf_4cfef_36 : decode prog_23_method_40_code 36 = .ok (.aload_n 0, 1) := by decide +kernel
theorem d_J2_indexOf_4cfef_37 : decode prog_23_method_40_code 37 = .ok (.iload_n 1, 1) := by decide +kernel
theorem d_J2_indexOf_4cfef_38 : decode prog_23_method_40_code 38 = .ok (.iload_n 2, 1) := by decide +kernel
theorem d_J2_indexOf_4cfef_39 : decode prog_23_method_40_code 39 = .ok (.iload_n 3, 1) := by decide +kernel
theorem d_J2_indexOf_4cfef_40 : decode prog_23_method_40_code 40 = .ok (.invokestatic 232, 3) := by decide +kernel
theorem d_J2_indexOf_4cfef_43 : decode prog_23_method_40_code 43 = .ok (.ireturn, 1) := by decide +kernel
theorem d_J2_indexOfChar_4cfef_0 : decode prog_23_method_47_code 0 = .ok (.iload_n 2, 1) := by decide +kernel
theorem d_J2_indexOfChar_4cfef_1 : decode prog_23_method_47_code 1 = .ok (.iload_n 3, 1) := by decide +kernel
theorem d_J2_indexOfChar_4cfef_2 : decode prog_23_method_47_code 2 = .ok (.aload_n 0, 1) := by decide +kernel
theorem d_J2_indexOfChar_4cfef_3 : decode prog_23_method_47_code 3 = .ok (.invokestatic 96, 3) := by decide +kernel
theorem d_J2_indexOfChar_4cfef_6 : decode prog_23_method_47_code 6 = .ok (.aload_n 0, 1) := by decide +kernel
theorem d_J2_indexOfChar_4cfef_7 : decode prog_23_method_47_code 7 = .ok (.iload_n 1, 1) := by decide +kernel
theorem d_J2_indexOfChar_4cfef_8 : decode prog_23_method_47_code 8 = .ok (.iload_n 2, 1) := by decide +kernel
theorem d_J2_indexOfChar_4cfef_9 : decode prog_23_method_47_code 9 = .ok (.iload_n 3, 1) := by decide +kernel
theorem d_J2_indexOfChar_4cfef_10 : decode prog_23_method_47_code 10 = .ok (.invokestatic 244, 3) := by decide +kernel
theorem d_J2_indexOfChar_4cfef_13 : decode prog_23_method_47_code 13 = .ok (.ireturn, 1) := by decide +kernel
theorem d_J2_indexOfCharUnsafe_4cfef_0 : decode prog_23_method_48_code 0 = .ok (.iload_n 2, 1) := by decide +kernel
theorem d_J2_indexOfCharUnsafe_4cfef_1 : decode prog_23_method_48_code 1 = .ok (.istore 4, 2) := by decide +kernel
theorem d_J2_indexOfCharUnsafe_4cfef_3 : decode prog_23_method_48_code 3 = .ok (.iload 4, 2) := by decide +kernel
theorem d_J2_indexOfCharUnsafe_4cfef_5 : decode prog_23_method_48_code 5 = .ok (.iload_n 3, 1) := by decide +kernel
theorem d_J2_indexOfCharUnsafe_4cfef_6 : decode prog_23_method_48_code 6 = .ok (.if_icmp .ge 22, 3) := by decide +kernel
theorem d_J2_indexOfCharUnsafe_4cfef_9 : decode prog_23_method_48_code 9 = .ok (.aload_n 0, 1) := by decide +kernel
theorem d_J2_indexOfCharUnsafe_4cfef_10 : decode prog_23_method_48_code 10 = .ok (.iload 4, 2) := by decide +kernel
theorem d_J2_indexOfCharUnsafe_4cfef_12 : decode prog_23_method_48_code 12 = .ok (.invokestatic 71, 3) := by decide +kernel
theorem d_J2_indexOfCharUnsafe_4cfef_15 : decode prog_23_method_48_code 15 = .ok (.iload_n 1, 1) := by decide +kernel
theorem d_J2_indexOfCharUnsafe_4cfef_16 : decode prog_23_method_48_code 16 = .ok (.if_icmp .ne 6, 3) := by decide +kernel
theorem d_J2_indexOfCharUnsafe_4cfef_19 : decode prog_23_method_48_code 19 = .ok (.iload 4, 2) := by decide +kernel
theorem d_J2_indexOfCharUnsafe_4cfef_21 : decode prog_23_method_48_code 21 = .ok (.ireturn, 1) := by decide +kernel
theorem d_J2_indexOfCharUnsafe_4cfef_22 : decode prog_23_method_48_code 22 = .ok (.iinc 4 1, 3) := by decide +kernel
theorem d_J2_indexOfCharUnsafe_4cfef_25 : decode prog_23_method_48_code 25 = .ok (.goto (-22), 3) := by decide +kernel
theorem d_J2_indexOfCharUnsafe_4cfef_28 : decode prog_23_method_48_code 28 = .ok (.iconst (-1), 1) := by decide +kernel
theorem d_J2_indexOfCharUnsafe_4cfef_29 : decode prog_23_method_48_code 29 = .ok (.ireturn, 1) := by decide +kernel
theorem d_J2_indexOfSupplementary_4cfef_0 : decode prog_23_method_49_code 0 = .ok (.iload_n 1, 1) := by decide +kernel
theorem d_J2_indexOfSupplementary_4cfef_1 : decode prog_23_method_49_code 1 = .ok (.invokestatic 164, 3) := by decide +kernel
theorem d_J2_indexOfSupplementary_4cfef_4 : decode prog_23_method_49_code 4 = .ok (.ifCond .eq 65, 3) := by decide +kernel
theorem d_J2_indexOfSupplementary_4cfef_7 : decode prog_23_method_49_code 7 = .ok (.iload_n 1, 1) := by decide +kernel
theorem d_J2_indexOfSupplementary_4cfef_8 : decode prog_23_method_49_code 8 = .ok (.invokestatic 157, 3) := by decide +kernel
theorem d_J2_indexOfSupplementary_4cfef_11 : decode prog_23_method_49_code 11 = .ok (.istore 4, 2) := by decide +kernel
theorem d_J2_indexOfSupplementary_4cfef_13 : decode prog_23_method_49_code 13 = .ok (.iload_n 1, 1) := by decide +kernel
theorem d_J2_indexOfSupplementary_4cfef_14 : decode prog_23_method_49_code 14 = .ok (.invokestatic 161, 3) := by decide +kernel
theorem d_J2_indexOfSupplementary_4cfef_17 : decode prog_23_method_49_code 17 = .ok (.istore 5, 2) := by decide +kernel
theorem d_J2_indexOfSupplementary_4cfef_19 : decode prog_23_method_49_code 19 = .ok (.iload_n 2, 1) := by decide +kernel
theorem d_J2_indexOfSupplementary_4cfef_20 : decode prog_23_method_49_code 20 = .ok (.iload_n 3, 1) := by decide +kernel
theorem d_J2_indexOfSupplementary_4cfef_21 : decode prog_23_method_49_code 21 = .ok (.aload_n 0, 1) := by decide +kernel
theorem d_J2_indexOfSupplementary_4cfef_22 : decode prog_23_method_49_code 22 = .ok (.invokestatic 96, 3) := by decide +kernel
theorem d_J2_indexOfSupplementary_4cfef_25 : decode prog_23_method_49_code 25 = .ok (.iload_n 2, 1) := by decide +kernel
theorem d_J2_indexOfSupplementary_4cfef_26 : decode prog_23_method_49_code 26 = .ok (.istore 6, 2) := by decide +kernel
theorem d_J2_indexOfSupplementary_4cfef_28 : decode prog_23_method_49_code 28 = .ok (.iload 6, 2) := by decide +kernel
theorem d_J2_indexOfSupplementary_4cfef_30 : decode prog_23_method_49_code 30 = .ok (.iload_n 3, 1) := by decide +kernel
theorem d_J2_indexOfSupplementary_4cfef_31 : decode prog_23_method_49_code 31 = .ok (.iconst 1, 1) := by decide +kernel
theorem d_J2_indexOfSupplementary_4cfef_32 : decode prog_23_method_49_code 32 = .ok (.isub, 1) := by decide +kernel
theorem d_J2_indexOfSupplementary_4cfef_33 : decode prog_23_method_49_code 33 = .ok (.if_icmp .ge 36, 3) := by decide +kernel
theorem d_J2_indexOfSupplementary_4cfef_36 : decode prog_23_method_49_code 36 = .ok (.aload_n 0, 1) := by decide +kernel
theorem d_J2_indexOfSupplementary_4cfef_37 : decode prog_23_method_49_code 37 = .ok (.iload 6, 2) := by decide +kernel
theorem d_J2_indexOfSupplementary_4cfef_39 : decode prog_23_method_49_code 39 = .ok (.invokestatic 71, 3) := by decide +kernel
theorem d_J2_indexOfSupplementary_4cfef_42 : decode prog_23_method_49_code 42 = .ok (.iload 4, 2) := by decide +kernel
theorem d_J2_indexOfSupplementary_4cfef_44 : decode prog_23_method_49_code 44 = .ok (.if_icmp .ne 19, 3) := by decide +kernel
theorem d_J2_indexOfSupplementary_4cfef_47 : decode prog_23_method_49_code 47 = .ok (.aload_n 0, 1) := by decide +kernel
theorem d_J2_indexOfSupplementary_4cfef_48 : decode prog_23_method_49_code 48 = .ok (.iload 6, 2) := by decide +kernel
theorem d_J2_indexOfSupplementary_4cfef_50 : decode prog_23_method_49_code 50 = .ok (.iconst 1, 1) := by decide +kernel
theorem d_J2_indexOfSupplementary_4cfef_51 : decode prog_23_method_49_code 51 = .ok (.iadd, 1) := by decide +kernel
theorem d_J2_indexOfSupplementary_4cfef_52 : decode prog_23_method_49_code 52 = .ok (.invokestatic 71, 3) := by decide +kernel
theorem d_J2_indexOfSupplementary_4cfef_55 : decode prog_23_method_49_code 55 = .ok (.iload 5, 2) := by decide +kernel
theorem d_J2_indexOfSupplementary_4cfef_57 : decode prog_23_method_49_code 57 = .ok (.if_icmp .ne 6, 3) := by decide +kernel
theorem d_J2_indexOfSupplementary_4cfef_60 : decode prog_23_method_49_code 60 = .ok (.iload 6, 2) := by decide +kernel
theorem d_J2_indexOfSupplementary_4cfef_62 : decode prog_23_method_49_code 62 = .ok (.ireturn, 1) := by decide +kernel
theorem d_J2_indexOfSupplementary_4cfef_63 : decode prog_23_method_49_code 63 = .ok (.iinc 6 1, 3) := by decide +kernel
theorem d_J2_indexOfSupplementary_4cfef_66 : decode prog_23_method_49_code 66 = .ok (.goto (-38), 3) := by decide +kernel
theorem d_J2_indexOfSupplementary_4cfef_69 : decode prog_23_method_49_code 69 = .ok (.iconst (-1), 1) := by decide +kernel
theorem d_J2_indexOfSupplementary_4cfef_70 : decode prog_23_method_49_code 70 = .ok (.ireturn, 1) := by decide +kernel
theorem d_J2_charAt_3b067_0 : decode prog_23_method_83_code 0 = .ok (.iload_n 1, 1) := by decide +kernel
theorem d_J2_charAt_3b067_1 : decode prog_23_method_83_code 1 = .ok (.aload_n 0, 1) := by decide +kernel
theorem d_J2_charAt_3b067_2 : decode prog_23_method_83_code 2 = .ok (.invokestatic 67, 3) := by decide +kernel
theorem d_J2_charAt_3b067_5 : decode prog_23_method_83_code 5 = .ok (.aload_n 0, 1) := by decide +kernel
theorem d_J2_charAt_3b067_6 : decode prog_23_method_83_code 6 = .ok (.iload_n 1, 1) := by decide +kernel
theorem d_J2_charAt_3b067_7 : decode prog_23_method_83_code 7 = .ok (.invokestatic 71, 3) := by decide +kernel
theorem d_J2_charAt_3b067_10 : decode prog_23_method_83_code 10 = .ok (.ireturn, 1) := by decide +kernel
theorem d_J2_checkIndex_2214a_0 : decode prog_23_method_91_code 0 = .ok (.iload_n 0, 1) := by decide +kernel
theorem d_J2_checkIndex_2214a_1 : decode prog_23_method_91_code 1 = .ok (.aload_n 1, 1) := by decide +kernel
theorem d_J2_checkIndex_2214a_2 : decode prog_23_method_91_code 2 = .ok (.invokestatic 48, 3) := by decide +kernel
theorem d_J2_checkIndex_2214a_5 : decode prog_23_method_91_code 5 = .ok (.invokestatic 414, 3) := by decide +kernel
theorem d_J2_checkIndex_2214a_8 : decode prog_23_method_91_code 8 = .ok (.return_, 1) := by decide +kernel
theorem d_J2_checkBoundsBeginEnd_d044e_0 : decode prog_23_method_93_code 0 = .ok (.iload_n 0, 1) := by decide +kernel
theorem d_J2_checkBoundsBeginEnd_d044e_1 : decode prog_23_method_93_code 1 = .ok (.iload_n 1, 1) := by decide +kernel
theorem d_J2_checkBoundsBeginEnd_d044e_2 : decode prog_23_method_93_code 2 = .ok (.aload_n 2, 1) := by decide +kernel
theorem d_J2_checkBoundsBeginEnd_d044e_3 : decode prog_23_method_93_code 3 = .ok (.invokestatic 48, 3) := by decide +kernel
theorem d_J2_checkBoundsBeginEnd_d044e_6 : decode prog_23_method_93_code 6 = .ok (.invokestatic 241, 3) := by decide +kernel
theorem d_J2_checkBoundsBeginEnd_d044e_9 : decode prog_23_method_93_code 9 = .ok (.return_, 1) := by decide +kernel
theorem d_J7_fill_53178_0 : decode prog_26_method_103_code 0 = .ok (.iconst 0, 1) := by decide +kernel
theorem d_J7_fill_53178_1 : decode prog_26_method_103_code 1 = .ok (.istore_n 2, 1) := by decide +kernel
theorem d_J7_fill_53178_2 : decode prog_26_method_103_code 2 = .ok (.aload_n 0, 1) := by decide +kernel
theorem d_J7_fill_53178_3 : decode prog_26_method_103_code 3 = .ok (.arraylength, 1) := by decide +kernel
theorem d_J7_fill_53178_4 : decode prog_26_method_103_code 4 = .ok (.istore_n 3, 1) := by decide +kernel
theorem d_J7_fill_53178_5 : decode prog_26_method_103_code 5 = .ok (.iload_n 2, 1) := by decide +kernel
theorem d_J7_fill_53178_6 : decode prog_26_method_103_code 6 = .ok (.iload_n 3, 1) := by decide +kernel
theorem d_J7_fill_53178_7 : decode prog_26_method_103_code 7 = .ok (.if_icmp .ge 13, 3) := by decide +kernel
theorem d_J7_fill_53178_10 : decode prog_26_method_103_code 10 = .ok (.aload_n 0, 1) := by decide +kernel
theorem d_J7_fill_53178_11 : decode prog_26_method_103_code 11 = .ok (.iload_n 2, 1) := by decide +kernel
theorem d_J7_fill_53178_12 : decode prog_26_method_103_code 12 = .ok (.iload_n 1, 1) := by decide +kernel
theorem d_J7_fill_53178_13 : decode prog_26_method_103_code 13 = .ok (.iastore, 1) := by decide +kernel
theorem d_J7_fill_53178_14 : decode prog_26_method_103_code 14 = .ok (.iinc 2 1, 3) := by decide +kernel
theorem d_J7_fill_53178_17 : decode prog_26_method_103_code 17 = .ok (.goto (-12), 3) := by decide +kernel
theorem d_J7_fill_53178_20 : decode prog_26_method_103_code 20 = .ok (.return_, 1) := by decide +kernel
theorem d_J7_copyOf_c38d5_0 : decode prog_26_method_124_code 0 = .ok (.iload_n 1, 1) := by decide +kernel
theorem d_J7_copyOf_c38d5_1 : decode prog_26_method_124_code 1 = .ok (.aload_n 0, 1) := by decide +kernel
theorem d_J7_copyOf_c38d5_2 : decode prog_26_method_124_code 2 = .ok (.arraylength, 1) := by decide +kernel
theorem d_J7_copyOf_c38d5_3 : decode prog_26_method_124_code 3 = .ok (.if_icmp .ne 11, 3) := by decide +kernel
theorem d_J7_copyOf_c38d5_6 : decode prog_26_method_124_code 6 = .ok (.aload_n 0, 1) := by decide +kernel
theorem d_J7_copyOf_c38d5_7 : decode prog_26_method_124_code 7 = .ok (.invokevirtual 319, 3) := by decide +kernel
theorem d_J7_copyOf_c38d5_10 : decode prog_26_method_124_code 10 = .ok (.checkcast 320, 3) := by decide +kernel
theorem d_J7_copyOf_c38d5_13 : decode prog_26_method_124_code 13 = .ok (.areturn, 1) := by decide +kernel
theorem d_J7_copyOf_c38d5_14 : decode prog_26_method_124_code 14 = .ok (.iload_n 1, 1) := by decide +kernel
theorem d_J7_copyOf_c38d5_15 : decode prog_26_method_124_code 15 = .ok (.newarray .long, 2) := by decide +kernel
theorem d_J7_copyOf_c38d5_17 : decode prog_26_method_124_code 17 = .ok (.astore_n 2, 1) := by decide +kernel
theorem d_J7_copyOf_c38d5_18 : decode prog_26_method_124_code 18 = .ok (.aload_n 0, 1) := by decide +kernel
theorem d_J7_copyOf_c38d5_19 : decode prog_26_method_124_code 19 = .ok (.iconst 0, 1) := by decide +kernel
theorem d_J7_copyOf_c38d5_20 : decode prog_26_method_124_code 20 = .ok (.aload_n 2, 1) := by decide +kernel
theorem d_J7_copyOf_c38d5_21 : decode prog_26_method_124_code 21 = .ok (.iconst 0, 1) := by decide +kernel
theorem d_J7_copyOf_c38d5_22 : decode prog_26_method_124_code 22 = .ok (.aload_n 0, 1) := by decide +kernel
theorem d_J7_copyOf_c38d5_23 : decode prog_26_method_124_code 23 = .ok (.arraylength, 1) := by decide +kernel
theorem d_J7_copyOf_c38d5_24 : decode prog_26_method_124_code 24 = .ok (.iload_n 1, 1) := by decide +kernel
theorem d_J7_copyOf_c38d5_25 : decode prog_26_method_124_code 25 = .ok (.invokestatic 304, 3) := by decide +kernel
theorem d_J7_copyOf_c38d5_28 : decode prog_26_method_124_code 28 = .ok (.invokestatic 150, 3) := by decide +kernel
theorem d_J7_copyOf_c38d5_31 : decode prog_26_method_124_code 31 = .ok (.aload_n 2, 1) := by decide +kernel
theorem d_J7_copyOf_c38d5_32 : decode prog_26_method_124_code 32 = .ok (.areturn, 1) := by decide +kernel
theorem d_J3_checkIndex_8e157_0 : decode prog_28_method_11_code 0 = .ok (.iload_n 0, 1) := by decide +kernel
theorem d_J3_checkIndex_8e157_1 : decode prog_28_method_11_code 1 = .ok (.ifCond .lt 8, 3) := by decide +kernel
theorem d_J3_checkIndex_8e157_4 : decode prog_28_method_11_code 4 = .ok (.iload_n 0, 1) := by decide +kernel
theorem d_J3_checkIndex_8e157_5 : decode prog_28_method_11_code 5 = .ok (.iload_n 1, 1) := by decide +kernel
theorem d_J3_checkIndex_8e157_6 : decode prog_28_method_11_code 6 = .ok (.if_icmp .lt 10, 3) := by decide +kernel
theorem d_J3_checkIndex_8e157_9 : decode prog_28_method_11_code 9 = .ok (.aload_n 2, 1) := by decide +kernel
theorem d_J3_checkIndex_8e157_10 : decode prog_28_method_11_code 10 = .ok (.iload_n 0, 1) := by decide +kernel
theorem d_J3_checkIndex_8e157_11 : decode prog_28_method_11_code 11 = .ok (.iload_n 1, 1) := by decide +kernel
theorem d_J3_checkIndex_8e157_12 : decode prog_28_method_11_code 12 = .ok (.invokestatic 95, 3) := by decide +kernel
theorem d_J3_checkIndex_8e157_15 : decode prog_28_method_11_code 15 = .ok (.athrow, 1) := by decide +kernel
theorem d_J3_checkIndex_8e157_16 : decode prog_28_method_11_code 16 = .ok (.iload_n 0, 1) := by decide +kernel
theorem d_J3_checkIndex_8e157_17 : decode prog_28_method_11_code 17 = .ok (.ireturn, 1) := by decide +kernel
theorem d_J3_checkFromToIndex_8c36e_0 : decode prog_28_method_12_code 0 = .ok (.iload_n 0, 1) := by decide +kernel
theorem d_J3_checkFromToIndex_8c36e_1 : decode prog_28_method_12_code 1 = .ok (.ifCond .lt 13, 3) := by decide +kernel
theorem d_J3_checkFromToIndex_8c36e_4 : decode prog_28_method_12_code 4 = .ok (.iload_n 0, 1) := by decide +kernel
theorem d_J3_checkFromToIndex_8c36e_5 : decode prog_28_method_12_code 5 = .ok (.iload_n 1, 1) := by decide +kernel
theorem d_J3_checkFromToIndex_8c36e_6 : decode prog_28_method_12_code 6 = .ok (.if_icmp .gt 8, 3) := by decide +kernel
theorem d_J3_checkFromToIndex_8c36e_9 : decode prog_28_method_12_code 9 = .ok (.iload_n 1, 1) := by decide +kernel
theorem d_J3_checkFromToIndex_8c36e_10 : decode prog_28_method_12_code 10 = .ok (.iload_n 2, 1) := by decide +kernel
theorem d_J3_checkFromToIndex_8c36e_11 : decode prog_28_method_12_code 11 = .ok (.if_icmp .le 11, 3) := by decide +kernel
theorem d_J3_checkFromToIndex_8c36e_14 : decode prog_28_method_12_code 14 = .ok (.aload_n 3, 1) := by decide +kernel
theorem d_J3_checkFromToIndex_8c36e_15 : decode prog_28_method_12_code 15 = .ok (.iload_n 0, 1) := by decide +kernel
theorem d_J3_checkFromToIndex_8c36e_16 : decode prog_28_method_12_code 16 = .ok (.iload_n 1, 1) := by decide +kernel
theorem d_J3_checkFromToIndex_8c36e_17 : decode prog_28_method_12_code 17 = .ok (.iload_n 2, 1) := by decide +kernel
theorem d_J3_checkFromToIndex_8c36e_18 : decode prog_28_method_12_code 18 = .ok (.invokestatic 99, 3) := by decide +kernel
theorem d_J3_checkFromToIndex_8c36e_21 : decode prog_28_method_12_code 21 = .ok (.athrow, 1) := by decide +kernel
theorem d_J3_checkFromToIndex_8c36e_22 : decode prog_28_method_12_code 22 = .ok (.iload_n 0, 1) := by decide +kernel
theorem d_J3_checkFromToIndex_8c36e_23 : decode prog_28_method_12_code 23 = .ok (.ireturn, 1) := by decide +kernel
