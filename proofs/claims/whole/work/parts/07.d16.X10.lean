theorem dX10_thrown_0 : decode cX10_thrown 0 = .ok (.aload_n 0, 1) := by decide +kernel
theorem dX10_thrown_1 : decode cX10_thrown 1 = .ok (.getfield 102, 3) := by decide +kernel
theorem dX10_thrown_4 : decode cX10_thrown 4 = .ok (.ireturn, 1) := by decide +kernel
theorem dX10_isIn_0 : decode cX10_isIn 0 = .ok (.lload_n 0, 1) := by decide +kernel
theorem dX10_isIn_1 : decode cX10_isIn 1 = .ok (.lload_n 2, 1) := by decide +kernel
theorem dX10_isIn_2 : decode cX10_isIn 2 = .ok (.lcmp, 1) := by decide +kernel
theorem dX10_isIn_3 : decode cX10_isIn 3 = .ok (.ifCond .lt 14, 3) := by decide +kernel
theorem dX10_isIn_6 : decode cX10_isIn 6 = .ok (.lload_n 0, 1) := by decide +kernel
theorem dX10_isIn_7 : decode cX10_isIn 7 = .ok (.lload 4, 2) := by decide +kernel
theorem dX10_isIn_9 : decode cX10_isIn 9 = .ok (.lcmp, 1) := by decide +kernel
theorem dX10_isIn_10 : decode cX10_isIn 10 = .ok (.ifCond .gt 7, 3) := by decide +kernel
theorem dX10_isIn_13 : decode cX10_isIn 13 = .ok (.iconst 1, 1) := by decide +kernel
theorem dX10_isIn_14 : decode cX10_isIn 14 = .ok (.goto 4, 3) := by decide +kernel
theorem dX10_isIn_17 : decode cX10_isIn 17 = .ok (.iconst 0, 1) := by decide +kernel
theorem dX10_isIn_18 : decode cX10_isIn 18 = .ok (.ireturn, 1) := by decide +kernel
theorem dX10_isMast_0 : decode cX10_isMast 0 = .ok (.iload_n 1, 1) := by decide +kernel
theorem dX10_isMast_1 : decode cX10_isMast 1 = .ok (.ifCond .lt 15, 3) := by decide +kernel
theorem dX10_isMast_4 : decode cX10_isMast 4 = .ok (.iload_n 1, 1) := by decide +kernel
theorem dX10_isMast_5 : decode cX10_isMast 5 = .ok (.aload_n 0, 1) := by decide +kernel
theorem dX10_isMast_6 : decode cX10_isMast 6 = .ok (.getfield 105, 3) := by decide +kernel
theorem dX10_isMast_9 : decode cX10_isMast 9 = .ok (.if_icmp .ge 7, 3) := by decide +kernel
theorem dX10_isMast_12 : decode cX10_isMast 12 = .ok (.iconst 1, 1) := by decide +kernel
theorem dX10_isMast_13 : decode cX10_isMast 13 = .ok (.goto 4, 3) := by decide +kernel
theorem dX10_isMast_16 : decode cX10_isMast 16 = .ok (.iconst 0, 1) := by decide +kernel
theorem dX10_isMast_17 : decode cX10_isMast 17 = .ok (.ireturn, 1) := by decide +kernel
theorem dX10_isWant_0 : decode cX10_isWant 0 = .ok (.iload_n 1, 1) := by decide +kernel
theorem dX10_isWant_1 : decode cX10_isWant 1 = .ok (.ifCond .lt 15, 3) := by decide +kernel
theorem dX10_isWant_4 : decode cX10_isWant 4 = .ok (.iload_n 1, 1) := by decide +kernel
theorem dX10_isWant_5 : decode cX10_isWant 5 = .ok (.aload_n 0, 1) := by decide +kernel
theorem dX10_isWant_6 : decode cX10_isWant 6 = .ok (.getfield 108, 3) := by decide +kernel
theorem dX10_isWant_9 : decode cX10_isWant 9 = .ok (.if_icmp .ge 7, 3) := by decide +kernel
theorem dX10_isWant_12 : decode cX10_isWant 12 = .ok (.iconst 1, 1) := by decide +kernel
theorem dX10_isWant_13 : decode cX10_isWant 13 = .ok (.goto 4, 3) := by decide +kernel
theorem dX10_isWant_16 : decode cX10_isWant 16 = .ok (.iconst 0, 1) := by decide +kernel
theorem dX10_isWant_17 : decode cX10_isWant 17 = .ok (.ireturn, 1) := by decide +kernel
theorem dX10_isPlace_0 : decode cX10_isPlace 0 = .ok (.iload_n 0, 1) := by decide +kernel
theorem dX10_isPlace_1 : decode cX10_isPlace 1 = .ok (.ifCond .lt 37, 3) := by decide +kernel
theorem dX10_isPlace_4 : decode cX10_isPlace 4 = .ok (.iload_n 0, 1) := by decide +kernel
theorem dX10_isPlace_5 : decode cX10_isPlace 5 = .ok (.bipush 64, 2) := by decide +kernel
theorem dX10_isPlace_7 : decode cX10_isPlace 7 = .ok (.idiv, 1) := by decide +kernel
theorem dX10_isPlace_8 : decode cX10_isPlace 8 = .ok (.i2l, 1) := by decide +kernel
theorem dX10_isPlace_9 : decode cX10_isPlace 9 = .ok (.lconst 0, 1) := by decide +kernel
theorem dX10_isPlace_10 : decode cX10_isPlace 10 = .ok (.ldc2_w 111, 3) := by decide +kernel
theorem dX10_isPlace_13 : decode cX10_isPlace 13 = .ok (.invokestatic 113, 3) := by decide +kernel
theorem dX10_isPlace_16 : decode cX10_isPlace 16 = .ok (.ifCond .eq 22, 3) := by decide +kernel
theorem dX10_isPlace_19 : decode cX10_isPlace 19 = .ok (.iload_n 0, 1) := by decide +kernel
theorem dX10_isPlace_20 : decode cX10_isPlace 20 = .ok (.bipush 64, 2) := by decide +kernel
theorem dX10_isPlace_22 : decode cX10_isPlace 22 = .ok (.irem, 1) := by decide +kernel
theorem dX10_isPlace_23 : decode cX10_isPlace 23 = .ok (.i2l, 1) := by decide +kernel
theorem dX10_isPlace_24 : decode cX10_isPlace 24 = .ok (.lconst 0, 1) := by decide +kernel
theorem dX10_isPlace_25 : decode cX10_isPlace 25 = .ok (.ldc2_w 111, 3) := by decide +kernel
theorem dX10_isPlace_28 : decode cX10_isPlace 28 = .ok (.invokestatic 113, 3) := by decide +kernel
theorem dX10_isPlace_31 : decode cX10_isPlace 31 = .ok (.ifCond .eq 7, 3) := by decide +kernel
theorem dX10_isPlace_34 : decode cX10_isPlace 34 = .ok (.iconst 1, 1) := by decide +kernel
theorem dX10_isPlace_35 : decode cX10_isPlace 35 = .ok (.goto 4, 3) := by decide +kernel
theorem dX10_isPlace_38 : decode cX10_isPlace 38 = .ok (.iconst 0, 1) := by decide +kernel
theorem dX10_isPlace_39 : decode cX10_isPlace 39 = .ok (.ireturn, 1) := by decide +kernel
theorem dX10_isSet_0 : decode cX10_isSet 0 = .ok (.iload_n 0, 1) := by decide +kernel
theorem dX10_isSet_1 : decode cX10_isSet 1 = .ok (.ifCond .lt 13, 3) := by decide +kernel
theorem dX10_isSet_4 : decode cX10_isSet 4 = .ok (.iload_n 0, 1) := by decide +kernel
theorem dX10_isSet_5 : decode cX10_isSet 5 = .ok (.ldc 117, 2) := by decide +kernel
theorem dX10_isSet_7 : decode cX10_isSet 7 = .ok (.if_icmp .ge 7, 3) := by decide +kernel
theorem dX10_isSet_10 : decode cX10_isSet 10 = .ok (.iconst 1, 1) := by decide +kernel
theorem dX10_isSet_11 : decode cX10_isSet 11 = .ok (.goto 4, 3) := by decide +kernel
theorem dX10_isSet_14 : decode cX10_isSet 14 = .ok (.iconst 0, 1) := by decide +kernel
theorem dX10_isSet_15 : decode cX10_isSet 15 = .ok (.ireturn, 1) := by decide +kernel
theorem dX10_mast_0 : decode cX10_mast 0 = .ok (.aload_n 0, 1) := by decide +kernel
theorem dX10_mast_1 : decode cX10_mast 1 = .ok (.iconst 0, 1) := by decide +kernel
theorem dX10_mast_2 : decode cX10_mast 2 = .ok (.putfield 102, 3) := by decide +kernel
theorem dX10_mast_5 : decode cX10_mast 5 = .ok (.iload_n 1, 1) := by decide +kernel
theorem dX10_mast_6 : decode cX10_mast 6 = .ok (.i2l, 1) := by decide +kernel
theorem dX10_mast_7 : decode cX10_mast 7 = .ok (.lconst 0, 1) := by decide +kernel
theorem dX10_mast_8 : decode cX10_mast 8 = .ok (.ldc2_w 118, 3) := by decide +kernel
theorem dX10_mast_11 : decode cX10_mast 11 = .ok (.invokestatic 113, 3) := by decide +kernel
theorem dX10_mast_14 : decode cX10_mast 14 = .ok (.ifCond .eq 35, 3) := by decide +kernel
theorem dX10_mast_17 : decode cX10_mast 17 = .ok (.iload_n 2, 1) := by decide +kernel
theorem dX10_mast_18 : decode cX10_mast 18 = .ok (.invokestatic 120, 3) := by decide +kernel
theorem dX10_mast_21 : decode cX10_mast 21 = .ok (.ifCond .eq 28, 3) := by decide +kernel
theorem dX10_mast_24 : decode cX10_mast 24 = .ok (.iload_n 3, 1) := by decide +kernel
theorem dX10_mast_25 : decode cX10_mast 25 = .ok (.i2l, 1) := by decide +kernel
theorem dX10_mast_26 : decode cX10_mast 26 = .ok (.lconst 0, 1) := by decide +kernel
theorem dX10_mast_27 : decode cX10_mast 27 = .ok (.ldc2_w 118, 3) := by decide +kernel
theorem dX10_mast_30 : decode cX10_mast 30 = .ok (.invokestatic 113, 3) := by decide +kernel
theorem dX10_mast_33 : decode cX10_mast 33 = .ok (.ifCond .eq 16, 3) := by decide +kernel
theorem dX10_mast_36 : decode cX10_mast 36 = .ok (.iload 4, 2) := by decide +kernel
theorem dX10_mast_38 : decode cX10_mast 38 = .ok (.i2l, 1) := by decide +kernel
theorem dX10_mast_39 : decode cX10_mast 39 = .ok (.lconst 1, 1) := by decide +kernel
theorem dX10_mast_40 : decode cX10_mast 40 = .ok (.ldc2_w 118, 3) := by decide +kernel
theorem dX10_mast_43 : decode cX10_mast 43 = .ok (.invokestatic 113, 3) := by decide +kernel
theorem dX10_mast_46 : decode cX10_mast 46 = .ok (.ifCond .ne 5, 3) := by decide +kernel
theorem dX10_mast_49 : decode cX10_mast 49 = .ok (.iconst (-1), 1) := by decide +kernel
theorem dX10_mast_50 : decode cX10_mast 50 = .ok (.ireturn, 1) := by decide +kernel
theorem dX10_mast_51 : decode cX10_mast 51 = .ok (.aload_n 0, 1) := by decide +kernel
theorem dX10_mast_52 : decode cX10_mast 52 = .ok (.getfield 105, 3) := by decide +kernel
theorem dX10_mast_55 : decode cX10_mast 55 = .ok (.bipush 12, 2) := by decide +kernel
theorem dX10_mast_57 : decode cX10_mast 57 = .ok (.if_icmp .eq 15, 3) := by decide +kernel
theorem dX10_mast_60 : decode cX10_mast 60 = .ok (.aload_n 0, 1) := by decide +kernel
theorem dX10_mast_61 : decode cX10_mast 61 = .ok (.getfield 108, 3) := by decide +kernel
theorem dX10_mast_64 : decode cX10_mast 64 = .ok (.iload 4, 2) := by decide +kernel
theorem dX10_mast_66 : decode cX10_mast 66 = .ok (.iadd, 1) := by decide +kernel
theorem dX10_mast_67 : decode cX10_mast 67 = .ok (.bipush 16, 2) := by decide +kernel
theorem dX10_mast_69 : decode cX10_mast 69 = .ok (.if_icmp .le 6, 3) := by decide +kernel
theorem dX10_mast_72 : decode cX10_mast 72 = .ok (.bipush (-2), 2) := by decide +kernel
theorem dX10_mast_74 : decode cX10_mast 74 = .ok (.ireturn, 1) := by decide +kernel
theorem dX10_mast_75 : decode cX10_mast 75 = .ok (.aload_n 0, 1) := by decide +kernel
theorem dX10_mast_76 : decode cX10_mast 76 = .ok (.getfield 7, 3) := by decide +kernel
theorem dX10_mast_79 : decode cX10_mast 79 = .ok (.aload_n 0, 1) := by decide +kernel
theorem dX10_mast_80 : decode cX10_mast 80 = .ok (.getfield 105, 3) := by decide +kernel
theorem dX10_mast_83 : decode cX10_mast 83 = .ok (.iload_n 1, 1) := by decide +kernel
theorem dX10_mast_84 : decode cX10_mast 84 = .ok (.iastore, 1) := by decide +kernel
theorem dX10_mast_85 : decode cX10_mast 85 = .ok (.aload_n 0, 1) := by decide +kernel
theorem dX10_mast_86 : decode cX10_mast 86 = .ok (.getfield 13, 3) := by decide +kernel
theorem dX10_mast_89 : decode cX10_mast 89 = .ok (.aload_n 0, 1) := by decide +kernel
theorem dX10_mast_90 : decode cX10_mast 90 = .ok (.getfield 105, 3) := by decide +kernel
theorem dX10_mast_93 : decode cX10_mast 93 = .ok (.iload_n 2, 1) := by decide +kernel
theorem dX10_mast_94 : decode cX10_mast 94 = .ok (.bipush 64, 2) := by decide +kernel
theorem dX10_mast_96 : decode cX10_mast 96 = .ok (.idiv, 1) := by decide +kernel
theorem dX10_mast_97 : decode cX10_mast 97 = .ok (.iastore, 1) := by decide +kernel
theorem dX10_mast_98 : decode cX10_mast 98 = .ok (.aload_n 0, 1) := by decide +kernel
theorem dX10_mast_99 : decode cX10_mast 99 = .ok (.getfield 16, 3) := by decide +kernel
theorem dX10_mast_102 : decode cX10_mast 102 = .ok (.aload_n 0, 1) := by decide +kernel
theorem dX10_mast_103 : decode cX10_mast 103 = .ok (.getfield 105, 3) := by decide +kernel
theorem dX10_mast_106 : decode cX10_mast 106 = .ok (.iload_n 2, 1) := by decide +kernel
theorem dX10_mast_107 : decode cX10_mast 107 = .ok (.bipush 64, 2) := by decide +kernel
theorem dX10_mast_109 : decode cX10_mast 109 = .ok (.irem, 1) := by decide +kernel
theorem dX10_mast_110 : decode cX10_mast 110 = .ok (.iastore, 1) := by decide +kernel
theorem dX10_mast_111 : decode cX10_mast 111 = .ok (.aload_n 0, 1) := by decide +kernel
theorem dX10_mast_112 : decode cX10_mast 112 = .ok (.getfield 19, 3) := by decide +kernel
theorem dX10_mast_115 : decode cX10_mast 115 = .ok (.aload_n 0, 1) := by decide +kernel
theorem dX10_mast_116 : decode cX10_mast 116 = .ok (.getfield 105, 3) := by decide +kernel
theorem dX10_mast_119 : decode cX10_mast 119 = .ok (.iload_n 3, 1) := by decide +kernel
theorem dX10_mast_120 : decode cX10_mast 120 = .ok (.iastore, 1) := by decide +kernel
theorem dX10_mast_121 : decode cX10_mast 121 = .ok (.aload_n 0, 1) := by decide +kernel
theorem dX10_mast_122 : decode cX10_mast 122 = .ok (.getfield 22, 3) := by decide +kernel
theorem dX10_mast_125 : decode cX10_mast 125 = .ok (.aload_n 0, 1) := by decide +kernel
theorem dX10_mast_126 : decode cX10_mast 126 = .ok (.getfield 105, 3) := by decide +kernel
theorem dX10_mast_129 : decode cX10_mast 129 = .ok (.iload 4, 2) := by decide +kernel
theorem dX10_mast_131 : decode cX10_mast 131 = .ok (.iastore, 1) := by decide +kernel
theorem dX10_mast_132 : decode cX10_mast 132 = .ok (.aload_n 0, 1) := by decide +kernel
theorem dX10_mast_133 : decode cX10_mast 133 = .ok (.getfield 25, 3) := by decide +kernel
theorem dX10_mast_136 : decode cX10_mast 136 = .ok (.aload_n 0, 1) := by decide +kernel
theorem dX10_mast_137 : decode cX10_mast 137 = .ok (.getfield 105, 3) := by decide +kernel
theorem dX10_mast_140 : decode cX10_mast 140 = .ok (.aload_n 0, 1) := by decide +kernel
theorem dX10_mast_141 : decode cX10_mast 141 = .ok (.getfield 108, 3) := by decide +kernel
theorem dX10_mast_144 : decode cX10_mast 144 = .ok (.iastore, 1) := by decide +kernel
theorem dX10_mast_145 : decode cX10_mast 145 = .ok (.aload_n 0, 1) := by decide +kernel
theorem dX10_mast_146 : decode cX10_mast 146 = .ok (.getfield 28, 3) := by decide +kernel
theorem dX10_mast_149 : decode cX10_mast 149 = .ok (.aload_n 0, 1) := by decide +kernel
theorem dX10_mast_150 : decode cX10_mast 150 = .ok (.getfield 105, 3) := by decide +kernel
theorem dX10_mast_153 : decode cX10_mast 153 = .ok (.ldc 124, 2) := by decide +kernel
theorem dX10_mast_155 : decode cX10_mast 155 = .ok (.iastore, 1) := by decide +kernel
theorem dX10_mast_156 : decode cX10_mast 156 = .ok (.aload_n 0, 1) := by decide +kernel
theorem dX10_mast_157 : decode cX10_mast 157 = .ok (.getfield 31, 3) := by decide +kernel
theorem dX10_mast_160 : decode cX10_mast 160 = .ok (.aload_n 0, 1) := by decide +kernel
theorem dX10_mast_161 : decode cX10_mast 161 = .ok (.getfield 105, 3) := by decide +kernel
theorem dX10_mast_164 : decode cX10_mast 164 = .ok (.iconst 5, 1) := by decide +kernel
theorem dX10_mast_165 : decode cX10_mast 165 = .ok (.iastore, 1) := by decide +kernel
theorem dX10_mast_166 : decode cX10_mast 166 = .ok (.iconst 0, 1) := by decide +kernel
theorem dX10_mast_167 : decode cX10_mast 167 = .ok (.istore 5, 2) := by decide +kernel
theorem dX10_mast_169 : decode cX10_mast 169 = .ok (.iload 5, 2) := by decide +kernel
theorem dX10_mast_171 : decode cX10_mast 171 = .ok (.iload 4, 2) := by decide +kernel
theorem dX10_mast_173 : decode cX10_mast 173 = .ok (.if_icmp .ge 53, 3) := by decide +kernel
theorem dX10_mast_176 : decode cX10_mast 176 = .ok (.aload_n 0, 1) := by decide +kernel
theorem dX10_mast_177 : decode cX10_mast 177 = .ok (.getfield 34, 3) := by decide +kernel
theorem dX10_mast_180 : decode cX10_mast 180 = .ok (.aload_n 0, 1) := by decide +kernel
theorem dX10_mast_181 : decode cX10_mast 181 = .ok (.getfield 108, 3) := by decide +kernel
theorem dX10_mast_184 : decode cX10_mast 184 = .ok (.aload_n 0, 1) := by decide +kernel
theorem dX10_mast_185 : decode cX10_mast 185 = .ok (.getfield 105, 3) := by decide +kernel
theorem dX10_mast_188 : decode cX10_mast 188 = .ok (.iastore, 1) := by decide +kernel
theorem dX10_mast_189 : decode cX10_mast 189 = .ok (.aload_n 0, 1) := by decide +kernel
theorem dX10_mast_190 : decode cX10_mast 190 = .ok (.getfield 37, 3) := by decide +kernel
theorem dX10_mast_193 : decode cX10_mast 193 = .ok (.aload_n 0, 1) := by decide +kernel
theorem dX10_mast_194 : decode cX10_mast 194 = .ok (.getfield 108, 3) := by decide +kernel
theorem dX10_mast_197 : decode cX10_mast 197 = .ok (.iconst (-1), 1) := by decide +kernel
theorem dX10_mast_198 : decode cX10_mast 198 = .ok (.iastore, 1) := by decide +kernel
theorem dX10_mast_199 : decode cX10_mast 199 = .ok (.aload_n 0, 1) := by decide +kernel
theorem dX10_mast_200 : decode cX10_mast 200 = .ok (.getfield 40, 3) := by decide +kernel
theorem dX10_mast_203 : decode cX10_mast 203 = .ok (.aload_n 0, 1) := by decide +kernel
theorem dX10_mast_204 : decode cX10_mast 204 = .ok (.getfield 108, 3) := by decide +kernel
theorem dX10_mast_207 : decode cX10_mast 207 = .ok (.bipush (-2), 2) := by decide +kernel
theorem dX10_mast_209 : decode cX10_mast 209 = .ok (.iastore, 1) := by decide +kernel
theorem dX10_mast_210 : decode cX10_mast 210 = .ok (.aload_n 0, 1) := by decide +kernel
theorem dX10_mast_211 : decode cX10_mast 211 = .ok (.dup, 1) := by decide +kernel
theorem dX10_mast_212 : decode cX10_mast 212 = .ok (.getfield 108, 3) := by decide +kernel
theorem dX10_mast_215 : decode cX10_mast 215 = .ok (.iconst 1, 1) := by decide +kernel
theorem dX10_mast_216 : decode cX10_mast 216 = .ok (.iadd, 1) := by decide +kernel
theorem dX10_mast_217 : decode cX10_mast 217 = .ok (.putfield 108, 3) := by decide +kernel
theorem dX10_mast_220 : decode cX10_mast 220 = .ok (.iinc 5 1, 3) := by decide +kernel
theorem dX10_mast_223 : decode cX10_mast 223 = .ok (.goto (-54), 3) := by decide +kernel
theorem dX10_mast_226 : decode cX10_mast 226 = .ok (.aload_n 0, 1) := by decide +kernel
theorem dX10_mast_227 : decode cX10_mast 227 = .ok (.dup, 1) := by decide +kernel
theorem dX10_mast_228 : decode cX10_mast 228 = .ok (.getfield 105, 3) := by decide +kernel
theorem dX10_mast_231 : decode cX10_mast 231 = .ok (.iconst 1, 1) := by decide +kernel
theorem dX10_mast_232 : decode cX10_mast 232 = .ok (.iadd, 1) := by decide +kernel
theorem dX10_mast_233 : decode cX10_mast 233 = .ok (.putfield 105, 3) := by decide +kernel
theorem dX10_mast_236 : decode cX10_mast 236 = .ok (.aload_n 0, 1) := by decide +kernel
theorem dX10_mast_237 : decode cX10_mast 237 = .ok (.getfield 105, 3) := by decide +kernel
theorem dX10_mast_240 : decode cX10_mast 240 = .ok (.iconst 1, 1) := by decide +kernel
theorem dX10_mast_241 : decode cX10_mast 241 = .ok (.isub, 1) := by decide +kernel
theorem dX10_mast_242 : decode cX10_mast 242 = .ok (.ireturn, 1) := by decide +kernel
theorem dX10_square_0 : decode cX10_square 0 = .ok (.aload_n 0, 1) := by decide +kernel
theorem dX10_square_1 : decode cX10_square 1 = .ok (.getfield 13, 3) := by decide +kernel
theorem dX10_square_4 : decode cX10_square 4 = .ok (.iload_n 1, 1) := by decide +kernel
theorem dX10_square_5 : decode cX10_square 5 = .ok (.iaload, 1) := by decide +kernel
theorem dX10_square_6 : decode cX10_square 6 = .ok (.aload_n 0, 1) := by decide +kernel
theorem dX10_square_7 : decode cX10_square 7 = .ok (.getfield 13, 3) := by decide +kernel
theorem dX10_square_10 : decode cX10_square 10 = .ok (.iload_n 2, 1) := by decide +kernel
theorem dX10_square_11 : decode cX10_square 11 = .ok (.iaload, 1) := by decide +kernel
theorem dX10_square_12 : decode cX10_square 12 = .ok (.isub, 1) := by decide +kernel
theorem dX10_square_13 : decode cX10_square 13 = .ok (.aload_n 0, 1) := by decide +kernel
theorem dX10_square_14 : decode cX10_square 14 = .ok (.getfield 13, 3) := by decide +kernel
theorem dX10_square_17 : decode cX10_square 17 = .ok (.iload_n 1, 1) := by decide +kernel
theorem dX10_square_18 : decode cX10_square 18 = .ok (.iaload, 1) := by decide +kernel
theorem dX10_square_19 : decode cX10_square 19 = .ok (.aload_n 0, 1) := by decide +kernel
theorem dX10_square_20 : decode cX10_square 20 = .ok (.getfield 13, 3) := by decide +kernel
theorem dX10_square_23 : decode cX10_square 23 = .ok (.iload_n 2, 1) := by decide +kernel
theorem dX10_square_24 : decode cX10_square 24 = .ok (.iaload, 1) := by decide +kernel
theorem dX10_square_25 : decode cX10_square 25 = .ok (.isub, 1) := by decide +kernel
theorem dX10_square_26 : decode cX10_square 26 = .ok (.imul, 1) := by decide +kernel
theorem dX10_square_27 : decode cX10_square 27 = .ok (.aload_n 0, 1) := by decide +kernel
theorem dX10_square_28 : decode cX10_square 28 = .ok (.getfield 16, 3) := by decide +kernel
theorem dX10_square_31 : decode cX10_square 31 = .ok (.iload_n 1, 1) := by decide +kernel
theorem dX10_square_32 : decode cX10_square 32 = .ok (.iaload, 1) := by decide +kernel
theorem dX10_square_33 : decode cX10_square 33 = .ok (.aload_n 0, 1) := by decide +kernel
theorem dX10_square_34 : decode cX10_square 34 = .ok (.getfield 16, 3) := by decide +kernel
theorem dX10_square_37 : decode cX10_square 37 = .ok (.iload_n 2, 1) := by decide +kernel
theorem dX10_square_38 : decode cX10_square 38 = .ok (.iaload, 1) := by decide +kernel
theorem dX10_square_39 : decode cX10_square 39 = .ok (.isub, 1) := by decide +kernel
theorem dX10_square_40 : decode cX10_square 40 = .ok (.aload_n 0, 1) := by decide +kernel
theorem dX10_square_41 : decode cX10_square 41 = .ok (.getfield 16, 3) := by decide +kernel
theorem dX10_square_44 : decode cX10_square 44 = .ok (.iload_n 1, 1) := by decide +kernel
theorem dX10_square_45 : decode cX10_square 45 = .ok (.iaload, 1) := by decide +kernel
theorem dX10_square_46 : decode cX10_square 46 = .ok (.aload_n 0, 1) := by decide +kernel
theorem dX10_square_47 : decode cX10_square 47 = .ok (.getfield 16, 3) := by decide +kernel
theorem dX10_square_50 : decode cX10_square 50 = .ok (.iload_n 2, 1) := by decide +kernel
theorem dX10_square_51 : decode cX10_square 51 = .ok (.iaload, 1) := by decide +kernel
theorem dX10_square_52 : decode cX10_square 52 = .ok (.isub, 1) := by decide +kernel
theorem dX10_square_53 : decode cX10_square 53 = .ok (.imul, 1) := by decide +kernel
theorem dX10_square_54 : decode cX10_square 54 = .ok (.iadd, 1) := by decide +kernel
theorem dX10_square_55 : decode cX10_square 55 = .ok (.ireturn, 1) := by decide +kernel
theorem dX10_barOf_0 : decode cX10_barOf 0 = .ok (.iload_n 1, 1) := by decide +kernel
theorem dX10_barOf_1 : decode cX10_barOf 1 = .ok (.iload_n 2, 1) := by decide +kernel
theorem dX10_barOf_2 : decode cX10_barOf 2 = .ok (.if_icmp .ne 8, 3) := by decide +kernel
theorem dX10_barOf_5 : decode cX10_barOf 5 = .ok (.aload_n 0, 1) := by decide +kernel
theorem dX10_barOf_6 : decode cX10_barOf 6 = .ok (.getfield 52, 3) := by decide +kernel
theorem dX10_barOf_9 : decode cX10_barOf 9 = .ok (.ireturn, 1) := by decide +kernel
theorem dX10_barOf_10 : decode cX10_barOf 10 = .ok (.iconst 0, 1) := by decide +kernel
theorem dX10_barOf_11 : decode cX10_barOf 11 = .ok (.istore_n 3, 1) := by decide +kernel
theorem dX10_barOf_12 : decode cX10_barOf 12 = .ok (.iconst 0, 1) := by decide +kernel
theorem dX10_barOf_13 : decode cX10_barOf 13 = .ok (.istore 4, 2) := by decide +kernel
theorem dX10_barOf_15 : decode cX10_barOf 15 = .ok (.iload 4, 2) := by decide +kernel
theorem dX10_barOf_17 : decode cX10_barOf 17 = .ok (.aload_n 0, 1) := by decide +kernel
theorem dX10_barOf_18 : decode cX10_barOf 18 = .ok (.getfield 125, 3) := by decide +kernel
theorem dX10_barOf_21 : decode cX10_barOf 21 = .ok (.if_icmp .ge 83, 3) := by decide +kernel
theorem dX10_barOf_24 : decode cX10_barOf 24 = .ok (.aload_n 0, 1) := by decide +kernel
theorem dX10_barOf_25 : decode cX10_barOf 25 = .ok (.getfield 43, 3) := by decide +kernel
theorem dX10_barOf_28 : decode cX10_barOf 28 = .ok (.iload 4, 2) := by decide +kernel
theorem dX10_barOf_30 : decode cX10_barOf 30 = .ok (.iaload, 1) := by decide +kernel
theorem dX10_barOf_31 : decode cX10_barOf 31 = .ok (.aload_n 0, 1) := by decide +kernel
theorem dX10_barOf_32 : decode cX10_barOf 32 = .ok (.iload_n 1, 1) := by decide +kernel
theorem dX10_barOf_33 : decode cX10_barOf 33 = .ok (.iload_n 2, 1) := by decide +kernel
theorem dX10_barOf_34 : decode cX10_barOf 34 = .ok (.invokevirtual 128, 3) := by decide +kernel
theorem dX10_barOf_37 : decode cX10_barOf 37 = .ok (.if_icmp .lt 30, 3) := by decide +kernel
theorem dX10_barOf_40 : decode cX10_barOf 40 = .ok (.aload_n 0, 1) := by decide +kernel
theorem dX10_barOf_41 : decode cX10_barOf 41 = .ok (.getfield 46, 3) := by decide +kernel
theorem dX10_barOf_44 : decode cX10_barOf 44 = .ok (.iload 4, 2) := by decide +kernel
theorem dX10_barOf_46 : decode cX10_barOf 46 = .ok (.iaload, 1) := by decide +kernel
theorem dX10_barOf_47 : decode cX10_barOf 47 = .ok (.aload_n 0, 1) := by decide +kernel
theorem dX10_barOf_48 : decode cX10_barOf 48 = .ok (.getfield 19, 3) := by decide +kernel
theorem dX10_barOf_51 : decode cX10_barOf 51 = .ok (.iload_n 1, 1) := by decide +kernel
theorem dX10_barOf_52 : decode cX10_barOf 52 = .ok (.iaload, 1) := by decide +kernel
theorem dX10_barOf_53 : decode cX10_barOf 53 = .ok (.aload_n 0, 1) := by decide +kernel
theorem dX10_barOf_54 : decode cX10_barOf 54 = .ok (.getfield 19, 3) := by decide +kernel
theorem dX10_barOf_57 : decode cX10_barOf 57 = .ok (.iload_n 2, 1) := by decide +kernel
theorem dX10_barOf_58 : decode cX10_barOf 58 = .ok (.iaload, 1) := by decide +kernel
theorem dX10_barOf_59 : decode cX10_barOf 59 = .ok (.iadd, 1) := by decide +kernel
theorem dX10_barOf_60 : decode cX10_barOf 60 = .ok (.if_icmp .gt 7, 3) := by decide +kernel
theorem dX10_barOf_63 : decode cX10_barOf 63 = .ok (.iconst 1, 1) := by decide +kernel
theorem dX10_barOf_64 : decode cX10_barOf 64 = .ok (.goto 4, 3) := by decide +kernel
theorem dX10_barOf_67 : decode cX10_barOf 67 = .ok (.iconst 0, 1) := by decide +kernel
theorem dX10_barOf_68 : decode cX10_barOf 68 = .ok (.istore 5, 2) := by decide +kernel
theorem dX10_barOf_70 : decode cX10_barOf 70 = .ok (.iload 5, 2) := by decide +kernel
theorem dX10_barOf_72 : decode cX10_barOf 72 = .ok (.ifCond .eq 24, 3) := by decide +kernel
theorem dX10_barOf_75 : decode cX10_barOf 75 = .ok (.aload_n 0, 1) := by decide +kernel
theorem dX10_barOf_76 : decode cX10_barOf 76 = .ok (.getfield 49, 3) := by decide +kernel
theorem dX10_barOf_79 : decode cX10_barOf 79 = .ok (.iload 4, 2) := by decide +kernel
theorem dX10_barOf_81 : decode cX10_barOf 81 = .ok (.iaload, 1) := by decide +kernel
theorem dX10_barOf_82 : decode cX10_barOf 82 = .ok (.iload_n 3, 1) := by decide +kernel
theorem dX10_barOf_83 : decode cX10_barOf 83 = .ok (.if_icmp .le 13, 3) := by decide +kernel
theorem dX10_barOf_86 : decode cX10_barOf 86 = .ok (.aload_n 0, 1) := by decide +kernel
theorem dX10_barOf_87 : decode cX10_barOf 87 = .ok (.getfield 49, 3) := by decide +kernel
theorem dX10_barOf_90 : decode cX10_barOf 90 = .ok (.iload 4, 2) := by decide +kernel
theorem dX10_barOf_92 : decode cX10_barOf 92 = .ok (.iaload, 1) := by decide +kernel
theorem dX10_barOf_93 : decode cX10_barOf 93 = .ok (.goto 4, 3) := by decide +kernel
theorem dX10_barOf_96 : decode cX10_barOf 96 = .ok (.iload_n 3, 1) := by decide +kernel
theorem dX10_barOf_97 : decode cX10_barOf 97 = .ok (.istore_n 3, 1) := by decide +kernel
theorem dX10_barOf_98 : decode cX10_barOf 98 = .ok (.iinc 4 1, 3) := by decide +kernel
theorem dX10_barOf_101 : decode cX10_barOf 101 = .ok (.goto (-86), 3) := by decide +kernel
theorem dX10_barOf_104 : decode cX10_barOf 104 = .ok (.iload_n 3, 1) := by decide +kernel
theorem dX10_barOf_105 : decode cX10_barOf 105 = .ok (.ireturn, 1) := by decide +kernel
theorem dX10_move_0 : decode cX10_move 0 = .ok (.aload_n 0, 1) := by decide +kernel
theorem dX10_move_1 : decode cX10_move 1 = .ok (.iconst 0, 1) := by decide +kernel
theorem dX10_move_2 : decode cX10_move 2 = .ok (.putfield 102, 3) := by decide +kernel
theorem dX10_move_5 : decode cX10_move 5 = .ok (.aload_n 0, 1) := by decide +kernel
theorem dX10_move_6 : decode cX10_move 6 = .ok (.iload_n 1, 1) := by decide +kernel
theorem dX10_move_7 : decode cX10_move 7 = .ok (.invokevirtual 132, 3) := by decide +kernel
theorem dX10_move_10 : decode cX10_move 10 = .ok (.ifCond .eq 10, 3) := by decide +kernel
theorem dX10_move_13 : decode cX10_move 13 = .ok (.iload_n 2, 1) := by decide +kernel
theorem dX10_move_14 : decode cX10_move 14 = .ok (.invokestatic 120, 3) := by decide +kernel
theorem dX10_move_17 : decode cX10_move 17 = .ok (.ifCond .ne 5, 3) := by decide +kernel
theorem dX10_move_20 : decode cX10_move 20 = .ok (.iconst (-1), 1) := by decide +kernel
theorem dX10_move_21 : decode cX10_move 21 = .ok (.ireturn, 1) := by decide +kernel
theorem dX10_move_22 : decode cX10_move 22 = .ok (.iconst 0, 1) := by decide +kernel
theorem dX10_move_23 : decode cX10_move 23 = .ok (.istore_n 3, 1) := by decide +kernel
theorem dX10_move_24 : decode cX10_move 24 = .ok (.iload_n 3, 1) := by decide +kernel
theorem dX10_move_25 : decode cX10_move 25 = .ok (.aload_n 0, 1) := by decide +kernel
theorem dX10_move_26 : decode cX10_move 26 = .ok (.getfield 105, 3) := by decide +kernel
theorem dX10_move_29 : decode cX10_move 29 = .ok (.if_icmp .ge 21, 3) := by decide +kernel
theorem dX10_move_32 : decode cX10_move 32 = .ok (.aload_n 0, 1) := by decide +kernel
theorem dX10_move_33 : decode cX10_move 33 = .ok (.getfield 62, 3) := by decide +kernel
theorem dX10_move_36 : decode cX10_move 36 = .ok (.iload_n 3, 1) := by decide +kernel
theorem dX10_move_37 : decode cX10_move 37 = .ok (.aload_n 0, 1) := by decide +kernel
theorem dX10_move_38 : decode cX10_move 38 = .ok (.iload_n 1, 1) := by decide +kernel
theorem dX10_move_39 : decode cX10_move 39 = .ok (.iload_n 3, 1) := by decide +kernel
theorem dX10_move_40 : decode cX10_move 40 = .ok (.invokevirtual 135, 3) := by decide +kernel
theorem dX10_move_43 : decode cX10_move 43 = .ok (.iastore, 1) := by decide +kernel
theorem dX10_move_44 : decode cX10_move 44 = .ok (.iinc 3 1, 3) := by decide +kernel
theorem dX10_move_47 : decode cX10_move 47 = .ok (.goto (-23), 3) := by decide +kernel
theorem dX10_move_50 : decode cX10_move 50 = .ok (.aload_n 0, 1) := by decide +kernel
theorem dX10_move_51 : decode cX10_move 51 = .ok (.getfield 13, 3) := by decide +kernel
theorem dX10_move_54 : decode cX10_move 54 = .ok (.iload_n 1, 1) := by decide +kernel
theorem dX10_move_55 : decode cX10_move 55 = .ok (.iload_n 2, 1) := by decide +kernel
theorem dX10_move_56 : decode cX10_move 56 = .ok (.bipush 64, 2) := by decide +kernel
theorem dX10_move_58 : decode cX10_move 58 = .ok (.idiv, 1) := by decide +kernel
theorem dX10_move_59 : decode cX10_move 59 = .ok (.iastore, 1) := by decide +kernel
theorem dX10_move_60 : decode cX10_move 60 = .ok (.aload_n 0, 1) := by decide +kernel
theorem dX10_move_61 : decode cX10_move 61 = .ok (.getfield 16, 3) := by decide +kernel
theorem dX10_move_64 : decode cX10_move 64 = .ok (.iload_n 1, 1) := by decide +kernel
theorem dX10_move_65 : decode cX10_move 65 = .ok (.iload_n 2, 1) := by decide +kernel
theorem dX10_move_66 : decode cX10_move 66 = .ok (.bipush 64, 2) := by decide +kernel
theorem dX10_move_68 : decode cX10_move 68 = .ok (.irem, 1) := by decide +kernel
theorem dX10_move_69 : decode cX10_move 69 = .ok (.iastore, 1) := by decide +kernel
theorem dX10_move_70 : decode cX10_move 70 = .ok (.iconst 0, 1) := by decide +kernel
theorem dX10_move_71 : decode cX10_move 71 = .ok (.istore_n 3, 1) := by decide +kernel
theorem dX10_move_72 : decode cX10_move 72 = .ok (.iconst 0, 1) := by decide +kernel
theorem dX10_move_73 : decode cX10_move 73 = .ok (.istore 4, 2) := by decide +kernel
theorem dX10_move_75 : decode cX10_move 75 = .ok (.iload 4, 2) := by decide +kernel
theorem dX10_move_77 : decode cX10_move 77 = .ok (.aload_n 0, 1) := by decide +kernel
theorem dX10_move_78 : decode cX10_move 78 = .ok (.getfield 105, 3) := by decide +kernel
theorem dX10_move_81 : decode cX10_move 81 = .ok (.if_icmp .ge 34, 3) := by decide +kernel
theorem dX10_move_84 : decode cX10_move 84 = .ok (.iload_n 3, 1) := by decide +kernel
theorem dX10_move_85 : decode cX10_move 85 = .ok (.aload_n 0, 1) := by decide +kernel
theorem dX10_move_86 : decode cX10_move 86 = .ok (.iload_n 1, 1) := by decide +kernel
theorem dX10_move_87 : decode cX10_move 87 = .ok (.iload 4, 2) := by decide +kernel
theorem dX10_move_89 : decode cX10_move 89 = .ok (.invokevirtual 135, 3) := by decide +kernel
theorem dX10_move_92 : decode cX10_move 92 = .ok (.aload_n 0, 1) := by decide +kernel
theorem dX10_move_93 : decode cX10_move 93 = .ok (.getfield 62, 3) := by decide +kernel
theorem dX10_move_96 : decode cX10_move 96 = .ok (.iload 4, 2) := by decide +kernel
theorem dX10_move_98 : decode cX10_move 98 = .ok (.iaload, 1) := by decide +kernel
theorem dX10_move_99 : decode cX10_move 99 = .ok (.if_icmp .eq 7, 3) := by decide +kernel
theorem dX10_move_102 : decode cX10_move 102 = .ok (.iconst 1, 1) := by decide +kernel
theorem dX10_move_103 : decode cX10_move 103 = .ok (.goto 4, 3) := by decide +kernel
theorem dX10_move_106 : decode cX10_move 106 = .ok (.iconst 0, 1) := by decide +kernel
theorem dX10_move_107 : decode cX10_move 107 = .ok (.iadd, 1) := by decide +kernel
theorem dX10_move_108 : decode cX10_move 108 = .ok (.istore_n 3, 1) := by decide +kernel
theorem dX10_move_109 : decode cX10_move 109 = .ok (.iinc 4 1, 3) := by decide +kernel
theorem dX10_move_112 : decode cX10_move 112 = .ok (.goto (-37), 3) := by decide +kernel
theorem dX10_move_115 : decode cX10_move 115 = .ok (.iload_n 3, 1) := by decide +kernel
theorem dX10_move_116 : decode cX10_move 116 = .ok (.ireturn, 1) := by decide +kernel
theorem dX10_countBits_0 : decode cX10_countBits 0 = .ok (.iconst 0, 1) := by decide +kernel
theorem dX10_countBits_1 : decode cX10_countBits 1 = .ok (.istore_n 2, 1) := by decide +kernel
theorem dX10_countBits_2 : decode cX10_countBits 2 = .ok (.iconst 0, 1) := by decide +kernel
theorem dX10_countBits_3 : decode cX10_countBits 3 = .ok (.istore_n 3, 1) := by decide +kernel
theorem dX10_countBits_4 : decode cX10_countBits 4 = .ok (.iload_n 3, 1) := by decide +kernel
theorem dX10_countBits_5 : decode cX10_countBits 5 = .ok (.bipush 30, 2) := by decide +kernel
theorem dX10_countBits_7 : decode cX10_countBits 7 = .ok (.if_icmp .ge 17, 3) := by decide +kernel
theorem dX10_countBits_10 : decode cX10_countBits 10 = .ok (.iload_n 2, 1) := by decide +kernel
theorem dX10_countBits_11 : decode cX10_countBits 11 = .ok (.iload_n 1, 1) := by decide +kernel
theorem dX10_countBits_12 : decode cX10_countBits 12 = .ok (.iload_n 3, 1) := by decide +kernel
theorem dX10_countBits_13 : decode cX10_countBits 13 = .ok (.ishr, 1) := by decide +kernel
theorem dX10_countBits_14 : decode cX10_countBits 14 = .ok (.iconst 1, 1) := by decide +kernel
theorem dX10_countBits_15 : decode cX10_countBits 15 = .ok (.iand, 1) := by decide +kernel
theorem dX10_countBits_16 : decode cX10_countBits 16 = .ok (.iadd, 1) := by decide +kernel
theorem dX10_countBits_17 : decode cX10_countBits 17 = .ok (.istore_n 2, 1) := by decide +kernel
theorem dX10_countBits_18 : decode cX10_countBits 18 = .ok (.iinc 3 1, 3) := by decide +kernel
theorem dX10_countBits_21 : decode cX10_countBits 21 = .ok (.goto (-17), 3) := by decide +kernel
theorem dX10_countBits_24 : decode cX10_countBits 24 = .ok (.iload_n 2, 1) := by decide +kernel
theorem dX10_countBits_25 : decode cX10_countBits 25 = .ok (.ireturn, 1) := by decide +kernel
theorem dX10_list_0 : decode cX10_list 0 = .ok (.aload_n 0, 1) := by decide +kernel
theorem dX10_list_1 : decode cX10_list 1 = .ok (.iconst 0, 1) := by decide +kernel
theorem dX10_list_2 : decode cX10_list 2 = .ok (.putfield 102, 3) := by decide +kernel
theorem dX10_list_5 : decode cX10_list 5 = .ok (.aload_n 0, 1) := by decide +kernel
theorem dX10_list_6 : decode cX10_list 6 = .ok (.iload_n 1, 1) := by decide +kernel
theorem dX10_list_7 : decode cX10_list 7 = .ok (.invokevirtual 132, 3) := by decide +kernel
theorem dX10_list_10 : decode cX10_list 10 = .ok (.ifCond .eq 10, 3) := by decide +kernel
theorem dX10_list_13 : decode cX10_list 13 = .ok (.iload_n 2, 1) := by decide +kernel
theorem dX10_list_14 : decode cX10_list 14 = .ok (.invokestatic 138, 3) := by decide +kernel
theorem dX10_list_17 : decode cX10_list 17 = .ok (.ifCond .ne 5, 3) := by decide +kernel
theorem dX10_list_20 : decode cX10_list 20 = .ok (.iconst (-1), 1) := by decide +kernel
theorem dX10_list_21 : decode cX10_list 21 = .ok (.ireturn, 1) := by decide +kernel
theorem dX10_list_22 : decode cX10_list 22 = .ok (.aload_n 0, 1) := by decide +kernel
theorem dX10_list_23 : decode cX10_list 23 = .ok (.getfield 28, 3) := by decide +kernel
theorem dX10_list_26 : decode cX10_list 26 = .ok (.iload_n 1, 1) := by decide +kernel
theorem dX10_list_27 : decode cX10_list 27 = .ok (.iload_n 2, 1) := by decide +kernel
theorem dX10_list_28 : decode cX10_list 28 = .ok (.iastore, 1) := by decide +kernel
theorem dX10_list_29 : decode cX10_list 29 = .ok (.aload_n 0, 1) := by decide +kernel
theorem dX10_list_30 : decode cX10_list 30 = .ok (.iload_n 2, 1) := by decide +kernel
theorem dX10_list_31 : decode cX10_list 31 = .ok (.invokevirtual 141, 3) := by decide +kernel
theorem dX10_list_34 : decode cX10_list 34 = .ok (.ireturn, 1) := by decide +kernel
theorem dX10_gap_0 : decode cX10_gap 0 = .ok (.aload_n 0, 1) := by decide +kernel
theorem dX10_gap_1 : decode cX10_gap 1 = .ok (.iconst 0, 1) := by decide +kernel
theorem dX10_gap_2 : decode cX10_gap 2 = .ok (.putfield 102, 3) := by decide +kernel
theorem dX10_gap_5 : decode cX10_gap 5 = .ok (.aload_n 0, 1) := by decide +kernel
theorem dX10_gap_6 : decode cX10_gap 6 = .ok (.iload_n 1, 1) := by decide +kernel
theorem dX10_gap_7 : decode cX10_gap 7 = .ok (.invokevirtual 132, 3) := by decide +kernel
theorem dX10_gap_10 : decode cX10_gap 10 = .ok (.ifCond .eq 25, 3) := by decide +kernel
theorem dX10_gap_13 : decode cX10_gap 13 = .ok (.aload_n 0, 1) := by decide +kernel
theorem dX10_gap_14 : decode cX10_gap 14 = .ok (.getfield 7, 3) := by decide +kernel
theorem dX10_gap_17 : decode cX10_gap 17 = .ok (.iload_n 1, 1) := by decide +kernel
theorem dX10_gap_18 : decode cX10_gap 18 = .ok (.iaload, 1) := by decide +kernel
theorem dX10_gap_19 : decode cX10_gap 19 = .ok (.iconst 1, 1) := by decide +kernel
theorem dX10_gap_20 : decode cX10_gap 20 = .ok (.if_icmp .ne 15, 3) := by decide +kernel
theorem dX10_gap_23 : decode cX10_gap 23 = .ok (.iload_n 2, 1) := by decide +kernel
theorem dX10_gap_24 : decode cX10_gap 24 = .ok (.i2l, 1) := by decide +kernel
theorem dX10_gap_25 : decode cX10_gap 25 = .ok (.lconst 1, 1) := by decide +kernel
theorem dX10_gap_26 : decode cX10_gap 26 = .ok (.ldc2_w 145, 3) := by decide +kernel
theorem dX10_gap_29 : decode cX10_gap 29 = .ok (.invokestatic 113, 3) := by decide +kernel
theorem dX10_gap_32 : decode cX10_gap 32 = .ok (.ifCond .ne 5, 3) := by decide +kernel
theorem dX10_gap_35 : decode cX10_gap 35 = .ok (.iconst (-1), 1) := by decide +kernel
theorem dX10_gap_36 : decode cX10_gap 36 = .ok (.ireturn, 1) := by decide +kernel
theorem dX10_gap_37 : decode cX10_gap 37 = .ok (.aload_n 0, 1) := by decide +kernel
theorem dX10_gap_38 : decode cX10_gap 38 = .ok (.getfield 31, 3) := by decide +kernel
theorem dX10_gap_41 : decode cX10_gap 41 = .ok (.iload_n 1, 1) := by decide +kernel
theorem dX10_gap_42 : decode cX10_gap 42 = .ok (.iaload, 1) := by decide +kernel
theorem dX10_gap_43 : decode cX10_gap 43 = .ok (.istore_n 3, 1) := by decide +kernel
theorem dX10_gap_44 : decode cX10_gap 44 = .ok (.aload_n 0, 1) := by decide +kernel
theorem dX10_gap_45 : decode cX10_gap 45 = .ok (.getfield 31, 3) := by decide +kernel
theorem dX10_gap_48 : decode cX10_gap 48 = .ok (.iload_n 1, 1) := by decide +kernel
theorem dX10_gap_49 : decode cX10_gap 49 = .ok (.iload_n 2, 1) := by decide +kernel
theorem dX10_gap_50 : decode cX10_gap 50 = .ok (.iastore, 1) := by decide +kernel
theorem dX10_gap_51 : decode cX10_gap 51 = .ok (.iload_n 3, 1) := by decide +kernel
theorem dX10_gap_52 : decode cX10_gap 52 = .ok (.ireturn, 1) := by decide +kernel
theorem dX10_stay_0 : decode cX10_stay 0 = .ok (.aload_n 0, 1) := by decide +kernel
theorem dX10_stay_1 : decode cX10_stay 1 = .ok (.iconst 0, 1) := by decide +kernel
theorem dX10_stay_2 : decode cX10_stay 2 = .ok (.putfield 102, 3) := by decide +kernel
theorem dX10_stay_5 : decode cX10_stay 5 = .ok (.aload_n 0, 1) := by decide +kernel
theorem dX10_stay_6 : decode cX10_stay 6 = .ok (.iload_n 1, 1) := by decide +kernel
theorem dX10_stay_7 : decode cX10_stay 7 = .ok (.invokevirtual 147, 3) := by decide +kernel
theorem dX10_stay_10 : decode cX10_stay 10 = .ok (.ifCond .eq 32, 3) := by decide +kernel
theorem dX10_stay_13 : decode cX10_stay 13 = .ok (.aload_n 0, 1) := by decide +kernel
theorem dX10_stay_14 : decode cX10_stay 14 = .ok (.getfield 7, 3) := by decide +kernel
theorem dX10_stay_17 : decode cX10_stay 17 = .ok (.aload_n 0, 1) := by decide +kernel
theorem dX10_stay_18 : decode cX10_stay 18 = .ok (.getfield 34, 3) := by decide +kernel
theorem dX10_stay_21 : decode cX10_stay 21 = .ok (.iload_n 1, 1) := by decide +kernel
theorem dX10_stay_22 : decode cX10_stay 22 = .ok (.iaload, 1) := by decide +kernel
theorem dX10_stay_23 : decode cX10_stay 23 = .ok (.iaload, 1) := by decide +kernel
theorem dX10_stay_24 : decode cX10_stay 24 = .ok (.iconst 2, 1) := by decide +kernel
theorem dX10_stay_25 : decode cX10_stay 25 = .ok (.if_icmp .ne 17, 3) := by decide +kernel
theorem dX10_stay_28 : decode cX10_stay 28 = .ok (.iload_n 2, 1) := by decide +kernel
theorem dX10_stay_29 : decode cX10_stay 29 = .ok (.i2l, 1) := by decide +kernel
theorem dX10_stay_30 : decode cX10_stay 30 = .ok (.ldc2_w 150, 3) := by decide +kernel
theorem dX10_stay_33 : decode cX10_stay 33 = .ok (.ldc2_w 152, 3) := by decide +kernel
theorem dX10_stay_36 : decode cX10_stay 36 = .ok (.invokestatic 113, 3) := by decide +kernel
theorem dX10_stay_39 : decode cX10_stay 39 = .ok (.ifCond .ne 5, 3) := by decide +kernel
theorem dX10_stay_42 : decode cX10_stay 42 = .ok (.iconst (-1), 1) := by decide +kernel
theorem dX10_stay_43 : decode cX10_stay 43 = .ok (.ireturn, 1) := by decide +kernel
theorem dX10_stay_44 : decode cX10_stay 44 = .ok (.aload_n 0, 1) := by decide +kernel
theorem dX10_stay_45 : decode cX10_stay 45 = .ok (.getfield 37, 3) := by decide +kernel
theorem dX10_stay_48 : decode cX10_stay 48 = .ok (.iload_n 1, 1) := by decide +kernel
theorem dX10_stay_49 : decode cX10_stay 49 = .ok (.iload_n 2, 1) := by decide +kernel
theorem dX10_stay_50 : decode cX10_stay 50 = .ok (.iastore, 1) := by decide +kernel
theorem dX10_stay_51 : decode cX10_stay 51 = .ok (.iconst 0, 1) := by decide +kernel
theorem dX10_stay_52 : decode cX10_stay 52 = .ok (.ireturn, 1) := by decide +kernel
theorem dX10_row_0 : decode cX10_row 0 = .ok (.aload_n 0, 1) := by decide +kernel
theorem dX10_row_1 : decode cX10_row 1 = .ok (.iconst 0, 1) := by decide +kernel
theorem dX10_row_2 : decode cX10_row 2 = .ok (.putfield 102, 3) := by decide +kernel
theorem dX10_row_5 : decode cX10_row 5 = .ok (.iload_n 1, 1) := by decide +kernel
theorem dX10_row_6 : decode cX10_row 6 = .ok (.i2l, 1) := by decide +kernel
theorem dX10_row_7 : decode cX10_row 7 = .ok (.lconst 0, 1) := by decide +kernel
theorem dX10_row_8 : decode cX10_row 8 = .ok (.ldc2_w 154, 3) := by decide +kernel
theorem dX10_row_11 : decode cX10_row 11 = .ok (.invokestatic 113, 3) := by decide +kernel
theorem dX10_row_14 : decode cX10_row 14 = .ok (.ifCond .eq 27, 3) := by decide +kernel
theorem dX10_row_17 : decode cX10_row 17 = .ok (.iload_n 2, 1) := by decide +kernel
theorem dX10_row_18 : decode cX10_row 18 = .ok (.i2l, 1) := by decide +kernel
theorem dX10_row_19 : decode cX10_row 19 = .ok (.lconst 0, 1) := by decide +kernel
theorem dX10_row_20 : decode cX10_row 20 = .ok (.ldc2_w 156, 3) := by decide +kernel
theorem dX10_row_23 : decode cX10_row 23 = .ok (.invokestatic 113, 3) := by decide +kernel
theorem dX10_row_26 : decode cX10_row 26 = .ok (.ifCond .eq 15, 3) := by decide +kernel
theorem dX10_row_29 : decode cX10_row 29 = .ok (.iload_n 3, 1) := by decide +kernel
theorem dX10_row_30 : decode cX10_row 30 = .ok (.i2l, 1) := by decide +kernel
theorem dX10_row_31 : decode cX10_row 31 = .ok (.lconst 0, 1) := by decide +kernel
theorem dX10_row_32 : decode cX10_row 32 = .ok (.ldc2_w 158, 3) := by decide +kernel
theorem dX10_row_35 : decode cX10_row 35 = .ok (.invokestatic 113, 3) := by decide +kernel
theorem dX10_row_38 : decode cX10_row 38 = .ok (.ifCond .ne 5, 3) := by decide +kernel
theorem dX10_row_41 : decode cX10_row 41 = .ok (.iconst (-1), 1) := by decide +kernel
theorem dX10_row_42 : decode cX10_row 42 = .ok (.ireturn, 1) := by decide +kernel
theorem dX10_row_43 : decode cX10_row 43 = .ok (.aload_n 0, 1) := by decide +kernel
theorem dX10_row_44 : decode cX10_row 44 = .ok (.getfield 125, 3) := by decide +kernel
theorem dX10_row_47 : decode cX10_row 47 = .ok (.bipush 8, 2) := by decide +kernel
theorem dX10_row_49 : decode cX10_row 49 = .ok (.if_icmp .ne 6, 3) := by decide +kernel
theorem dX10_row_52 : decode cX10_row 52 = .ok (.bipush (-2), 2) := by decide +kernel
theorem dX10_row_54 : decode cX10_row 54 = .ok (.ireturn, 1) := by decide +kernel
theorem dX10_row_55 : decode cX10_row 55 = .ok (.aload_n 0, 1) := by decide +kernel
theorem dX10_row_56 : decode cX10_row 56 = .ok (.getfield 43, 3) := by decide +kernel
theorem dX10_row_59 : decode cX10_row 59 = .ok (.aload_n 0, 1) := by decide +kernel
theorem dX10_row_60 : decode cX10_row 60 = .ok (.getfield 125, 3) := by decide +kernel
theorem dX10_row_63 : decode cX10_row 63 = .ok (.iload_n 1, 1) := by decide +kernel
theorem dX10_row_64 : decode cX10_row 64 = .ok (.iastore, 1) := by decide +kernel
theorem dX10_row_65 : decode cX10_row 65 = .ok (.aload_n 0, 1) := by decide +kernel
theorem dX10_row_66 : decode cX10_row 66 = .ok (.getfield 46, 3) := by decide +kernel
theorem dX10_row_69 : decode cX10_row 69 = .ok (.aload_n 0, 1) := by decide +kernel
theorem dX10_row_70 : decode cX10_row 70 = .ok (.getfield 125, 3) := by decide +kernel
theorem dX10_row_73 : decode cX10_row 73 = .ok (.iload_n 2, 1) := by decide +kernel
theorem dX10_row_74 : decode cX10_row 74 = .ok (.iastore, 1) := by decide +kernel
theorem dX10_row_75 : decode cX10_row 75 = .ok (.aload_n 0, 1) := by decide +kernel
theorem dX10_row_76 : decode cX10_row 76 = .ok (.getfield 49, 3) := by decide +kernel
theorem dX10_row_79 : decode cX10_row 79 = .ok (.aload_n 0, 1) := by decide +kernel
theorem dX10_row_80 : decode cX10_row 80 = .ok (.getfield 125, 3) := by decide +kernel
theorem dX10_row_83 : decode cX10_row 83 = .ok (.iload_n 3, 1) := by decide +kernel
theorem dX10_row_84 : decode cX10_row 84 = .ok (.iastore, 1) := by decide +kernel
theorem dX10_row_85 : decode cX10_row 85 = .ok (.aload_n 0, 1) := by decide +kernel
theorem dX10_row_86 : decode cX10_row 86 = .ok (.dup, 1) := by decide +kernel
theorem dX10_row_87 : decode cX10_row 87 = .ok (.getfield 125, 3) := by decide +kernel
theorem dX10_row_90 : decode cX10_row 90 = .ok (.iconst 1, 1) := by decide +kernel
theorem dX10_row_91 : decode cX10_row 91 = .ok (.iadd, 1) := by decide +kernel
theorem dX10_row_92 : decode cX10_row 92 = .ok (.putfield 125, 3) := by decide +kernel
theorem dX10_row_95 : decode cX10_row 95 = .ok (.aload_n 0, 1) := by decide +kernel
theorem dX10_row_96 : decode cX10_row 96 = .ok (.getfield 125, 3) := by decide +kernel
theorem dX10_row_99 : decode cX10_row 99 = .ok (.ireturn, 1) := by decide +kernel
theorem dX10_own_0 : decode cX10_own 0 = .ok (.aload_n 0, 1) := by decide +kernel
theorem dX10_own_1 : decode cX10_own 1 = .ok (.iconst 0, 1) := by decide +kernel
theorem dX10_own_2 : decode cX10_own 2 = .ok (.putfield 102, 3) := by decide +kernel
theorem dX10_own_5 : decode cX10_own 5 = .ok (.iload_n 1, 1) := by decide +kernel
theorem dX10_own_6 : decode cX10_own 6 = .ok (.i2l, 1) := by decide +kernel
theorem dX10_own_7 : decode cX10_own 7 = .ok (.lconst 0, 1) := by decide +kernel
theorem dX10_own_8 : decode cX10_own 8 = .ok (.ldc2_w 156, 3) := by decide +kernel
theorem dX10_own_11 : decode cX10_own 11 = .ok (.invokestatic 113, 3) := by decide +kernel
theorem dX10_own_14 : decode cX10_own 14 = .ok (.ifCond .eq 17, 3) := by decide +kernel
theorem dX10_own_17 : decode cX10_own 17 = .ok (.iload_n 2, 1) := by decide +kernel
theorem dX10_own_18 : decode cX10_own 18 = .ok (.i2l, 1) := by decide +kernel
theorem dX10_own_19 : decode cX10_own 19 = .ok (.ldc2_w 150, 3) := by decide +kernel
theorem dX10_own_22 : decode cX10_own 22 = .ok (.ldc2_w 154, 3) := by decide +kernel
theorem dX10_own_25 : decode cX10_own 25 = .ok (.invokestatic 113, 3) := by decide +kernel
theorem dX10_own_28 : decode cX10_own 28 = .ok (.ifCond .ne 5, 3) := by decide +kernel
theorem dX10_own_31 : decode cX10_own 31 = .ok (.iconst (-1), 1) := by decide +kernel
theorem dX10_own_32 : decode cX10_own 32 = .ok (.ireturn, 1) := by decide +kernel
theorem dX10_own_33 : decode cX10_own 33 = .ok (.aload_n 0, 1) := by decide +kernel
theorem dX10_own_34 : decode cX10_own 34 = .ok (.iload_n 1, 1) := by decide +kernel
theorem dX10_own_35 : decode cX10_own 35 = .ok (.putfield 52, 3) := by decide +kernel
theorem dX10_own_38 : decode cX10_own 38 = .ok (.aload_n 0, 1) := by decide +kernel
theorem dX10_own_39 : decode cX10_own 39 = .ok (.iload_n 2, 1) := by decide +kernel
theorem dX10_own_40 : decode cX10_own 40 = .ok (.putfield 56, 3) := by decide +kernel
theorem dX10_own_43 : decode cX10_own 43 = .ok (.iconst 0, 1) := by decide +kernel
theorem dX10_own_44 : decode cX10_own 44 = .ok (.ireturn, 1) := by decide +kernel
theorem dX10_border_0 : decode cX10_border 0 = .ok (.aload_n 0, 1) := by decide +kernel
theorem dX10_border_1 : decode cX10_border 1 = .ok (.iconst 0, 1) := by decide +kernel
theorem dX10_border_2 : decode cX10_border 2 = .ok (.putfield 102, 3) := by decide +kernel
theorem dX10_border_5 : decode cX10_border 5 = .ok (.iload_n 1, 1) := by decide +kernel
theorem dX10_border_6 : decode cX10_border 6 = .ok (.i2l, 1) := by decide +kernel
theorem dX10_border_7 : decode cX10_border 7 = .ok (.ldc2_w 150, 3) := by decide +kernel
theorem dX10_border_10 : decode cX10_border 10 = .ok (.ldc2_w 111, 3) := by decide +kernel
theorem dX10_border_13 : decode cX10_border 13 = .ok (.invokestatic 113, 3) := by decide +kernel
theorem dX10_border_16 : decode cX10_border 16 = .ok (.ifCond .eq 30, 3) := by decide +kernel
theorem dX10_border_19 : decode cX10_border 19 = .ok (.iload_n 2, 1) := by decide +kernel
theorem dX10_border_20 : decode cX10_border 20 = .ok (.i2l, 1) := by decide +kernel
theorem dX10_border_21 : decode cX10_border 21 = .ok (.lconst 0, 1) := by decide +kernel
theorem dX10_border_22 : decode cX10_border 22 = .ok (.ldc2_w 111, 3) := by decide +kernel
theorem dX10_border_25 : decode cX10_border 25 = .ok (.invokestatic 113, 3) := by decide +kernel
theorem dX10_border_28 : decode cX10_border 28 = .ok (.ifCond .eq 18, 3) := by decide +kernel
theorem dX10_border_31 : decode cX10_border 31 = .ok (.iload_n 3, 1) := by decide +kernel
theorem dX10_border_32 : decode cX10_border 32 = .ok (.invokestatic 138, 3) := by decide +kernel
theorem dX10_border_35 : decode cX10_border 35 = .ok (.ifCond .eq 11, 3) := by decide +kernel
theorem dX10_border_38 : decode cX10_border 38 = .ok (.iload 4, 2) := by decide +kernel
theorem dX10_border_40 : decode cX10_border 40 = .ok (.invokestatic 138, 3) := by decide +kernel
theorem dX10_border_43 : decode cX10_border 43 = .ok (.ifCond .ne 5, 3) := by decide +kernel
theorem dX10_border_46 : decode cX10_border 46 = .ok (.iconst (-1), 1) := by decide +kernel
theorem dX10_border_47 : decode cX10_border 47 = .ok (.ireturn, 1) := by decide +kernel
theorem dX10_border_48 : decode cX10_border 48 = .ok (.aload_n 0, 1) := by decide +kernel
theorem dX10_border_49 : decode cX10_border 49 = .ok (.iload_n 1, 1) := by decide +kernel
theorem dX10_border_50 : decode cX10_border 50 = .ok (.putfield 59, 3) := by decide +kernel
theorem dX10_border_53 : decode cX10_border 53 = .ok (.aload_n 0, 1) := by decide +kernel
theorem dX10_border_54 : decode cX10_border 54 = .ok (.iload_n 2, 1) := by decide +kernel
theorem dX10_border_55 : decode cX10_border 55 = .ok (.putfield 160, 3) := by decide +kernel
theorem dX10_border_58 : decode cX10_border 58 = .ok (.aload_n 0, 1) := by decide +kernel
theorem dX10_border_59 : decode cX10_border 59 = .ok (.iload_n 3, 1) := by decide +kernel
theorem dX10_border_60 : decode cX10_border 60 = .ok (.putfield 163, 3) := by decide +kernel
theorem dX10_border_63 : decode cX10_border 63 = .ok (.aload_n 0, 1) := by decide +kernel
theorem dX10_border_64 : decode cX10_border 64 = .ok (.iload 4, 2) := by decide +kernel
theorem dX10_border_66 : decode cX10_border 66 = .ok (.putfield 166, 3) := by decide +kernel
theorem dX10_border_69 : decode cX10_border 69 = .ok (.iconst 0, 1) := by decide +kernel
theorem dX10_border_70 : decode cX10_border 70 = .ok (.ireturn, 1) := by decide +kernel
theorem dX10_isFree_0 : decode cX10_isFree 0 = .ok (.aload_n 0, 1) := by decide +kernel
theorem dX10_isFree_1 : decode cX10_isFree 1 = .ok (.getfield 13, 3) := by decide +kernel
theorem dX10_isFree_4 : decode cX10_isFree 4 = .ok (.iload_n 1, 1) := by decide +kernel
theorem dX10_isFree_5 : decode cX10_isFree 5 = .ok (.iaload, 1) := by decide +kernel
theorem dX10_isFree_6 : decode cX10_isFree 6 = .ok (.aload_n 0, 1) := by decide +kernel
theorem dX10_isFree_7 : decode cX10_isFree 7 = .ok (.getfield 59, 3) := by decide +kernel
theorem dX10_isFree_10 : decode cX10_isFree 10 = .ok (.isub, 1) := by decide +kernel
theorem dX10_isFree_11 : decode cX10_isFree 11 = .ok (.istore_n 3, 1) := by decide +kernel
theorem dX10_isFree_12 : decode cX10_isFree 12 = .ok (.aload_n 0, 1) := by decide +kernel
theorem dX10_isFree_13 : decode cX10_isFree 13 = .ok (.getfield 7, 3) := by decide +kernel
theorem dX10_isFree_16 : decode cX10_isFree 16 = .ok (.iload_n 1, 1) := by decide +kernel
theorem dX10_isFree_17 : decode cX10_isFree 17 = .ok (.iaload, 1) := by decide +kernel
theorem dX10_isFree_18 : decode cX10_isFree 18 = .ok (.iconst 3, 1) := by decide +kernel
theorem dX10_isFree_19 : decode cX10_isFree 19 = .ok (.if_icmp .ne 27, 3) := by decide +kernel
theorem dX10_isFree_22 : decode cX10_isFree 22 = .ok (.aload_n 0, 1) := by decide +kernel
theorem dX10_isFree_23 : decode cX10_isFree 23 = .ok (.getfield 59, 3) := by decide +kernel
theorem dX10_isFree_26 : decode cX10_isFree 26 = .ok (.ifCond .lt 20, 3) := by decide +kernel
theorem dX10_isFree_29 : decode cX10_isFree 29 = .ok (.iload_n 3, 1) := by decide +kernel
theorem dX10_isFree_30 : decode cX10_isFree 30 = .ok (.aload_n 0, 1) := by decide +kernel
theorem dX10_isFree_31 : decode cX10_isFree 31 = .ok (.getfield 160, 3) := by decide +kernel
theorem dX10_isFree_34 : decode cX10_isFree 34 = .ok (.if_icmp .gt 12, 3) := by decide +kernel
theorem dX10_isFree_37 : decode cX10_isFree 37 = .ok (.iload_n 3, 1) := by decide +kernel
theorem dX10_isFree_38 : decode cX10_isFree 38 = .ok (.ineg, 1) := by decide +kernel
theorem dX10_isFree_39 : decode cX10_isFree 39 = .ok (.aload_n 0, 1) := by decide +kernel
theorem dX10_isFree_40 : decode cX10_isFree 40 = .ok (.getfield 160, 3) := by decide +kernel
theorem dX10_isFree_43 : decode cX10_isFree 43 = .ok (.if_icmp .le 5, 3) := by decide +kernel
theorem dX10_isFree_46 : decode cX10_isFree 46 = .ok (.iconst 1, 1) := by decide +kernel
theorem dX10_isFree_47 : decode cX10_isFree 47 = .ok (.ireturn, 1) := by decide +kernel
theorem dX10_isFree_48 : decode cX10_isFree 48 = .ok (.iload_n 3, 1) := by decide +kernel
theorem dX10_isFree_49 : decode cX10_isFree 49 = .ok (.ifCond .ge 10, 3) := by decide +kernel
theorem dX10_isFree_52 : decode cX10_isFree 52 = .ok (.aload_n 0, 1) := by decide +kernel
theorem dX10_isFree_53 : decode cX10_isFree 53 = .ok (.getfield 163, 3) := by decide +kernel
theorem dX10_isFree_56 : decode cX10_isFree 56 = .ok (.goto 7, 3) := by decide +kernel
theorem dX10_isFree_59 : decode cX10_isFree 59 = .ok (.aload_n 0, 1) := by decide +kernel
theorem dX10_isFree_60 : decode cX10_isFree 60 = .ok (.getfield 166, 3) := by decide +kernel
theorem dX10_isFree_63 : decode cX10_isFree 63 = .ok (.iload_n 2, 1) := by decide +kernel
theorem dX10_isFree_64 : decode cX10_isFree 64 = .ok (.ishr, 1) := by decide +kernel
theorem dX10_isFree_65 : decode cX10_isFree 65 = .ok (.iconst 1, 1) := by decide +kernel
theorem dX10_isFree_66 : decode cX10_isFree 66 = .ok (.iand, 1) := by decide +kernel
theorem dX10_isFree_67 : decode cX10_isFree 67 = .ok (.iconst 1, 1) := by decide +kernel
theorem dX10_isFree_68 : decode cX10_isFree 68 = .ok (.if_icmp .ne 7, 3) := by decide +kernel
theorem dX10_isFree_71 : decode cX10_isFree 71 = .ok (.iconst 1, 1) := by decide +kernel
theorem dX10_isFree_72 : decode cX10_isFree 72 = .ok (.goto 4, 3) := by decide +kernel
theorem dX10_isFree_75 : decode cX10_isFree 75 = .ok (.iconst 0, 1) := by decide +kernel
theorem dX10_isFree_76 : decode cX10_isFree 76 = .ok (.ireturn, 1) := by decide +kernel
theorem dX10_isListed_0 : decode cX10_isListed 0 = .ok (.iload_n 2, 1) := by decide +kernel
theorem dX10_isListed_1 : decode cX10_isListed 1 = .ok (.bipush 30, 2) := by decide +kernel
theorem dX10_isListed_3 : decode cX10_isListed 3 = .ok (.if_icmp .ge 21, 3) := by decide +kernel
theorem dX10_isListed_6 : decode cX10_isListed 6 = .ok (.aload_n 0, 1) := by decide +kernel
theorem dX10_isListed_7 : decode cX10_isListed 7 = .ok (.getfield 28, 3) := by decide +kernel
theorem dX10_isListed_10 : decode cX10_isListed 10 = .ok (.iload_n 1, 1) := by decide +kernel
theorem dX10_isListed_11 : decode cX10_isListed 11 = .ok (.iaload, 1) := by decide +kernel
theorem dX10_isListed_12 : decode cX10_isListed 12 = .ok (.iload_n 2, 1) := by decide +kernel
theorem dX10_isListed_13 : decode cX10_isListed 13 = .ok (.ishr, 1) := by decide +kernel
theorem dX10_isListed_14 : decode cX10_isListed 14 = .ok (.iconst 1, 1) := by decide +kernel
theorem dX10_isListed_15 : decode cX10_isListed 15 = .ok (.iand, 1) := by decide +kernel
theorem dX10_isListed_16 : decode cX10_isListed 16 = .ok (.iconst 1, 1) := by decide +kernel
theorem dX10_isListed_17 : decode cX10_isListed 17 = .ok (.if_icmp .ne 7, 3) := by decide +kernel
theorem dX10_isListed_20 : decode cX10_isListed 20 = .ok (.iconst 1, 1) := by decide +kernel
theorem dX10_isListed_21 : decode cX10_isListed 21 = .ok (.goto 4, 3) := by decide +kernel
theorem dX10_isListed_24 : decode cX10_isListed 24 = .ok (.iconst 0, 1) := by decide +kernel
theorem dX10_isListed_25 : decode cX10_isListed 25 = .ok (.ireturn, 1) := by decide +kernel
theorem dX10_mayHave_0 : decode cX10_mayHave 0 = .ok (.aload_n 0, 1) := by decide +kernel
theorem dX10_mayHave_1 : decode cX10_mayHave 1 = .ok (.getfield 34, 3) := by decide +kernel
theorem dX10_mayHave_4 : decode cX10_mayHave 4 = .ok (.iload_n 1, 1) := by decide +kernel
theorem dX10_mayHave_5 : decode cX10_mayHave 5 = .ok (.iaload, 1) := by decide +kernel
theorem dX10_mayHave_6 : decode cX10_mayHave 6 = .ok (.istore_n 3, 1) := by decide +kernel
theorem dX10_mayHave_7 : decode cX10_mayHave 7 = .ok (.iload_n 2, 1) := by decide +kernel
theorem dX10_mayHave_8 : decode cX10_mayHave 8 = .ok (.i2l, 1) := by decide +kernel
theorem dX10_mayHave_9 : decode cX10_mayHave 9 = .ok (.lconst 0, 1) := by decide +kernel
theorem dX10_mayHave_10 : decode cX10_mayHave 10 = .ok (.ldc2_w 152, 3) := by decide +kernel
theorem dX10_mayHave_13 : decode cX10_mayHave 13 = .ok (.invokestatic 113, 3) := by decide +kernel
theorem dX10_mayHave_16 : decode cX10_mayHave 16 = .ok (.ifCond .eq 42, 3) := by decide +kernel
theorem dX10_mayHave_19 : decode cX10_mayHave 19 = .ok (.aload_n 0, 1) := by decide +kernel
theorem dX10_mayHave_20 : decode cX10_mayHave 20 = .ok (.iload_n 3, 1) := by decide +kernel
theorem dX10_mayHave_21 : decode cX10_mayHave 21 = .ok (.iload_n 2, 1) := by decide +kernel
theorem dX10_mayHave_22 : decode cX10_mayHave 22 = .ok (.invokevirtual 169, 3) := by decide +kernel
theorem dX10_mayHave_25 : decode cX10_mayHave 25 = .ok (.ifCond .eq 33, 3) := by decide +kernel
theorem dX10_mayHave_28 : decode cX10_mayHave 28 = .ok (.aload_n 0, 1) := by decide +kernel
theorem dX10_mayHave_29 : decode cX10_mayHave 29 = .ok (.getfield 7, 3) := by decide +kernel
theorem dX10_mayHave_32 : decode cX10_mayHave 32 = .ok (.iload_n 3, 1) := by decide +kernel
theorem dX10_mayHave_33 : decode cX10_mayHave 33 = .ok (.iaload, 1) := by decide +kernel
theorem dX10_mayHave_34 : decode cX10_mayHave 34 = .ok (.iconst 1, 1) := by decide +kernel
theorem dX10_mayHave_35 : decode cX10_mayHave 35 = .ok (.if_icmp .ne 19, 3) := by decide +kernel
theorem dX10_mayHave_38 : decode cX10_mayHave 38 = .ok (.aload_n 0, 1) := by decide +kernel
theorem dX10_mayHave_39 : decode cX10_mayHave 39 = .ok (.iload_n 3, 1) := by decide +kernel
theorem dX10_mayHave_40 : decode cX10_mayHave 40 = .ok (.iload_n 2, 1) := by decide +kernel
theorem dX10_mayHave_41 : decode cX10_mayHave 41 = .ok (.aload_n 0, 1) := by decide +kernel
theorem dX10_mayHave_42 : decode cX10_mayHave 42 = .ok (.getfield 31, 3) := by decide +kernel
theorem dX10_mayHave_45 : decode cX10_mayHave 45 = .ok (.iload_n 3, 1) := by decide +kernel
theorem dX10_mayHave_46 : decode cX10_mayHave 46 = .ok (.iaload, 1) := by decide +kernel
theorem dX10_mayHave_47 : decode cX10_mayHave 47 = .ok (.iadd, 1) := by decide +kernel
theorem dX10_mayHave_48 : decode cX10_mayHave 48 = .ok (.invokevirtual 169, 3) := by decide +kernel
theorem dX10_mayHave_51 : decode cX10_mayHave 51 = .ok (.ifCond .eq 7, 3) := by decide +kernel
theorem dX10_mayHave_54 : decode cX10_mayHave 54 = .ok (.iconst 1, 1) := by decide +kernel
theorem dX10_mayHave_55 : decode cX10_mayHave 55 = .ok (.goto 4, 3) := by decide +kernel
theorem dX10_mayHave_58 : decode cX10_mayHave 58 = .ok (.iconst 0, 1) := by decide +kernel
theorem dX10_mayHave_59 : decode cX10_mayHave 59 = .ok (.istore 4, 2) := by decide +kernel
theorem dX10_mayHave_61 : decode cX10_mayHave 61 = .ok (.iload 4, 2) := by decide +kernel
theorem dX10_mayHave_63 : decode cX10_mayHave 63 = .ok (.ifCond .eq 35, 3) := by decide +kernel
theorem dX10_mayHave_66 : decode cX10_mayHave 66 = .ok (.aload_n 0, 1) := by decide +kernel
theorem dX10_mayHave_67 : decode cX10_mayHave 67 = .ok (.iload_n 3, 1) := by decide +kernel
theorem dX10_mayHave_68 : decode cX10_mayHave 68 = .ok (.iload_n 2, 1) := by decide +kernel
theorem dX10_mayHave_69 : decode cX10_mayHave 69 = .ok (.invokevirtual 173, 3) := by decide +kernel
theorem dX10_mayHave_72 : decode cX10_mayHave 72 = .ok (.ifCond .eq 26, 3) := by decide +kernel
theorem dX10_mayHave_75 : decode cX10_mayHave 75 = .ok (.aload_n 0, 1) := by decide +kernel
theorem dX10_mayHave_76 : decode cX10_mayHave 76 = .ok (.getfield 37, 3) := by decide +kernel
theorem dX10_mayHave_79 : decode cX10_mayHave 79 = .ok (.iload_n 1, 1) := by decide +kernel
theorem dX10_mayHave_80 : decode cX10_mayHave 80 = .ok (.iaload, 1) := by decide +kernel
theorem dX10_mayHave_81 : decode cX10_mayHave 81 = .ok (.ifCond .lt 13, 3) := by decide +kernel
theorem dX10_mayHave_84 : decode cX10_mayHave 84 = .ok (.aload_n 0, 1) := by decide +kernel
theorem dX10_mayHave_85 : decode cX10_mayHave 85 = .ok (.getfield 37, 3) := by decide +kernel
theorem dX10_mayHave_88 : decode cX10_mayHave 88 = .ok (.iload_n 1, 1) := by decide +kernel
theorem dX10_mayHave_89 : decode cX10_mayHave 89 = .ok (.iaload, 1) := by decide +kernel
theorem dX10_mayHave_90 : decode cX10_mayHave 90 = .ok (.iload_n 2, 1) := by decide +kernel
theorem dX10_mayHave_91 : decode cX10_mayHave 91 = .ok (.if_icmp .ne 7, 3) := by decide +kernel
theorem dX10_mayHave_94 : decode cX10_mayHave 94 = .ok (.iconst 1, 1) := by decide +kernel
theorem dX10_mayHave_95 : decode cX10_mayHave 95 = .ok (.goto 4, 3) := by decide +kernel
theorem dX10_mayHave_98 : decode cX10_mayHave 98 = .ok (.iconst 0, 1) := by decide +kernel
theorem dX10_mayHave_99 : decode cX10_mayHave 99 = .ok (.ireturn, 1) := by decide +kernel
theorem dX10_turn_0 : decode cX10_turn 0 = .ok (.aload_n 0, 1) := by decide +kernel
theorem dX10_turn_1 : decode cX10_turn 1 = .ok (.iconst 0, 1) := by decide +kernel
theorem dX10_turn_2 : decode cX10_turn 2 = .ok (.putfield 102, 3) := by decide +kernel
theorem dX10_turn_5 : decode cX10_turn 5 = .ok (.iconst 0, 1) := by decide +kernel
theorem dX10_turn_6 : decode cX10_turn 6 = .ok (.istore_n 1, 1) := by decide +kernel
theorem dX10_turn_7 : decode cX10_turn 7 = .ok (.iconst 0, 1) := by decide +kernel
theorem dX10_turn_8 : decode cX10_turn 8 = .ok (.istore_n 2, 1) := by decide +kernel
theorem dX10_turn_9 : decode cX10_turn 9 = .ok (.iload_n 2, 1) := by decide +kernel
theorem dX10_turn_10 : decode cX10_turn 10 = .ok (.aload_n 0, 1) := by decide +kernel
theorem dX10_turn_11 : decode cX10_turn 11 = .ok (.getfield 108, 3) := by decide +kernel
theorem dX10_turn_14 : decode cX10_turn 14 = .ok (.if_icmp .ge 98, 3) := by decide +kernel
theorem dX10_turn_17 : decode cX10_turn 17 = .ok (.aload_n 0, 1) := by decide +kernel
theorem dX10_turn_18 : decode cX10_turn 18 = .ok (.getfield 40, 3) := by decide +kernel
theorem dX10_turn_21 : decode cX10_turn 21 = .ok (.iload_n 2, 1) := by decide +kernel
theorem dX10_turn_22 : decode cX10_turn 22 = .ok (.iaload, 1) := by decide +kernel
theorem dX10_turn_23 : decode cX10_turn 23 = .ok (.ifCond .lt 21, 3) := by decide +kernel
theorem dX10_turn_26 : decode cX10_turn 26 = .ok (.aload_n 0, 1) := by decide +kernel
theorem dX10_turn_27 : decode cX10_turn 27 = .ok (.iload_n 2, 1) := by decide +kernel
theorem dX10_turn_28 : decode cX10_turn 28 = .ok (.aload_n 0, 1) := by decide +kernel
theorem dX10_turn_29 : decode cX10_turn 29 = .ok (.getfield 40, 3) := by decide +kernel
theorem dX10_turn_32 : decode cX10_turn 32 = .ok (.iload_n 2, 1) := by decide +kernel
theorem dX10_turn_33 : decode cX10_turn 33 = .ok (.iaload, 1) := by decide +kernel
theorem dX10_turn_34 : decode cX10_turn 34 = .ok (.invokevirtual 176, 3) := by decide +kernel
theorem dX10_turn_37 : decode cX10_turn 37 = .ok (.ifCond .eq 7, 3) := by decide +kernel
theorem dX10_turn_40 : decode cX10_turn 40 = .ok (.iconst 1, 1) := by decide +kernel
theorem dX10_turn_41 : decode cX10_turn 41 = .ok (.goto 4, 3) := by decide +kernel
theorem dX10_turn_44 : decode cX10_turn 44 = .ok (.iconst 0, 1) := by decide +kernel
theorem dX10_turn_45 : decode cX10_turn 45 = .ok (.istore_n 3, 1) := by decide +kernel
theorem dX10_turn_46 : decode cX10_turn 46 = .ok (.aload_n 0, 1) := by decide +kernel
theorem dX10_turn_47 : decode cX10_turn 47 = .ok (.getfield 163, 3) := by decide +kernel
theorem dX10_turn_50 : decode cX10_turn 50 = .ok (.istore 4, 2) := by decide +kernel
theorem dX10_turn_52 : decode cX10_turn 52 = .ok (.aload_n 0, 1) := by decide +kernel
theorem dX10_turn_53 : decode cX10_turn 53 = .ok (.aload_n 0, 1) := by decide +kernel
theorem dX10_turn_54 : decode cX10_turn 54 = .ok (.getfield 166, 3) := by decide +kernel
theorem dX10_turn_57 : decode cX10_turn 57 = .ok (.putfield 163, 3) := by decide +kernel
theorem dX10_turn_60 : decode cX10_turn 60 = .ok (.aload_n 0, 1) := by decide +kernel
theorem dX10_turn_61 : decode cX10_turn 61 = .ok (.iload 4, 2) := by decide +kernel
theorem dX10_turn_63 : decode cX10_turn 63 = .ok (.putfield 166, 3) := by decide +kernel
theorem dX10_turn_66 : decode cX10_turn 66 = .ok (.iload_n 1, 1) := by decide +kernel
theorem dX10_turn_67 : decode cX10_turn 67 = .ok (.iload_n 3, 1) := by decide +kernel
theorem dX10_turn_68 : decode cX10_turn 68 = .ok (.ifCond .eq 21, 3) := by decide +kernel
theorem dX10_turn_71 : decode cX10_turn 71 = .ok (.aload_n 0, 1) := by decide +kernel
theorem dX10_turn_72 : decode cX10_turn 72 = .ok (.iload_n 2, 1) := by decide +kernel
theorem dX10_turn_73 : decode cX10_turn 73 = .ok (.aload_n 0, 1) := by decide +kernel
theorem dX10_turn_74 : decode cX10_turn 74 = .ok (.getfield 40, 3) := by decide +kernel
theorem dX10_turn_77 : decode cX10_turn 77 = .ok (.iload_n 2, 1) := by decide +kernel
theorem dX10_turn_78 : decode cX10_turn 78 = .ok (.iaload, 1) := by decide +kernel
theorem dX10_turn_79 : decode cX10_turn 79 = .ok (.invokevirtual 176, 3) := by decide +kernel
theorem dX10_turn_82 : decode cX10_turn 82 = .ok (.ifCond .ne 7, 3) := by decide +kernel
theorem dX10_turn_85 : decode cX10_turn 85 = .ok (.iconst 1, 1) := by decide +kernel
theorem dX10_turn_86 : decode cX10_turn 86 = .ok (.goto 4, 3) := by decide +kernel
theorem dX10_turn_89 : decode cX10_turn 89 = .ok (.iconst 0, 1) := by decide +kernel
theorem dX10_turn_90 : decode cX10_turn 90 = .ok (.iadd, 1) := by decide +kernel
theorem dX10_turn_91 : decode cX10_turn 91 = .ok (.istore_n 1, 1) := by decide +kernel
theorem dX10_turn_92 : decode cX10_turn 92 = .ok (.aload_n 0, 1) := by decide +kernel
theorem dX10_turn_93 : decode cX10_turn 93 = .ok (.aload_n 0, 1) := by decide +kernel
theorem dX10_turn_94 : decode cX10_turn 94 = .ok (.getfield 163, 3) := by decide +kernel
theorem dX10_turn_97 : decode cX10_turn 97 = .ok (.putfield 166, 3) := by decide +kernel
theorem dX10_turn_100 : decode cX10_turn 100 = .ok (.aload_n 0, 1) := by decide +kernel
theorem dX10_turn_101 : decode cX10_turn 101 = .ok (.iload 4, 2) := by decide +kernel
theorem dX10_turn_103 : decode cX10_turn 103 = .ok (.putfield 163, 3) := by decide +kernel
theorem dX10_turn_106 : decode cX10_turn 106 = .ok (.iinc 2 1, 3) := by decide +kernel
theorem dX10_turn_109 : decode cX10_turn 109 = .ok (.goto (-100), 3) := by decide +kernel
theorem dX10_turn_112 : decode cX10_turn 112 = .ok (.aload_n 0, 1) := by decide +kernel
theorem dX10_turn_113 : decode cX10_turn 113 = .ok (.getfield 163, 3) := by decide +kernel
theorem dX10_turn_116 : decode cX10_turn 116 = .ok (.istore_n 2, 1) := by decide +kernel
theorem dX10_turn_117 : decode cX10_turn 117 = .ok (.aload_n 0, 1) := by decide +kernel
theorem dX10_turn_118 : decode cX10_turn 118 = .ok (.aload_n 0, 1) := by decide +kernel
theorem dX10_turn_119 : decode cX10_turn 119 = .ok (.getfield 166, 3) := by decide +kernel
theorem dX10_turn_122 : decode cX10_turn 122 = .ok (.putfield 163, 3) := by decide +kernel
theorem dX10_turn_125 : decode cX10_turn 125 = .ok (.aload_n 0, 1) := by decide +kernel
theorem dX10_turn_126 : decode cX10_turn 126 = .ok (.iload_n 2, 1) := by decide +kernel
theorem dX10_turn_127 : decode cX10_turn 127 = .ok (.putfield 166, 3) := by decide +kernel
theorem dX10_turn_130 : decode cX10_turn 130 = .ok (.iload_n 1, 1) := by decide +kernel
theorem dX10_turn_131 : decode cX10_turn 131 = .ok (.ireturn, 1) := by decide +kernel
theorem dX10_bar_0 : decode cX10_bar 0 = .ok (.aload_n 0, 1) := by decide +kernel
theorem dX10_bar_1 : decode cX10_bar 1 = .ok (.iconst 0, 1) := by decide +kernel
theorem dX10_bar_2 : decode cX10_bar 2 = .ok (.putfield 102, 3) := by decide +kernel
theorem dX10_bar_5 : decode cX10_bar 5 = .ok (.aload_n 0, 1) := by decide +kernel
theorem dX10_bar_6 : decode cX10_bar 6 = .ok (.iload_n 1, 1) := by decide +kernel
theorem dX10_bar_7 : decode cX10_bar 7 = .ok (.invokevirtual 132, 3) := by decide +kernel
theorem dX10_bar_10 : decode cX10_bar 10 = .ok (.ifCond .eq 20, 3) := by decide +kernel
theorem dX10_bar_13 : decode cX10_bar 13 = .ok (.aload_n 0, 1) := by decide +kernel
theorem dX10_bar_14 : decode cX10_bar 14 = .ok (.iload_n 2, 1) := by decide +kernel
theorem dX10_bar_15 : decode cX10_bar 15 = .ok (.invokevirtual 132, 3) := by decide +kernel
theorem dX10_bar_18 : decode cX10_bar 18 = .ok (.ifCond .eq 12, 3) := by decide +kernel
theorem dX10_bar_21 : decode cX10_bar 21 = .ok (.aload_n 0, 1) := by decide +kernel
theorem dX10_bar_22 : decode cX10_bar 22 = .ok (.iload_n 1, 1) := by decide +kernel
theorem dX10_bar_23 : decode cX10_bar 23 = .ok (.iload_n 2, 1) := by decide +kernel
theorem dX10_bar_24 : decode cX10_bar 24 = .ok (.invokevirtual 135, 3) := by decide +kernel
theorem dX10_bar_27 : decode cX10_bar 27 = .ok (.goto 4, 3) := by decide +kernel
theorem dX10_bar_30 : decode cX10_bar 30 = .ok (.iconst (-1), 1) := by decide +kernel
theorem dX10_bar_31 : decode cX10_bar 31 = .ok (.ireturn, 1) := by decide +kernel
theorem dX10_may_0 : decode cX10_may 0 = .ok (.aload_n 0, 1) := by decide +kernel
theorem dX10_may_1 : decode cX10_may 1 = .ok (.iconst 0, 1) := by decide +kernel
theorem dX10_may_2 : decode cX10_may 2 = .ok (.putfield 102, 3) := by decide +kernel
theorem dX10_may_5 : decode cX10_may 5 = .ok (.aload_n 0, 1) := by decide +kernel
theorem dX10_may_6 : decode cX10_may 6 = .ok (.iload_n 1, 1) := by decide +kernel
theorem dX10_may_7 : decode cX10_may 7 = .ok (.invokevirtual 147, 3) := by decide +kernel
theorem dX10_may_10 : decode cX10_may 10 = .ok (.ifCond .ne 7, 3) := by decide +kernel
theorem dX10_may_13 : decode cX10_may 13 = .ok (.iconst (-1), 1) := by decide +kernel
theorem dX10_may_14 : decode cX10_may 14 = .ok (.goto 17, 3) := by decide +kernel
theorem dX10_may_17 : decode cX10_may 17 = .ok (.aload_n 0, 1) := by decide +kernel
theorem dX10_may_18 : decode cX10_may 18 = .ok (.iload_n 1, 1) := by decide +kernel
theorem dX10_may_19 : decode cX10_may 19 = .ok (.iload_n 2, 1) := by decide +kernel
theorem dX10_may_20 : decode cX10_may 20 = .ok (.invokevirtual 176, 3) := by decide +kernel
theorem dX10_may_23 : decode cX10_may 23 = .ok (.ifCond .eq 7, 3) := by decide +kernel
theorem dX10_may_26 : decode cX10_may 26 = .ok (.iconst 1, 1) := by decide +kernel
theorem dX10_may_27 : decode cX10_may 27 = .ok (.goto 4, 3) := by decide +kernel
theorem dX10_may_30 : decode cX10_may 30 = .ok (.iconst 0, 1) := by decide +kernel
theorem dX10_may_31 : decode cX10_may 31 = .ok (.ireturn, 1) := by decide +kernel
theorem dX10_set_0 : decode cX10_set 0 = .ok (.aload_n 0, 1) := by decide +kernel
theorem dX10_set_1 : decode cX10_set 1 = .ok (.iconst 0, 1) := by decide +kernel
theorem dX10_set_2 : decode cX10_set 2 = .ok (.putfield 102, 3) := by decide +kernel
theorem dX10_set_5 : decode cX10_set 5 = .ok (.aload_n 0, 1) := by decide +kernel
theorem dX10_set_6 : decode cX10_set 6 = .ok (.iload_n 1, 1) := by decide +kernel
theorem dX10_set_7 : decode cX10_set 7 = .ok (.invokevirtual 147, 3) := by decide +kernel
theorem dX10_set_10 : decode cX10_set 10 = .ok (.ifCond .eq 17, 3) := by decide +kernel
theorem dX10_set_13 : decode cX10_set 13 = .ok (.iload_n 2, 1) := by decide +kernel
theorem dX10_set_14 : decode cX10_set 14 = .ok (.i2l, 1) := by decide +kernel
theorem dX10_set_15 : decode cX10_set 15 = .ok (.ldc2_w 150, 3) := by decide +kernel
theorem dX10_set_18 : decode cX10_set 18 = .ok (.ldc2_w 152, 3) := by decide +kernel
theorem dX10_set_21 : decode cX10_set 21 = .ok (.invokestatic 113, 3) := by decide +kernel
theorem dX10_set_24 : decode cX10_set 24 = .ok (.ifCond .ne 5, 3) := by decide +kernel
theorem dX10_set_27 : decode cX10_set 27 = .ok (.iconst (-1), 1) := by decide +kernel
theorem dX10_set_28 : decode cX10_set 28 = .ok (.ireturn, 1) := by decide +kernel
theorem dX10_set_29 : decode cX10_set 29 = .ok (.aload_n 0, 1) := by decide +kernel
theorem dX10_set_30 : decode cX10_set 30 = .ok (.getfield 40, 3) := by decide +kernel
theorem dX10_set_33 : decode cX10_set 33 = .ok (.iload_n 1, 1) := by decide +kernel
theorem dX10_set_34 : decode cX10_set 34 = .ok (.iaload, 1) := by decide +kernel
theorem dX10_set_35 : decode cX10_set 35 = .ok (.istore_n 3, 1) := by decide +kernel
theorem dX10_set_36 : decode cX10_set 36 = .ok (.aload_n 0, 1) := by decide +kernel
theorem dX10_set_37 : decode cX10_set 37 = .ok (.getfield 40, 3) := by decide +kernel
theorem dX10_set_40 : decode cX10_set 40 = .ok (.iload_n 1, 1) := by decide +kernel
theorem dX10_set_41 : decode cX10_set 41 = .ok (.iload_n 2, 1) := by decide +kernel
theorem dX10_set_42 : decode cX10_set 42 = .ok (.ifCond .ge 8, 3) := by decide +kernel
theorem dX10_set_45 : decode cX10_set 45 = .ok (.bipush (-2), 2) := by decide +kernel
theorem dX10_set_47 : decode cX10_set 47 = .ok (.goto 4, 3) := by decide +kernel
theorem dX10_set_50 : decode cX10_set 50 = .ok (.iload_n 2, 1) := by decide +kernel
theorem dX10_set_51 : decode cX10_set 51 = .ok (.iastore, 1) := by decide +kernel
theorem dX10_set_52 : decode cX10_set 52 = .ok (.iload_n 3, 1) := by decide +kernel
theorem dX10_set_53 : decode cX10_set 53 = .ok (.ireturn, 1) := by decide +kernel
theorem dX10_channel_0 : decode cX10_channel 0 = .ok (.aload_n 0, 1) := by decide +kernel
theorem dX10_channel_1 : decode cX10_channel 1 = .ok (.iconst 0, 1) := by decide +kernel
theorem dX10_channel_2 : decode cX10_channel 2 = .ok (.putfield 102, 3) := by decide +kernel
theorem dX10_channel_5 : decode cX10_channel 5 = .ok (.aload_n 0, 1) := by decide +kernel
theorem dX10_channel_6 : decode cX10_channel 6 = .ok (.iload_n 1, 1) := by decide +kernel
theorem dX10_channel_7 : decode cX10_channel 7 = .ok (.invokevirtual 147, 3) := by decide +kernel
theorem dX10_channel_10 : decode cX10_channel 10 = .ok (.ifCond .eq 12, 3) := by decide +kernel
theorem dX10_channel_13 : decode cX10_channel 13 = .ok (.aload_n 0, 1) := by decide +kernel
theorem dX10_channel_14 : decode cX10_channel 14 = .ok (.getfield 40, 3) := by decide +kernel
theorem dX10_channel_17 : decode cX10_channel 17 = .ok (.iload_n 1, 1) := by decide +kernel
theorem dX10_channel_18 : decode cX10_channel 18 = .ok (.iaload, 1) := by decide +kernel
theorem dX10_channel_19 : decode cX10_channel 19 = .ok (.goto 4, 3) := by decide +kernel
theorem dX10_channel_22 : decode cX10_channel 22 = .ok (.iconst (-1), 1) := by decide +kernel
theorem dX10_channel_23 : decode cX10_channel 23 = .ok (.ireturn, 1) := by decide +kernel
theorem dX10_of_0 : decode cX10_of 0 = .ok (.aload_n 0, 1) := by decide +kernel
theorem dX10_of_1 : decode cX10_of 1 = .ok (.iconst 0, 1) := by decide +kernel
theorem dX10_of_2 : decode cX10_of 2 = .ok (.putfield 102, 3) := by decide +kernel
theorem dX10_of_5 : decode cX10_of 5 = .ok (.aload_n 0, 1) := by decide +kernel
theorem dX10_of_6 : decode cX10_of 6 = .ok (.iload_n 1, 1) := by decide +kernel
theorem dX10_of_7 : decode cX10_of 7 = .ok (.invokevirtual 147, 3) := by decide +kernel
theorem dX10_of_10 : decode cX10_of 10 = .ok (.ifCond .eq 12, 3) := by decide +kernel
theorem dX10_of_13 : decode cX10_of 13 = .ok (.aload_n 0, 1) := by decide +kernel
theorem dX10_of_14 : decode cX10_of 14 = .ok (.getfield 34, 3) := by decide +kernel
theorem dX10_of_17 : decode cX10_of 17 = .ok (.iload_n 1, 1) := by decide +kernel
theorem dX10_of_18 : decode cX10_of 18 = .ok (.iaload, 1) := by decide +kernel
theorem dX10_of_19 : decode cX10_of 19 = .ok (.goto 4, 3) := by decide +kernel
theorem dX10_of_22 : decode cX10_of 22 = .ok (.iconst (-1), 1) := by decide +kernel
theorem dX10_of_23 : decode cX10_of 23 = .ok (.ireturn, 1) := by decide +kernel
theorem dX10_channelOf_0 : decode cX10_channelOf 0 = .ok (.aload_n 0, 1) := by decide +kernel
theorem dX10_channelOf_1 : decode cX10_channelOf 1 = .ok (.getfield 40, 3) := by decide +kernel
theorem dX10_channelOf_4 : decode cX10_channelOf 4 = .ok (.iload_n 1, 1) := by decide +kernel
theorem dX10_channelOf_5 : decode cX10_channelOf 5 = .ok (.iaload, 1) := by decide +kernel
theorem dX10_channelOf_6 : decode cX10_channelOf 6 = .ok (.iload_n 2, 1) := by decide +kernel
theorem dX10_channelOf_7 : decode cX10_channelOf 7 = .ok (.ifCond .ne 7, 3) := by decide +kernel
theorem dX10_channelOf_10 : decode cX10_channelOf 10 = .ok (.iconst 0, 1) := by decide +kernel
theorem dX10_channelOf_11 : decode cX10_channelOf 11 = .ok (.goto 14, 3) := by decide +kernel
theorem dX10_channelOf_14 : decode cX10_channelOf 14 = .ok (.aload_n 0, 1) := by decide +kernel
theorem dX10_channelOf_15 : decode cX10_channelOf 15 = .ok (.getfield 31, 3) := by decide +kernel
theorem dX10_channelOf_18 : decode cX10_channelOf 18 = .ok (.aload_n 0, 1) := by decide +kernel
theorem dX10_channelOf_19 : decode cX10_channelOf 19 = .ok (.getfield 34, 3) := by decide +kernel
theorem dX10_channelOf_22 : decode cX10_channelOf 22 = .ok (.iload_n 1, 1) := by decide +kernel
theorem dX10_channelOf_23 : decode cX10_channelOf 23 = .ok (.iaload, 1) := by decide +kernel
theorem dX10_channelOf_24 : decode cX10_channelOf 24 = .ok (.iaload, 1) := by decide +kernel
theorem dX10_channelOf_25 : decode cX10_channelOf 25 = .ok (.iadd, 1) := by decide +kernel
theorem dX10_channelOf_26 : decode cX10_channelOf 26 = .ok (.ireturn, 1) := by decide +kernel
theorem dX10_channelsOf_0 : decode cX10_channelsOf 0 = .ok (.aload_n 0, 1) := by decide +kernel
theorem dX10_channelsOf_1 : decode cX10_channelsOf 1 = .ok (.getfield 40, 3) := by decide +kernel
