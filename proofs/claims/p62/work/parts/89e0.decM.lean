theorem dL_acts_0 : decode cL_acts 0 = .ok (.aload_n 1, 1) := by decide +kernel
theorem dL_acts_1 : decode cL_acts 1 = .ok (.iload_n 2, 1) := by decide +kernel
theorem dL_acts_2 : decode cL_acts 2 = .ok (.iconst 1, 1) := by decide +kernel
theorem dL_acts_3 : decode cL_acts 3 = .ok (.iadd, 1) := by decide +kernel
theorem dL_acts_4 : decode cL_acts 4 = .ok (.bipush 100, 2) := by decide +kernel
theorem dL_acts_6 : decode cL_acts 6 = .ok (.invokestatic 90, 3) := by decide +kernel
theorem dL_acts_9 : decode cL_acts 9 = .ok (.istore_n 3, 1) := by decide +kernel
theorem dL_acts_10 : decode cL_acts 10 = .ok (.aload_n 1, 1) := by decide +kernel
theorem dL_acts_11 : decode cL_acts 11 = .ok (.iload_n 2, 1) := by decide +kernel
theorem dL_acts_12 : decode cL_acts 12 = .ok (.iconst 2, 1) := by decide +kernel
theorem dL_acts_13 : decode cL_acts 13 = .ok (.iadd, 1) := by decide +kernel
theorem dL_acts_14 : decode cL_acts 14 = .ok (.bipush 100, 2) := by decide +kernel
theorem dL_acts_16 : decode cL_acts 16 = .ok (.invokestatic 90, 3) := by decide +kernel
theorem dL_acts_19 : decode cL_acts 19 = .ok (.istore 4, 2) := by decide +kernel
theorem dL_acts_21 : decode cL_acts 21 = .ok (.aload_n 0, 1) := by decide +kernel
theorem dL_acts_22 : decode cL_acts 22 = .ok (.invokevirtual 101, 3) := by decide +kernel
theorem dL_acts_25 : decode cL_acts 25 = .ok (.istore 5, 2) := by decide +kernel
theorem dL_acts_27 : decode cL_acts 27 = .ok (.iload 5, 2) := by decide +kernel
theorem dL_acts_29 : decode cL_acts 29 = .ok (.ifCond .le 19, 3) := by decide +kernel
theorem dL_acts_32 : decode cL_acts 32 = .ok (.aload_n 0, 1) := by decide +kernel
theorem dL_acts_33 : decode cL_acts 33 = .ok (.aload_n 1, 1) := by decide +kernel
theorem dL_acts_34 : decode cL_acts 34 = .ok (.iload_n 2, 1) := by decide +kernel
theorem dL_acts_35 : decode cL_acts 35 = .ok (.iconst 3, 1) := by decide +kernel
theorem dL_acts_36 : decode cL_acts 36 = .ok (.iadd, 1) := by decide +kernel
theorem dL_acts_37 : decode cL_acts 37 = .ok (.iload 5, 2) := by decide +kernel
theorem dL_acts_39 : decode cL_acts 39 = .ok (.invokestatic 90, 3) := by decide +kernel
theorem dL_acts_42 : decode cL_acts 42 = .ok (.invokevirtual 66, 3) := by decide +kernel
theorem dL_acts_45 : decode cL_acts 45 = .ok (.goto 4, 3) := by decide +kernel
theorem dL_acts_48 : decode cL_acts 48 = .ok (.iconst 0, 1) := by decide +kernel
theorem dL_acts_49 : decode cL_acts 49 = .ok (.istore 6, 2) := by decide +kernel
theorem dL_acts_51 : decode cL_acts 51 = .ok (.aload_n 1, 1) := by decide +kernel
theorem dL_acts_52 : decode cL_acts 52 = .ok (.iload_n 2, 1) := by decide +kernel
theorem dL_acts_53 : decode cL_acts 53 = .ok (.bipush 14, 2) := by decide +kernel
theorem dL_acts_55 : decode cL_acts 55 = .ok (.invokestatic 90, 3) := by decide +kernel
theorem dL_acts_58 : decode cL_acts 58 = .ok (.tableswitch 204 0 12 #[66, 66, 66, 66, 92, 113, 113, 113, 126, 126, 138, 168, 168], 66) := by decide +kernel
theorem dL_acts_124 : decode cL_acts 124 = .ok (.iload 5, 2) := by decide +kernel
theorem dL_acts_126 : decode cL_acts 126 = .ok (.bipush 18, 2) := by decide +kernel
theorem dL_acts_128 : decode cL_acts 128 = .ok (.if_icmp .ge 16, 3) := by decide +kernel
theorem dL_acts_131 : decode cL_acts 131 = .ok (.aload_n 0, 1) := by decide +kernel
theorem dL_acts_132 : decode cL_acts 132 = .ok (.iload_n 3, 1) := by decide +kernel
theorem dL_acts_133 : decode cL_acts 133 = .ok (.iload 4, 2) := by decide +kernel
theorem dL_acts_135 : decode cL_acts 135 = .ok (.bipush 20, 2) := by decide +kernel
theorem dL_acts_137 : decode cL_acts 137 = .ok (.irem, 1) := by decide +kernel
theorem dL_acts_138 : decode cL_acts 138 = .ok (.invokestatic 94, 3) := by decide +kernel
theorem dL_acts_141 : decode cL_acts 141 = .ok (.goto 4, 3) := by decide +kernel
theorem dL_acts_144 : decode cL_acts 144 = .ok (.iconst 0, 1) := by decide +kernel
theorem dL_acts_145 : decode cL_acts 145 = .ok (.istore 7, 2) := by decide +kernel
theorem dL_acts_147 : decode cL_acts 147 = .ok (.goto 124, 3) := by decide +kernel
theorem dL_acts_150 : decode cL_acts 150 = .ok (.iload 5, 2) := by decide +kernel
theorem dL_acts_152 : decode cL_acts 152 = .ok (.iconst 4, 1) := by decide +kernel
theorem dL_acts_153 : decode cL_acts 153 = .ok (.if_icmp .le 12, 3) := by decide +kernel
theorem dL_acts_156 : decode cL_acts 156 = .ok (.aload_n 0, 1) := by decide +kernel
theorem dL_acts_157 : decode cL_acts 157 = .ok (.iload 6, 2) := by decide +kernel
theorem dL_acts_159 : decode cL_acts 159 = .ok (.invokestatic 104, 3) := by decide +kernel
theorem dL_acts_162 : decode cL_acts 162 = .ok (.goto 4, 3) := by decide +kernel
theorem dL_acts_165 : decode cL_acts 165 = .ok (.iconst 0, 1) := by decide +kernel
theorem dL_acts_166 : decode cL_acts 166 = .ok (.istore 7, 2) := by decide +kernel
theorem dL_acts_168 : decode cL_acts 168 = .ok (.goto 103, 3) := by decide +kernel
theorem dL_acts_171 : decode cL_acts 171 = .ok (.aload_n 0, 1) := by decide +kernel
theorem dL_acts_172 : decode cL_acts 172 = .ok (.iload 6, 2) := by decide +kernel
theorem dL_acts_174 : decode cL_acts 174 = .ok (.iload 4, 2) := by decide +kernel
theorem dL_acts_176 : decode cL_acts 176 = .ok (.invokestatic 107, 3) := by decide +kernel
theorem dL_acts_179 : decode cL_acts 179 = .ok (.istore 7, 2) := by decide +kernel
theorem dL_acts_181 : decode cL_acts 181 = .ok (.goto 90, 3) := by decide +kernel
theorem dL_acts_184 : decode cL_acts 184 = .ok (.aload_n 0, 1) := by decide +kernel
theorem dL_acts_185 : decode cL_acts 185 = .ok (.iload 6, 2) := by decide +kernel
theorem dL_acts_187 : decode cL_acts 187 = .ok (.iload_n 3, 1) := by decide +kernel
theorem dL_acts_188 : decode cL_acts 188 = .ok (.invokestatic 109, 3) := by decide +kernel
theorem dL_acts_191 : decode cL_acts 191 = .ok (.istore 7, 2) := by decide +kernel
theorem dL_acts_193 : decode cL_acts 193 = .ok (.goto 78, 3) := by decide +kernel
theorem dL_acts_196 : decode cL_acts 196 = .ok (.iload 5, 2) := by decide +kernel
theorem dL_acts_198 : decode cL_acts 198 = .ok (.bipush 6, 2) := by decide +kernel
theorem dL_acts_200 : decode cL_acts 200 = .ok (.if_icmp .le 20, 3) := by decide +kernel
theorem dL_acts_203 : decode cL_acts 203 = .ok (.aload_n 0, 1) := by decide +kernel
theorem dL_acts_204 : decode cL_acts 204 = .ok (.iload_n 3, 1) := by decide +kernel
theorem dL_acts_205 : decode cL_acts 205 = .ok (.bipush 99, 2) := by decide +kernel
theorem dL_acts_207 : decode cL_acts 207 = .ok (.iload_n 3, 1) := by decide +kernel
theorem dL_acts_208 : decode cL_acts 208 = .ok (.bipush 7, 2) := by decide +kernel
theorem dL_acts_210 : decode cL_acts 210 = .ok (.iadd, 1) := by decide +kernel
theorem dL_acts_211 : decode cL_acts 211 = .ok (.invokestatic 111, 3) := by decide +kernel
theorem dL_acts_214 : decode cL_acts 214 = .ok (.invokestatic 116, 3) := by decide +kernel
theorem dL_acts_217 : decode cL_acts 217 = .ok (.goto 4, 3) := by decide +kernel
theorem dL_acts_220 : decode cL_acts 220 = .ok (.iconst 0, 1) := by decide +kernel
theorem dL_acts_221 : decode cL_acts 221 = .ok (.istore 7, 2) := by decide +kernel
theorem dL_acts_223 : decode cL_acts 223 = .ok (.goto 48, 3) := by decide +kernel
theorem dL_acts_226 : decode cL_acts 226 = .ok (.aload_n 0, 1) := by decide +kernel
theorem dL_acts_227 : decode cL_acts 227 = .ok (.iload_n 3, 1) := by decide +kernel
theorem dL_acts_228 : decode cL_acts 228 = .ok (.iconst 4, 1) := by decide +kernel
theorem dL_acts_229 : decode cL_acts 229 = .ok (.irem, 1) := by decide +kernel
theorem dL_acts_230 : decode cL_acts 230 = .ok (.iload_n 3, 1) := by decide +kernel
theorem dL_acts_231 : decode cL_acts 231 = .ok (.bipush 99, 2) := by decide +kernel
theorem dL_acts_233 : decode cL_acts 233 = .ok (.iload_n 3, 1) := by decide +kernel
theorem dL_acts_234 : decode cL_acts 234 = .ok (.iload 4, 2) := by decide +kernel
theorem dL_acts_236 : decode cL_acts 236 = .ok (.iconst 2, 1) := by decide +kernel
theorem dL_acts_237 : decode cL_acts 237 = .ok (.idiv, 1) := by decide +kernel
theorem dL_acts_238 : decode cL_acts 238 = .ok (.iadd, 1) := by decide +kernel
theorem dL_acts_239 : decode cL_acts 239 = .ok (.invokestatic 111, 3) := by decide +kernel
theorem dL_acts_242 : decode cL_acts 242 = .ok (.iload 4, 2) := by decide +kernel
theorem dL_acts_244 : decode cL_acts 244 = .ok (.bipush 30, 2) := by decide +kernel
theorem dL_acts_246 : decode cL_acts 246 = .ok (.irem, 1) := by decide +kernel
theorem dL_acts_247 : decode cL_acts 247 = .ok (.iconst 1, 1) := by decide +kernel
theorem dL_acts_248 : decode cL_acts 248 = .ok (.iload 4, 2) := by decide +kernel
theorem dL_acts_250 : decode cL_acts 250 = .ok (.bipush 12, 2) := by decide +kernel
theorem dL_acts_252 : decode cL_acts 252 = .ok (.irem, 1) := by decide +kernel
theorem dL_acts_253 : decode cL_acts 253 = .ok (.iadd, 1) := by decide +kernel
theorem dL_acts_254 : decode cL_acts 254 = .ok (.invokestatic 118, 3) := by decide +kernel
theorem dL_acts_257 : decode cL_acts 257 = .ok (.istore 7, 2) := by decide +kernel
theorem dL_acts_259 : decode cL_acts 259 = .ok (.goto 12, 3) := by decide +kernel
theorem dL_acts_262 : decode cL_acts 262 = .ok (.aload_n 0, 1) := by decide +kernel
theorem dL_acts_263 : decode cL_acts 263 = .ok (.iload_n 3, 1) := by decide +kernel
theorem dL_acts_264 : decode cL_acts 264 = .ok (.iconst 4, 1) := by decide +kernel
theorem dL_acts_265 : decode cL_acts 265 = .ok (.irem, 1) := by decide +kernel
theorem dL_acts_266 : decode cL_acts 266 = .ok (.invokestatic 121, 3) := by decide +kernel
theorem dL_acts_269 : decode cL_acts 269 = .ok (.istore 7, 2) := by decide +kernel
theorem dL_acts_271 : decode cL_acts 271 = .ok (.return_, 1) := by decide +kernel
theorem dL_law_0 : decode cL_law 0 = .ok (.new 14, 3) := by decide +kernel
theorem dL_law_3 : decode cL_law 3 = .ok (.dup, 1) := by decide +kernel
theorem dL_law_4 : decode cL_law 4 = .ok (.invokespecial 168, 3) := by decide +kernel
theorem dL_law_7 : decode cL_law 7 = .ok (.astore_n 1, 1) := by decide +kernel
theorem dL_law_8 : decode cL_law 8 = .ok (.aload_n 1, 1) := by decide +kernel
theorem dL_law_9 : decode cL_law 9 = .ok (.aload_n 0, 1) := by decide +kernel
theorem dL_law_10 : decode cL_law 10 = .ok (.invokestatic 169, 3) := by decide +kernel
theorem dL_law_13 : decode cL_law 13 = .ok (.iconst 0, 1) := by decide +kernel
theorem dL_law_14 : decode cL_law 14 = .ok (.istore_n 2, 1) := by decide +kernel
theorem dL_law_15 : decode cL_law 15 = .ok (.iload_n 2, 1) := by decide +kernel
theorem dL_law_16 : decode cL_law 16 = .ok (.iconst 3, 1) := by decide +kernel
theorem dL_law_17 : decode cL_law 17 = .ok (.if_icmp .ge 1370, 3) := by decide +kernel
theorem dL_law_20 : decode cL_law 20 = .ok (.aload_n 1, 1) := by decide +kernel
theorem dL_law_21 : decode cL_law 21 = .ok (.invokevirtual 101, 3) := by decide +kernel
theorem dL_law_24 : decode cL_law 24 = .ok (.istore_n 3, 1) := by decide +kernel
theorem dL_law_25 : decode cL_law 25 = .ok (.iconst (-1), 1) := by decide +kernel
theorem dL_law_26 : decode cL_law 26 = .ok (.istore 4, 2) := by decide +kernel
theorem dL_law_28 : decode cL_law 28 = .ok (.iconst 0, 1) := by decide +kernel
theorem dL_law_29 : decode cL_law 29 = .ok (.istore 5, 2) := by decide +kernel
theorem dL_law_31 : decode cL_law 31 = .ok (.iconst 0, 1) := by decide +kernel
theorem dL_law_32 : decode cL_law 32 = .ok (.istore 6, 2) := by decide +kernel
theorem dL_law_34 : decode cL_law 34 = .ok (.aload_n 1, 1) := by decide +kernel
theorem dL_law_35 : decode cL_law 35 = .ok (.invokestatic 173, 3) := by decide +kernel
theorem dL_law_38 : decode cL_law 38 = .ok (.istore 7, 2) := by decide +kernel
theorem dL_law_40 : decode cL_law 40 = .ok (.iconst 0, 1) := by decide +kernel
theorem dL_law_41 : decode cL_law 41 = .ok (.istore 8, 2) := by decide +kernel
theorem dL_law_43 : decode cL_law 43 = .ok (.iload 8, 2) := by decide +kernel
theorem dL_law_45 : decode cL_law 45 = .ok (.iload_n 3, 1) := by decide +kernel
theorem dL_law_46 : decode cL_law 46 = .ok (.if_icmp .ge 594, 3) := by decide +kernel
theorem dL_law_49 : decode cL_law 49 = .ok (.aload_n 1, 1) := by decide +kernel
theorem dL_law_50 : decode cL_law 50 = .ok (.iload 8, 2) := by decide +kernel
theorem dL_law_52 : decode cL_law 52 = .ok (.invokevirtual 66, 3) := by decide +kernel
theorem dL_law_55 : decode cL_law 55 = .ok (.istore 9, 2) := by decide +kernel
theorem dL_law_57 : decode cL_law 57 = .ok (.aload_n 1, 1) := by decide +kernel
theorem dL_law_58 : decode cL_law 58 = .ok (.iload 9, 2) := by decide +kernel
theorem dL_law_60 : decode cL_law 60 = .ok (.invokestatic 149, 3) := by decide +kernel
theorem dL_law_63 : decode cL_law 63 = .ok (.istore 10, 2) := by decide +kernel
theorem dL_law_65 : decode cL_law 65 = .ok (.aload_n 1, 1) := by decide +kernel
theorem dL_law_66 : decode cL_law 66 = .ok (.iload 9, 2) := by decide +kernel
theorem dL_law_68 : decode cL_law 68 = .ok (.invokestatic 160, 3) := by decide +kernel
theorem dL_law_71 : decode cL_law 71 = .ok (.istore 11, 2) := by decide +kernel
theorem dL_law_73 : decode cL_law 73 = .ok (.aload_n 1, 1) := by decide +kernel
theorem dL_law_74 : decode cL_law 74 = .ok (.iload 9, 2) := by decide +kernel
theorem dL_law_76 : decode cL_law 76 = .ok (.invokestatic 176, 3) := by decide +kernel
theorem dL_law_79 : decode cL_law 79 = .ok (.istore 12, 2) := by decide +kernel
theorem dL_law_81 : decode cL_law 81 = .ok (.aload_n 1, 1) := by decide +kernel
theorem dL_law_82 : decode cL_law 82 = .ok (.iload 9, 2) := by decide +kernel
theorem dL_law_84 : decode cL_law 84 = .ok (.invokevirtual 178, 3) := by decide +kernel
theorem dL_law_87 : decode cL_law 87 = .ok (.istore 13, 2) := by decide +kernel
theorem dL_law_89 : decode cL_law 89 = .ok (.aload_n 1, 1) := by decide +kernel
theorem dL_law_90 : decode cL_law 90 = .ok (.iload 9, 2) := by decide +kernel
theorem dL_law_92 : decode cL_law 92 = .ok (.invokevirtual 181, 3) := by decide +kernel
theorem dL_law_95 : decode cL_law 95 = .ok (.istore 14, 2) := by decide +kernel
theorem dL_law_97 : decode cL_law 97 = .ok (.iconst 0, 1) := by decide +kernel
theorem dL_law_98 : decode cL_law 98 = .ok (.istore 15, 2) := by decide +kernel
theorem dL_law_100 : decode cL_law 100 = .ok (.iload 10, 2) := by decide +kernel
theorem dL_law_102 : decode cL_law 102 = .ok (.sipush (-30000), 3) := by decide +kernel
theorem dL_law_105 : decode cL_law 105 = .ok (.if_icmp .ne 7, 3) := by decide +kernel
theorem dL_law_108 : decode cL_law 108 = .ok (.iconst 0, 1) := by decide +kernel
theorem dL_law_109 : decode cL_law 109 = .ok (.goto 9, 3) := by decide +kernel
theorem dL_law_112 : decode cL_law 112 = .ok (.aload_n 1, 1) := by decide +kernel
theorem dL_law_113 : decode cL_law 113 = .ok (.iload 10, 2) := by decide +kernel
theorem dL_law_115 : decode cL_law 115 = .ok (.invokevirtual 181, 3) := by decide +kernel
theorem dL_law_118 : decode cL_law 118 = .ok (.istore 16, 2) := by decide +kernel
theorem dL_law_120 : decode cL_law 120 = .ok (.iload 11, 2) := by decide +kernel
theorem dL_law_122 : decode cL_law 122 = .ok (.sipush (-30000), 3) := by decide +kernel
theorem dL_law_125 : decode cL_law 125 = .ok (.if_icmp .ne 7, 3) := by decide +kernel
theorem dL_law_128 : decode cL_law 128 = .ok (.iconst 0, 1) := by decide +kernel
theorem dL_law_129 : decode cL_law 129 = .ok (.goto 9, 3) := by decide +kernel
theorem dL_law_132 : decode cL_law 132 = .ok (.aload_n 1, 1) := by decide +kernel
theorem dL_law_133 : decode cL_law 133 = .ok (.iload 11, 2) := by decide +kernel
theorem dL_law_135 : decode cL_law 135 = .ok (.invokevirtual 181, 3) := by decide +kernel
theorem dL_law_138 : decode cL_law 138 = .ok (.istore 17, 2) := by decide +kernel
theorem dL_law_140 : decode cL_law 140 = .ok (.iload 8, 2) := by decide +kernel
theorem dL_law_142 : decode cL_law 142 = .ok (.ifCond .le 16, 3) := by decide +kernel
