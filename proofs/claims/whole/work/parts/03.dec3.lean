theorem dX5_square_1 : decode cX5_square 1 = .ok (.iload_n 1, 1) := by decide +kernel
theorem dX5_square_2 : decode cX5_square 2 = .ok (.invokevirtual 80, 3) := by decide +kernel
theorem dX5_square_5 : decode cX5_square 5 = .ok (.ifCond .ne 9, 3) := by decide +kernel
theorem dX5_square_8 : decode cX5_square 8 = .ok (.aload_n 0, 1) := by decide +kernel
theorem dX5_square_9 : decode cX5_square 9 = .ok (.iconst (-1), 1) := by decide +kernel
theorem dX5_square_10 : decode cX5_square 10 = .ok (.invokevirtual 143, 3) := by decide +kernel
theorem dX5_square_13 : decode cX5_square 13 = .ok (.lreturn, 1) := by decide +kernel
theorem dX5_square_14 : decode cX5_square 14 = .ok (.iload_n 2, 1) := by decide +kernel
theorem dX5_square_15 : decode cX5_square 15 = .ok (.i2l, 1) := by decide +kernel
theorem dX5_square_16 : decode cX5_square 16 = .ok (.lconst 0, 1) := by decide +kernel
theorem dX5_square_17 : decode cX5_square 17 = .ok (.lconst 1, 1) := by decide +kernel
theorem dX5_square_18 : decode cX5_square 18 = .ok (.invokestatic 76, 3) := by decide +kernel
theorem dX5_square_21 : decode cX5_square 21 = .ok (.ifCond .ne 10, 3) := by decide +kernel
theorem dX5_square_24 : decode cX5_square 24 = .ok (.aload_n 0, 1) := by decide +kernel
theorem dX5_square_25 : decode cX5_square 25 = .ok (.bipush (-2), 2) := by decide +kernel
theorem dX5_square_27 : decode cX5_square 27 = .ok (.invokevirtual 143, 3) := by decide +kernel
theorem dX5_square_30 : decode cX5_square 30 = .ok (.lreturn, 1) := by decide +kernel
theorem dX5_square_31 : decode cX5_square 31 = .ok (.aload_n 0, 1) := by decide +kernel
theorem dX5_square_32 : decode cX5_square 32 = .ok (.getfield 13, 3) := by decide +kernel
theorem dX5_square_35 : decode cX5_square 35 = .ok (.iload_n 1, 1) := by decide +kernel
theorem dX5_square_36 : decode cX5_square 36 = .ok (.iaload, 1) := by decide +kernel
theorem dX5_square_37 : decode cX5_square 37 = .ok (.iconst 3, 1) := by decide +kernel
theorem dX5_square_38 : decode cX5_square 38 = .ok (.if_icmp .gt 14, 3) := by decide +kernel
theorem dX5_square_41 : decode cX5_square 41 = .ok (.aload_n 0, 1) := by decide +kernel
theorem dX5_square_42 : decode cX5_square 42 = .ok (.getfield 19, 3) := by decide +kernel
theorem dX5_square_45 : decode cX5_square 45 = .ok (.iload_n 1, 1) := by decide +kernel
theorem dX5_square_46 : decode cX5_square 46 = .ok (.iaload, 1) := by decide +kernel
theorem dX5_square_47 : decode cX5_square 47 = .ok (.bipush 64, 2) := by decide +kernel
theorem dX5_square_49 : decode cX5_square 49 = .ok (.if_icmp .le 10, 3) := by decide +kernel
theorem dX5_square_52 : decode cX5_square 52 = .ok (.aload_n 0, 1) := by decide +kernel
theorem dX5_square_53 : decode cX5_square 53 = .ok (.bipush (-6), 2) := by decide +kernel
theorem dX5_square_55 : decode cX5_square 55 = .ok (.invokevirtual 143, 3) := by decide +kernel
theorem dX5_square_58 : decode cX5_square 58 = .ok (.lreturn, 1) := by decide +kernel
theorem dX5_square_59 : decode cX5_square 59 = .ok (.aload_n 0, 1) := by decide +kernel
theorem dX5_square_60 : decode cX5_square 60 = .ok (.getfield 13, 3) := by decide +kernel
theorem dX5_square_63 : decode cX5_square 63 = .ok (.iload_n 1, 1) := by decide +kernel
theorem dX5_square_64 : decode cX5_square 64 = .ok (.iaload, 1) := by decide +kernel
theorem dX5_square_65 : decode cX5_square 65 = .ok (.istore_n 3, 1) := by decide +kernel
theorem dX5_square_66 : decode cX5_square 66 = .ok (.aload_n 0, 1) := by decide +kernel
theorem dX5_square_67 : decode cX5_square 67 = .ok (.getfield 19, 3) := by decide +kernel
theorem dX5_square_70 : decode cX5_square 70 = .ok (.iload_n 1, 1) := by decide +kernel
theorem dX5_square_71 : decode cX5_square 71 = .ok (.iaload, 1) := by decide +kernel
theorem dX5_square_72 : decode cX5_square 72 = .ok (.i2l, 1) := by decide +kernel
theorem dX5_square_73 : decode cX5_square 73 = .ok (.lstore 4, 2) := by decide +kernel
theorem dX5_square_75 : decode cX5_square 75 = .ok (.lconst 0, 1) := by decide +kernel
theorem dX5_square_76 : decode cX5_square 76 = .ok (.lstore 6, 2) := by decide +kernel
theorem dX5_square_78 : decode cX5_square 78 = .ok (.lconst 0, 1) := by decide +kernel
theorem dX5_square_79 : decode cX5_square 79 = .ok (.lstore 8, 2) := by decide +kernel
theorem dX5_square_81 : decode cX5_square 81 = .ok (.iconst 0, 1) := by decide +kernel
theorem dX5_square_82 : decode cX5_square 82 = .ok (.istore 10, 2) := by decide +kernel
theorem dX5_square_84 : decode cX5_square 84 = .ok (.iload 10, 2) := by decide +kernel
theorem dX5_square_86 : decode cX5_square 86 = .ok (.i2l, 1) := by decide +kernel
theorem dX5_square_87 : decode cX5_square 87 = .ok (.lload 4, 2) := by decide +kernel
theorem dX5_square_89 : decode cX5_square 89 = .ok (.lcmp, 1) := by decide +kernel
theorem dX5_square_90 : decode cX5_square 90 = .ok (.ifCond .ge 150, 3) := by decide +kernel
theorem dX5_square_93 : decode cX5_square 93 = .ok (.lconst 1, 1) := by decide +kernel
theorem dX5_square_94 : decode cX5_square 94 = .ok (.lstore 11, 2) := by decide +kernel
theorem dX5_square_96 : decode cX5_square 96 = .ok (.iconst 0, 1) := by decide +kernel
theorem dX5_square_97 : decode cX5_square 97 = .ok (.istore 13, 2) := by decide +kernel
theorem dX5_square_99 : decode cX5_square 99 = .ok (.iload 13, 2) := by decide +kernel
theorem dX5_square_101 : decode cX5_square 101 = .ok (.iload_n 3, 1) := by decide +kernel
theorem dX5_square_102 : decode cX5_square 102 = .ok (.if_icmp .ge 37, 3) := by decide +kernel
theorem dX5_square_105 : decode cX5_square 105 = .ok (.aload_n 0, 1) := by decide +kernel
theorem dX5_square_106 : decode cX5_square 106 = .ok (.iload_n 1, 1) := by decide +kernel
theorem dX5_square_107 : decode cX5_square 107 = .ok (.iload 10, 2) := by decide +kernel
theorem dX5_square_109 : decode cX5_square 109 = .ok (.iload 13, 2) := by decide +kernel
theorem dX5_square_111 : decode cX5_square 111 = .ok (.invokevirtual 109, 3) := by decide +kernel
theorem dX5_square_114 : decode cX5_square 114 = .ok (.i2l, 1) := by decide +kernel
theorem dX5_square_115 : decode cX5_square 115 = .ok (.lstore 14, 2) := by decide +kernel
theorem dX5_square_117 : decode cX5_square 117 = .ok (.lload 11, 2) := by decide +kernel
theorem dX5_square_119 : decode cX5_square 119 = .ok (.lload 4, 2) := by decide +kernel
theorem dX5_square_121 : decode cX5_square 121 = .ok (.lload 4, 2) := by decide +kernel
theorem dX5_square_123 : decode cX5_square 123 = .ok (.lmul, 1) := by decide +kernel
theorem dX5_square_124 : decode cX5_square 124 = .ok (.lload 14, 2) := by decide +kernel
theorem dX5_square_126 : decode cX5_square 126 = .ok (.lload 14, 2) := by decide +kernel
theorem dX5_square_128 : decode cX5_square 128 = .ok (.lmul, 1) := by decide +kernel
theorem dX5_square_129 : decode cX5_square 129 = .ok (.lsub, 1) := by decide +kernel
theorem dX5_square_130 : decode cX5_square 130 = .ok (.lmul, 1) := by decide +kernel
theorem dX5_square_131 : decode cX5_square 131 = .ok (.lstore 11, 2) := by decide +kernel
theorem dX5_square_133 : decode cX5_square 133 = .ok (.iinc 13 1, 3) := by decide +kernel
theorem dX5_square_136 : decode cX5_square 136 = .ok (.goto (-37), 3) := by decide +kernel
theorem dX5_square_139 : decode cX5_square 139 = .ok (.lload 6, 2) := by decide +kernel
theorem dX5_square_141 : decode cX5_square 141 = .ok (.lload 11, 2) := by decide +kernel
theorem dX5_square_143 : decode cX5_square 143 = .ok (.ladd, 1) := by decide +kernel
theorem dX5_square_144 : decode cX5_square 144 = .ok (.lstore 6, 2) := by decide +kernel
theorem dX5_square_146 : decode cX5_square 146 = .ok (.iconst 0, 1) := by decide +kernel
theorem dX5_square_147 : decode cX5_square 147 = .ok (.istore 13, 2) := by decide +kernel
theorem dX5_square_149 : decode cX5_square 149 = .ok (.iload 13, 2) := by decide +kernel
theorem dX5_square_151 : decode cX5_square 151 = .ok (.i2l, 1) := by decide +kernel
theorem dX5_square_152 : decode cX5_square 152 = .ok (.lload 4, 2) := by decide +kernel
theorem dX5_square_154 : decode cX5_square 154 = .ok (.lcmp, 1) := by decide +kernel
theorem dX5_square_155 : decode cX5_square 155 = .ok (.ifCond .ge 79, 3) := by decide +kernel
theorem dX5_square_158 : decode cX5_square 158 = .ok (.lconst 1, 1) := by decide +kernel
theorem dX5_square_159 : decode cX5_square 159 = .ok (.lstore 14, 2) := by decide +kernel
theorem dX5_square_161 : decode cX5_square 161 = .ok (.iconst 0, 1) := by decide +kernel
theorem dX5_square_162 : decode cX5_square 162 = .ok (.istore 16, 2) := by decide +kernel
theorem dX5_square_164 : decode cX5_square 164 = .ok (.iload 16, 2) := by decide +kernel
theorem dX5_square_166 : decode cX5_square 166 = .ok (.iload_n 3, 1) := by decide +kernel
theorem dX5_square_167 : decode cX5_square 167 = .ok (.if_icmp .ge 54, 3) := by decide +kernel
theorem dX5_square_170 : decode cX5_square 170 = .ok (.aload_n 0, 1) := by decide +kernel
theorem dX5_square_171 : decode cX5_square 171 = .ok (.iload_n 1, 1) := by decide +kernel
theorem dX5_square_172 : decode cX5_square 172 = .ok (.iload 10, 2) := by decide +kernel
theorem dX5_square_174 : decode cX5_square 174 = .ok (.iload 16, 2) := by decide +kernel
theorem dX5_square_176 : decode cX5_square 176 = .ok (.invokevirtual 109, 3) := by decide +kernel
theorem dX5_square_179 : decode cX5_square 179 = .ok (.istore 17, 2) := by decide +kernel
theorem dX5_square_181 : decode cX5_square 181 = .ok (.aload_n 0, 1) := by decide +kernel
theorem dX5_square_182 : decode cX5_square 182 = .ok (.iload_n 1, 1) := by decide +kernel
theorem dX5_square_183 : decode cX5_square 183 = .ok (.iload 13, 2) := by decide +kernel
theorem dX5_square_185 : decode cX5_square 185 = .ok (.iload 16, 2) := by decide +kernel
theorem dX5_square_187 : decode cX5_square 187 = .ok (.invokevirtual 109, 3) := by decide +kernel
theorem dX5_square_190 : decode cX5_square 190 = .ok (.istore 18, 2) := by decide +kernel
theorem dX5_square_192 : decode cX5_square 192 = .ok (.lload 14, 2) := by decide +kernel
theorem dX5_square_194 : decode cX5_square 194 = .ok (.lload 4, 2) := by decide +kernel
theorem dX5_square_196 : decode cX5_square 196 = .ok (.iload 17, 2) := by decide +kernel
theorem dX5_square_198 : decode cX5_square 198 = .ok (.iload 18, 2) := by decide +kernel
theorem dX5_square_200 : decode cX5_square 200 = .ok (.if_icmp .le 8, 3) := by decide +kernel
theorem dX5_square_203 : decode cX5_square 203 = .ok (.iload 17, 2) := by decide +kernel
theorem dX5_square_205 : decode cX5_square 205 = .ok (.goto 5, 3) := by decide +kernel
theorem dX5_square_208 : decode cX5_square 208 = .ok (.iload 18, 2) := by decide +kernel
theorem dX5_square_210 : decode cX5_square 210 = .ok (.i2l, 1) := by decide +kernel
theorem dX5_square_211 : decode cX5_square 211 = .ok (.lsub, 1) := by decide +kernel
theorem dX5_square_212 : decode cX5_square 212 = .ok (.lmul, 1) := by decide +kernel
theorem dX5_square_213 : decode cX5_square 213 = .ok (.lstore 14, 2) := by decide +kernel
theorem dX5_square_215 : decode cX5_square 215 = .ok (.iinc 16 1, 3) := by decide +kernel
theorem dX5_square_218 : decode cX5_square 218 = .ok (.goto (-54), 3) := by decide +kernel
theorem dX5_square_221 : decode cX5_square 221 = .ok (.lload 8, 2) := by decide +kernel
theorem dX5_square_223 : decode cX5_square 223 = .ok (.lload 14, 2) := by decide +kernel
theorem dX5_square_225 : decode cX5_square 225 = .ok (.ladd, 1) := by decide +kernel
theorem dX5_square_226 : decode cX5_square 226 = .ok (.lstore 8, 2) := by decide +kernel
theorem dX5_square_228 : decode cX5_square 228 = .ok (.iinc 13 1, 3) := by decide +kernel
theorem dX5_square_231 : decode cX5_square 231 = .ok (.goto (-82), 3) := by decide +kernel
theorem dX5_square_234 : decode cX5_square 234 = .ok (.iinc 10 1, 3) := by decide +kernel
theorem dX5_square_237 : decode cX5_square 237 = .ok (.goto (-153), 3) := by decide +kernel
theorem dX5_square_240 : decode cX5_square 240 = .ok (.ldc2_w 155, 3) := by decide +kernel
theorem dX5_square_243 : decode cX5_square 243 = .ok (.iload_n 3, 1) := by decide +kernel
theorem dX5_square_244 : decode cX5_square 244 = .ok (.invokestatic 140, 3) := by decide +kernel
theorem dX5_square_247 : decode cX5_square 247 = .ok (.lstore 10, 2) := by decide +kernel
theorem dX5_square_249 : decode cX5_square 249 = .ok (.ldc2_w 157, 3) := by decide +kernel
theorem dX5_square_252 : decode cX5_square 252 = .ok (.iload_n 3, 1) := by decide +kernel
theorem dX5_square_253 : decode cX5_square 253 = .ok (.iconst 1, 1) := by decide +kernel
theorem dX5_square_254 : decode cX5_square 254 = .ok (.isub, 1) := by decide +kernel
theorem dX5_square_255 : decode cX5_square 255 = .ok (.invokestatic 140, 3) := by decide +kernel
theorem dX5_square_258 : decode cX5_square 258 = .ok (.lstore 12, 2) := by decide +kernel
theorem dX5_square_260 : decode cX5_square 260 = .ok (.lload 4, 2) := by decide +kernel
theorem dX5_square_262 : decode cX5_square 262 = .ok (.iconst 2, 1) := by decide +kernel
theorem dX5_square_263 : decode cX5_square 263 = .ok (.iload_n 3, 1) := by decide +kernel
theorem dX5_square_264 : decode cX5_square 264 = .ok (.imul, 1) := by decide +kernel
theorem dX5_square_265 : decode cX5_square 265 = .ok (.iconst 1, 1) := by decide +kernel
theorem dX5_square_266 : decode cX5_square 266 = .ok (.iadd, 1) := by decide +kernel
theorem dX5_square_267 : decode cX5_square 267 = .ok (.invokestatic 140, 3) := by decide +kernel
theorem dX5_square_270 : decode cX5_square 270 = .ok (.lload 12, 2) := by decide +kernel
theorem dX5_square_272 : decode cX5_square 272 = .ok (.lmul, 1) := by decide +kernel
theorem dX5_square_273 : decode cX5_square 273 = .ok (.lload 6, 2) := by decide +kernel
theorem dX5_square_275 : decode cX5_square 275 = .ok (.lload 10, 2) := by decide +kernel
theorem dX5_square_277 : decode cX5_square 277 = .ok (.lmul, 1) := by decide +kernel
theorem dX5_square_278 : decode cX5_square 278 = .ok (.lsub, 1) := by decide +kernel
theorem dX5_square_279 : decode cX5_square 279 = .ok (.lload 8, 2) := by decide +kernel
theorem dX5_square_281 : decode cX5_square 281 = .ok (.lload 10, 2) := by decide +kernel
theorem dX5_square_283 : decode cX5_square 283 = .ok (.lmul, 1) := by decide +kernel
theorem dX5_square_284 : decode cX5_square 284 = .ok (.lload 12, 2) := by decide +kernel
theorem dX5_square_286 : decode cX5_square 286 = .ok (.lmul, 1) := by decide +kernel
theorem dX5_square_287 : decode cX5_square 287 = .ok (.lload 4, 2) := by decide +kernel
theorem dX5_square_289 : decode cX5_square 289 = .ok (.iload_n 3, 1) := by decide +kernel
theorem dX5_square_290 : decode cX5_square 290 = .ok (.iconst 1, 1) := by decide +kernel
theorem dX5_square_291 : decode cX5_square 291 = .ok (.isub, 1) := by decide +kernel
theorem dX5_square_292 : decode cX5_square 292 = .ok (.invokestatic 140, 3) := by decide +kernel
theorem dX5_square_295 : decode cX5_square 295 = .ok (.lmul, 1) := by decide +kernel
theorem dX5_square_296 : decode cX5_square 296 = .ok (.ladd, 1) := by decide +kernel
theorem dX5_square_297 : decode cX5_square 297 = .ok (.lstore 14, 2) := by decide +kernel
theorem dX5_square_299 : decode cX5_square 299 = .ok (.lload 14, 2) := by decide +kernel
theorem dX5_square_301 : decode cX5_square 301 = .ok (.lload 10, 2) := by decide +kernel
theorem dX5_square_303 : decode cX5_square 303 = .ok (.lload 12, 2) := by decide +kernel
theorem dX5_square_305 : decode cX5_square 305 = .ok (.lmul, 1) := by decide +kernel
theorem dX5_square_306 : decode cX5_square 306 = .ok (.lload 4, 2) := by decide +kernel
theorem dX5_square_308 : decode cX5_square 308 = .ok (.iconst 2, 1) := by decide +kernel
theorem dX5_square_309 : decode cX5_square 309 = .ok (.iload_n 3, 1) := by decide +kernel
theorem dX5_square_310 : decode cX5_square 310 = .ok (.imul, 1) := by decide +kernel
theorem dX5_square_311 : decode cX5_square 311 = .ok (.iconst 1, 1) := by decide +kernel
theorem dX5_square_312 : decode cX5_square 312 = .ok (.iadd, 1) := by decide +kernel
theorem dX5_square_313 : decode cX5_square 313 = .ok (.invokestatic 140, 3) := by decide +kernel
theorem dX5_square_316 : decode cX5_square 316 = .ok (.lmul, 1) := by decide +kernel
theorem dX5_square_317 : decode cX5_square 317 = .ok (.iload_n 2, 1) := by decide +kernel
theorem dX5_square_318 : decode cX5_square 318 = .ok (.ifCond .ne 7, 3) := by decide +kernel
theorem dX5_square_321 : decode cX5_square 321 = .ok (.iconst 1, 1) := by decide +kernel
theorem dX5_square_322 : decode cX5_square 322 = .ok (.goto 4, 3) := by decide +kernel
theorem dX5_square_325 : decode cX5_square 325 = .ok (.iconst 0, 1) := by decide +kernel
theorem dX5_square_326 : decode cX5_square 326 = .ok (.invokestatic 151, 3) := by decide +kernel
theorem dX5_square_329 : decode cX5_square 329 = .ok (.lreturn, 1) := by decide +kernel
theorem dX5_waveOf_0 : decode cX5_waveOf 0 = .ok (.lconst 0, 1) := by decide +kernel
theorem dX5_waveOf_1 : decode cX5_waveOf 1 = .ok (.lstore_n 2, 1) := by decide +kernel
theorem dX5_waveOf_2 : decode cX5_waveOf 2 = .ok (.iconst 0, 1) := by decide +kernel
theorem dX5_waveOf_3 : decode cX5_waveOf 3 = .ok (.istore 4, 2) := by decide +kernel
theorem dX5_waveOf_5 : decode cX5_waveOf 5 = .ok (.iload 4, 2) := by decide +kernel
theorem dX5_waveOf_7 : decode cX5_waveOf 7 = .ok (.aload_n 0, 1) := by decide +kernel
theorem dX5_waveOf_8 : decode cX5_waveOf 8 = .ok (.getfield 19, 3) := by decide +kernel
theorem dX5_waveOf_11 : decode cX5_waveOf 11 = .ok (.iload_n 1, 1) := by decide +kernel
theorem dX5_waveOf_12 : decode cX5_waveOf 12 = .ok (.iaload, 1) := by decide +kernel
theorem dX5_waveOf_13 : decode cX5_waveOf 13 = .ok (.if_icmp .ge 73, 3) := by decide +kernel
theorem dX5_waveOf_16 : decode cX5_waveOf 16 = .ok (.iconst 0, 1) := by decide +kernel
theorem dX5_waveOf_17 : decode cX5_waveOf 17 = .ok (.istore 5, 2) := by decide +kernel
theorem dX5_waveOf_19 : decode cX5_waveOf 19 = .ok (.iconst 0, 1) := by decide +kernel
theorem dX5_waveOf_20 : decode cX5_waveOf 20 = .ok (.istore 6, 2) := by decide +kernel
theorem dX5_waveOf_22 : decode cX5_waveOf 22 = .ok (.iload 6, 2) := by decide +kernel
theorem dX5_waveOf_24 : decode cX5_waveOf 24 = .ok (.aload_n 0, 1) := by decide +kernel
theorem dX5_waveOf_25 : decode cX5_waveOf 25 = .ok (.getfield 13, 3) := by decide +kernel
theorem dX5_waveOf_28 : decode cX5_waveOf 28 = .ok (.iload_n 1, 1) := by decide +kernel
theorem dX5_waveOf_29 : decode cX5_waveOf 29 = .ok (.iaload, 1) := by decide +kernel
theorem dX5_waveOf_30 : decode cX5_waveOf 30 = .ok (.if_icmp .ge 31, 3) := by decide +kernel
theorem dX5_waveOf_33 : decode cX5_waveOf 33 = .ok (.iload 5, 2) := by decide +kernel
theorem dX5_waveOf_35 : decode cX5_waveOf 35 = .ok (.aload_n 0, 1) := by decide +kernel
theorem dX5_waveOf_36 : decode cX5_waveOf 36 = .ok (.iload_n 1, 1) := by decide +kernel
theorem dX5_waveOf_37 : decode cX5_waveOf 37 = .ok (.iload 4, 2) := by decide +kernel
theorem dX5_waveOf_39 : decode cX5_waveOf 39 = .ok (.iload 6, 2) := by decide +kernel
theorem dX5_waveOf_41 : decode cX5_waveOf 41 = .ok (.invokevirtual 109, 3) := by decide +kernel
theorem dX5_waveOf_44 : decode cX5_waveOf 44 = .ok (.aload_n 0, 1) := by decide +kernel
theorem dX5_waveOf_45 : decode cX5_waveOf 45 = .ok (.getfield 63, 3) := by decide +kernel
theorem dX5_waveOf_48 : decode cX5_waveOf 48 = .ok (.iload 6, 2) := by decide +kernel
theorem dX5_waveOf_50 : decode cX5_waveOf 50 = .ok (.iaload, 1) := by decide +kernel
theorem dX5_waveOf_51 : decode cX5_waveOf 51 = .ok (.iand, 1) := by decide +kernel
theorem dX5_waveOf_52 : decode cX5_waveOf 52 = .ok (.ixor, 1) := by decide +kernel
theorem dX5_waveOf_53 : decode cX5_waveOf 53 = .ok (.istore 5, 2) := by decide +kernel
theorem dX5_waveOf_55 : decode cX5_waveOf 55 = .ok (.iinc 6 1, 3) := by decide +kernel
theorem dX5_waveOf_58 : decode cX5_waveOf 58 = .ok (.goto (-36), 3) := by decide +kernel
theorem dX5_waveOf_61 : decode cX5_waveOf 61 = .ok (.lload_n 2, 1) := by decide +kernel
theorem dX5_waveOf_62 : decode cX5_waveOf 62 = .ok (.iload 5, 2) := by decide +kernel
theorem dX5_waveOf_64 : decode cX5_waveOf 64 = .ok (.invokestatic 106, 3) := by decide +kernel
theorem dX5_waveOf_67 : decode cX5_waveOf 67 = .ok (.iconst 1, 1) := by decide +kernel
theorem dX5_waveOf_68 : decode cX5_waveOf 68 = .ok (.if_icmp .ne 9, 3) := by decide +kernel
theorem dX5_waveOf_71 : decode cX5_waveOf 71 = .ok (.ldc2_w 159, 3) := by decide +kernel
theorem dX5_waveOf_74 : decode cX5_waveOf 74 = .ok (.goto 4, 3) := by decide +kernel
theorem dX5_waveOf_77 : decode cX5_waveOf 77 = .ok (.lconst 1, 1) := by decide +kernel
theorem dX5_waveOf_78 : decode cX5_waveOf 78 = .ok (.ladd, 1) := by decide +kernel
theorem dX5_waveOf_79 : decode cX5_waveOf 79 = .ok (.lstore_n 2, 1) := by decide +kernel
theorem dX5_waveOf_80 : decode cX5_waveOf 80 = .ok (.iinc 4 1, 3) := by decide +kernel
theorem dX5_waveOf_83 : decode cX5_waveOf 83 = .ok (.goto (-78), 3) := by decide +kernel
theorem dX5_waveOf_86 : decode cX5_waveOf 86 = .ok (.lload_n 2, 1) := by decide +kernel
theorem dX5_waveOf_87 : decode cX5_waveOf 87 = .ok (.lreturn, 1) := by decide +kernel
theorem dX5_wave_0 : decode cX5_wave 0 = .ok (.aload_n 0, 1) := by decide +kernel
theorem dX5_wave_1 : decode cX5_wave 1 = .ok (.iload_n 1, 1) := by decide +kernel
theorem dX5_wave_2 : decode cX5_wave 2 = .ok (.invokevirtual 80, 3) := by decide +kernel
theorem dX5_wave_5 : decode cX5_wave 5 = .ok (.ifCond .ne 9, 3) := by decide +kernel
theorem dX5_wave_8 : decode cX5_wave 8 = .ok (.aload_n 0, 1) := by decide +kernel
theorem dX5_wave_9 : decode cX5_wave 9 = .ok (.iconst (-1), 1) := by decide +kernel
theorem dX5_wave_10 : decode cX5_wave 10 = .ok (.invokevirtual 143, 3) := by decide +kernel
theorem dX5_wave_13 : decode cX5_wave 13 = .ok (.lreturn, 1) := by decide +kernel
theorem dX5_wave_14 : decode cX5_wave 14 = .ok (.aload_n 0, 1) := by decide +kernel
theorem dX5_wave_15 : decode cX5_wave 15 = .ok (.getfield 7, 3) := by decide +kernel
theorem dX5_wave_18 : decode cX5_wave 18 = .ok (.iload_n 1, 1) := by decide +kernel
theorem dX5_wave_19 : decode cX5_wave 19 = .ok (.iaload, 1) := by decide +kernel
theorem dX5_wave_20 : decode cX5_wave 20 = .ok (.iconst 3, 1) := by decide +kernel
theorem dX5_wave_21 : decode cX5_wave 21 = .ok (.if_icmp .ne 10, 3) := by decide +kernel
theorem dX5_wave_24 : decode cX5_wave 24 = .ok (.aload_n 0, 1) := by decide +kernel
theorem dX5_wave_25 : decode cX5_wave 25 = .ok (.bipush (-2), 2) := by decide +kernel
theorem dX5_wave_27 : decode cX5_wave 27 = .ok (.invokevirtual 143, 3) := by decide +kernel
theorem dX5_wave_30 : decode cX5_wave 30 = .ok (.lreturn, 1) := by decide +kernel
theorem dX5_wave_31 : decode cX5_wave 31 = .ok (.iconst 0, 1) := by decide +kernel
theorem dX5_wave_32 : decode cX5_wave 32 = .ok (.istore_n 2, 1) := by decide +kernel
theorem dX5_wave_33 : decode cX5_wave 33 = .ok (.iload_n 2, 1) := by decide +kernel
theorem dX5_wave_34 : decode cX5_wave 34 = .ok (.aload_n 0, 1) := by decide +kernel
theorem dX5_wave_35 : decode cX5_wave 35 = .ok (.getfield 13, 3) := by decide +kernel
theorem dX5_wave_38 : decode cX5_wave 38 = .ok (.iload_n 1, 1) := by decide +kernel
theorem dX5_wave_39 : decode cX5_wave 39 = .ok (.iaload, 1) := by decide +kernel
theorem dX5_wave_40 : decode cX5_wave 40 = .ok (.if_icmp .ge 51, 3) := by decide +kernel
theorem dX5_wave_43 : decode cX5_wave 43 = .ok (.aload_n 0, 1) := by decide +kernel
theorem dX5_wave_44 : decode cX5_wave 44 = .ok (.getfield 43, 3) := by decide +kernel
theorem dX5_wave_47 : decode cX5_wave 47 = .ok (.iload_n 2, 1) := by decide +kernel
theorem dX5_wave_48 : decode cX5_wave 48 = .ok (.iaload, 1) := by decide +kernel
theorem dX5_wave_49 : decode cX5_wave 49 = .ok (.i2l, 1) := by decide +kernel
theorem dX5_wave_50 : decode cX5_wave 50 = .ok (.lconst 0, 1) := by decide +kernel
theorem dX5_wave_51 : decode cX5_wave 51 = .ok (.aload_n 0, 1) := by decide +kernel
theorem dX5_wave_52 : decode cX5_wave 52 = .ok (.getfield 19, 3) := by decide +kernel
theorem dX5_wave_55 : decode cX5_wave 55 = .ok (.iload_n 1, 1) := by decide +kernel
theorem dX5_wave_56 : decode cX5_wave 56 = .ok (.iaload, 1) := by decide +kernel
theorem dX5_wave_57 : decode cX5_wave 57 = .ok (.iconst 1, 1) := by decide +kernel
theorem dX5_wave_58 : decode cX5_wave 58 = .ok (.isub, 1) := by decide +kernel
theorem dX5_wave_59 : decode cX5_wave 59 = .ok (.i2l, 1) := by decide +kernel
theorem dX5_wave_60 : decode cX5_wave 60 = .ok (.invokestatic 76, 3) := by decide +kernel
theorem dX5_wave_63 : decode cX5_wave 63 = .ok (.ifCond .ne 10, 3) := by decide +kernel
theorem dX5_wave_66 : decode cX5_wave 66 = .ok (.aload_n 0, 1) := by decide +kernel
theorem dX5_wave_67 : decode cX5_wave 67 = .ok (.bipush (-3), 2) := by decide +kernel
theorem dX5_wave_69 : decode cX5_wave 69 = .ok (.invokevirtual 143, 3) := by decide +kernel
theorem dX5_wave_72 : decode cX5_wave 72 = .ok (.lreturn, 1) := by decide +kernel
theorem dX5_wave_73 : decode cX5_wave 73 = .ok (.aload_n 0, 1) := by decide +kernel
theorem dX5_wave_74 : decode cX5_wave 74 = .ok (.getfield 63, 3) := by decide +kernel
theorem dX5_wave_77 : decode cX5_wave 77 = .ok (.iload_n 2, 1) := by decide +kernel
theorem dX5_wave_78 : decode cX5_wave 78 = .ok (.aload_n 0, 1) := by decide +kernel
theorem dX5_wave_79 : decode cX5_wave 79 = .ok (.getfield 43, 3) := by decide +kernel
theorem dX5_wave_82 : decode cX5_wave 82 = .ok (.iload_n 2, 1) := by decide +kernel
theorem dX5_wave_83 : decode cX5_wave 83 = .ok (.iaload, 1) := by decide +kernel
theorem dX5_wave_84 : decode cX5_wave 84 = .ok (.iastore, 1) := by decide +kernel
theorem dX5_wave_85 : decode cX5_wave 85 = .ok (.iinc 2 1, 3) := by decide +kernel
theorem dX5_wave_88 : decode cX5_wave 88 = .ok (.goto (-55), 3) := by decide +kernel
theorem dX5_wave_91 : decode cX5_wave 91 = .ok (.aload_n 0, 1) := by decide +kernel
theorem dX5_wave_92 : decode cX5_wave 92 = .ok (.iload_n 1, 1) := by decide +kernel
theorem dX5_wave_93 : decode cX5_wave 93 = .ok (.invokevirtual 161, 3) := by decide +kernel
theorem dX5_wave_96 : decode cX5_wave 96 = .ok (.lreturn, 1) := by decide +kernel
theorem dX5_ones_0 : decode cX5_ones 0 = .ok (.iconst 0, 1) := by decide +kernel
theorem dX5_ones_1 : decode cX5_ones 1 = .ok (.istore_n 1, 1) := by decide +kernel
theorem dX5_ones_2 : decode cX5_ones 2 = .ok (.iload_n 0, 1) := by decide +kernel
theorem dX5_ones_3 : decode cX5_ones 3 = .ok (.istore_n 2, 1) := by decide +kernel
theorem dX5_ones_4 : decode cX5_ones 4 = .ok (.iload_n 2, 1) := by decide +kernel
theorem dX5_ones_5 : decode cX5_ones 5 = .ok (.ifCond .eq 16, 3) := by decide +kernel
theorem dX5_ones_8 : decode cX5_ones 8 = .ok (.iload_n 1, 1) := by decide +kernel
theorem dX5_ones_9 : decode cX5_ones 9 = .ok (.iload_n 2, 1) := by decide +kernel
theorem dX5_ones_10 : decode cX5_ones 10 = .ok (.iconst 1, 1) := by decide +kernel
theorem dX5_ones_11 : decode cX5_ones 11 = .ok (.iand, 1) := by decide +kernel
theorem dX5_ones_12 : decode cX5_ones 12 = .ok (.iadd, 1) := by decide +kernel
theorem dX5_ones_13 : decode cX5_ones 13 = .ok (.istore_n 1, 1) := by decide +kernel
theorem dX5_ones_14 : decode cX5_ones 14 = .ok (.iload_n 2, 1) := by decide +kernel
theorem dX5_ones_15 : decode cX5_ones 15 = .ok (.iconst 1, 1) := by decide +kernel
theorem dX5_ones_16 : decode cX5_ones 16 = .ok (.iushr, 1) := by decide +kernel
theorem dX5_ones_17 : decode cX5_ones 17 = .ok (.istore_n 2, 1) := by decide +kernel
theorem dX5_ones_18 : decode cX5_ones 18 = .ok (.goto (-14), 3) := by decide +kernel
theorem dX5_ones_21 : decode cX5_ones 21 = .ok (.iload_n 1, 1) := by decide +kernel
theorem dX5_ones_22 : decode cX5_ones 22 = .ok (.ireturn, 1) := by decide +kernel
theorem dX5_waves_0 : decode cX5_waves 0 = .ok (.aload_n 0, 1) := by decide +kernel
theorem dX5_waves_1 : decode cX5_waves 1 = .ok (.iload_n 1, 1) := by decide +kernel
theorem dX5_waves_2 : decode cX5_waves 2 = .ok (.invokevirtual 80, 3) := by decide +kernel
theorem dX5_waves_5 : decode cX5_waves 5 = .ok (.ifCond .ne 9, 3) := by decide +kernel
theorem dX5_waves_8 : decode cX5_waves 8 = .ok (.aload_n 0, 1) := by decide +kernel
theorem dX5_waves_9 : decode cX5_waves 9 = .ok (.iconst (-1), 1) := by decide +kernel
theorem dX5_waves_10 : decode cX5_waves 10 = .ok (.invokevirtual 143, 3) := by decide +kernel
theorem dX5_waves_13 : decode cX5_waves 13 = .ok (.lreturn, 1) := by decide +kernel
theorem dX5_waves_14 : decode cX5_waves 14 = .ok (.aload_n 0, 1) := by decide +kernel
theorem dX5_waves_15 : decode cX5_waves 15 = .ok (.getfield 7, 3) := by decide +kernel
theorem dX5_waves_18 : decode cX5_waves 18 = .ok (.iload_n 1, 1) := by decide +kernel
theorem dX5_waves_19 : decode cX5_waves 19 = .ok (.iaload, 1) := by decide +kernel
theorem dX5_waves_20 : decode cX5_waves 20 = .ok (.iconst 3, 1) := by decide +kernel
theorem dX5_waves_21 : decode cX5_waves 21 = .ok (.if_icmp .ne 10, 3) := by decide +kernel
theorem dX5_waves_24 : decode cX5_waves 24 = .ok (.aload_n 0, 1) := by decide +kernel
theorem dX5_waves_25 : decode cX5_waves 25 = .ok (.bipush (-2), 2) := by decide +kernel
theorem dX5_waves_27 : decode cX5_waves 27 = .ok (.invokevirtual 143, 3) := by decide +kernel
theorem dX5_waves_30 : decode cX5_waves 30 = .ok (.lreturn, 1) := by decide +kernel
theorem dX5_waves_31 : decode cX5_waves 31 = .ok (.iload_n 2, 1) := by decide +kernel
theorem dX5_waves_32 : decode cX5_waves 32 = .ok (.ifCond .lt 7, 3) := by decide +kernel
theorem dX5_waves_35 : decode cX5_waves 35 = .ok (.iload_n 3, 1) := by decide +kernel
theorem dX5_waves_36 : decode cX5_waves 36 = .ok (.ifCond .ge 10, 3) := by decide +kernel
theorem dX5_waves_39 : decode cX5_waves 39 = .ok (.aload_n 0, 1) := by decide +kernel
theorem dX5_waves_40 : decode cX5_waves 40 = .ok (.bipush (-4), 2) := by decide +kernel
theorem dX5_waves_42 : decode cX5_waves 42 = .ok (.invokevirtual 143, 3) := by decide +kernel
theorem dX5_waves_45 : decode cX5_waves 45 = .ok (.lreturn, 1) := by decide +kernel
theorem dX5_waves_46 : decode cX5_waves 46 = .ok (.aload_n 0, 1) := by decide +kernel
theorem dX5_waves_47 : decode cX5_waves 47 = .ok (.getfield 16, 3) := by decide +kernel
theorem dX5_waves_50 : decode cX5_waves 50 = .ok (.iload_n 1, 1) := by decide +kernel
theorem dX5_waves_51 : decode cX5_waves 51 = .ok (.iaload, 1) := by decide +kernel
theorem dX5_waves_52 : decode cX5_waves 52 = .ok (.aload_n 0, 1) := by decide +kernel
theorem dX5_waves_53 : decode cX5_waves 53 = .ok (.getfield 13, 3) := by decide +kernel
theorem dX5_waves_56 : decode cX5_waves 56 = .ok (.iload_n 1, 1) := by decide +kernel
theorem dX5_waves_57 : decode cX5_waves 57 = .ok (.iaload, 1) := by decide +kernel
theorem dX5_waves_58 : decode cX5_waves 58 = .ok (.imul, 1) := by decide +kernel
theorem dX5_waves_59 : decode cX5_waves 59 = .ok (.bipush 12, 2) := by decide +kernel
theorem dX5_waves_61 : decode cX5_waves 61 = .ok (.if_icmp .le 10, 3) := by decide +kernel
theorem dX5_waves_64 : decode cX5_waves 64 = .ok (.aload_n 0, 1) := by decide +kernel
theorem dX5_waves_65 : decode cX5_waves 65 = .ok (.bipush (-6), 2) := by decide +kernel
theorem dX5_waves_67 : decode cX5_waves 67 = .ok (.invokevirtual 143, 3) := by decide +kernel
theorem dX5_waves_70 : decode cX5_waves 70 = .ok (.lreturn, 1) := by decide +kernel
theorem dX5_waves_71 : decode cX5_waves 71 = .ok (.iconst 0, 1) := by decide +kernel
theorem dX5_waves_72 : decode cX5_waves 72 = .ok (.istore 4, 2) := by decide +kernel
theorem dX5_waves_74 : decode cX5_waves 74 = .ok (.iconst 1, 1) := by decide +kernel
theorem dX5_waves_75 : decode cX5_waves 75 = .ok (.istore 5, 2) := by decide +kernel
theorem dX5_waves_77 : decode cX5_waves 77 = .ok (.iload 5, 2) := by decide +kernel
theorem dX5_waves_79 : decode cX5_waves 79 = .ok (.iconst 1, 1) := by decide +kernel
theorem dX5_waves_80 : decode cX5_waves 80 = .ok (.aload_n 0, 1) := by decide +kernel
theorem dX5_waves_81 : decode cX5_waves 81 = .ok (.getfield 16, 3) := by decide +kernel
theorem dX5_waves_84 : decode cX5_waves 84 = .ok (.iload_n 1, 1) := by decide +kernel
theorem dX5_waves_85 : decode cX5_waves 85 = .ok (.iaload, 1) := by decide +kernel
theorem dX5_waves_86 : decode cX5_waves 86 = .ok (.aload_n 0, 1) := by decide +kernel
theorem dX5_waves_87 : decode cX5_waves 87 = .ok (.getfield 13, 3) := by decide +kernel
theorem dX5_waves_90 : decode cX5_waves 90 = .ok (.iload_n 1, 1) := by decide +kernel
theorem dX5_waves_91 : decode cX5_waves 91 = .ok (.iaload, 1) := by decide +kernel
theorem dX5_waves_92 : decode cX5_waves 92 = .ok (.imul, 1) := by decide +kernel
theorem dX5_waves_93 : decode cX5_waves 93 = .ok (.ishl, 1) := by decide +kernel
theorem dX5_waves_94 : decode cX5_waves 94 = .ok (.if_icmp .ge 98, 3) := by decide +kernel
theorem dX5_waves_97 : decode cX5_waves 97 = .ok (.iconst 0, 1) := by decide +kernel
theorem dX5_waves_98 : decode cX5_waves 98 = .ok (.istore 6, 2) := by decide +kernel
theorem dX5_waves_100 : decode cX5_waves 100 = .ok (.iload 6, 2) := by decide +kernel
theorem dX5_waves_102 : decode cX5_waves 102 = .ok (.aload_n 0, 1) := by decide +kernel
theorem dX5_waves_103 : decode cX5_waves 103 = .ok (.getfield 13, 3) := by decide +kernel
theorem dX5_waves_106 : decode cX5_waves 106 = .ok (.iload_n 1, 1) := by decide +kernel
theorem dX5_waves_107 : decode cX5_waves 107 = .ok (.iaload, 1) := by decide +kernel
theorem dX5_waves_108 : decode cX5_waves 108 = .ok (.if_icmp .ge 46, 3) := by decide +kernel
theorem dX5_waves_111 : decode cX5_waves 111 = .ok (.aload_n 0, 1) := by decide +kernel
theorem dX5_waves_112 : decode cX5_waves 112 = .ok (.getfield 63, 3) := by decide +kernel
theorem dX5_waves_115 : decode cX5_waves 115 = .ok (.iload 6, 2) := by decide +kernel
theorem dX5_waves_117 : decode cX5_waves 117 = .ok (.iload 5, 2) := by decide +kernel
theorem dX5_waves_119 : decode cX5_waves 119 = .ok (.aload_n 0, 1) := by decide +kernel
theorem dX5_waves_120 : decode cX5_waves 120 = .ok (.getfield 16, 3) := by decide +kernel
theorem dX5_waves_123 : decode cX5_waves 123 = .ok (.iload_n 1, 1) := by decide +kernel
theorem dX5_waves_124 : decode cX5_waves 124 = .ok (.iaload, 1) := by decide +kernel
theorem dX5_waves_125 : decode cX5_waves 125 = .ok (.aload_n 0, 1) := by decide +kernel
theorem dX5_waves_126 : decode cX5_waves 126 = .ok (.getfield 13, 3) := by decide +kernel
theorem dX5_waves_129 : decode cX5_waves 129 = .ok (.iload_n 1, 1) := by decide +kernel
theorem dX5_waves_130 : decode cX5_waves 130 = .ok (.iaload, 1) := by decide +kernel
theorem dX5_waves_131 : decode cX5_waves 131 = .ok (.iconst 1, 1) := by decide +kernel
theorem dX5_waves_132 : decode cX5_waves 132 = .ok (.isub, 1) := by decide +kernel
theorem dX5_waves_133 : decode cX5_waves 133 = .ok (.iload 6, 2) := by decide +kernel
theorem dX5_waves_135 : decode cX5_waves 135 = .ok (.isub, 1) := by decide +kernel
theorem dX5_waves_136 : decode cX5_waves 136 = .ok (.imul, 1) := by decide +kernel
theorem dX5_waves_137 : decode cX5_waves 137 = .ok (.ishr, 1) := by decide +kernel
theorem dX5_waves_138 : decode cX5_waves 138 = .ok (.aload_n 0, 1) := by decide +kernel
theorem dX5_waves_139 : decode cX5_waves 139 = .ok (.getfield 19, 3) := by decide +kernel
theorem dX5_waves_142 : decode cX5_waves 142 = .ok (.iload_n 1, 1) := by decide +kernel
theorem dX5_waves_143 : decode cX5_waves 143 = .ok (.iaload, 1) := by decide +kernel
theorem dX5_waves_144 : decode cX5_waves 144 = .ok (.iconst 1, 1) := by decide +kernel
theorem dX5_waves_145 : decode cX5_waves 145 = .ok (.isub, 1) := by decide +kernel
theorem dX5_waves_146 : decode cX5_waves 146 = .ok (.iand, 1) := by decide +kernel
theorem dX5_waves_147 : decode cX5_waves 147 = .ok (.iastore, 1) := by decide +kernel
theorem dX5_waves_148 : decode cX5_waves 148 = .ok (.iinc 6 1, 3) := by decide +kernel
theorem dX5_waves_151 : decode cX5_waves 151 = .ok (.goto (-51), 3) := by decide +kernel
theorem dX5_waves_154 : decode cX5_waves 154 = .ok (.iload 5, 2) := by decide +kernel
theorem dX5_waves_156 : decode cX5_waves 156 = .ok (.invokestatic 164, 3) := by decide +kernel
theorem dX5_waves_159 : decode cX5_waves 159 = .ok (.iload_n 2, 1) := by decide +kernel
theorem dX5_waves_160 : decode cX5_waves 160 = .ok (.if_icmp .gt 26, 3) := by decide +kernel
theorem dX5_waves_163 : decode cX5_waves 163 = .ok (.aload_n 0, 1) := by decide +kernel
theorem dX5_waves_164 : decode cX5_waves 164 = .ok (.iload_n 1, 1) := by decide +kernel
theorem dX5_waves_165 : decode cX5_waves 165 = .ok (.invokevirtual 161, 3) := by decide +kernel
theorem dX5_waves_168 : decode cX5_waves 168 = .ok (.lconst 0, 1) := by decide +kernel
theorem dX5_waves_169 : decode cX5_waves 169 = .ok (.lcmp, 1) := by decide +kernel
theorem dX5_waves_170 : decode cX5_waves 170 = .ok (.ifCond .eq 16, 3) := by decide +kernel
theorem dX5_waves_173 : decode cX5_waves 173 = .ok (.iload 4, 2) := by decide +kernel
theorem dX5_waves_175 : decode cX5_waves 175 = .ok (.iload_n 3, 1) := by decide +kernel
theorem dX5_waves_176 : decode cX5_waves 176 = .ok (.if_icmp .ne 7, 3) := by decide +kernel
theorem dX5_waves_179 : decode cX5_waves 179 = .ok (.iload 5, 2) := by decide +kernel
theorem dX5_waves_181 : decode cX5_waves 181 = .ok (.i2l, 1) := by decide +kernel
theorem dX5_waves_182 : decode cX5_waves 182 = .ok (.lreturn, 1) := by decide +kernel
theorem dX5_waves_183 : decode cX5_waves 183 = .ok (.iinc 4 1, 3) := by decide +kernel
theorem dX5_waves_186 : decode cX5_waves 186 = .ok (.iinc 5 1, 3) := by decide +kernel
theorem dX5_waves_189 : decode cX5_waves 189 = .ok (.goto (-112), 3) := by decide +kernel
theorem dX5_waves_192 : decode cX5_waves 192 = .ok (.ldc2_w 167, 3) := by decide +kernel
theorem dX5_waves_195 : decode cX5_waves 195 = .ok (.lreturn, 1) := by decide +kernel
theorem dX5_sum_0 : decode cX5_sum 0 = .ok (.aload_n 0, 1) := by decide +kernel
theorem dX5_sum_1 : decode cX5_sum 1 = .ok (.iload_n 1, 1) := by decide +kernel
theorem dX5_sum_2 : decode cX5_sum 2 = .ok (.invokevirtual 80, 3) := by decide +kernel
theorem dX5_sum_5 : decode cX5_sum 5 = .ok (.ifCond .ne 9, 3) := by decide +kernel
theorem dX5_sum_8 : decode cX5_sum 8 = .ok (.aload_n 0, 1) := by decide +kernel
theorem dX5_sum_9 : decode cX5_sum 9 = .ok (.iconst (-1), 1) := by decide +kernel
theorem dX5_sum_10 : decode cX5_sum 10 = .ok (.invokevirtual 143, 3) := by decide +kernel
theorem dX5_sum_13 : decode cX5_sum 13 = .ok (.lreturn, 1) := by decide +kernel
theorem dX5_sum_14 : decode cX5_sum 14 = .ok (.iload_n 2, 1) := by decide +kernel
theorem dX5_sum_15 : decode cX5_sum 15 = .ok (.i2l, 1) := by decide +kernel
theorem dX5_sum_16 : decode cX5_sum 16 = .ok (.lconst 0, 1) := by decide +kernel
theorem dX5_sum_17 : decode cX5_sum 17 = .ok (.ldc2_w 157, 3) := by decide +kernel
theorem dX5_sum_20 : decode cX5_sum 20 = .ok (.invokestatic 76, 3) := by decide +kernel
theorem dX5_sum_23 : decode cX5_sum 23 = .ok (.ifCond .ne 10, 3) := by decide +kernel
theorem dX5_sum_26 : decode cX5_sum 26 = .ok (.aload_n 0, 1) := by decide +kernel
theorem dX5_sum_27 : decode cX5_sum 27 = .ok (.bipush (-2), 2) := by decide +kernel
theorem dX5_sum_29 : decode cX5_sum 29 = .ok (.invokevirtual 143, 3) := by decide +kernel
theorem dX5_sum_32 : decode cX5_sum 32 = .ok (.lreturn, 1) := by decide +kernel
theorem dX5_sum_33 : decode cX5_sum 33 = .ok (.lconst 0, 1) := by decide +kernel
theorem dX5_sum_34 : decode cX5_sum 34 = .ok (.lstore_n 3, 1) := by decide +kernel
theorem dX5_sum_35 : decode cX5_sum 35 = .ok (.lconst 1, 1) := by decide +kernel
theorem dX5_sum_36 : decode cX5_sum 36 = .ok (.lstore 5, 2) := by decide +kernel
theorem dX5_sum_38 : decode cX5_sum 38 = .ok (.iconst 1, 1) := by decide +kernel
theorem dX5_sum_39 : decode cX5_sum 39 = .ok (.istore 7, 2) := by decide +kernel
theorem dX5_sum_41 : decode cX5_sum 41 = .ok (.iconst 0, 1) := by decide +kernel
theorem dX5_sum_42 : decode cX5_sum 42 = .ok (.istore 8, 2) := by decide +kernel
theorem dX5_sum_44 : decode cX5_sum 44 = .ok (.iload 8, 2) := by decide +kernel
theorem dX5_sum_46 : decode cX5_sum 46 = .ok (.aload_n 0, 1) := by decide +kernel
theorem dX5_sum_47 : decode cX5_sum 47 = .ok (.getfield 13, 3) := by decide +kernel
theorem dX5_sum_50 : decode cX5_sum 50 = .ok (.iload_n 1, 1) := by decide +kernel
theorem dX5_sum_51 : decode cX5_sum 51 = .ok (.iaload, 1) := by decide +kernel
theorem dX5_sum_52 : decode cX5_sum 52 = .ok (.if_icmp .ge 65, 3) := by decide +kernel
theorem dX5_sum_55 : decode cX5_sum 55 = .ok (.iload 7, 2) := by decide +kernel
theorem dX5_sum_57 : decode cX5_sum 57 = .ok (.ifCond .eq 25, 3) := by decide +kernel
theorem dX5_sum_60 : decode cX5_sum 60 = .ok (.aload_n 0, 1) := by decide +kernel
theorem dX5_sum_61 : decode cX5_sum 61 = .ok (.getfield 43, 3) := by decide +kernel
theorem dX5_sum_64 : decode cX5_sum 64 = .ok (.iload 8, 2) := by decide +kernel
theorem dX5_sum_66 : decode cX5_sum 66 = .ok (.iaload, 1) := by decide +kernel
theorem dX5_sum_67 : decode cX5_sum 67 = .ok (.i2l, 1) := by decide +kernel
theorem dX5_sum_68 : decode cX5_sum 68 = .ok (.lconst 0, 1) := by decide +kernel
theorem dX5_sum_69 : decode cX5_sum 69 = .ok (.ldc2_w 117, 3) := by decide +kernel
theorem dX5_sum_72 : decode cX5_sum 72 = .ok (.invokestatic 76, 3) := by decide +kernel
theorem dX5_sum_75 : decode cX5_sum 75 = .ok (.ifCond .eq 7, 3) := by decide +kernel
theorem dX5_sum_78 : decode cX5_sum 78 = .ok (.iconst 1, 1) := by decide +kernel
theorem dX5_sum_79 : decode cX5_sum 79 = .ok (.goto 4, 3) := by decide +kernel
theorem dX5_sum_82 : decode cX5_sum 82 = .ok (.iconst 0, 1) := by decide +kernel
theorem dX5_sum_83 : decode cX5_sum 83 = .ok (.istore 7, 2) := by decide +kernel
theorem dX5_sum_85 : decode cX5_sum 85 = .ok (.lload_n 3, 1) := by decide +kernel
theorem dX5_sum_86 : decode cX5_sum 86 = .ok (.aload_n 0, 1) := by decide +kernel
theorem dX5_sum_87 : decode cX5_sum 87 = .ok (.getfield 43, 3) := by decide +kernel
theorem dX5_sum_90 : decode cX5_sum 90 = .ok (.iload 8, 2) := by decide +kernel
theorem dX5_sum_92 : decode cX5_sum 92 = .ok (.iaload, 1) := by decide +kernel
theorem dX5_sum_93 : decode cX5_sum 93 = .ok (.i2l, 1) := by decide +kernel
theorem dX5_sum_94 : decode cX5_sum 94 = .ok (.ladd, 1) := by decide +kernel
theorem dX5_sum_95 : decode cX5_sum 95 = .ok (.lstore_n 3, 1) := by decide +kernel
theorem dX5_sum_96 : decode cX5_sum 96 = .ok (.lload 5, 2) := by decide +kernel
theorem dX5_sum_98 : decode cX5_sum 98 = .ok (.aload_n 0, 1) := by decide +kernel
theorem dX5_sum_99 : decode cX5_sum 99 = .ok (.getfield 43, 3) := by decide +kernel
theorem dX5_sum_102 : decode cX5_sum 102 = .ok (.iload 8, 2) := by decide +kernel
theorem dX5_sum_104 : decode cX5_sum 104 = .ok (.iaload, 1) := by decide +kernel
theorem dX5_sum_105 : decode cX5_sum 105 = .ok (.i2l, 1) := by decide +kernel
theorem dX5_sum_106 : decode cX5_sum 106 = .ok (.lconst 1, 1) := by decide +kernel
theorem dX5_sum_107 : decode cX5_sum 107 = .ok (.ladd, 1) := by decide +kernel
theorem dX5_sum_108 : decode cX5_sum 108 = .ok (.lmul, 1) := by decide +kernel
theorem dX5_sum_109 : decode cX5_sum 109 = .ok (.lstore 5, 2) := by decide +kernel
theorem dX5_sum_111 : decode cX5_sum 111 = .ok (.iinc 8 1, 3) := by decide +kernel
theorem dX5_sum_114 : decode cX5_sum 114 = .ok (.goto (-70), 3) := by decide +kernel
theorem dX5_sum_117 : decode cX5_sum 117 = .ok (.iload 7, 2) := by decide +kernel
theorem dX5_sum_119 : decode cX5_sum 119 = .ok (.ifCond .eq 11, 3) := by decide +kernel
theorem dX5_sum_122 : decode cX5_sum 122 = .ok (.lload_n 3, 1) := by decide +kernel
theorem dX5_sum_123 : decode cX5_sum 123 = .ok (.ldc2_w 117, 3) := by decide +kernel
theorem dX5_sum_126 : decode cX5_sum 126 = .ok (.lcmp, 1) := by decide +kernel
theorem dX5_sum_127 : decode cX5_sum 127 = .ok (.ifCond .le 10, 3) := by decide +kernel
theorem dX5_sum_130 : decode cX5_sum 130 = .ok (.aload_n 0, 1) := by decide +kernel
theorem dX5_sum_131 : decode cX5_sum 131 = .ok (.bipush (-3), 2) := by decide +kernel
theorem dX5_sum_133 : decode cX5_sum 133 = .ok (.invokevirtual 143, 3) := by decide +kernel
theorem dX5_sum_136 : decode cX5_sum 136 = .ok (.lreturn, 1) := by decide +kernel
theorem dX5_sum_137 : decode cX5_sum 137 = .ok (.lconst 0, 1) := by decide +kernel
theorem dX5_sum_138 : decode cX5_sum 138 = .ok (.lstore 8, 2) := by decide +kernel
theorem dX5_sum_140 : decode cX5_sum 140 = .ok (.iconst 0, 1) := by decide +kernel
theorem dX5_sum_141 : decode cX5_sum 141 = .ok (.istore 10, 2) := by decide +kernel
theorem dX5_sum_143 : decode cX5_sum 143 = .ok (.iload 10, 2) := by decide +kernel
theorem dX5_sum_145 : decode cX5_sum 145 = .ok (.aload_n 0, 1) := by decide +kernel
theorem dX5_sum_146 : decode cX5_sum 146 = .ok (.getfield 19, 3) := by decide +kernel
theorem dX5_sum_149 : decode cX5_sum 149 = .ok (.iload_n 1, 1) := by decide +kernel
theorem dX5_sum_150 : decode cX5_sum 150 = .ok (.iaload, 1) := by decide +kernel
theorem dX5_sum_151 : decode cX5_sum 151 = .ok (.if_icmp .ge 64, 3) := by decide +kernel
theorem dX5_sum_154 : decode cX5_sum 154 = .ok (.lconst 1, 1) := by decide +kernel
theorem dX5_sum_155 : decode cX5_sum 155 = .ok (.lstore 11, 2) := by decide +kernel
theorem dX5_sum_157 : decode cX5_sum 157 = .ok (.iconst 0, 1) := by decide +kernel
theorem dX5_sum_158 : decode cX5_sum 158 = .ok (.istore 13, 2) := by decide +kernel
theorem dX5_sum_160 : decode cX5_sum 160 = .ok (.iload 13, 2) := by decide +kernel
theorem dX5_sum_162 : decode cX5_sum 162 = .ok (.aload_n 0, 1) := by decide +kernel
theorem dX5_sum_163 : decode cX5_sum 163 = .ok (.getfield 13, 3) := by decide +kernel
theorem dX5_sum_166 : decode cX5_sum 166 = .ok (.iload_n 1, 1) := by decide +kernel
theorem dX5_sum_167 : decode cX5_sum 167 = .ok (.iaload, 1) := by decide +kernel
theorem dX5_sum_168 : decode cX5_sum 168 = .ok (.if_icmp .ge 34, 3) := by decide +kernel
theorem dX5_sum_171 : decode cX5_sum 171 = .ok (.lload 11, 2) := by decide +kernel
theorem dX5_sum_173 : decode cX5_sum 173 = .ok (.aload_n 0, 1) := by decide +kernel
theorem dX5_sum_174 : decode cX5_sum 174 = .ok (.iload_n 1, 1) := by decide +kernel
theorem dX5_sum_175 : decode cX5_sum 175 = .ok (.iload 10, 2) := by decide +kernel
theorem dX5_sum_177 : decode cX5_sum 177 = .ok (.iload 13, 2) := by decide +kernel
theorem dX5_sum_179 : decode cX5_sum 179 = .ok (.invokevirtual 109, 3) := by decide +kernel
theorem dX5_sum_182 : decode cX5_sum 182 = .ok (.i2l, 1) := by decide +kernel
theorem dX5_sum_183 : decode cX5_sum 183 = .ok (.aload_n 0, 1) := by decide +kernel
theorem dX5_sum_184 : decode cX5_sum 184 = .ok (.getfield 43, 3) := by decide +kernel
theorem dX5_sum_187 : decode cX5_sum 187 = .ok (.iload 13, 2) := by decide +kernel
theorem dX5_sum_189 : decode cX5_sum 189 = .ok (.iaload, 1) := by decide +kernel
theorem dX5_sum_190 : decode cX5_sum 190 = .ok (.invokestatic 140, 3) := by decide +kernel
theorem dX5_sum_193 : decode cX5_sum 193 = .ok (.lmul, 1) := by decide +kernel
theorem dX5_sum_194 : decode cX5_sum 194 = .ok (.lstore 11, 2) := by decide +kernel
theorem dX5_sum_196 : decode cX5_sum 196 = .ok (.iinc 13 1, 3) := by decide +kernel
theorem dX5_sum_199 : decode cX5_sum 199 = .ok (.goto (-39), 3) := by decide +kernel
theorem dX5_sum_202 : decode cX5_sum 202 = .ok (.lload 8, 2) := by decide +kernel
theorem dX5_sum_204 : decode cX5_sum 204 = .ok (.lload 11, 2) := by decide +kernel
theorem dX5_sum_206 : decode cX5_sum 206 = .ok (.ladd, 1) := by decide +kernel
theorem dX5_sum_207 : decode cX5_sum 207 = .ok (.lstore 8, 2) := by decide +kernel
theorem dX5_sum_209 : decode cX5_sum 209 = .ok (.iinc 10 1, 3) := by decide +kernel
theorem dX5_sum_212 : decode cX5_sum 212 = .ok (.goto (-69), 3) := by decide +kernel
theorem dX5_sum_215 : decode cX5_sum 215 = .ok (.iload_n 2, 1) := by decide +kernel
theorem dX5_sum_216 : decode cX5_sum 216 = .ok (.ifCond .ne 6, 3) := by decide +kernel
theorem dX5_sum_219 : decode cX5_sum 219 = .ok (.lload 8, 2) := by decide +kernel
theorem dX5_sum_221 : decode cX5_sum 221 = .ok (.lreturn, 1) := by decide +kernel
theorem dX5_sum_222 : decode cX5_sum 222 = .ok (.aload_n 0, 1) := by decide +kernel
theorem dX5_sum_223 : decode cX5_sum 223 = .ok (.getfield 19, 3) := by decide +kernel
theorem dX5_sum_226 : decode cX5_sum 226 = .ok (.iload_n 1, 1) := by decide +kernel
theorem dX5_sum_227 : decode cX5_sum 227 = .ok (.iaload, 1) := by decide +kernel
theorem dX5_sum_228 : decode cX5_sum 228 = .ok (.i2l, 1) := by decide +kernel
theorem dX5_sum_229 : decode cX5_sum 229 = .ok (.lload_n 3, 1) := by decide +kernel
theorem dX5_sum_230 : decode cX5_sum 230 = .ok (.l2i, 1) := by decide +kernel
theorem dX5_sum_231 : decode cX5_sum 231 = .ok (.iconst 1, 1) := by decide +kernel
theorem dX5_sum_232 : decode cX5_sum 232 = .ok (.iadd, 1) := by decide +kernel
theorem dX5_sum_233 : decode cX5_sum 233 = .ok (.invokestatic 140, 3) := by decide +kernel
theorem dX5_sum_236 : decode cX5_sum 236 = .ok (.lstore 10, 2) := by decide +kernel
theorem dX5_sum_238 : decode cX5_sum 238 = .ok (.lload 8, 2) := by decide +kernel
theorem dX5_sum_240 : decode cX5_sum 240 = .ok (.lload 5, 2) := by decide +kernel
theorem dX5_sum_242 : decode cX5_sum 242 = .ok (.lmul, 1) := by decide +kernel
theorem dX5_sum_243 : decode cX5_sum 243 = .ok (.lload 10, 2) := by decide +kernel
theorem dX5_sum_245 : decode cX5_sum 245 = .ok (.lsub, 1) := by decide +kernel
theorem dX5_sum_246 : decode cX5_sum 246 = .ok (.lload 10, 2) := by decide +kernel
theorem dX5_sum_248 : decode cX5_sum 248 = .ok (.lload 5, 2) := by decide +kernel
theorem dX5_sum_250 : decode cX5_sum 250 = .ok (.lmul, 1) := by decide +kernel
theorem dX5_sum_251 : decode cX5_sum 251 = .ok (.iload_n 2, 1) := by decide +kernel
theorem dX5_sum_252 : decode cX5_sum 252 = .ok (.iconst 1, 1) := by decide +kernel
theorem dX5_sum_253 : decode cX5_sum 253 = .ok (.if_icmp .ne 7, 3) := by decide +kernel
theorem dX5_sum_256 : decode cX5_sum 256 = .ok (.iconst 1, 1) := by decide +kernel
theorem dX5_sum_257 : decode cX5_sum 257 = .ok (.goto 4, 3) := by decide +kernel
theorem dX5_sum_260 : decode cX5_sum 260 = .ok (.iconst 0, 1) := by decide +kernel
theorem dX5_sum_261 : decode cX5_sum 261 = .ok (.invokestatic 151, 3) := by decide +kernel
theorem dX5_sum_264 : decode cX5_sum 264 = .ok (.lreturn, 1) := by decide +kernel
theorem dX5_status_0 : decode cX5_status 0 = .ok (.iload_n 1, 1) := by decide +kernel
theorem dX5_status_1 : decode cX5_status 1 = .ok (.ifCond .ne 10, 3) := by decide +kernel
theorem dX5_status_4 : decode cX5_status 4 = .ok (.aload_n 0, 1) := by decide +kernel
theorem dX5_status_5 : decode cX5_status 5 = .ok (.getfield 72, 3) := by decide +kernel
theorem dX5_status_8 : decode cX5_status 8 = .ok (.goto 43, 3) := by decide +kernel
theorem dX5_status_11 : decode cX5_status 11 = .ok (.iload_n 1, 1) := by decide +kernel
theorem dX5_status_12 : decode cX5_status 12 = .ok (.iconst 1, 1) := by decide +kernel
theorem dX5_status_13 : decode cX5_status 13 = .ok (.if_icmp .ne 10, 3) := by decide +kernel
theorem dX5_status_16 : decode cX5_status 16 = .ok (.aload_n 0, 1) := by decide +kernel
theorem dX5_status_17 : decode cX5_status 17 = .ok (.getfield 114, 3) := by decide +kernel
theorem dX5_status_20 : decode cX5_status 20 = .ok (.goto 31, 3) := by decide +kernel
theorem dX5_status_23 : decode cX5_status 23 = .ok (.iload_n 1, 1) := by decide +kernel
theorem dX5_status_24 : decode cX5_status 24 = .ok (.i2l, 1) := by decide +kernel
theorem dX5_status_25 : decode cX5_status 25 = .ok (.ldc2_w 169, 3) := by decide +kernel
theorem dX5_status_28 : decode cX5_status 28 = .ok (.ldc2_w 171, 3) := by decide +kernel
theorem dX5_status_31 : decode cX5_status 31 = .ok (.invokestatic 76, 3) := by decide +kernel
theorem dX5_status_34 : decode cX5_status 34 = .ok (.ifCond .eq 15, 3) := by decide +kernel
theorem dX5_status_37 : decode cX5_status 37 = .ok (.aload_n 0, 1) := by decide +kernel
theorem dX5_status_38 : decode cX5_status 38 = .ok (.getfield 46, 3) := by decide +kernel
theorem dX5_status_41 : decode cX5_status 41 = .ok (.iload_n 1, 1) := by decide +kernel
theorem dX5_status_42 : decode cX5_status 42 = .ok (.bipush 10, 2) := by decide +kernel
theorem dX5_status_44 : decode cX5_status 44 = .ok (.isub, 1) := by decide +kernel
theorem dX5_status_45 : decode cX5_status 45 = .ok (.iaload, 1) := by decide +kernel
theorem dX5_status_46 : decode cX5_status 46 = .ok (.goto 5, 3) := by decide +kernel
theorem dX5_status_49 : decode cX5_status 49 = .ok (.bipush (-9), 2) := by decide +kernel
theorem dX5_status_51 : decode cX5_status 51 = .ok (.ireturn, 1) := by decide +kernel
theorem dJ6_bitCount_0f7a4_0 : decode cJ6_bitCount_0f7a4 0 = .ok (.iload_n 0, 1) := by decide +kernel
theorem dJ6_bitCount_0f7a4_1 : decode cJ6_bitCount_0f7a4 1 = .ok (.iload_n 0, 1) := by decide +kernel
theorem dJ6_bitCount_0f7a4_2 : decode cJ6_bitCount_0f7a4 2 = .ok (.iconst 1, 1) := by decide +kernel
theorem dJ6_bitCount_0f7a4_3 : decode cJ6_bitCount_0f7a4 3 = .ok (.iushr, 1) := by decide +kernel
theorem dJ6_bitCount_0f7a4_4 : decode cJ6_bitCount_0f7a4 4 = .ok (.ldc_w 265, 3) := by decide +kernel
theorem dJ6_bitCount_0f7a4_7 : decode cJ6_bitCount_0f7a4 7 = .ok (.iand, 1) := by decide +kernel
theorem dJ6_bitCount_0f7a4_8 : decode cJ6_bitCount_0f7a4 8 = .ok (.isub, 1) := by decide +kernel
theorem dJ6_bitCount_0f7a4_9 : decode cJ6_bitCount_0f7a4 9 = .ok (.istore_n 0, 1) := by decide +kernel
theorem dJ6_bitCount_0f7a4_10 : decode cJ6_bitCount_0f7a4 10 = .ok (.iload_n 0, 1) := by decide +kernel
theorem dJ6_bitCount_0f7a4_11 : decode cJ6_bitCount_0f7a4 11 = .ok (.ldc_w 266, 3) := by decide +kernel
theorem dJ6_bitCount_0f7a4_14 : decode cJ6_bitCount_0f7a4 14 = .ok (.iand, 1) := by decide +kernel
theorem dJ6_bitCount_0f7a4_15 : decode cJ6_bitCount_0f7a4 15 = .ok (.iload_n 0, 1) := by decide +kernel
theorem dJ6_bitCount_0f7a4_16 : decode cJ6_bitCount_0f7a4 16 = .ok (.iconst 2, 1) := by decide +kernel
theorem dJ6_bitCount_0f7a4_17 : decode cJ6_bitCount_0f7a4 17 = .ok (.iushr, 1) := by decide +kernel
theorem dJ6_bitCount_0f7a4_18 : decode cJ6_bitCount_0f7a4 18 = .ok (.ldc_w 266, 3) := by decide +kernel
theorem dJ6_bitCount_0f7a4_21 : decode cJ6_bitCount_0f7a4 21 = .ok (.iand, 1) := by decide +kernel
theorem dJ6_bitCount_0f7a4_22 : decode cJ6_bitCount_0f7a4 22 = .ok (.iadd, 1) := by decide +kernel
theorem dJ6_bitCount_0f7a4_23 : decode cJ6_bitCount_0f7a4 23 = .ok (.istore_n 0, 1) := by decide +kernel
theorem dJ6_bitCount_0f7a4_24 : decode cJ6_bitCount_0f7a4 24 = .ok (.iload_n 0, 1) := by decide +kernel
theorem dJ6_bitCount_0f7a4_25 : decode cJ6_bitCount_0f7a4 25 = .ok (.iload_n 0, 1) := by decide +kernel
theorem dJ6_bitCount_0f7a4_26 : decode cJ6_bitCount_0f7a4 26 = .ok (.iconst 4, 1) := by decide +kernel
theorem dJ6_bitCount_0f7a4_27 : decode cJ6_bitCount_0f7a4 27 = .ok (.iushr, 1) := by decide +kernel
theorem dJ6_bitCount_0f7a4_28 : decode cJ6_bitCount_0f7a4 28 = .ok (.iadd, 1) := by decide +kernel
theorem dJ6_bitCount_0f7a4_29 : decode cJ6_bitCount_0f7a4 29 = .ok (.ldc_w 267, 3) := by decide +kernel
theorem dJ6_bitCount_0f7a4_32 : decode cJ6_bitCount_0f7a4 32 = .ok (.iand, 1) := by decide +kernel
theorem dJ6_bitCount_0f7a4_33 : decode cJ6_bitCount_0f7a4 33 = .ok (.istore_n 0, 1) := by decide +kernel
theorem dJ6_bitCount_0f7a4_34 : decode cJ6_bitCount_0f7a4 34 = .ok (.iload_n 0, 1) := by decide +kernel
theorem dJ6_bitCount_0f7a4_35 : decode cJ6_bitCount_0f7a4 35 = .ok (.iload_n 0, 1) := by decide +kernel
theorem dJ6_bitCount_0f7a4_36 : decode cJ6_bitCount_0f7a4 36 = .ok (.bipush 8, 2) := by decide +kernel
theorem dJ6_bitCount_0f7a4_38 : decode cJ6_bitCount_0f7a4 38 = .ok (.iushr, 1) := by decide +kernel
theorem dJ6_bitCount_0f7a4_39 : decode cJ6_bitCount_0f7a4 39 = .ok (.iadd, 1) := by decide +kernel
theorem dJ6_bitCount_0f7a4_40 : decode cJ6_bitCount_0f7a4 40 = .ok (.istore_n 0, 1) := by decide +kernel
theorem dJ6_bitCount_0f7a4_41 : decode cJ6_bitCount_0f7a4 41 = .ok (.iload_n 0, 1) := by decide +kernel
theorem dJ6_bitCount_0f7a4_42 : decode cJ6_bitCount_0f7a4 42 = .ok (.iload_n 0, 1) := by decide +kernel
theorem dJ6_bitCount_0f7a4_43 : decode cJ6_bitCount_0f7a4 43 = .ok (.bipush 16, 2) := by decide +kernel
theorem dJ6_bitCount_0f7a4_45 : decode cJ6_bitCount_0f7a4 45 = .ok (.iushr, 1) := by decide +kernel
theorem dJ6_bitCount_0f7a4_46 : decode cJ6_bitCount_0f7a4 46 = .ok (.iadd, 1) := by decide +kernel
theorem dJ6_bitCount_0f7a4_47 : decode cJ6_bitCount_0f7a4 47 = .ok (.istore_n 0, 1) := by decide +kernel
theorem dJ6_bitCount_0f7a4_48 : decode cJ6_bitCount_0f7a4 48 = .ok (.iload_n 0, 1) := by decide +kernel
theorem dJ6_bitCount_0f7a4_49 : decode cJ6_bitCount_0f7a4 49 = .ok (.bipush 63, 2) := by decide +kernel
theorem dJ6_bitCount_0f7a4_51 : decode cJ6_bitCount_0f7a4 51 = .ok (.iand, 1) := by decide +kernel
theorem dJ6_bitCount_0f7a4_52 : decode cJ6_bitCount_0f7a4 52 = .ok (.ireturn, 1) := by decide +kernel
theorem dJ9_abs_067f4_0 : decode cJ9_abs_067f4 0 = .ok (.lload_n 0, 1) := by decide +kernel
theorem dJ9_abs_067f4_1 : decode cJ9_abs_067f4 1 = .ok (.lconst 0, 1) := by decide +kernel
theorem dJ9_abs_067f4_2 : decode cJ9_abs_067f4 2 = .ok (.lcmp, 1) := by decide +kernel
theorem dJ9_abs_067f4_3 : decode cJ9_abs_067f4 3 = .ok (.ifCond .ge 8, 3) := by decide +kernel
theorem dJ9_abs_067f4_6 : decode cJ9_abs_067f4 6 = .ok (.lload_n 0, 1) := by decide +kernel
theorem dJ9_abs_067f4_7 : decode cJ9_abs_067f4 7 = .ok (.lneg, 1) := by decide +kernel
theorem dJ9_abs_067f4_8 : decode cJ9_abs_067f4 8 = .ok (.goto 4, 3) := by decide +kernel
theorem dJ9_abs_067f4_11 : decode cJ9_abs_067f4 11 = .ok (.lload_n 0, 1) := by decide +kernel
theorem dJ9_abs_067f4_12 : decode cJ9_abs_067f4 12 = .ok (.lreturn, 1) := by decide +kernel
theorem dJ9_max_7cf53_0 : decode cJ9_max_7cf53 0 = .ok (.iload_n 0, 1) := by decide +kernel
theorem dJ9_max_7cf53_1 : decode cJ9_max_7cf53 1 = .ok (.iload_n 1, 1) := by decide +kernel
theorem dJ9_max_7cf53_2 : decode cJ9_max_7cf53 2 = .ok (.if_icmp .lt 7, 3) := by decide +kernel
theorem dJ9_max_7cf53_5 : decode cJ9_max_7cf53 5 = .ok (.iload_n 0, 1) := by decide +kernel
theorem dJ9_max_7cf53_6 : decode cJ9_max_7cf53 6 = .ok (.goto 4, 3) := by decide +kernel
theorem dJ9_max_7cf53_9 : decode cJ9_max_7cf53 9 = .ok (.iload_n 1, 1) := by decide +kernel
theorem dJ9_max_7cf53_10 : decode cJ9_max_7cf53 10 = .ok (.ireturn, 1) := by decide +kernel
theorem dJ9_min_7cf53_0 : decode cJ9_min_7cf53 0 = .ok (.iload_n 0, 1) := by decide +kernel
theorem dJ9_min_7cf53_1 : decode cJ9_min_7cf53 1 = .ok (.iload_n 1, 1) := by decide +kernel
theorem dJ9_min_7cf53_2 : decode cJ9_min_7cf53 2 = .ok (.if_icmp .gt 7, 3) := by decide +kernel
theorem dJ9_min_7cf53_5 : decode cJ9_min_7cf53 5 = .ok (.iload_n 0, 1) := by decide +kernel
theorem dJ9_min_7cf53_6 : decode cJ9_min_7cf53 6 = .ok (.goto 4, 3) := by decide +kernel
theorem dJ9_min_7cf53_9 : decode cJ9_min_7cf53 9 = .ok (.iload_n 1, 1) := by decide +kernel
theorem dJ9_min_7cf53_10 : decode cJ9_min_7cf53 10 = .ok (.ireturn, 1) := by decide +kernel
theorem dJ7_rangeCheck_23922_0 : decode cJ7_rangeCheck_23922 0 = .ok (.iload_n 1, 1) := by decide +kernel
theorem dJ7_rangeCheck_23922_1 : decode cJ7_rangeCheck_23922 1 = .ok (.iload_n 2, 1) := by decide +kernel
theorem dJ7_rangeCheck_23922_2 : decode cJ7_rangeCheck_23922 2 = .ok (.if_icmp .le 44, 3) := by decide +kernel
theorem dJ7_rangeCheck_23922_5 : decode cJ7_rangeCheck_23922 5 = .ok (.new 43, 3) := by decide +kernel
theorem dJ7_rangeCheck_23922_8 : decode cJ7_rangeCheck_23922 8 = .ok (.dup, 1) := by decide +kernel
theorem dJ7_rangeCheck_23922_9 : decode cJ7_rangeCheck_23922 9 = .ok (.new 45, 3) := by decide +kernel
theorem dJ7_rangeCheck_23922_12 : decode cJ7_rangeCheck_23922 12 = .ok (.dup, 1) := by decide +kernel
theorem dJ7_rangeCheck_23922_13 : decode cJ7_rangeCheck_23922 13 = .ok (.invokespecial 47, 3) := by decide +kernel
theorem dJ7_rangeCheck_23922_16 : decode cJ7_rangeCheck_23922 16 = .ok (.ldc 48, 2) := by decide +kernel
theorem dJ7_rangeCheck_23922_18 : decode cJ7_rangeCheck_23922 18 = .ok (.invokevirtual 50, 3) := by decide +kernel
theorem dJ7_rangeCheck_23922_21 : decode cJ7_rangeCheck_23922 21 = .ok (.iload_n 1, 1) := by decide +kernel
theorem dJ7_rangeCheck_23922_22 : decode cJ7_rangeCheck_23922 22 = .ok (.invokevirtual 54, 3) := by decide +kernel
theorem dJ7_rangeCheck_23922_25 : decode cJ7_rangeCheck_23922 25 = .ok (.ldc 57, 2) := by decide +kernel
theorem dJ7_rangeCheck_23922_27 : decode cJ7_rangeCheck_23922 27 = .ok (.invokevirtual 50, 3) := by decide +kernel
theorem dJ7_rangeCheck_23922_30 : decode cJ7_rangeCheck_23922 30 = .ok (.iload_n 2, 1) := by decide +kernel
theorem dJ7_rangeCheck_23922_31 : decode cJ7_rangeCheck_23922 31 = .ok (.invokevirtual 54, 3) := by decide +kernel
theorem dJ7_rangeCheck_23922_34 : decode cJ7_rangeCheck_23922 34 = .ok (.ldc 59, 2) := by decide +kernel
theorem dJ7_rangeCheck_23922_36 : decode cJ7_rangeCheck_23922 36 = .ok (.invokevirtual 50, 3) := by decide +kernel
theorem dJ7_rangeCheck_23922_39 : decode cJ7_rangeCheck_23922 39 = .ok (.invokevirtual 61, 3) := by decide +kernel
theorem dJ7_rangeCheck_23922_42 : decode cJ7_rangeCheck_23922 42 = .ok (.invokespecial 65, 3) := by decide +kernel
theorem dJ7_rangeCheck_23922_45 : decode cJ7_rangeCheck_23922 45 = .ok (.athrow, 1) := by decide +kernel
theorem dJ7_rangeCheck_23922_46 : decode cJ7_rangeCheck_23922 46 = .ok (.iload_n 1, 1) := by decide +kernel
theorem dJ7_rangeCheck_23922_47 : decode cJ7_rangeCheck_23922 47 = .ok (.ifCond .ge 12, 3) := by decide +kernel
theorem dJ7_rangeCheck_23922_50 : decode cJ7_rangeCheck_23922 50 = .ok (.new 68, 3) := by decide +kernel
theorem dJ7_rangeCheck_23922_53 : decode cJ7_rangeCheck_23922 53 = .ok (.dup, 1) := by decide +kernel
theorem dJ7_rangeCheck_23922_54 : decode cJ7_rangeCheck_23922 54 = .ok (.iload_n 1, 1) := by decide +kernel
theorem dJ7_rangeCheck_23922_55 : decode cJ7_rangeCheck_23922 55 = .ok (.invokespecial 70, 3) := by decide +kernel
theorem dJ7_rangeCheck_23922_58 : decode cJ7_rangeCheck_23922 58 = .ok (.athrow, 1) := by decide +kernel
theorem dJ7_rangeCheck_23922_59 : decode cJ7_rangeCheck_23922 59 = .ok (.iload_n 2, 1) := by decide +kernel
theorem dJ7_rangeCheck_23922_60 : decode cJ7_rangeCheck_23922 60 = .ok (.iload_n 0, 1) := by decide +kernel
theorem dJ7_rangeCheck_23922_61 : decode cJ7_rangeCheck_23922 61 = .ok (.if_icmp .le 12, 3) := by decide +kernel
theorem dJ7_rangeCheck_23922_64 : decode cJ7_rangeCheck_23922 64 = .ok (.new 68, 3) := by decide +kernel
theorem dJ7_rangeCheck_23922_67 : decode cJ7_rangeCheck_23922 67 = .ok (.dup, 1) := by decide +kernel
theorem dJ7_rangeCheck_23922_68 : decode cJ7_rangeCheck_23922 68 = .ok (.iload_n 2, 1) := by decide +kernel
theorem dJ7_rangeCheck_23922_69 : decode cJ7_rangeCheck_23922 69 = .ok (.invokespecial 70, 3) := by decide +kernel
theorem dJ7_rangeCheck_23922_72 : decode cJ7_rangeCheck_23922 72 = .ok (.athrow, 1) := by decide +kernel
theorem dJ7_rangeCheck_23922_73 : decode cJ7_rangeCheck_23922 73 = .ok (.return_, 1) := by decide +kernel
theorem dJ7_fill_53178_0 : decode cJ7_fill_53178 0 = .ok (.iconst 0, 1) := by decide +kernel
theorem dJ7_fill_53178_1 : decode cJ7_fill_53178 1 = .ok (.istore_n 2, 1) := by decide +kernel
theorem dJ7_fill_53178_2 : decode cJ7_fill_53178 2 = .ok (.aload_n 0, 1) := by decide +kernel
theorem dJ7_fill_53178_3 : decode cJ7_fill_53178 3 = .ok (.arraylength, 1) := by decide +kernel
theorem dJ7_fill_53178_4 : decode cJ7_fill_53178 4 = .ok (.istore_n 3, 1) := by decide +kernel
theorem dJ7_fill_53178_5 : decode cJ7_fill_53178 5 = .ok (.iload_n 2, 1) := by decide +kernel
theorem dJ7_fill_53178_6 : decode cJ7_fill_53178 6 = .ok (.iload_n 3, 1) := by decide +kernel
theorem dJ7_fill_53178_7 : decode cJ7_fill_53178 7 = .ok (.if_icmp .ge 13, 3) := by decide +kernel
theorem dJ7_fill_53178_10 : decode cJ7_fill_53178 10 = .ok (.aload_n 0, 1) := by decide +kernel
theorem dJ7_fill_53178_11 : decode cJ7_fill_53178 11 = .ok (.iload_n 2, 1) := by decide +kernel
theorem dJ7_fill_53178_12 : decode cJ7_fill_53178 12 = .ok (.iload_n 1, 1) := by decide +kernel
theorem dJ7_fill_53178_13 : decode cJ7_fill_53178 13 = .ok (.iastore, 1) := by decide +kernel
theorem dJ7_fill_53178_14 : decode cJ7_fill_53178 14 = .ok (.iinc 2 1, 3) := by decide +kernel
theorem dJ7_fill_53178_17 : decode cJ7_fill_53178 17 = .ok (.goto (-12), 3) := by decide +kernel
theorem dJ7_fill_53178_20 : decode cJ7_fill_53178 20 = .ok (.return_, 1) := by decide +kernel
theorem dJ7_fill_fda19_0 : decode cJ7_fill_fda19 0 = .ok (.aload_n 0, 1) := by decide +kernel
theorem dJ7_fill_fda19_1 : decode cJ7_fill_fda19 1 = .ok (.arraylength, 1) := by decide +kernel
theorem dJ7_fill_fda19_2 : decode cJ7_fill_fda19 2 = .ok (.iload_n 1, 1) := by decide +kernel
theorem dJ7_fill_fda19_3 : decode cJ7_fill_fda19 3 = .ok (.iload_n 2, 1) := by decide +kernel
theorem dJ7_fill_fda19_4 : decode cJ7_fill_fda19 4 = .ok (.invokestatic 13, 3) := by decide +kernel
theorem dJ7_fill_fda19_7 : decode cJ7_fill_fda19 7 = .ok (.iload_n 1, 1) := by decide +kernel
theorem dJ7_fill_fda19_8 : decode cJ7_fill_fda19 8 = .ok (.istore 4, 2) := by decide +kernel
theorem dJ7_fill_fda19_10 : decode cJ7_fill_fda19 10 = .ok (.iload 4, 2) := by decide +kernel
theorem dJ7_fill_fda19_12 : decode cJ7_fill_fda19 12 = .ok (.iload_n 2, 1) := by decide +kernel
theorem dJ7_fill_fda19_13 : decode cJ7_fill_fda19 13 = .ok (.if_icmp .ge 14, 3) := by decide +kernel
theorem dJ7_fill_fda19_16 : decode cJ7_fill_fda19 16 = .ok (.aload_n 0, 1) := by decide +kernel
theorem dJ7_fill_fda19_17 : decode cJ7_fill_fda19 17 = .ok (.iload 4, 2) := by decide +kernel
theorem dJ7_fill_fda19_19 : decode cJ7_fill_fda19 19 = .ok (.iload_n 3, 1) := by decide +kernel
theorem dJ7_fill_fda19_20 : decode cJ7_fill_fda19 20 = .ok (.iastore, 1) := by decide +kernel
theorem dJ7_fill_fda19_21 : decode cJ7_fill_fda19 21 = .ok (.iinc 4 1, 3) := by decide +kernel
theorem dJ7_fill_fda19_24 : decode cJ7_fill_fda19 24 = .ok (.goto (-14), 3) := by decide +kernel
theorem dJ7_fill_fda19_27 : decode cJ7_fill_fda19 27 = .ok (.return_, 1) := by decide +kernel
theorem dL_law_0 : decode cL_law 0 = .ok (.new 7, 3) := by decide +kernel
theorem dL_law_3 : decode cL_law 3 = .ok (.dup, 1) := by decide +kernel
theorem dL_law_4 : decode cL_law 4 = .ok (.invokespecial 9, 3) := by decide +kernel
theorem dL_law_7 : decode cL_law 7 = .ok (.astore_n 1, 1) := by decide +kernel
theorem dL_law_8 : decode cL_law 8 = .ok (.new 10, 3) := by decide +kernel
theorem dL_law_11 : decode cL_law 11 = .ok (.dup, 1) := by decide +kernel
theorem dL_law_12 : decode cL_law 12 = .ok (.invokespecial 12, 3) := by decide +kernel
theorem dL_law_15 : decode cL_law 15 = .ok (.astore_n 2, 1) := by decide +kernel
theorem dL_law_16 : decode cL_law 16 = .ok (.iconst 0, 1) := by decide +kernel
theorem dL_law_17 : decode cL_law 17 = .ok (.istore_n 3, 1) := by decide +kernel
theorem dL_law_18 : decode cL_law 18 = .ok (.iload_n 3, 1) := by decide +kernel
theorem dL_law_19 : decode cL_law 19 = .ok (.aload_n 0, 1) := by decide +kernel
theorem dL_law_20 : decode cL_law 20 = .ok (.arraylength, 1) := by decide +kernel
theorem dL_law_21 : decode cL_law 21 = .ok (.iconst 5, 1) := by decide +kernel
theorem dL_law_22 : decode cL_law 22 = .ok (.isub, 1) := by decide +kernel
theorem dL_law_23 : decode cL_law 23 = .ok (.if_icmp .gt 1159, 3) := by decide +kernel
theorem dL_law_26 : decode cL_law 26 = .ok (.aload_n 0, 1) := by decide +kernel
theorem dL_law_27 : decode cL_law 27 = .ok (.iload_n 3, 1) := by decide +kernel
theorem dL_law_28 : decode cL_law 28 = .ok (.iaload, 1) := by decide +kernel
theorem dL_law_29 : decode cL_law 29 = .ok (.bipush 31, 2) := by decide +kernel
theorem dL_law_31 : decode cL_law 31 = .ok (.iand, 1) := by decide +kernel
theorem dL_law_32 : decode cL_law 32 = .ok (.tableswitch 1144 0 27 #[128, 161, 214, 237, 310, 333, 376, 409, 452, 525, 558, 601, 624, 657, 700, 733, 756, 779, 802, 825, 848, 891, 951, 985, 1019, 1043, 1087, 1121], 128) := by decide +kernel
theorem dL_law_160 : decode cL_law 160 = .ok (.aload_n 1, 1) := by decide +kernel
theorem dL_law_161 : decode cL_law 161 = .ok (.aload_n 0, 1) := by decide +kernel
theorem dL_law_162 : decode cL_law 162 = .ok (.iload_n 3, 1) := by decide +kernel
theorem dL_law_163 : decode cL_law 163 = .ok (.iconst 1, 1) := by decide +kernel
theorem dL_law_164 : decode cL_law 164 = .ok (.iadd, 1) := by decide +kernel
theorem dL_law_165 : decode cL_law 165 = .ok (.iaload, 1) := by decide +kernel
theorem dL_law_166 : decode cL_law 166 = .ok (.aload_n 0, 1) := by decide +kernel
theorem dL_law_167 : decode cL_law 167 = .ok (.iload_n 3, 1) := by decide +kernel
theorem dL_law_168 : decode cL_law 168 = .ok (.iconst 2, 1) := by decide +kernel
theorem dL_law_169 : decode cL_law 169 = .ok (.iadd, 1) := by decide +kernel
theorem dL_law_170 : decode cL_law 170 = .ok (.iaload, 1) := by decide +kernel
theorem dL_law_171 : decode cL_law 171 = .ok (.invokevirtual 13, 3) := by decide +kernel
theorem dL_law_174 : decode cL_law 174 = .ok (.aload_n 2, 1) := by decide +kernel
theorem dL_law_175 : decode cL_law 175 = .ok (.aload_n 0, 1) := by decide +kernel
theorem dL_law_176 : decode cL_law 176 = .ok (.iload_n 3, 1) := by decide +kernel
theorem dL_law_177 : decode cL_law 177 = .ok (.iconst 1, 1) := by decide +kernel
theorem dL_law_178 : decode cL_law 178 = .ok (.iadd, 1) := by decide +kernel
theorem dL_law_179 : decode cL_law 179 = .ok (.iaload, 1) := by decide +kernel
theorem dL_law_180 : decode cL_law 180 = .ok (.aload_n 0, 1) := by decide +kernel
theorem dL_law_181 : decode cL_law 181 = .ok (.iload_n 3, 1) := by decide +kernel
theorem dL_law_182 : decode cL_law 182 = .ok (.iconst 2, 1) := by decide +kernel
theorem dL_law_183 : decode cL_law 183 = .ok (.iadd, 1) := by decide +kernel
theorem dL_law_184 : decode cL_law 184 = .ok (.iaload, 1) := by decide +kernel
theorem dL_law_185 : decode cL_law 185 = .ok (.invokevirtual 17, 3) := by decide +kernel
theorem dL_law_188 : decode cL_law 188 = .ok (.if_icmp .eq 988, 3) := by decide +kernel
theorem dL_law_191 : decode cL_law 191 = .ok (.iconst 0, 1) := by decide +kernel
theorem dL_law_192 : decode cL_law 192 = .ok (.ireturn, 1) := by decide +kernel
theorem dL_law_193 : decode cL_law 193 = .ok (.aload_n 1, 1) := by decide +kernel
theorem dL_law_194 : decode cL_law 194 = .ok (.aload_n 0, 1) := by decide +kernel
theorem dL_law_195 : decode cL_law 195 = .ok (.iload_n 3, 1) := by decide +kernel
theorem dL_law_196 : decode cL_law 196 = .ok (.iconst 1, 1) := by decide +kernel
theorem dL_law_197 : decode cL_law 197 = .ok (.iadd, 1) := by decide +kernel
theorem dL_law_198 : decode cL_law 198 = .ok (.iaload, 1) := by decide +kernel
theorem dL_law_199 : decode cL_law 199 = .ok (.aload_n 0, 1) := by decide +kernel
theorem dL_law_200 : decode cL_law 200 = .ok (.iload_n 3, 1) := by decide +kernel
theorem dL_law_201 : decode cL_law 201 = .ok (.iconst 2, 1) := by decide +kernel
theorem dL_law_202 : decode cL_law 202 = .ok (.iadd, 1) := by decide +kernel
theorem dL_law_203 : decode cL_law 203 = .ok (.iaload, 1) := by decide +kernel
theorem dL_law_204 : decode cL_law 204 = .ok (.aload_n 0, 1) := by decide +kernel
theorem dL_law_205 : decode cL_law 205 = .ok (.iload_n 3, 1) := by decide +kernel
theorem dL_law_206 : decode cL_law 206 = .ok (.iconst 3, 1) := by decide +kernel
theorem dL_law_207 : decode cL_law 207 = .ok (.iadd, 1) := by decide +kernel
theorem dL_law_208 : decode cL_law 208 = .ok (.iaload, 1) := by decide +kernel
theorem dL_law_209 : decode cL_law 209 = .ok (.aload_n 0, 1) := by decide +kernel
theorem dL_law_210 : decode cL_law 210 = .ok (.iload_n 3, 1) := by decide +kernel
theorem dL_law_211 : decode cL_law 211 = .ok (.iconst 4, 1) := by decide +kernel
theorem dL_law_212 : decode cL_law 212 = .ok (.iadd, 1) := by decide +kernel
theorem dL_law_213 : decode cL_law 213 = .ok (.iaload, 1) := by decide +kernel
theorem dL_law_214 : decode cL_law 214 = .ok (.invokevirtual 18, 3) := by decide +kernel
theorem dL_law_217 : decode cL_law 217 = .ok (.aload_n 2, 1) := by decide +kernel
theorem dL_law_218 : decode cL_law 218 = .ok (.aload_n 0, 1) := by decide +kernel
theorem dL_law_219 : decode cL_law 219 = .ok (.iload_n 3, 1) := by decide +kernel
theorem dL_law_220 : decode cL_law 220 = .ok (.iconst 1, 1) := by decide +kernel
theorem dL_law_221 : decode cL_law 221 = .ok (.iadd, 1) := by decide +kernel
theorem dL_law_222 : decode cL_law 222 = .ok (.iaload, 1) := by decide +kernel
theorem dL_law_223 : decode cL_law 223 = .ok (.aload_n 0, 1) := by decide +kernel
theorem dL_law_224 : decode cL_law 224 = .ok (.iload_n 3, 1) := by decide +kernel
theorem dL_law_225 : decode cL_law 225 = .ok (.iconst 2, 1) := by decide +kernel
theorem dL_law_226 : decode cL_law 226 = .ok (.iadd, 1) := by decide +kernel
theorem dL_law_227 : decode cL_law 227 = .ok (.iaload, 1) := by decide +kernel
theorem dL_law_228 : decode cL_law 228 = .ok (.aload_n 0, 1) := by decide +kernel
theorem dL_law_229 : decode cL_law 229 = .ok (.iload_n 3, 1) := by decide +kernel
theorem dL_law_230 : decode cL_law 230 = .ok (.iconst 3, 1) := by decide +kernel
theorem dL_law_231 : decode cL_law 231 = .ok (.iadd, 1) := by decide +kernel
theorem dL_law_232 : decode cL_law 232 = .ok (.iaload, 1) := by decide +kernel
theorem dL_law_233 : decode cL_law 233 = .ok (.aload_n 0, 1) := by decide +kernel
theorem dL_law_234 : decode cL_law 234 = .ok (.iload_n 3, 1) := by decide +kernel
theorem dL_law_235 : decode cL_law 235 = .ok (.iconst 4, 1) := by decide +kernel
theorem dL_law_236 : decode cL_law 236 = .ok (.iadd, 1) := by decide +kernel
theorem dL_law_237 : decode cL_law 237 = .ok (.iaload, 1) := by decide +kernel
theorem dL_law_238 : decode cL_law 238 = .ok (.invokevirtual 22, 3) := by decide +kernel
theorem dL_law_241 : decode cL_law 241 = .ok (.if_icmp .eq 935, 3) := by decide +kernel
theorem dL_law_244 : decode cL_law 244 = .ok (.iconst 0, 1) := by decide +kernel
theorem dL_law_245 : decode cL_law 245 = .ok (.ireturn, 1) := by decide +kernel
theorem dL_law_246 : decode cL_law 246 = .ok (.aload_n 1, 1) := by decide +kernel
theorem dL_law_247 : decode cL_law 247 = .ok (.aload_n 0, 1) := by decide +kernel
theorem dL_law_248 : decode cL_law 248 = .ok (.iload_n 3, 1) := by decide +kernel
theorem dL_law_249 : decode cL_law 249 = .ok (.iconst 1, 1) := by decide +kernel
theorem dL_law_250 : decode cL_law 250 = .ok (.iadd, 1) := by decide +kernel
theorem dL_law_251 : decode cL_law 251 = .ok (.iaload, 1) := by decide +kernel
theorem dL_law_252 : decode cL_law 252 = .ok (.invokevirtual 23, 3) := by decide +kernel
theorem dL_law_255 : decode cL_law 255 = .ok (.aload_n 2, 1) := by decide +kernel
theorem dL_law_256 : decode cL_law 256 = .ok (.aload_n 0, 1) := by decide +kernel
theorem dL_law_257 : decode cL_law 257 = .ok (.iload_n 3, 1) := by decide +kernel
theorem dL_law_258 : decode cL_law 258 = .ok (.iconst 1, 1) := by decide +kernel
theorem dL_law_259 : decode cL_law 259 = .ok (.iadd, 1) := by decide +kernel
theorem dL_law_260 : decode cL_law 260 = .ok (.iaload, 1) := by decide +kernel
theorem dL_law_261 : decode cL_law 261 = .ok (.invokevirtual 27, 3) := by decide +kernel
theorem dL_law_264 : decode cL_law 264 = .ok (.if_icmp .eq 912, 3) := by decide +kernel
theorem dL_law_267 : decode cL_law 267 = .ok (.iconst 0, 1) := by decide +kernel
theorem dL_law_268 : decode cL_law 268 = .ok (.ireturn, 1) := by decide +kernel
theorem dL_law_269 : decode cL_law 269 = .ok (.aload_n 1, 1) := by decide +kernel
theorem dL_law_270 : decode cL_law 270 = .ok (.aload_n 0, 1) := by decide +kernel
theorem dL_law_271 : decode cL_law 271 = .ok (.iload_n 3, 1) := by decide +kernel
theorem dL_law_272 : decode cL_law 272 = .ok (.iconst 1, 1) := by decide +kernel
theorem dL_law_273 : decode cL_law 273 = .ok (.iadd, 1) := by decide +kernel
theorem dL_law_274 : decode cL_law 274 = .ok (.iaload, 1) := by decide +kernel
theorem dL_law_275 : decode cL_law 275 = .ok (.aload_n 0, 1) := by decide +kernel
theorem dL_law_276 : decode cL_law 276 = .ok (.iload_n 3, 1) := by decide +kernel
theorem dL_law_277 : decode cL_law 277 = .ok (.iconst 2, 1) := by decide +kernel
theorem dL_law_278 : decode cL_law 278 = .ok (.iadd, 1) := by decide +kernel
theorem dL_law_279 : decode cL_law 279 = .ok (.iaload, 1) := by decide +kernel
theorem dL_law_280 : decode cL_law 280 = .ok (.aload_n 0, 1) := by decide +kernel
theorem dL_law_281 : decode cL_law 281 = .ok (.iload_n 3, 1) := by decide +kernel
theorem dL_law_282 : decode cL_law 282 = .ok (.iconst 3, 1) := by decide +kernel
theorem dL_law_283 : decode cL_law 283 = .ok (.iadd, 1) := by decide +kernel
theorem dL_law_284 : decode cL_law 284 = .ok (.iaload, 1) := by decide +kernel
theorem dL_law_285 : decode cL_law 285 = .ok (.i2l, 1) := by decide +kernel
theorem dL_law_286 : decode cL_law 286 = .ok (.bipush 32, 2) := by decide +kernel
theorem dL_law_288 : decode cL_law 288 = .ok (.lshl, 1) := by decide +kernel
theorem dL_law_289 : decode cL_law 289 = .ok (.aload_n 0, 1) := by decide +kernel
theorem dL_law_290 : decode cL_law 290 = .ok (.iload_n 3, 1) := by decide +kernel
theorem dL_law_291 : decode cL_law 291 = .ok (.iconst 4, 1) := by decide +kernel
theorem dL_law_292 : decode cL_law 292 = .ok (.iadd, 1) := by decide +kernel
theorem dL_law_293 : decode cL_law 293 = .ok (.iaload, 1) := by decide +kernel
theorem dL_law_294 : decode cL_law 294 = .ok (.i2l, 1) := by decide +kernel
theorem dL_law_295 : decode cL_law 295 = .ok (.ldc2_w 28, 3) := by decide +kernel
theorem dL_law_298 : decode cL_law 298 = .ok (.land, 1) := by decide +kernel
theorem dL_law_299 : decode cL_law 299 = .ok (.lor, 1) := by decide +kernel
theorem dL_law_300 : decode cL_law 300 = .ok (.invokevirtual 30, 3) := by decide +kernel
theorem dL_law_303 : decode cL_law 303 = .ok (.aload_n 2, 1) := by decide +kernel
theorem dL_law_304 : decode cL_law 304 = .ok (.aload_n 0, 1) := by decide +kernel
theorem dL_law_305 : decode cL_law 305 = .ok (.iload_n 3, 1) := by decide +kernel
theorem dL_law_306 : decode cL_law 306 = .ok (.iconst 1, 1) := by decide +kernel
theorem dL_law_307 : decode cL_law 307 = .ok (.iadd, 1) := by decide +kernel
theorem dL_law_308 : decode cL_law 308 = .ok (.iaload, 1) := by decide +kernel
theorem dL_law_309 : decode cL_law 309 = .ok (.aload_n 0, 1) := by decide +kernel
theorem dL_law_310 : decode cL_law 310 = .ok (.iload_n 3, 1) := by decide +kernel
theorem dL_law_311 : decode cL_law 311 = .ok (.iconst 2, 1) := by decide +kernel
theorem dL_law_312 : decode cL_law 312 = .ok (.iadd, 1) := by decide +kernel
theorem dL_law_313 : decode cL_law 313 = .ok (.iaload, 1) := by decide +kernel
theorem dL_law_314 : decode cL_law 314 = .ok (.aload_n 0, 1) := by decide +kernel
theorem dL_law_315 : decode cL_law 315 = .ok (.iload_n 3, 1) := by decide +kernel
theorem dL_law_316 : decode cL_law 316 = .ok (.iconst 3, 1) := by decide +kernel
theorem dL_law_317 : decode cL_law 317 = .ok (.iadd, 1) := by decide +kernel
theorem dL_law_318 : decode cL_law 318 = .ok (.iaload, 1) := by decide +kernel
theorem dL_law_319 : decode cL_law 319 = .ok (.i2l, 1) := by decide +kernel
theorem dL_law_320 : decode cL_law 320 = .ok (.bipush 32, 2) := by decide +kernel
theorem dL_law_322 : decode cL_law 322 = .ok (.lshl, 1) := by decide +kernel
theorem dL_law_323 : decode cL_law 323 = .ok (.aload_n 0, 1) := by decide +kernel
theorem dL_law_324 : decode cL_law 324 = .ok (.iload_n 3, 1) := by decide +kernel
theorem dL_law_325 : decode cL_law 325 = .ok (.iconst 4, 1) := by decide +kernel
theorem dL_law_326 : decode cL_law 326 = .ok (.iadd, 1) := by decide +kernel
theorem dL_law_327 : decode cL_law 327 = .ok (.iaload, 1) := by decide +kernel
theorem dL_law_328 : decode cL_law 328 = .ok (.i2l, 1) := by decide +kernel
theorem dL_law_329 : decode cL_law 329 = .ok (.ldc2_w 28, 3) := by decide +kernel
theorem dL_law_332 : decode cL_law 332 = .ok (.land, 1) := by decide +kernel
theorem dL_law_333 : decode cL_law 333 = .ok (.lor, 1) := by decide +kernel
theorem dL_law_334 : decode cL_law 334 = .ok (.invokevirtual 34, 3) := by decide +kernel
theorem dL_law_337 : decode cL_law 337 = .ok (.if_icmp .eq 839, 3) := by decide +kernel
theorem dL_law_340 : decode cL_law 340 = .ok (.iconst 0, 1) := by decide +kernel
theorem dL_law_341 : decode cL_law 341 = .ok (.ireturn, 1) := by decide +kernel
theorem dL_law_342 : decode cL_law 342 = .ok (.aload_n 1, 1) := by decide +kernel
theorem dL_law_343 : decode cL_law 343 = .ok (.aload_n 0, 1) := by decide +kernel
theorem dL_law_344 : decode cL_law 344 = .ok (.iload_n 3, 1) := by decide +kernel
theorem dL_law_345 : decode cL_law 345 = .ok (.iconst 1, 1) := by decide +kernel
theorem dL_law_346 : decode cL_law 346 = .ok (.iadd, 1) := by decide +kernel
theorem dL_law_347 : decode cL_law 347 = .ok (.iaload, 1) := by decide +kernel
theorem dL_law_348 : decode cL_law 348 = .ok (.invokevirtual 35, 3) := by decide +kernel
theorem dL_law_351 : decode cL_law 351 = .ok (.aload_n 2, 1) := by decide +kernel
theorem dL_law_352 : decode cL_law 352 = .ok (.aload_n 0, 1) := by decide +kernel
theorem dL_law_353 : decode cL_law 353 = .ok (.iload_n 3, 1) := by decide +kernel
theorem dL_law_354 : decode cL_law 354 = .ok (.iconst 1, 1) := by decide +kernel
theorem dL_law_355 : decode cL_law 355 = .ok (.iadd, 1) := by decide +kernel
theorem dL_law_356 : decode cL_law 356 = .ok (.iaload, 1) := by decide +kernel
theorem dL_law_357 : decode cL_law 357 = .ok (.invokevirtual 38, 3) := by decide +kernel
theorem dL_law_360 : decode cL_law 360 = .ok (.if_icmp .eq 816, 3) := by decide +kernel
theorem dL_law_363 : decode cL_law 363 = .ok (.iconst 0, 1) := by decide +kernel
theorem dL_law_364 : decode cL_law 364 = .ok (.ireturn, 1) := by decide +kernel
theorem dL_law_365 : decode cL_law 365 = .ok (.aload_n 1, 1) := by decide +kernel
theorem dL_law_366 : decode cL_law 366 = .ok (.aload_n 0, 1) := by decide +kernel
theorem dL_law_367 : decode cL_law 367 = .ok (.iload_n 3, 1) := by decide +kernel
theorem dL_law_368 : decode cL_law 368 = .ok (.iconst 1, 1) := by decide +kernel
theorem dL_law_369 : decode cL_law 369 = .ok (.iadd, 1) := by decide +kernel
theorem dL_law_370 : decode cL_law 370 = .ok (.iaload, 1) := by decide +kernel
theorem dL_law_371 : decode cL_law 371 = .ok (.aload_n 0, 1) := by decide +kernel
theorem dL_law_372 : decode cL_law 372 = .ok (.iload_n 3, 1) := by decide +kernel
theorem dL_law_373 : decode cL_law 373 = .ok (.iconst 2, 1) := by decide +kernel
theorem dL_law_374 : decode cL_law 374 = .ok (.iadd, 1) := by decide +kernel
theorem dL_law_375 : decode cL_law 375 = .ok (.iaload, 1) := by decide +kernel
theorem dL_law_376 : decode cL_law 376 = .ok (.aload_n 0, 1) := by decide +kernel
theorem dL_law_377 : decode cL_law 377 = .ok (.iload_n 3, 1) := by decide +kernel
theorem dL_law_378 : decode cL_law 378 = .ok (.iconst 3, 1) := by decide +kernel
theorem dL_law_379 : decode cL_law 379 = .ok (.iadd, 1) := by decide +kernel
theorem dL_law_380 : decode cL_law 380 = .ok (.iaload, 1) := by decide +kernel
theorem dL_law_381 : decode cL_law 381 = .ok (.invokevirtual 39, 3) := by decide +kernel
theorem dL_law_384 : decode cL_law 384 = .ok (.aload_n 2, 1) := by decide +kernel
theorem dL_law_385 : decode cL_law 385 = .ok (.aload_n 0, 1) := by decide +kernel
theorem dL_law_386 : decode cL_law 386 = .ok (.iload_n 3, 1) := by decide +kernel
theorem dL_law_387 : decode cL_law 387 = .ok (.iconst 1, 1) := by decide +kernel
theorem dL_law_388 : decode cL_law 388 = .ok (.iadd, 1) := by decide +kernel
theorem dL_law_389 : decode cL_law 389 = .ok (.iaload, 1) := by decide +kernel
theorem dL_law_390 : decode cL_law 390 = .ok (.aload_n 0, 1) := by decide +kernel
theorem dL_law_391 : decode cL_law 391 = .ok (.iload_n 3, 1) := by decide +kernel
theorem dL_law_392 : decode cL_law 392 = .ok (.iconst 2, 1) := by decide +kernel
theorem dL_law_393 : decode cL_law 393 = .ok (.iadd, 1) := by decide +kernel
theorem dL_law_394 : decode cL_law 394 = .ok (.iaload, 1) := by decide +kernel
theorem dL_law_395 : decode cL_law 395 = .ok (.aload_n 0, 1) := by decide +kernel
theorem dL_law_396 : decode cL_law 396 = .ok (.iload_n 3, 1) := by decide +kernel
theorem dL_law_397 : decode cL_law 397 = .ok (.iconst 3, 1) := by decide +kernel
theorem dL_law_398 : decode cL_law 398 = .ok (.iadd, 1) := by decide +kernel
theorem dL_law_399 : decode cL_law 399 = .ok (.iaload, 1) := by decide +kernel
theorem dL_law_400 : decode cL_law 400 = .ok (.invokevirtual 43, 3) := by decide +kernel
theorem dL_law_403 : decode cL_law 403 = .ok (.if_icmp .eq 773, 3) := by decide +kernel
theorem dL_law_406 : decode cL_law 406 = .ok (.iconst 0, 1) := by decide +kernel
theorem dL_law_407 : decode cL_law 407 = .ok (.ireturn, 1) := by decide +kernel
theorem dL_law_408 : decode cL_law 408 = .ok (.aload_n 1, 1) := by decide +kernel
theorem dL_law_409 : decode cL_law 409 = .ok (.aload_n 0, 1) := by decide +kernel
theorem dL_law_410 : decode cL_law 410 = .ok (.iload_n 3, 1) := by decide +kernel
theorem dL_law_411 : decode cL_law 411 = .ok (.iconst 1, 1) := by decide +kernel
theorem dL_law_412 : decode cL_law 412 = .ok (.iadd, 1) := by decide +kernel
theorem dL_law_413 : decode cL_law 413 = .ok (.iaload, 1) := by decide +kernel
theorem dL_law_414 : decode cL_law 414 = .ok (.aload_n 0, 1) := by decide +kernel
theorem dL_law_415 : decode cL_law 415 = .ok (.iload_n 3, 1) := by decide +kernel
theorem dL_law_416 : decode cL_law 416 = .ok (.iconst 2, 1) := by decide +kernel
theorem dL_law_417 : decode cL_law 417 = .ok (.iadd, 1) := by decide +kernel
theorem dL_law_418 : decode cL_law 418 = .ok (.iaload, 1) := by decide +kernel
theorem dL_law_419 : decode cL_law 419 = .ok (.invokevirtual 44, 3) := by decide +kernel
theorem dL_law_422 : decode cL_law 422 = .ok (.aload_n 2, 1) := by decide +kernel
theorem dL_law_423 : decode cL_law 423 = .ok (.aload_n 0, 1) := by decide +kernel
theorem dL_law_424 : decode cL_law 424 = .ok (.iload_n 3, 1) := by decide +kernel
theorem dL_law_425 : decode cL_law 425 = .ok (.iconst 1, 1) := by decide +kernel
theorem dL_law_426 : decode cL_law 426 = .ok (.iadd, 1) := by decide +kernel
theorem dL_law_427 : decode cL_law 427 = .ok (.iaload, 1) := by decide +kernel
theorem dL_law_428 : decode cL_law 428 = .ok (.aload_n 0, 1) := by decide +kernel
theorem dL_law_429 : decode cL_law 429 = .ok (.iload_n 3, 1) := by decide +kernel
theorem dL_law_430 : decode cL_law 430 = .ok (.iconst 2, 1) := by decide +kernel
theorem dL_law_431 : decode cL_law 431 = .ok (.iadd, 1) := by decide +kernel
theorem dL_law_432 : decode cL_law 432 = .ok (.iaload, 1) := by decide +kernel
theorem dL_law_433 : decode cL_law 433 = .ok (.invokevirtual 47, 3) := by decide +kernel
theorem dL_law_436 : decode cL_law 436 = .ok (.if_icmp .eq 740, 3) := by decide +kernel
theorem dL_law_439 : decode cL_law 439 = .ok (.iconst 0, 1) := by decide +kernel
theorem dL_law_440 : decode cL_law 440 = .ok (.ireturn, 1) := by decide +kernel
theorem dL_law_441 : decode cL_law 441 = .ok (.aload_n 1, 1) := by decide +kernel
theorem dL_law_442 : decode cL_law 442 = .ok (.aload_n 0, 1) := by decide +kernel
theorem dL_law_443 : decode cL_law 443 = .ok (.iload_n 3, 1) := by decide +kernel
theorem dL_law_444 : decode cL_law 444 = .ok (.iconst 1, 1) := by decide +kernel
theorem dL_law_445 : decode cL_law 445 = .ok (.iadd, 1) := by decide +kernel
theorem dL_law_446 : decode cL_law 446 = .ok (.iaload, 1) := by decide +kernel
theorem dL_law_447 : decode cL_law 447 = .ok (.aload_n 0, 1) := by decide +kernel
theorem dL_law_448 : decode cL_law 448 = .ok (.iload_n 3, 1) := by decide +kernel
theorem dL_law_449 : decode cL_law 449 = .ok (.iconst 2, 1) := by decide +kernel
theorem dL_law_450 : decode cL_law 450 = .ok (.iadd, 1) := by decide +kernel
theorem dL_law_451 : decode cL_law 451 = .ok (.iaload, 1) := by decide +kernel
theorem dL_law_452 : decode cL_law 452 = .ok (.aload_n 0, 1) := by decide +kernel
theorem dL_law_453 : decode cL_law 453 = .ok (.iload_n 3, 1) := by decide +kernel
theorem dL_law_454 : decode cL_law 454 = .ok (.iconst 3, 1) := by decide +kernel
theorem dL_law_455 : decode cL_law 455 = .ok (.iadd, 1) := by decide +kernel
theorem dL_law_456 : decode cL_law 456 = .ok (.iaload, 1) := by decide +kernel
theorem dL_law_457 : decode cL_law 457 = .ok (.invokevirtual 48, 3) := by decide +kernel
theorem dL_law_460 : decode cL_law 460 = .ok (.aload_n 2, 1) := by decide +kernel
theorem dL_law_461 : decode cL_law 461 = .ok (.aload_n 0, 1) := by decide +kernel
theorem dL_law_462 : decode cL_law 462 = .ok (.iload_n 3, 1) := by decide +kernel
theorem dL_law_463 : decode cL_law 463 = .ok (.iconst 1, 1) := by decide +kernel
theorem dL_law_464 : decode cL_law 464 = .ok (.iadd, 1) := by decide +kernel
theorem dL_law_465 : decode cL_law 465 = .ok (.iaload, 1) := by decide +kernel
theorem dL_law_466 : decode cL_law 466 = .ok (.aload_n 0, 1) := by decide +kernel
theorem dL_law_467 : decode cL_law 467 = .ok (.iload_n 3, 1) := by decide +kernel
theorem dL_law_468 : decode cL_law 468 = .ok (.iconst 2, 1) := by decide +kernel
theorem dL_law_469 : decode cL_law 469 = .ok (.iadd, 1) := by decide +kernel
theorem dL_law_470 : decode cL_law 470 = .ok (.iaload, 1) := by decide +kernel
theorem dL_law_471 : decode cL_law 471 = .ok (.aload_n 0, 1) := by decide +kernel
theorem dL_law_472 : decode cL_law 472 = .ok (.iload_n 3, 1) := by decide +kernel
theorem dL_law_473 : decode cL_law 473 = .ok (.iconst 3, 1) := by decide +kernel
theorem dL_law_474 : decode cL_law 474 = .ok (.iadd, 1) := by decide +kernel
theorem dL_law_475 : decode cL_law 475 = .ok (.iaload, 1) := by decide +kernel
theorem dL_law_476 : decode cL_law 476 = .ok (.invokevirtual 51, 3) := by decide +kernel
theorem dL_law_479 : decode cL_law 479 = .ok (.if_icmp .eq 697, 3) := by decide +kernel
theorem dL_law_482 : decode cL_law 482 = .ok (.iconst 0, 1) := by decide +kernel
theorem dL_law_483 : decode cL_law 483 = .ok (.ireturn, 1) := by decide +kernel
theorem dL_law_484 : decode cL_law 484 = .ok (.aload_n 1, 1) := by decide +kernel
theorem dL_law_485 : decode cL_law 485 = .ok (.aload_n 0, 1) := by decide +kernel
theorem dL_law_486 : decode cL_law 486 = .ok (.iload_n 3, 1) := by decide +kernel
theorem dL_law_487 : decode cL_law 487 = .ok (.iconst 1, 1) := by decide +kernel
theorem dL_law_488 : decode cL_law 488 = .ok (.iadd, 1) := by decide +kernel
theorem dL_law_489 : decode cL_law 489 = .ok (.iaload, 1) := by decide +kernel
theorem dL_law_490 : decode cL_law 490 = .ok (.aload_n 0, 1) := by decide +kernel
theorem dL_law_491 : decode cL_law 491 = .ok (.iload_n 3, 1) := by decide +kernel
theorem dL_law_492 : decode cL_law 492 = .ok (.iconst 2, 1) := by decide +kernel
theorem dL_law_493 : decode cL_law 493 = .ok (.iadd, 1) := by decide +kernel
theorem dL_law_494 : decode cL_law 494 = .ok (.iaload, 1) := by decide +kernel
theorem dL_law_495 : decode cL_law 495 = .ok (.aload_n 0, 1) := by decide +kernel
theorem dL_law_496 : decode cL_law 496 = .ok (.iload_n 3, 1) := by decide +kernel
theorem dL_law_497 : decode cL_law 497 = .ok (.iconst 3, 1) := by decide +kernel
theorem dL_law_498 : decode cL_law 498 = .ok (.iadd, 1) := by decide +kernel
theorem dL_law_499 : decode cL_law 499 = .ok (.iaload, 1) := by decide +kernel
theorem dL_law_500 : decode cL_law 500 = .ok (.i2l, 1) := by decide +kernel
theorem dL_law_501 : decode cL_law 501 = .ok (.bipush 32, 2) := by decide +kernel
theorem dL_law_503 : decode cL_law 503 = .ok (.lshl, 1) := by decide +kernel
theorem dL_law_504 : decode cL_law 504 = .ok (.aload_n 0, 1) := by decide +kernel
theorem dL_law_505 : decode cL_law 505 = .ok (.iload_n 3, 1) := by decide +kernel
theorem dL_law_506 : decode cL_law 506 = .ok (.iconst 4, 1) := by decide +kernel
theorem dL_law_507 : decode cL_law 507 = .ok (.iadd, 1) := by decide +kernel
theorem dL_law_508 : decode cL_law 508 = .ok (.iaload, 1) := by decide +kernel
theorem dL_law_509 : decode cL_law 509 = .ok (.i2l, 1) := by decide +kernel
theorem dL_law_510 : decode cL_law 510 = .ok (.ldc2_w 28, 3) := by decide +kernel
theorem dL_law_513 : decode cL_law 513 = .ok (.land, 1) := by decide +kernel
theorem dL_law_514 : decode cL_law 514 = .ok (.lor, 1) := by decide +kernel
theorem dL_law_515 : decode cL_law 515 = .ok (.invokevirtual 52, 3) := by decide +kernel
theorem dL_law_518 : decode cL_law 518 = .ok (.aload_n 2, 1) := by decide +kernel
theorem dL_law_519 : decode cL_law 519 = .ok (.aload_n 0, 1) := by decide +kernel
theorem dL_law_520 : decode cL_law 520 = .ok (.iload_n 3, 1) := by decide +kernel
theorem dL_law_521 : decode cL_law 521 = .ok (.iconst 1, 1) := by decide +kernel
theorem dL_law_522 : decode cL_law 522 = .ok (.iadd, 1) := by decide +kernel
theorem dL_law_523 : decode cL_law 523 = .ok (.iaload, 1) := by decide +kernel
theorem dL_law_524 : decode cL_law 524 = .ok (.aload_n 0, 1) := by decide +kernel
theorem dL_law_525 : decode cL_law 525 = .ok (.iload_n 3, 1) := by decide +kernel
theorem dL_law_526 : decode cL_law 526 = .ok (.iconst 2, 1) := by decide +kernel
theorem dL_law_527 : decode cL_law 527 = .ok (.iadd, 1) := by decide +kernel
theorem dL_law_528 : decode cL_law 528 = .ok (.iaload, 1) := by decide +kernel
theorem dL_law_529 : decode cL_law 529 = .ok (.aload_n 0, 1) := by decide +kernel
theorem dL_law_530 : decode cL_law 530 = .ok (.iload_n 3, 1) := by decide +kernel
theorem dL_law_531 : decode cL_law 531 = .ok (.iconst 3, 1) := by decide +kernel
theorem dL_law_532 : decode cL_law 532 = .ok (.iadd, 1) := by decide +kernel
theorem dL_law_533 : decode cL_law 533 = .ok (.iaload, 1) := by decide +kernel
theorem dL_law_534 : decode cL_law 534 = .ok (.i2l, 1) := by decide +kernel
theorem dL_law_535 : decode cL_law 535 = .ok (.bipush 32, 2) := by decide +kernel
theorem dL_law_537 : decode cL_law 537 = .ok (.lshl, 1) := by decide +kernel
theorem dL_law_538 : decode cL_law 538 = .ok (.aload_n 0, 1) := by decide +kernel
theorem dL_law_539 : decode cL_law 539 = .ok (.iload_n 3, 1) := by decide +kernel
theorem dL_law_540 : decode cL_law 540 = .ok (.iconst 4, 1) := by decide +kernel
theorem dL_law_541 : decode cL_law 541 = .ok (.iadd, 1) := by decide +kernel
theorem dL_law_542 : decode cL_law 542 = .ok (.iaload, 1) := by decide +kernel
theorem dL_law_543 : decode cL_law 543 = .ok (.i2l, 1) := by decide +kernel
theorem dL_law_544 : decode cL_law 544 = .ok (.ldc2_w 28, 3) := by decide +kernel
theorem dL_law_547 : decode cL_law 547 = .ok (.land, 1) := by decide +kernel
theorem dL_law_548 : decode cL_law 548 = .ok (.lor, 1) := by decide +kernel
theorem dL_law_549 : decode cL_law 549 = .ok (.invokevirtual 55, 3) := by decide +kernel
theorem dL_law_552 : decode cL_law 552 = .ok (.if_icmp .eq 624, 3) := by decide +kernel
theorem dL_law_555 : decode cL_law 555 = .ok (.iconst 0, 1) := by decide +kernel
theorem dL_law_556 : decode cL_law 556 = .ok (.ireturn, 1) := by decide +kernel
theorem dL_law_557 : decode cL_law 557 = .ok (.aload_n 1, 1) := by decide +kernel
theorem dL_law_558 : decode cL_law 558 = .ok (.aload_n 0, 1) := by decide +kernel
theorem dL_law_559 : decode cL_law 559 = .ok (.iload_n 3, 1) := by decide +kernel
theorem dL_law_560 : decode cL_law 560 = .ok (.iconst 1, 1) := by decide +kernel
theorem dL_law_561 : decode cL_law 561 = .ok (.iadd, 1) := by decide +kernel
theorem dL_law_562 : decode cL_law 562 = .ok (.iaload, 1) := by decide +kernel
theorem dL_law_563 : decode cL_law 563 = .ok (.aload_n 0, 1) := by decide +kernel
theorem dL_law_564 : decode cL_law 564 = .ok (.iload_n 3, 1) := by decide +kernel
theorem dL_law_565 : decode cL_law 565 = .ok (.iconst 2, 1) := by decide +kernel
theorem dL_law_566 : decode cL_law 566 = .ok (.iadd, 1) := by decide +kernel
theorem dL_law_567 : decode cL_law 567 = .ok (.iaload, 1) := by decide +kernel
theorem dL_law_568 : decode cL_law 568 = .ok (.invokevirtual 56, 3) := by decide +kernel
theorem dL_law_571 : decode cL_law 571 = .ok (.aload_n 2, 1) := by decide +kernel
theorem dL_law_572 : decode cL_law 572 = .ok (.aload_n 0, 1) := by decide +kernel
theorem dL_law_573 : decode cL_law 573 = .ok (.iload_n 3, 1) := by decide +kernel
theorem dL_law_574 : decode cL_law 574 = .ok (.iconst 1, 1) := by decide +kernel
theorem dL_law_575 : decode cL_law 575 = .ok (.iadd, 1) := by decide +kernel
theorem dL_law_576 : decode cL_law 576 = .ok (.iaload, 1) := by decide +kernel
theorem dL_law_577 : decode cL_law 577 = .ok (.aload_n 0, 1) := by decide +kernel
theorem dL_law_578 : decode cL_law 578 = .ok (.iload_n 3, 1) := by decide +kernel
theorem dL_law_579 : decode cL_law 579 = .ok (.iconst 2, 1) := by decide +kernel
theorem dL_law_580 : decode cL_law 580 = .ok (.iadd, 1) := by decide +kernel
theorem dL_law_581 : decode cL_law 581 = .ok (.iaload, 1) := by decide +kernel
theorem dL_law_582 : decode cL_law 582 = .ok (.invokevirtual 59, 3) := by decide +kernel
theorem dL_law_585 : decode cL_law 585 = .ok (.if_icmp .eq 591, 3) := by decide +kernel
theorem dL_law_588 : decode cL_law 588 = .ok (.iconst 0, 1) := by decide +kernel
theorem dL_law_589 : decode cL_law 589 = .ok (.ireturn, 1) := by decide +kernel
theorem dL_law_590 : decode cL_law 590 = .ok (.aload_n 1, 1) := by decide +kernel
theorem dL_law_591 : decode cL_law 591 = .ok (.aload_n 0, 1) := by decide +kernel
theorem dL_law_592 : decode cL_law 592 = .ok (.iload_n 3, 1) := by decide +kernel
theorem dL_law_593 : decode cL_law 593 = .ok (.iconst 1, 1) := by decide +kernel
theorem dL_law_594 : decode cL_law 594 = .ok (.iadd, 1) := by decide +kernel
theorem dL_law_595 : decode cL_law 595 = .ok (.iaload, 1) := by decide +kernel
theorem dL_law_596 : decode cL_law 596 = .ok (.aload_n 0, 1) := by decide +kernel
theorem dL_law_597 : decode cL_law 597 = .ok (.iload_n 3, 1) := by decide +kernel
theorem dL_law_598 : decode cL_law 598 = .ok (.iconst 2, 1) := by decide +kernel
theorem dL_law_599 : decode cL_law 599 = .ok (.iadd, 1) := by decide +kernel
theorem dL_law_600 : decode cL_law 600 = .ok (.iaload, 1) := by decide +kernel
theorem dL_law_601 : decode cL_law 601 = .ok (.aload_n 0, 1) := by decide +kernel
theorem dL_law_602 : decode cL_law 602 = .ok (.iload_n 3, 1) := by decide +kernel
theorem dL_law_603 : decode cL_law 603 = .ok (.iconst 3, 1) := by decide +kernel
theorem dL_law_604 : decode cL_law 604 = .ok (.iadd, 1) := by decide +kernel
theorem dL_law_605 : decode cL_law 605 = .ok (.iaload, 1) := by decide +kernel
theorem dL_law_606 : decode cL_law 606 = .ok (.invokevirtual 60, 3) := by decide +kernel
theorem dL_law_609 : decode cL_law 609 = .ok (.aload_n 2, 1) := by decide +kernel
theorem dL_law_610 : decode cL_law 610 = .ok (.aload_n 0, 1) := by decide +kernel
theorem dL_law_611 : decode cL_law 611 = .ok (.iload_n 3, 1) := by decide +kernel
theorem dL_law_612 : decode cL_law 612 = .ok (.iconst 1, 1) := by decide +kernel
theorem dL_law_613 : decode cL_law 613 = .ok (.iadd, 1) := by decide +kernel
theorem dL_law_614 : decode cL_law 614 = .ok (.iaload, 1) := by decide +kernel
theorem dL_law_615 : decode cL_law 615 = .ok (.aload_n 0, 1) := by decide +kernel
theorem dL_law_616 : decode cL_law 616 = .ok (.iload_n 3, 1) := by decide +kernel
theorem dL_law_617 : decode cL_law 617 = .ok (.iconst 2, 1) := by decide +kernel
theorem dL_law_618 : decode cL_law 618 = .ok (.iadd, 1) := by decide +kernel
theorem dL_law_619 : decode cL_law 619 = .ok (.iaload, 1) := by decide +kernel
theorem dL_law_620 : decode cL_law 620 = .ok (.aload_n 0, 1) := by decide +kernel
theorem dL_law_621 : decode cL_law 621 = .ok (.iload_n 3, 1) := by decide +kernel
theorem dL_law_622 : decode cL_law 622 = .ok (.iconst 3, 1) := by decide +kernel
theorem dL_law_623 : decode cL_law 623 = .ok (.iadd, 1) := by decide +kernel
theorem dL_law_624 : decode cL_law 624 = .ok (.iaload, 1) := by decide +kernel
theorem dL_law_625 : decode cL_law 625 = .ok (.invokevirtual 63, 3) := by decide +kernel
theorem dL_law_628 : decode cL_law 628 = .ok (.if_icmp .eq 548, 3) := by decide +kernel
theorem dL_law_631 : decode cL_law 631 = .ok (.iconst 0, 1) := by decide +kernel
theorem dL_law_632 : decode cL_law 632 = .ok (.ireturn, 1) := by decide +kernel
theorem dL_law_633 : decode cL_law 633 = .ok (.aload_n 1, 1) := by decide +kernel
theorem dL_law_634 : decode cL_law 634 = .ok (.aload_n 0, 1) := by decide +kernel
theorem dL_law_635 : decode cL_law 635 = .ok (.iload_n 3, 1) := by decide +kernel
theorem dL_law_636 : decode cL_law 636 = .ok (.iconst 1, 1) := by decide +kernel
theorem dL_law_637 : decode cL_law 637 = .ok (.iadd, 1) := by decide +kernel
theorem dL_law_638 : decode cL_law 638 = .ok (.iaload, 1) := by decide +kernel
theorem dL_law_639 : decode cL_law 639 = .ok (.invokevirtual 64, 3) := by decide +kernel
theorem dL_law_642 : decode cL_law 642 = .ok (.aload_n 2, 1) := by decide +kernel
theorem dL_law_643 : decode cL_law 643 = .ok (.aload_n 0, 1) := by decide +kernel
theorem dL_law_644 : decode cL_law 644 = .ok (.iload_n 3, 1) := by decide +kernel
theorem dL_law_645 : decode cL_law 645 = .ok (.iconst 1, 1) := by decide +kernel
theorem dL_law_646 : decode cL_law 646 = .ok (.iadd, 1) := by decide +kernel
theorem dL_law_647 : decode cL_law 647 = .ok (.iaload, 1) := by decide +kernel
theorem dL_law_648 : decode cL_law 648 = .ok (.invokevirtual 67, 3) := by decide +kernel
theorem dL_law_651 : decode cL_law 651 = .ok (.if_icmp .eq 525, 3) := by decide +kernel
theorem dL_law_654 : decode cL_law 654 = .ok (.iconst 0, 1) := by decide +kernel
theorem dL_law_655 : decode cL_law 655 = .ok (.ireturn, 1) := by decide +kernel
theorem dL_law_656 : decode cL_law 656 = .ok (.aload_n 1, 1) := by decide +kernel
theorem dL_law_657 : decode cL_law 657 = .ok (.aload_n 0, 1) := by decide +kernel
theorem dL_law_658 : decode cL_law 658 = .ok (.iload_n 3, 1) := by decide +kernel
theorem dL_law_659 : decode cL_law 659 = .ok (.iconst 1, 1) := by decide +kernel
theorem dL_law_660 : decode cL_law 660 = .ok (.iadd, 1) := by decide +kernel
theorem dL_law_661 : decode cL_law 661 = .ok (.iaload, 1) := by decide +kernel
theorem dL_law_662 : decode cL_law 662 = .ok (.aload_n 0, 1) := by decide +kernel
theorem dL_law_663 : decode cL_law 663 = .ok (.iload_n 3, 1) := by decide +kernel
theorem dL_law_664 : decode cL_law 664 = .ok (.iconst 2, 1) := by decide +kernel
theorem dL_law_665 : decode cL_law 665 = .ok (.iadd, 1) := by decide +kernel
theorem dL_law_666 : decode cL_law 666 = .ok (.iaload, 1) := by decide +kernel
theorem dL_law_667 : decode cL_law 667 = .ok (.invokevirtual 68, 3) := by decide +kernel
theorem dL_law_670 : decode cL_law 670 = .ok (.aload_n 2, 1) := by decide +kernel
theorem dL_law_671 : decode cL_law 671 = .ok (.aload_n 0, 1) := by decide +kernel
theorem dL_law_672 : decode cL_law 672 = .ok (.iload_n 3, 1) := by decide +kernel
theorem dL_law_673 : decode cL_law 673 = .ok (.iconst 1, 1) := by decide +kernel
theorem dL_law_674 : decode cL_law 674 = .ok (.iadd, 1) := by decide +kernel
theorem dL_law_675 : decode cL_law 675 = .ok (.iaload, 1) := by decide +kernel
theorem dL_law_676 : decode cL_law 676 = .ok (.aload_n 0, 1) := by decide +kernel
theorem dL_law_677 : decode cL_law 677 = .ok (.iload_n 3, 1) := by decide +kernel
theorem dL_law_678 : decode cL_law 678 = .ok (.iconst 2, 1) := by decide +kernel
theorem dL_law_679 : decode cL_law 679 = .ok (.iadd, 1) := by decide +kernel
theorem dL_law_680 : decode cL_law 680 = .ok (.iaload, 1) := by decide +kernel
theorem dL_law_681 : decode cL_law 681 = .ok (.invokevirtual 71, 3) := by decide +kernel
theorem dL_law_684 : decode cL_law 684 = .ok (.if_icmp .eq 492, 3) := by decide +kernel
theorem dL_law_687 : decode cL_law 687 = .ok (.iconst 0, 1) := by decide +kernel
theorem dL_law_688 : decode cL_law 688 = .ok (.ireturn, 1) := by decide +kernel
theorem dL_law_689 : decode cL_law 689 = .ok (.aload_n 1, 1) := by decide +kernel
theorem dL_law_690 : decode cL_law 690 = .ok (.aload_n 0, 1) := by decide +kernel
theorem dL_law_691 : decode cL_law 691 = .ok (.iload_n 3, 1) := by decide +kernel
theorem dL_law_692 : decode cL_law 692 = .ok (.iconst 1, 1) := by decide +kernel
theorem dL_law_693 : decode cL_law 693 = .ok (.iadd, 1) := by decide +kernel
theorem dL_law_694 : decode cL_law 694 = .ok (.iaload, 1) := by decide +kernel
theorem dL_law_695 : decode cL_law 695 = .ok (.aload_n 0, 1) := by decide +kernel
theorem dL_law_696 : decode cL_law 696 = .ok (.iload_n 3, 1) := by decide +kernel
theorem dL_law_697 : decode cL_law 697 = .ok (.iconst 2, 1) := by decide +kernel
theorem dL_law_698 : decode cL_law 698 = .ok (.iadd, 1) := by decide +kernel
theorem dL_law_699 : decode cL_law 699 = .ok (.iaload, 1) := by decide +kernel
theorem dL_law_700 : decode cL_law 700 = .ok (.aload_n 0, 1) := by decide +kernel
theorem dL_law_701 : decode cL_law 701 = .ok (.iload_n 3, 1) := by decide +kernel
theorem dL_law_702 : decode cL_law 702 = .ok (.iconst 3, 1) := by decide +kernel
theorem dL_law_703 : decode cL_law 703 = .ok (.iadd, 1) := by decide +kernel
theorem dL_law_704 : decode cL_law 704 = .ok (.iaload, 1) := by decide +kernel
theorem dL_law_705 : decode cL_law 705 = .ok (.invokevirtual 72, 3) := by decide +kernel
theorem dL_law_708 : decode cL_law 708 = .ok (.aload_n 2, 1) := by decide +kernel
theorem dL_law_709 : decode cL_law 709 = .ok (.aload_n 0, 1) := by decide +kernel
theorem dL_law_710 : decode cL_law 710 = .ok (.iload_n 3, 1) := by decide +kernel
theorem dL_law_711 : decode cL_law 711 = .ok (.iconst 1, 1) := by decide +kernel
theorem dL_law_712 : decode cL_law 712 = .ok (.iadd, 1) := by decide +kernel
theorem dL_law_713 : decode cL_law 713 = .ok (.iaload, 1) := by decide +kernel
theorem dL_law_714 : decode cL_law 714 = .ok (.aload_n 0, 1) := by decide +kernel
theorem dL_law_715 : decode cL_law 715 = .ok (.iload_n 3, 1) := by decide +kernel
theorem dL_law_716 : decode cL_law 716 = .ok (.iconst 2, 1) := by decide +kernel
theorem dL_law_717 : decode cL_law 717 = .ok (.iadd, 1) := by decide +kernel
theorem dL_law_718 : decode cL_law 718 = .ok (.iaload, 1) := by decide +kernel
theorem dL_law_719 : decode cL_law 719 = .ok (.aload_n 0, 1) := by decide +kernel
theorem dL_law_720 : decode cL_law 720 = .ok (.iload_n 3, 1) := by decide +kernel
theorem dL_law_721 : decode cL_law 721 = .ok (.iconst 3, 1) := by decide +kernel
theorem dL_law_722 : decode cL_law 722 = .ok (.iadd, 1) := by decide +kernel
theorem dL_law_723 : decode cL_law 723 = .ok (.iaload, 1) := by decide +kernel
theorem dL_law_724 : decode cL_law 724 = .ok (.invokevirtual 75, 3) := by decide +kernel
theorem dL_law_727 : decode cL_law 727 = .ok (.if_icmp .eq 449, 3) := by decide +kernel
theorem dL_law_730 : decode cL_law 730 = .ok (.iconst 0, 1) := by decide +kernel
theorem dL_law_731 : decode cL_law 731 = .ok (.ireturn, 1) := by decide +kernel
theorem dL_law_732 : decode cL_law 732 = .ok (.aload_n 1, 1) := by decide +kernel
theorem dL_law_733 : decode cL_law 733 = .ok (.aload_n 0, 1) := by decide +kernel
theorem dL_law_734 : decode cL_law 734 = .ok (.iload_n 3, 1) := by decide +kernel
theorem dL_law_735 : decode cL_law 735 = .ok (.iconst 1, 1) := by decide +kernel
theorem dL_law_736 : decode cL_law 736 = .ok (.iadd, 1) := by decide +kernel
theorem dL_law_737 : decode cL_law 737 = .ok (.iaload, 1) := by decide +kernel
theorem dL_law_738 : decode cL_law 738 = .ok (.aload_n 0, 1) := by decide +kernel
theorem dL_law_739 : decode cL_law 739 = .ok (.iload_n 3, 1) := by decide +kernel
theorem dL_law_740 : decode cL_law 740 = .ok (.iconst 2, 1) := by decide +kernel
theorem dL_law_741 : decode cL_law 741 = .ok (.iadd, 1) := by decide +kernel
theorem dL_law_742 : decode cL_law 742 = .ok (.iaload, 1) := by decide +kernel
theorem dL_law_743 : decode cL_law 743 = .ok (.invokevirtual 76, 3) := by decide +kernel
theorem dL_law_746 : decode cL_law 746 = .ok (.aload_n 2, 1) := by decide +kernel
theorem dL_law_747 : decode cL_law 747 = .ok (.aload_n 0, 1) := by decide +kernel
theorem dL_law_748 : decode cL_law 748 = .ok (.iload_n 3, 1) := by decide +kernel
theorem dL_law_749 : decode cL_law 749 = .ok (.iconst 1, 1) := by decide +kernel
theorem dL_law_750 : decode cL_law 750 = .ok (.iadd, 1) := by decide +kernel
theorem dL_law_751 : decode cL_law 751 = .ok (.iaload, 1) := by decide +kernel
theorem dL_law_752 : decode cL_law 752 = .ok (.aload_n 0, 1) := by decide +kernel
theorem dL_law_753 : decode cL_law 753 = .ok (.iload_n 3, 1) := by decide +kernel
theorem dL_law_754 : decode cL_law 754 = .ok (.iconst 2, 1) := by decide +kernel
theorem dL_law_755 : decode cL_law 755 = .ok (.iadd, 1) := by decide +kernel
theorem dL_law_756 : decode cL_law 756 = .ok (.iaload, 1) := by decide +kernel
theorem dL_law_757 : decode cL_law 757 = .ok (.invokevirtual 79, 3) := by decide +kernel
theorem dL_law_760 : decode cL_law 760 = .ok (.if_icmp .eq 416, 3) := by decide +kernel
theorem dL_law_763 : decode cL_law 763 = .ok (.iconst 0, 1) := by decide +kernel
theorem dL_law_764 : decode cL_law 764 = .ok (.ireturn, 1) := by decide +kernel
theorem dL_law_765 : decode cL_law 765 = .ok (.aload_n 1, 1) := by decide +kernel
theorem dL_law_766 : decode cL_law 766 = .ok (.aload_n 0, 1) := by decide +kernel
theorem dL_law_767 : decode cL_law 767 = .ok (.iload_n 3, 1) := by decide +kernel
theorem dL_law_768 : decode cL_law 768 = .ok (.iconst 1, 1) := by decide +kernel
theorem dL_law_769 : decode cL_law 769 = .ok (.iadd, 1) := by decide +kernel
theorem dL_law_770 : decode cL_law 770 = .ok (.iaload, 1) := by decide +kernel
theorem dL_law_771 : decode cL_law 771 = .ok (.invokevirtual 80, 3) := by decide +kernel
theorem dL_law_774 : decode cL_law 774 = .ok (.aload_n 2, 1) := by decide +kernel
theorem dL_law_775 : decode cL_law 775 = .ok (.aload_n 0, 1) := by decide +kernel
theorem dL_law_776 : decode cL_law 776 = .ok (.iload_n 3, 1) := by decide +kernel
theorem dL_law_777 : decode cL_law 777 = .ok (.iconst 1, 1) := by decide +kernel
theorem dL_law_778 : decode cL_law 778 = .ok (.iadd, 1) := by decide +kernel
theorem dL_law_779 : decode cL_law 779 = .ok (.iaload, 1) := by decide +kernel
theorem dL_law_780 : decode cL_law 780 = .ok (.invokevirtual 83, 3) := by decide +kernel
theorem dL_law_783 : decode cL_law 783 = .ok (.if_icmp .eq 393, 3) := by decide +kernel
theorem dL_law_786 : decode cL_law 786 = .ok (.iconst 0, 1) := by decide +kernel
theorem dL_law_787 : decode cL_law 787 = .ok (.ireturn, 1) := by decide +kernel
theorem dL_law_788 : decode cL_law 788 = .ok (.aload_n 1, 1) := by decide +kernel
theorem dL_law_789 : decode cL_law 789 = .ok (.aload_n 0, 1) := by decide +kernel
theorem dL_law_790 : decode cL_law 790 = .ok (.iload_n 3, 1) := by decide +kernel
theorem dL_law_791 : decode cL_law 791 = .ok (.iconst 1, 1) := by decide +kernel
theorem dL_law_792 : decode cL_law 792 = .ok (.iadd, 1) := by decide +kernel
theorem dL_law_793 : decode cL_law 793 = .ok (.iaload, 1) := by decide +kernel
theorem dL_law_794 : decode cL_law 794 = .ok (.invokevirtual 84, 3) := by decide +kernel
theorem dL_law_797 : decode cL_law 797 = .ok (.aload_n 2, 1) := by decide +kernel
theorem dL_law_798 : decode cL_law 798 = .ok (.aload_n 0, 1) := by decide +kernel
theorem dL_law_799 : decode cL_law 799 = .ok (.iload_n 3, 1) := by decide +kernel
theorem dL_law_800 : decode cL_law 800 = .ok (.iconst 1, 1) := by decide +kernel
theorem dL_law_801 : decode cL_law 801 = .ok (.iadd, 1) := by decide +kernel
theorem dL_law_802 : decode cL_law 802 = .ok (.iaload, 1) := by decide +kernel
theorem dL_law_803 : decode cL_law 803 = .ok (.invokevirtual 87, 3) := by decide +kernel
theorem dL_law_806 : decode cL_law 806 = .ok (.if_icmp .eq 370, 3) := by decide +kernel
theorem dL_law_809 : decode cL_law 809 = .ok (.iconst 0, 1) := by decide +kernel
theorem dL_law_810 : decode cL_law 810 = .ok (.ireturn, 1) := by decide +kernel
theorem dL_law_811 : decode cL_law 811 = .ok (.aload_n 1, 1) := by decide +kernel
theorem dL_law_812 : decode cL_law 812 = .ok (.aload_n 0, 1) := by decide +kernel
theorem dL_law_813 : decode cL_law 813 = .ok (.iload_n 3, 1) := by decide +kernel
theorem dL_law_814 : decode cL_law 814 = .ok (.iconst 1, 1) := by decide +kernel
theorem dL_law_815 : decode cL_law 815 = .ok (.iadd, 1) := by decide +kernel
theorem dL_law_816 : decode cL_law 816 = .ok (.iaload, 1) := by decide +kernel
theorem dL_law_817 : decode cL_law 817 = .ok (.invokevirtual 88, 3) := by decide +kernel
theorem dL_law_820 : decode cL_law 820 = .ok (.aload_n 2, 1) := by decide +kernel
theorem dL_law_821 : decode cL_law 821 = .ok (.aload_n 0, 1) := by decide +kernel
theorem dL_law_822 : decode cL_law 822 = .ok (.iload_n 3, 1) := by decide +kernel
theorem dL_law_823 : decode cL_law 823 = .ok (.iconst 1, 1) := by decide +kernel
theorem dL_law_824 : decode cL_law 824 = .ok (.iadd, 1) := by decide +kernel
theorem dL_law_825 : decode cL_law 825 = .ok (.iaload, 1) := by decide +kernel
theorem dL_law_826 : decode cL_law 826 = .ok (.invokevirtual 91, 3) := by decide +kernel
theorem dL_law_829 : decode cL_law 829 = .ok (.if_icmp .eq 347, 3) := by decide +kernel
theorem dL_law_832 : decode cL_law 832 = .ok (.iconst 0, 1) := by decide +kernel
theorem dL_law_833 : decode cL_law 833 = .ok (.ireturn, 1) := by decide +kernel
theorem dL_law_834 : decode cL_law 834 = .ok (.aload_n 1, 1) := by decide +kernel
theorem dL_law_835 : decode cL_law 835 = .ok (.aload_n 0, 1) := by decide +kernel
theorem dL_law_836 : decode cL_law 836 = .ok (.iload_n 3, 1) := by decide +kernel
theorem dL_law_837 : decode cL_law 837 = .ok (.iconst 1, 1) := by decide +kernel
theorem dL_law_838 : decode cL_law 838 = .ok (.iadd, 1) := by decide +kernel
theorem dL_law_839 : decode cL_law 839 = .ok (.iaload, 1) := by decide +kernel
theorem dL_law_840 : decode cL_law 840 = .ok (.invokevirtual 92, 3) := by decide +kernel
theorem dL_law_843 : decode cL_law 843 = .ok (.aload_n 2, 1) := by decide +kernel
theorem dL_law_844 : decode cL_law 844 = .ok (.aload_n 0, 1) := by decide +kernel
theorem dL_law_845 : decode cL_law 845 = .ok (.iload_n 3, 1) := by decide +kernel
theorem dL_law_846 : decode cL_law 846 = .ok (.iconst 1, 1) := by decide +kernel
theorem dL_law_847 : decode cL_law 847 = .ok (.iadd, 1) := by decide +kernel
theorem dL_law_848 : decode cL_law 848 = .ok (.iaload, 1) := by decide +kernel
theorem dL_law_849 : decode cL_law 849 = .ok (.invokevirtual 95, 3) := by decide +kernel
theorem dL_law_852 : decode cL_law 852 = .ok (.if_icmp .eq 324, 3) := by decide +kernel
theorem dL_law_855 : decode cL_law 855 = .ok (.iconst 0, 1) := by decide +kernel
theorem dL_law_856 : decode cL_law 856 = .ok (.ireturn, 1) := by decide +kernel
theorem dL_law_857 : decode cL_law 857 = .ok (.aload_n 1, 1) := by decide +kernel
theorem dL_law_858 : decode cL_law 858 = .ok (.aload_n 0, 1) := by decide +kernel
theorem dL_law_859 : decode cL_law 859 = .ok (.iload_n 3, 1) := by decide +kernel
theorem dL_law_860 : decode cL_law 860 = .ok (.iconst 1, 1) := by decide +kernel
theorem dL_law_861 : decode cL_law 861 = .ok (.iadd, 1) := by decide +kernel
theorem dL_law_862 : decode cL_law 862 = .ok (.iaload, 1) := by decide +kernel
theorem dL_law_863 : decode cL_law 863 = .ok (.invokevirtual 96, 3) := by decide +kernel
theorem dL_law_866 : decode cL_law 866 = .ok (.aload_n 2, 1) := by decide +kernel
theorem dL_law_867 : decode cL_law 867 = .ok (.aload_n 0, 1) := by decide +kernel
theorem dL_law_868 : decode cL_law 868 = .ok (.iload_n 3, 1) := by decide +kernel
theorem dL_law_869 : decode cL_law 869 = .ok (.iconst 1, 1) := by decide +kernel
theorem dL_law_870 : decode cL_law 870 = .ok (.iadd, 1) := by decide +kernel
theorem dL_law_871 : decode cL_law 871 = .ok (.iaload, 1) := by decide +kernel
theorem dL_law_872 : decode cL_law 872 = .ok (.invokevirtual 99, 3) := by decide +kernel
theorem dL_law_875 : decode cL_law 875 = .ok (.if_icmp .eq 301, 3) := by decide +kernel
theorem dL_law_878 : decode cL_law 878 = .ok (.iconst 0, 1) := by decide +kernel
theorem dL_law_879 : decode cL_law 879 = .ok (.ireturn, 1) := by decide +kernel
theorem dL_law_880 : decode cL_law 880 = .ok (.aload_n 1, 1) := by decide +kernel
theorem dL_law_881 : decode cL_law 881 = .ok (.aload_n 0, 1) := by decide +kernel
theorem dL_law_882 : decode cL_law 882 = .ok (.iload_n 3, 1) := by decide +kernel
theorem dL_law_883 : decode cL_law 883 = .ok (.iconst 1, 1) := by decide +kernel
theorem dL_law_884 : decode cL_law 884 = .ok (.iadd, 1) := by decide +kernel
theorem dL_law_885 : decode cL_law 885 = .ok (.iaload, 1) := by decide +kernel
theorem dL_law_886 : decode cL_law 886 = .ok (.aload_n 0, 1) := by decide +kernel
theorem dL_law_887 : decode cL_law 887 = .ok (.iload_n 3, 1) := by decide +kernel
theorem dL_law_888 : decode cL_law 888 = .ok (.iconst 2, 1) := by decide +kernel
theorem dL_law_889 : decode cL_law 889 = .ok (.iadd, 1) := by decide +kernel
theorem dL_law_890 : decode cL_law 890 = .ok (.iaload, 1) := by decide +kernel
theorem dL_law_891 : decode cL_law 891 = .ok (.aload_n 0, 1) := by decide +kernel
theorem dL_law_892 : decode cL_law 892 = .ok (.iload_n 3, 1) := by decide +kernel
theorem dL_law_893 : decode cL_law 893 = .ok (.iconst 3, 1) := by decide +kernel
theorem dL_law_894 : decode cL_law 894 = .ok (.iadd, 1) := by decide +kernel
theorem dL_law_895 : decode cL_law 895 = .ok (.iaload, 1) := by decide +kernel
theorem dL_law_896 : decode cL_law 896 = .ok (.invokevirtual 100, 3) := by decide +kernel
theorem dL_law_899 : decode cL_law 899 = .ok (.aload_n 2, 1) := by decide +kernel
theorem dL_law_900 : decode cL_law 900 = .ok (.aload_n 0, 1) := by decide +kernel
theorem dL_law_901 : decode cL_law 901 = .ok (.iload_n 3, 1) := by decide +kernel
theorem dL_law_902 : decode cL_law 902 = .ok (.iconst 1, 1) := by decide +kernel
theorem dL_law_903 : decode cL_law 903 = .ok (.iadd, 1) := by decide +kernel
theorem dL_law_904 : decode cL_law 904 = .ok (.iaload, 1) := by decide +kernel
theorem dL_law_905 : decode cL_law 905 = .ok (.aload_n 0, 1) := by decide +kernel
theorem dL_law_906 : decode cL_law 906 = .ok (.iload_n 3, 1) := by decide +kernel
theorem dL_law_907 : decode cL_law 907 = .ok (.iconst 2, 1) := by decide +kernel
theorem dL_law_908 : decode cL_law 908 = .ok (.iadd, 1) := by decide +kernel
theorem dL_law_909 : decode cL_law 909 = .ok (.iaload, 1) := by decide +kernel
theorem dL_law_910 : decode cL_law 910 = .ok (.aload_n 0, 1) := by decide +kernel
theorem dL_law_911 : decode cL_law 911 = .ok (.iload_n 3, 1) := by decide +kernel
theorem dL_law_912 : decode cL_law 912 = .ok (.iconst 3, 1) := by decide +kernel
theorem dL_law_913 : decode cL_law 913 = .ok (.iadd, 1) := by decide +kernel
theorem dL_law_914 : decode cL_law 914 = .ok (.iaload, 1) := by decide +kernel
theorem dL_law_915 : decode cL_law 915 = .ok (.invokevirtual 103, 3) := by decide +kernel
theorem dL_law_918 : decode cL_law 918 = .ok (.if_icmp .eq 258, 3) := by decide +kernel
theorem dL_law_921 : decode cL_law 921 = .ok (.iconst 0, 1) := by decide +kernel
theorem dL_law_922 : decode cL_law 922 = .ok (.ireturn, 1) := by decide +kernel
theorem dL_law_923 : decode cL_law 923 = .ok (.aload_n 1, 1) := by decide +kernel
theorem dL_law_924 : decode cL_law 924 = .ok (.aload_n 0, 1) := by decide +kernel
theorem dL_law_925 : decode cL_law 925 = .ok (.iload_n 3, 1) := by decide +kernel
theorem dL_law_926 : decode cL_law 926 = .ok (.iconst 1, 1) := by decide +kernel
theorem dL_law_927 : decode cL_law 927 = .ok (.iadd, 1) := by decide +kernel
theorem dL_law_928 : decode cL_law 928 = .ok (.iaload, 1) := by decide +kernel
theorem dL_law_929 : decode cL_law 929 = .ok (.aload_n 0, 1) := by decide +kernel
theorem dL_law_930 : decode cL_law 930 = .ok (.iload_n 3, 1) := by decide +kernel
theorem dL_law_931 : decode cL_law 931 = .ok (.iconst 2, 1) := by decide +kernel
theorem dL_law_932 : decode cL_law 932 = .ok (.iadd, 1) := by decide +kernel
theorem dL_law_933 : decode cL_law 933 = .ok (.iaload, 1) := by decide +kernel
theorem dL_law_934 : decode cL_law 934 = .ok (.ifCond .eq 7, 3) := by decide +kernel
theorem dL_law_937 : decode cL_law 937 = .ok (.iconst 1, 1) := by decide +kernel
theorem dL_law_938 : decode cL_law 938 = .ok (.goto 4, 3) := by decide +kernel
theorem dL_law_941 : decode cL_law 941 = .ok (.iconst 0, 1) := by decide +kernel
theorem dL_law_942 : decode cL_law 942 = .ok (.aload_n 0, 1) := by decide +kernel
theorem dL_law_943 : decode cL_law 943 = .ok (.iload_n 3, 1) := by decide +kernel
theorem dL_law_944 : decode cL_law 944 = .ok (.iconst 3, 1) := by decide +kernel
theorem dL_law_945 : decode cL_law 945 = .ok (.iadd, 1) := by decide +kernel
theorem dL_law_946 : decode cL_law 946 = .ok (.iaload, 1) := by decide +kernel
theorem dL_law_947 : decode cL_law 947 = .ok (.invokevirtual 104, 3) := by decide +kernel
theorem dL_law_950 : decode cL_law 950 = .ok (.aload_n 2, 1) := by decide +kernel
theorem dL_law_951 : decode cL_law 951 = .ok (.aload_n 0, 1) := by decide +kernel
theorem dL_law_952 : decode cL_law 952 = .ok (.iload_n 3, 1) := by decide +kernel
theorem dL_law_953 : decode cL_law 953 = .ok (.iconst 1, 1) := by decide +kernel
theorem dL_law_954 : decode cL_law 954 = .ok (.iadd, 1) := by decide +kernel
theorem dL_law_955 : decode cL_law 955 = .ok (.iaload, 1) := by decide +kernel
theorem dL_law_956 : decode cL_law 956 = .ok (.aload_n 0, 1) := by decide +kernel
theorem dL_law_957 : decode cL_law 957 = .ok (.iload_n 3, 1) := by decide +kernel
theorem dL_law_958 : decode cL_law 958 = .ok (.iconst 2, 1) := by decide +kernel
theorem dL_law_959 : decode cL_law 959 = .ok (.iadd, 1) := by decide +kernel
theorem dL_law_960 : decode cL_law 960 = .ok (.iaload, 1) := by decide +kernel
theorem dL_law_961 : decode cL_law 961 = .ok (.ifCond .eq 7, 3) := by decide +kernel
theorem dL_law_964 : decode cL_law 964 = .ok (.iconst 1, 1) := by decide +kernel
theorem dL_law_965 : decode cL_law 965 = .ok (.goto 4, 3) := by decide +kernel
theorem dL_law_968 : decode cL_law 968 = .ok (.iconst 0, 1) := by decide +kernel
theorem dL_law_969 : decode cL_law 969 = .ok (.aload_n 0, 1) := by decide +kernel
theorem dL_law_970 : decode cL_law 970 = .ok (.iload_n 3, 1) := by decide +kernel
theorem dL_law_971 : decode cL_law 971 = .ok (.iconst 3, 1) := by decide +kernel
theorem dL_law_972 : decode cL_law 972 = .ok (.iadd, 1) := by decide +kernel
theorem dL_law_973 : decode cL_law 973 = .ok (.iaload, 1) := by decide +kernel
theorem dL_law_974 : decode cL_law 974 = .ok (.invokevirtual 108, 3) := by decide +kernel
theorem dL_law_977 : decode cL_law 977 = .ok (.lcmp, 1) := by decide +kernel
theorem dL_law_978 : decode cL_law 978 = .ok (.ifCond .eq 198, 3) := by decide +kernel
theorem dL_law_981 : decode cL_law 981 = .ok (.iconst 0, 1) := by decide +kernel
theorem dL_law_982 : decode cL_law 982 = .ok (.ireturn, 1) := by decide +kernel
theorem dL_law_983 : decode cL_law 983 = .ok (.aload_n 1, 1) := by decide +kernel
theorem dL_law_984 : decode cL_law 984 = .ok (.aload_n 0, 1) := by decide +kernel
theorem dL_law_985 : decode cL_law 985 = .ok (.iload_n 3, 1) := by decide +kernel
theorem dL_law_986 : decode cL_law 986 = .ok (.iconst 1, 1) := by decide +kernel
theorem dL_law_987 : decode cL_law 987 = .ok (.iadd, 1) := by decide +kernel
theorem dL_law_988 : decode cL_law 988 = .ok (.iaload, 1) := by decide +kernel
theorem dL_law_989 : decode cL_law 989 = .ok (.aload_n 0, 1) := by decide +kernel
theorem dL_law_990 : decode cL_law 990 = .ok (.iload_n 3, 1) := by decide +kernel
theorem dL_law_991 : decode cL_law 991 = .ok (.iconst 2, 1) := by decide +kernel
theorem dL_law_992 : decode cL_law 992 = .ok (.iadd, 1) := by decide +kernel
theorem dL_law_993 : decode cL_law 993 = .ok (.iaload, 1) := by decide +kernel
theorem dL_law_994 : decode cL_law 994 = .ok (.invokevirtual 109, 3) := by decide +kernel
theorem dL_law_997 : decode cL_law 997 = .ok (.aload_n 2, 1) := by decide +kernel
theorem dL_law_998 : decode cL_law 998 = .ok (.aload_n 0, 1) := by decide +kernel
theorem dL_law_999 : decode cL_law 999 = .ok (.iload_n 3, 1) := by decide +kernel
theorem dL_law_1000 : decode cL_law 1000 = .ok (.iconst 1, 1) := by decide +kernel
theorem dL_law_1001 : decode cL_law 1001 = .ok (.iadd, 1) := by decide +kernel
theorem dL_law_1002 : decode cL_law 1002 = .ok (.iaload, 1) := by decide +kernel
theorem dL_law_1003 : decode cL_law 1003 = .ok (.aload_n 0, 1) := by decide +kernel
theorem dL_law_1004 : decode cL_law 1004 = .ok (.iload_n 3, 1) := by decide +kernel
theorem dL_law_1005 : decode cL_law 1005 = .ok (.iconst 2, 1) := by decide +kernel
theorem dL_law_1006 : decode cL_law 1006 = .ok (.iadd, 1) := by decide +kernel
theorem dL_law_1007 : decode cL_law 1007 = .ok (.iaload, 1) := by decide +kernel
theorem dL_law_1008 : decode cL_law 1008 = .ok (.invokevirtual 113, 3) := by decide +kernel
theorem dL_law_1011 : decode cL_law 1011 = .ok (.lcmp, 1) := by decide +kernel
theorem dL_law_1012 : decode cL_law 1012 = .ok (.ifCond .eq 164, 3) := by decide +kernel
theorem dL_law_1015 : decode cL_law 1015 = .ok (.iconst 0, 1) := by decide +kernel
theorem dL_law_1016 : decode cL_law 1016 = .ok (.ireturn, 1) := by decide +kernel
theorem dL_law_1017 : decode cL_law 1017 = .ok (.aload_n 1, 1) := by decide +kernel
theorem dL_law_1018 : decode cL_law 1018 = .ok (.aload_n 0, 1) := by decide +kernel
theorem dL_law_1019 : decode cL_law 1019 = .ok (.iload_n 3, 1) := by decide +kernel
theorem dL_law_1020 : decode cL_law 1020 = .ok (.iconst 1, 1) := by decide +kernel
theorem dL_law_1021 : decode cL_law 1021 = .ok (.iadd, 1) := by decide +kernel
theorem dL_law_1022 : decode cL_law 1022 = .ok (.iaload, 1) := by decide +kernel
theorem dL_law_1023 : decode cL_law 1023 = .ok (.aload_n 0, 1) := by decide +kernel
theorem dL_law_1024 : decode cL_law 1024 = .ok (.iload_n 3, 1) := by decide +kernel
theorem dL_law_1025 : decode cL_law 1025 = .ok (.iconst 2, 1) := by decide +kernel
theorem dL_law_1026 : decode cL_law 1026 = .ok (.iadd, 1) := by decide +kernel
theorem dL_law_1027 : decode cL_law 1027 = .ok (.iaload, 1) := by decide +kernel
theorem dL_law_1028 : decode cL_law 1028 = .ok (.invokevirtual 114, 3) := by decide +kernel
theorem dL_law_1031 : decode cL_law 1031 = .ok (.aload_n 2, 1) := by decide +kernel
theorem dL_law_1032 : decode cL_law 1032 = .ok (.aload_n 0, 1) := by decide +kernel
theorem dL_law_1033 : decode cL_law 1033 = .ok (.iload_n 3, 1) := by decide +kernel
theorem dL_law_1034 : decode cL_law 1034 = .ok (.iconst 1, 1) := by decide +kernel
theorem dL_law_1035 : decode cL_law 1035 = .ok (.iadd, 1) := by decide +kernel
theorem dL_law_1036 : decode cL_law 1036 = .ok (.iaload, 1) := by decide +kernel
theorem dL_law_1037 : decode cL_law 1037 = .ok (.aload_n 0, 1) := by decide +kernel
theorem dL_law_1038 : decode cL_law 1038 = .ok (.iload_n 3, 1) := by decide +kernel
theorem dL_law_1039 : decode cL_law 1039 = .ok (.iconst 2, 1) := by decide +kernel
theorem dL_law_1040 : decode cL_law 1040 = .ok (.iadd, 1) := by decide +kernel
theorem dL_law_1041 : decode cL_law 1041 = .ok (.iaload, 1) := by decide +kernel
theorem dL_law_1042 : decode cL_law 1042 = .ok (.invokevirtual 117, 3) := by decide +kernel
theorem dL_law_1045 : decode cL_law 1045 = .ok (.lcmp, 1) := by decide +kernel
theorem dL_law_1046 : decode cL_law 1046 = .ok (.ifCond .eq 130, 3) := by decide +kernel
theorem dL_law_1049 : decode cL_law 1049 = .ok (.iconst 0, 1) := by decide +kernel
theorem dL_law_1050 : decode cL_law 1050 = .ok (.ireturn, 1) := by decide +kernel
theorem dL_law_1051 : decode cL_law 1051 = .ok (.aload_n 1, 1) := by decide +kernel
theorem dL_law_1052 : decode cL_law 1052 = .ok (.aload_n 0, 1) := by decide +kernel
theorem dL_law_1053 : decode cL_law 1053 = .ok (.iload_n 3, 1) := by decide +kernel
theorem dL_law_1054 : decode cL_law 1054 = .ok (.iconst 1, 1) := by decide +kernel
theorem dL_law_1055 : decode cL_law 1055 = .ok (.iadd, 1) := by decide +kernel
theorem dL_law_1056 : decode cL_law 1056 = .ok (.iaload, 1) := by decide +kernel
theorem dL_law_1057 : decode cL_law 1057 = .ok (.invokevirtual 118, 3) := by decide +kernel
theorem dL_law_1060 : decode cL_law 1060 = .ok (.aload_n 2, 1) := by decide +kernel
theorem dL_law_1061 : decode cL_law 1061 = .ok (.aload_n 0, 1) := by decide +kernel
theorem dL_law_1062 : decode cL_law 1062 = .ok (.iload_n 3, 1) := by decide +kernel
theorem dL_law_1063 : decode cL_law 1063 = .ok (.iconst 1, 1) := by decide +kernel
theorem dL_law_1064 : decode cL_law 1064 = .ok (.iadd, 1) := by decide +kernel
theorem dL_law_1065 : decode cL_law 1065 = .ok (.iaload, 1) := by decide +kernel
theorem dL_law_1066 : decode cL_law 1066 = .ok (.invokevirtual 122, 3) := by decide +kernel
theorem dL_law_1069 : decode cL_law 1069 = .ok (.lcmp, 1) := by decide +kernel
theorem dL_law_1070 : decode cL_law 1070 = .ok (.ifCond .eq 106, 3) := by decide +kernel
theorem dL_law_1073 : decode cL_law 1073 = .ok (.iconst 0, 1) := by decide +kernel
theorem dL_law_1074 : decode cL_law 1074 = .ok (.ireturn, 1) := by decide +kernel
theorem dL_law_1075 : decode cL_law 1075 = .ok (.aload_n 1, 1) := by decide +kernel
theorem dL_law_1076 : decode cL_law 1076 = .ok (.aload_n 0, 1) := by decide +kernel
theorem dL_law_1077 : decode cL_law 1077 = .ok (.iload_n 3, 1) := by decide +kernel
theorem dL_law_1078 : decode cL_law 1078 = .ok (.iconst 1, 1) := by decide +kernel
theorem dL_law_1079 : decode cL_law 1079 = .ok (.iadd, 1) := by decide +kernel
theorem dL_law_1080 : decode cL_law 1080 = .ok (.iaload, 1) := by decide +kernel
theorem dL_law_1081 : decode cL_law 1081 = .ok (.aload_n 0, 1) := by decide +kernel
theorem dL_law_1082 : decode cL_law 1082 = .ok (.iload_n 3, 1) := by decide +kernel
theorem dL_law_1083 : decode cL_law 1083 = .ok (.iconst 2, 1) := by decide +kernel
theorem dL_law_1084 : decode cL_law 1084 = .ok (.iadd, 1) := by decide +kernel
theorem dL_law_1085 : decode cL_law 1085 = .ok (.iaload, 1) := by decide +kernel
theorem dL_law_1086 : decode cL_law 1086 = .ok (.aload_n 0, 1) := by decide +kernel
theorem dL_law_1087 : decode cL_law 1087 = .ok (.iload_n 3, 1) := by decide +kernel
theorem dL_law_1088 : decode cL_law 1088 = .ok (.iconst 3, 1) := by decide +kernel
theorem dL_law_1089 : decode cL_law 1089 = .ok (.iadd, 1) := by decide +kernel
theorem dL_law_1090 : decode cL_law 1090 = .ok (.iaload, 1) := by decide +kernel
theorem dL_law_1091 : decode cL_law 1091 = .ok (.invokevirtual 123, 3) := by decide +kernel
theorem dL_law_1094 : decode cL_law 1094 = .ok (.aload_n 2, 1) := by decide +kernel
theorem dL_law_1095 : decode cL_law 1095 = .ok (.aload_n 0, 1) := by decide +kernel
theorem dL_law_1096 : decode cL_law 1096 = .ok (.iload_n 3, 1) := by decide +kernel
theorem dL_law_1097 : decode cL_law 1097 = .ok (.iconst 1, 1) := by decide +kernel
theorem dL_law_1098 : decode cL_law 1098 = .ok (.iadd, 1) := by decide +kernel
theorem dL_law_1099 : decode cL_law 1099 = .ok (.iaload, 1) := by decide +kernel
theorem dL_law_1100 : decode cL_law 1100 = .ok (.aload_n 0, 1) := by decide +kernel
theorem dL_law_1101 : decode cL_law 1101 = .ok (.iload_n 3, 1) := by decide +kernel
theorem dL_law_1102 : decode cL_law 1102 = .ok (.iconst 2, 1) := by decide +kernel
theorem dL_law_1103 : decode cL_law 1103 = .ok (.iadd, 1) := by decide +kernel
theorem dL_law_1104 : decode cL_law 1104 = .ok (.iaload, 1) := by decide +kernel
theorem dL_law_1105 : decode cL_law 1105 = .ok (.aload_n 0, 1) := by decide +kernel
theorem dL_law_1106 : decode cL_law 1106 = .ok (.iload_n 3, 1) := by decide +kernel
theorem dL_law_1107 : decode cL_law 1107 = .ok (.iconst 3, 1) := by decide +kernel
theorem dL_law_1108 : decode cL_law 1108 = .ok (.iadd, 1) := by decide +kernel
theorem dL_law_1109 : decode cL_law 1109 = .ok (.iaload, 1) := by decide +kernel
theorem dL_law_1110 : decode cL_law 1110 = .ok (.invokevirtual 127, 3) := by decide +kernel
theorem dL_law_1113 : decode cL_law 1113 = .ok (.lcmp, 1) := by decide +kernel
theorem dL_law_1114 : decode cL_law 1114 = .ok (.ifCond .eq 62, 3) := by decide +kernel
theorem dL_law_1117 : decode cL_law 1117 = .ok (.iconst 0, 1) := by decide +kernel
theorem dL_law_1118 : decode cL_law 1118 = .ok (.ireturn, 1) := by decide +kernel
theorem dL_law_1119 : decode cL_law 1119 = .ok (.aload_n 1, 1) := by decide +kernel
theorem dL_law_1120 : decode cL_law 1120 = .ok (.aload_n 0, 1) := by decide +kernel
theorem dL_law_1121 : decode cL_law 1121 = .ok (.iload_n 3, 1) := by decide +kernel
theorem dL_law_1122 : decode cL_law 1122 = .ok (.iconst 1, 1) := by decide +kernel
theorem dL_law_1123 : decode cL_law 1123 = .ok (.iadd, 1) := by decide +kernel
theorem dL_law_1124 : decode cL_law 1124 = .ok (.iaload, 1) := by decide +kernel
theorem dL_law_1125 : decode cL_law 1125 = .ok (.aload_n 0, 1) := by decide +kernel
theorem dL_law_1126 : decode cL_law 1126 = .ok (.iload_n 3, 1) := by decide +kernel
theorem dL_law_1127 : decode cL_law 1127 = .ok (.iconst 2, 1) := by decide +kernel
theorem dL_law_1128 : decode cL_law 1128 = .ok (.iadd, 1) := by decide +kernel
theorem dL_law_1129 : decode cL_law 1129 = .ok (.iaload, 1) := by decide +kernel
theorem dL_law_1130 : decode cL_law 1130 = .ok (.invokevirtual 128, 3) := by decide +kernel
theorem dL_law_1133 : decode cL_law 1133 = .ok (.aload_n 2, 1) := by decide +kernel
theorem dL_law_1134 : decode cL_law 1134 = .ok (.aload_n 0, 1) := by decide +kernel
theorem dL_law_1135 : decode cL_law 1135 = .ok (.iload_n 3, 1) := by decide +kernel
theorem dL_law_1136 : decode cL_law 1136 = .ok (.iconst 1, 1) := by decide +kernel
theorem dL_law_1137 : decode cL_law 1137 = .ok (.iadd, 1) := by decide +kernel
theorem dL_law_1138 : decode cL_law 1138 = .ok (.iaload, 1) := by decide +kernel
theorem dL_law_1139 : decode cL_law 1139 = .ok (.aload_n 0, 1) := by decide +kernel
theorem dL_law_1140 : decode cL_law 1140 = .ok (.iload_n 3, 1) := by decide +kernel
theorem dL_law_1141 : decode cL_law 1141 = .ok (.iconst 2, 1) := by decide +kernel
theorem dL_law_1142 : decode cL_law 1142 = .ok (.iadd, 1) := by decide +kernel
theorem dL_law_1143 : decode cL_law 1143 = .ok (.iaload, 1) := by decide +kernel
theorem dL_law_1144 : decode cL_law 1144 = .ok (.invokevirtual 131, 3) := by decide +kernel
theorem dL_law_1147 : decode cL_law 1147 = .ok (.lcmp, 1) := by decide +kernel
theorem dL_law_1148 : decode cL_law 1148 = .ok (.ifCond .eq 28, 3) := by decide +kernel
theorem dL_law_1151 : decode cL_law 1151 = .ok (.iconst 0, 1) := by decide +kernel
theorem dL_law_1152 : decode cL_law 1152 = .ok (.ireturn, 1) := by decide +kernel
theorem dL_law_1153 : decode cL_law 1153 = .ok (.aload_n 1, 1) := by decide +kernel
theorem dL_law_1154 : decode cL_law 1154 = .ok (.aload_n 0, 1) := by decide +kernel
theorem dL_law_1155 : decode cL_law 1155 = .ok (.iload_n 3, 1) := by decide +kernel
theorem dL_law_1156 : decode cL_law 1156 = .ok (.iconst 1, 1) := by decide +kernel
theorem dL_law_1157 : decode cL_law 1157 = .ok (.iadd, 1) := by decide +kernel
theorem dL_law_1158 : decode cL_law 1158 = .ok (.iaload, 1) := by decide +kernel
theorem dL_law_1159 : decode cL_law 1159 = .ok (.invokevirtual 132, 3) := by decide +kernel
theorem dL_law_1162 : decode cL_law 1162 = .ok (.aload_n 2, 1) := by decide +kernel
theorem dL_law_1163 : decode cL_law 1163 = .ok (.aload_n 0, 1) := by decide +kernel
theorem dL_law_1164 : decode cL_law 1164 = .ok (.iload_n 3, 1) := by decide +kernel
theorem dL_law_1165 : decode cL_law 1165 = .ok (.iconst 1, 1) := by decide +kernel
theorem dL_law_1166 : decode cL_law 1166 = .ok (.iadd, 1) := by decide +kernel
theorem dL_law_1167 : decode cL_law 1167 = .ok (.iaload, 1) := by decide +kernel
theorem dL_law_1168 : decode cL_law 1168 = .ok (.invokevirtual 135, 3) := by decide +kernel
theorem dL_law_1171 : decode cL_law 1171 = .ok (.if_icmp .eq 5, 3) := by decide +kernel
theorem dL_law_1174 : decode cL_law 1174 = .ok (.iconst 0, 1) := by decide +kernel
theorem dL_law_1175 : decode cL_law 1175 = .ok (.ireturn, 1) := by decide +kernel
theorem dL_law_1176 : decode cL_law 1176 = .ok (.iinc 3 5, 3) := by decide +kernel
theorem dL_law_1179 : decode cL_law 1179 = .ok (.goto (-1161), 3) := by decide +kernel
theorem dL_law_1182 : decode cL_law 1182 = .ok (.iconst 1, 1) := by decide +kernel
theorem dL_law_1183 : decode cL_law 1183 = .ok (.ireturn, 1) := by decide +kernel
