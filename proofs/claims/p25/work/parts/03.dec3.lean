theorem dL_refused_367 : decode cL_refused 367 = .ok (.goto 4, 3) := by decide +kernel
theorem dL_refused_370 : decode cL_refused 370 = .ok (.iconst 0, 1) := by decide +kernel
theorem dL_refused_371 : decode cL_refused 371 = .ok (.istore 5, 2) := by decide +kernel
theorem dL_refused_373 : decode cL_refused 373 = .ok (.iload 5, 2) := by decide +kernel
theorem dL_refused_375 : decode cL_refused 375 = .ok (.ifCond .eq 26, 3) := by decide +kernel
theorem dL_refused_378 : decode cL_refused 378 = .ok (.aload_n 0, 1) := by decide +kernel
theorem dL_refused_379 : decode cL_refused 379 = .ok (.invokestatic 33, 3) := by decide +kernel
theorem dL_refused_382 : decode cL_refused 382 = .ok (.lload_n 1, 1) := by decide +kernel
theorem dL_refused_383 : decode cL_refused 383 = .ok (.lcmp, 1) := by decide +kernel
theorem dL_refused_384 : decode cL_refused 384 = .ok (.ifCond .ne 17, 3) := by decide +kernel
theorem dL_refused_387 : decode cL_refused 387 = .ok (.aload_n 0, 1) := by decide +kernel
theorem dL_refused_388 : decode cL_refused 388 = .ok (.bipush 21, 2) := by decide +kernel
theorem dL_refused_390 : decode cL_refused 390 = .ok (.invokevirtual 13, 3) := by decide +kernel
theorem dL_refused_393 : decode cL_refused 393 = .ok (.iload_n 3, 1) := by decide +kernel
theorem dL_refused_394 : decode cL_refused 394 = .ok (.if_icmp .ne 7, 3) := by decide +kernel
theorem dL_refused_397 : decode cL_refused 397 = .ok (.iconst 1, 1) := by decide +kernel
theorem dL_refused_398 : decode cL_refused 398 = .ok (.goto 4, 3) := by decide +kernel
theorem dL_refused_401 : decode cL_refused 401 = .ok (.iconst 0, 1) := by decide +kernel
theorem dL_refused_402 : decode cL_refused 402 = .ok (.ireturn, 1) := by decide +kernel
theorem dL_size_0 : decode cL_size 0 = .ok (.iload_n 0, 1) := by decide +kernel
theorem dL_size_1 : decode cL_size 1 = .ok (.ifCond .ge 8, 3) := by decide +kernel
theorem dL_size_4 : decode cL_size 4 = .ok (.iload_n 0, 1) := by decide +kernel
theorem dL_size_5 : decode cL_size 5 = .ok (.ineg, 1) := by decide +kernel
theorem dL_size_6 : decode cL_size 6 = .ok (.goto 4, 3) := by decide +kernel
theorem dL_size_9 : decode cL_size 9 = .ok (.iload_n 0, 1) := by decide +kernel
theorem dL_size_10 : decode cL_size 10 = .ok (.ireturn, 1) := by decide +kernel
theorem dL_areLayers_0 : decode cL_areLayers 0 = .ok (.iconst 0, 1) := by decide +kernel
theorem dL_areLayers_1 : decode cL_areLayers 1 = .ok (.istore_n 1, 1) := by decide +kernel
theorem dL_areLayers_2 : decode cL_areLayers 2 = .ok (.iconst 0, 1) := by decide +kernel
theorem dL_areLayers_3 : decode cL_areLayers 3 = .ok (.istore_n 2, 1) := by decide +kernel
theorem dL_areLayers_4 : decode cL_areLayers 4 = .ok (.iconst 0, 1) := by decide +kernel
theorem dL_areLayers_5 : decode cL_areLayers 5 = .ok (.istore_n 3, 1) := by decide +kernel
theorem dL_areLayers_6 : decode cL_areLayers 6 = .ok (.aload_n 0, 1) := by decide +kernel
theorem dL_areLayers_7 : decode cL_areLayers 7 = .ok (.iconst 1, 1) := by decide +kernel
theorem dL_areLayers_8 : decode cL_areLayers 8 = .ok (.invokevirtual 13, 3) := by decide +kernel
theorem dL_areLayers_11 : decode cL_areLayers 11 = .ok (.aload_n 0, 1) := by decide +kernel
theorem dL_areLayers_12 : decode cL_areLayers 12 = .ok (.bipush 13, 2) := by decide +kernel
theorem dL_areLayers_14 : decode cL_areLayers 14 = .ok (.invokevirtual 13, 3) := by decide +kernel
theorem dL_areLayers_17 : decode cL_areLayers 17 = .ok (.aload_n 0, 1) := by decide +kernel
theorem dL_areLayers_18 : decode cL_areLayers 18 = .ok (.bipush 14, 2) := by decide +kernel
theorem dL_areLayers_20 : decode cL_areLayers 20 = .ok (.invokevirtual 13, 3) := by decide +kernel
theorem dL_areLayers_23 : decode cL_areLayers 23 = .ok (.isub, 1) := by decide +kernel
theorem dL_areLayers_24 : decode cL_areLayers 24 = .ok (.if_icmp .ne 67, 3) := by decide +kernel
theorem dL_areLayers_27 : decode cL_areLayers 27 = .ok (.aload_n 0, 1) := by decide +kernel
theorem dL_areLayers_28 : decode cL_areLayers 28 = .ok (.iconst 1, 1) := by decide +kernel
theorem dL_areLayers_29 : decode cL_areLayers 29 = .ok (.invokevirtual 13, 3) := by decide +kernel
theorem dL_areLayers_32 : decode cL_areLayers 32 = .ok (.aload_n 0, 1) := by decide +kernel
theorem dL_areLayers_33 : decode cL_areLayers 33 = .ok (.iconst 2, 1) := by decide +kernel
theorem dL_areLayers_34 : decode cL_areLayers 34 = .ok (.invokevirtual 13, 3) := by decide +kernel
theorem dL_areLayers_37 : decode cL_areLayers 37 = .ok (.aload_n 0, 1) := by decide +kernel
theorem dL_areLayers_38 : decode cL_areLayers 38 = .ok (.iconst 3, 1) := by decide +kernel
theorem dL_areLayers_39 : decode cL_areLayers 39 = .ok (.invokevirtual 13, 3) := by decide +kernel
theorem dL_areLayers_42 : decode cL_areLayers 42 = .ok (.iadd, 1) := by decide +kernel
theorem dL_areLayers_43 : decode cL_areLayers 43 = .ok (.aload_n 0, 1) := by decide +kernel
theorem dL_areLayers_44 : decode cL_areLayers 44 = .ok (.iconst 4, 1) := by decide +kernel
theorem dL_areLayers_45 : decode cL_areLayers 45 = .ok (.invokevirtual 13, 3) := by decide +kernel
theorem dL_areLayers_48 : decode cL_areLayers 48 = .ok (.iadd, 1) := by decide +kernel
theorem dL_areLayers_49 : decode cL_areLayers 49 = .ok (.aload_n 0, 1) := by decide +kernel
theorem dL_areLayers_50 : decode cL_areLayers 50 = .ok (.iconst 5, 1) := by decide +kernel
theorem dL_areLayers_51 : decode cL_areLayers 51 = .ok (.invokevirtual 13, 3) := by decide +kernel
theorem dL_areLayers_54 : decode cL_areLayers 54 = .ok (.iadd, 1) := by decide +kernel
theorem dL_areLayers_55 : decode cL_areLayers 55 = .ok (.aload_n 0, 1) := by decide +kernel
theorem dL_areLayers_56 : decode cL_areLayers 56 = .ok (.bipush 6, 2) := by decide +kernel
theorem dL_areLayers_58 : decode cL_areLayers 58 = .ok (.invokevirtual 13, 3) := by decide +kernel
theorem dL_areLayers_61 : decode cL_areLayers 61 = .ok (.iadd, 1) := by decide +kernel
theorem dL_areLayers_62 : decode cL_areLayers 62 = .ok (.if_icmp .ne 29, 3) := by decide +kernel
theorem dL_areLayers_65 : decode cL_areLayers 65 = .ok (.aload_n 0, 1) := by decide +kernel
theorem dL_areLayers_66 : decode cL_areLayers 66 = .ok (.bipush 18, 2) := by decide +kernel
theorem dL_areLayers_68 : decode cL_areLayers 68 = .ok (.invokevirtual 13, 3) := by decide +kernel
theorem dL_areLayers_71 : decode cL_areLayers 71 = .ok (.aload_n 0, 1) := by decide +kernel
theorem dL_areLayers_72 : decode cL_areLayers 72 = .ok (.bipush 19, 2) := by decide +kernel
theorem dL_areLayers_74 : decode cL_areLayers 74 = .ok (.invokevirtual 13, 3) := by decide +kernel
theorem dL_areLayers_77 : decode cL_areLayers 77 = .ok (.isub, 1) := by decide +kernel
theorem dL_areLayers_78 : decode cL_areLayers 78 = .ok (.aload_n 0, 1) := by decide +kernel
theorem dL_areLayers_79 : decode cL_areLayers 79 = .ok (.bipush 7, 2) := by decide +kernel
theorem dL_areLayers_81 : decode cL_areLayers 81 = .ok (.invokevirtual 13, 3) := by decide +kernel
theorem dL_areLayers_84 : decode cL_areLayers 84 = .ok (.if_icmp .lt 7, 3) := by decide +kernel
theorem dL_areLayers_87 : decode cL_areLayers 87 = .ok (.iconst 1, 1) := by decide +kernel
theorem dL_areLayers_88 : decode cL_areLayers 88 = .ok (.goto 4, 3) := by decide +kernel
theorem dL_areLayers_91 : decode cL_areLayers 91 = .ok (.iconst 0, 1) := by decide +kernel
theorem dL_areLayers_92 : decode cL_areLayers 92 = .ok (.istore 4, 2) := by decide +kernel
theorem dL_areLayers_94 : decode cL_areLayers 94 = .ok (.iconst 0, 1) := by decide +kernel
theorem dL_areLayers_95 : decode cL_areLayers 95 = .ok (.istore 5, 2) := by decide +kernel
theorem dL_areLayers_97 : decode cL_areLayers 97 = .ok (.iload 5, 2) := by decide +kernel
theorem dL_areLayers_99 : decode cL_areLayers 99 = .ok (.bipush 7, 2) := by decide +kernel
theorem dL_areLayers_101 : decode cL_areLayers 101 = .ok (.if_icmp .ge 407, 3) := by decide +kernel
theorem dL_areLayers_104 : decode cL_areLayers 104 = .ok (.iload 4, 2) := by decide +kernel
theorem dL_areLayers_106 : decode cL_areLayers 106 = .ok (.ifCond .eq 402, 3) := by decide +kernel
theorem dL_areLayers_109 : decode cL_areLayers 109 = .ok (.aload_n 0, 1) := by decide +kernel
theorem dL_areLayers_110 : decode cL_areLayers 110 = .ok (.iload 5, 2) := by decide +kernel
theorem dL_areLayers_112 : decode cL_areLayers 112 = .ok (.iconst 0, 1) := by decide +kernel
theorem dL_areLayers_113 : decode cL_areLayers 113 = .ok (.invokevirtual 23, 3) := by decide +kernel
theorem dL_areLayers_116 : decode cL_areLayers 116 = .ok (.istore 6, 2) := by decide +kernel
theorem dL_areLayers_118 : decode cL_areLayers 118 = .ok (.iconst 0, 1) := by decide +kernel
theorem dL_areLayers_119 : decode cL_areLayers 119 = .ok (.istore 7, 2) := by decide +kernel
theorem dL_areLayers_121 : decode cL_areLayers 121 = .ok (.iload_n 1, 1) := by decide +kernel
theorem dL_areLayers_122 : decode cL_areLayers 122 = .ok (.iload 6, 2) := by decide +kernel
theorem dL_areLayers_124 : decode cL_areLayers 124 = .ok (.iadd, 1) := by decide +kernel
theorem dL_areLayers_125 : decode cL_areLayers 125 = .ok (.istore_n 1, 1) := by decide +kernel
theorem dL_areLayers_126 : decode cL_areLayers 126 = .ok (.iconst 0, 1) := by decide +kernel
theorem dL_areLayers_127 : decode cL_areLayers 127 = .ok (.istore 8, 2) := by decide +kernel
theorem dL_areLayers_129 : decode cL_areLayers 129 = .ok (.iload 8, 2) := by decide +kernel
theorem dL_areLayers_131 : decode cL_areLayers 131 = .ok (.iload 6, 2) := by decide +kernel
theorem dL_areLayers_133 : decode cL_areLayers 133 = .ok (.if_icmp .ge 195, 3) := by decide +kernel
theorem dL_areLayers_136 : decode cL_areLayers 136 = .ok (.iload 4, 2) := by decide +kernel
theorem dL_areLayers_138 : decode cL_areLayers 138 = .ok (.ifCond .eq 190, 3) := by decide +kernel
theorem dL_areLayers_141 : decode cL_areLayers 141 = .ok (.aload_n 0, 1) := by decide +kernel
theorem dL_areLayers_142 : decode cL_areLayers 142 = .ok (.iload 5, 2) := by decide +kernel
theorem dL_areLayers_144 : decode cL_areLayers 144 = .ok (.iload 8, 2) := by decide +kernel
theorem dL_areLayers_146 : decode cL_areLayers 146 = .ok (.iconst 1, 1) := by decide +kernel
theorem dL_areLayers_147 : decode cL_areLayers 147 = .ok (.invokevirtual 19, 3) := by decide +kernel
theorem dL_areLayers_150 : decode cL_areLayers 150 = .ok (.istore 9, 2) := by decide +kernel
theorem dL_areLayers_152 : decode cL_areLayers 152 = .ok (.iload 7, 2) := by decide +kernel
theorem dL_areLayers_154 : decode cL_areLayers 154 = .ok (.iload 9, 2) := by decide +kernel
theorem dL_areLayers_156 : decode cL_areLayers 156 = .ok (.iconst 2, 1) := by decide +kernel
theorem dL_areLayers_157 : decode cL_areLayers 157 = .ok (.if_icmp .eq 9, 3) := by decide +kernel
theorem dL_areLayers_160 : decode cL_areLayers 160 = .ok (.iload 9, 2) := by decide +kernel
theorem dL_areLayers_162 : decode cL_areLayers 162 = .ok (.iconst 3, 1) := by decide +kernel
theorem dL_areLayers_163 : decode cL_areLayers 163 = .ok (.if_icmp .ne 20, 3) := by decide +kernel
theorem dL_areLayers_166 : decode cL_areLayers 166 = .ok (.aload_n 0, 1) := by decide +kernel
theorem dL_areLayers_167 : decode cL_areLayers 167 = .ok (.aload_n 0, 1) := by decide +kernel
theorem dL_areLayers_168 : decode cL_areLayers 168 = .ok (.iload 5, 2) := by decide +kernel
theorem dL_areLayers_170 : decode cL_areLayers 170 = .ok (.iload 8, 2) := by decide +kernel
theorem dL_areLayers_172 : decode cL_areLayers 172 = .ok (.iconst 0, 1) := by decide +kernel
theorem dL_areLayers_173 : decode cL_areLayers 173 = .ok (.invokevirtual 19, 3) := by decide +kernel
theorem dL_areLayers_176 : decode cL_areLayers 176 = .ok (.iconst 3, 1) := by decide +kernel
theorem dL_areLayers_177 : decode cL_areLayers 177 = .ok (.invokevirtual 30, 3) := by decide +kernel
theorem dL_areLayers_180 : decode cL_areLayers 180 = .ok (.goto 4, 3) := by decide +kernel
theorem dL_areLayers_183 : decode cL_areLayers 183 = .ok (.iconst 0, 1) := by decide +kernel
theorem dL_areLayers_184 : decode cL_areLayers 184 = .ok (.iadd, 1) := by decide +kernel
theorem dL_areLayers_185 : decode cL_areLayers 185 = .ok (.istore 7, 2) := by decide +kernel
theorem dL_areLayers_187 : decode cL_areLayers 187 = .ok (.iload 9, 2) := by decide +kernel
theorem dL_areLayers_189 : decode cL_areLayers 189 = .ok (.ifCond .lt 130, 3) := by decide +kernel
theorem dL_areLayers_192 : decode cL_areLayers 192 = .ok (.iload 9, 2) := by decide +kernel
theorem dL_areLayers_194 : decode cL_areLayers 194 = .ok (.iconst 5, 1) := by decide +kernel
theorem dL_areLayers_195 : decode cL_areLayers 195 = .ok (.if_icmp .ge 124, 3) := by decide +kernel
theorem dL_areLayers_198 : decode cL_areLayers 198 = .ok (.iload 9, 2) := by decide +kernel
theorem dL_areLayers_200 : decode cL_areLayers 200 = .ok (.ifCond .gt 12, 3) := by decide +kernel
theorem dL_areLayers_203 : decode cL_areLayers 203 = .ok (.iload 8, 2) := by decide +kernel
theorem dL_areLayers_205 : decode cL_areLayers 205 = .ok (.iload 6, 2) := by decide +kernel
theorem dL_areLayers_207 : decode cL_areLayers 207 = .ok (.iconst 1, 1) := by decide +kernel
theorem dL_areLayers_208 : decode cL_areLayers 208 = .ok (.isub, 1) := by decide +kernel
theorem dL_areLayers_209 : decode cL_areLayers 209 = .ok (.if_icmp .ne 110, 3) := by decide +kernel
theorem dL_areLayers_212 : decode cL_areLayers 212 = .ok (.aload_n 0, 1) := by decide +kernel
theorem dL_areLayers_213 : decode cL_areLayers 213 = .ok (.iload 5, 2) := by decide +kernel
theorem dL_areLayers_215 : decode cL_areLayers 215 = .ok (.iload 8, 2) := by decide +kernel
theorem dL_areLayers_217 : decode cL_areLayers 217 = .ok (.iconst 2, 1) := by decide +kernel
theorem dL_areLayers_218 : decode cL_areLayers 218 = .ok (.invokevirtual 19, 3) := by decide +kernel
theorem dL_areLayers_221 : decode cL_areLayers 221 = .ok (.ifCond .lt 98, 3) := by decide +kernel
theorem dL_areLayers_224 : decode cL_areLayers 224 = .ok (.iload 9, 2) := by decide +kernel
theorem dL_areLayers_226 : decode cL_areLayers 226 = .ok (.iconst 2, 1) := by decide +kernel
theorem dL_areLayers_227 : decode cL_areLayers 227 = .ok (.if_icmp .ne 16, 3) := by decide +kernel
theorem dL_areLayers_230 : decode cL_areLayers 230 = .ok (.aload_n 0, 1) := by decide +kernel
theorem dL_areLayers_231 : decode cL_areLayers 231 = .ok (.iload 5, 2) := by decide +kernel
theorem dL_areLayers_233 : decode cL_areLayers 233 = .ok (.iload 8, 2) := by decide +kernel
theorem dL_areLayers_235 : decode cL_areLayers 235 = .ok (.iconst 2, 1) := by decide +kernel
theorem dL_areLayers_236 : decode cL_areLayers 236 = .ok (.invokevirtual 19, 3) := by decide +kernel
theorem dL_areLayers_239 : decode cL_areLayers 239 = .ok (.iconst 5, 1) := by decide +kernel
theorem dL_areLayers_240 : decode cL_areLayers 240 = .ok (.if_icmp .gt 79, 3) := by decide +kernel
theorem dL_areLayers_243 : decode cL_areLayers 243 = .ok (.iload 9, 2) := by decide +kernel
theorem dL_areLayers_245 : decode cL_areLayers 245 = .ok (.iconst 1, 1) := by decide +kernel
theorem dL_areLayers_246 : decode cL_areLayers 246 = .ok (.if_icmp .gt 15, 3) := by decide +kernel
theorem dL_areLayers_249 : decode cL_areLayers 249 = .ok (.aload_n 0, 1) := by decide +kernel
theorem dL_areLayers_250 : decode cL_areLayers 250 = .ok (.iload 5, 2) := by decide +kernel
theorem dL_areLayers_252 : decode cL_areLayers 252 = .ok (.iload 8, 2) := by decide +kernel
theorem dL_areLayers_254 : decode cL_areLayers 254 = .ok (.iconst 2, 1) := by decide +kernel
theorem dL_areLayers_255 : decode cL_areLayers 255 = .ok (.invokevirtual 19, 3) := by decide +kernel
theorem dL_areLayers_258 : decode cL_areLayers 258 = .ok (.ifCond .ne 61, 3) := by decide +kernel
theorem dL_areLayers_261 : decode cL_areLayers 261 = .ok (.aload_n 0, 1) := by decide +kernel
theorem dL_areLayers_262 : decode cL_areLayers 262 = .ok (.iload 5, 2) := by decide +kernel
theorem dL_areLayers_264 : decode cL_areLayers 264 = .ok (.iconst 4, 1) := by decide +kernel
theorem dL_areLayers_265 : decode cL_areLayers 265 = .ok (.invokevirtual 23, 3) := by decide +kernel
theorem dL_areLayers_268 : decode cL_areLayers 268 = .ok (.aload_n 0, 1) := by decide +kernel
theorem dL_areLayers_269 : decode cL_areLayers 269 = .ok (.aload_n 0, 1) := by decide +kernel
theorem dL_areLayers_270 : decode cL_areLayers 270 = .ok (.iload 5, 2) := by decide +kernel
theorem dL_areLayers_272 : decode cL_areLayers 272 = .ok (.iload 8, 2) := by decide +kernel
theorem dL_areLayers_274 : decode cL_areLayers 274 = .ok (.iconst 0, 1) := by decide +kernel
theorem dL_areLayers_275 : decode cL_areLayers 275 = .ok (.invokevirtual 19, 3) := by decide +kernel
theorem dL_areLayers_278 : decode cL_areLayers 278 = .ok (.iconst 0, 1) := by decide +kernel
theorem dL_areLayers_279 : decode cL_areLayers 279 = .ok (.invokevirtual 30, 3) := by decide +kernel
theorem dL_areLayers_282 : decode cL_areLayers 282 = .ok (.if_icmp .lt 37, 3) := by decide +kernel
theorem dL_areLayers_285 : decode cL_areLayers 285 = .ok (.iload 9, 2) := by decide +kernel
theorem dL_areLayers_287 : decode cL_areLayers 287 = .ok (.iconst 4, 1) := by decide +kernel
theorem dL_areLayers_288 : decode cL_areLayers 288 = .ok (.if_icmp .eq 27, 3) := by decide +kernel
theorem dL_areLayers_291 : decode cL_areLayers 291 = .ok (.aload_n 0, 1) := by decide +kernel
theorem dL_areLayers_292 : decode cL_areLayers 292 = .ok (.iload 5, 2) := by decide +kernel
theorem dL_areLayers_294 : decode cL_areLayers 294 = .ok (.iconst 5, 1) := by decide +kernel
theorem dL_areLayers_295 : decode cL_areLayers 295 = .ok (.invokevirtual 23, 3) := by decide +kernel
theorem dL_areLayers_298 : decode cL_areLayers 298 = .ok (.aload_n 0, 1) := by decide +kernel
theorem dL_areLayers_299 : decode cL_areLayers 299 = .ok (.aload_n 0, 1) := by decide +kernel
theorem dL_areLayers_300 : decode cL_areLayers 300 = .ok (.iload 5, 2) := by decide +kernel
theorem dL_areLayers_302 : decode cL_areLayers 302 = .ok (.iload 8, 2) := by decide +kernel
theorem dL_areLayers_304 : decode cL_areLayers 304 = .ok (.iconst 0, 1) := by decide +kernel
theorem dL_areLayers_305 : decode cL_areLayers 305 = .ok (.invokevirtual 19, 3) := by decide +kernel
theorem dL_areLayers_308 : decode cL_areLayers 308 = .ok (.iconst 1, 1) := by decide +kernel
theorem dL_areLayers_309 : decode cL_areLayers 309 = .ok (.invokevirtual 30, 3) := by decide +kernel
theorem dL_areLayers_312 : decode cL_areLayers 312 = .ok (.if_icmp .gt 7, 3) := by decide +kernel
theorem dL_areLayers_315 : decode cL_areLayers 315 = .ok (.iconst 1, 1) := by decide +kernel
theorem dL_areLayers_316 : decode cL_areLayers 316 = .ok (.goto 4, 3) := by decide +kernel
theorem dL_areLayers_319 : decode cL_areLayers 319 = .ok (.iconst 0, 1) := by decide +kernel
theorem dL_areLayers_320 : decode cL_areLayers 320 = .ok (.istore 4, 2) := by decide +kernel
theorem dL_areLayers_322 : decode cL_areLayers 322 = .ok (.iinc 8 1, 3) := by decide +kernel
theorem dL_areLayers_325 : decode cL_areLayers 325 = .ok (.goto (-196), 3) := by decide +kernel
theorem dL_areLayers_328 : decode cL_areLayers 328 = .ok (.iload 4, 2) := by decide +kernel
theorem dL_areLayers_330 : decode cL_areLayers 330 = .ok (.ifCond .eq 68, 3) := by decide +kernel
theorem dL_areLayers_333 : decode cL_areLayers 333 = .ok (.iload 6, 2) := by decide +kernel
theorem dL_areLayers_335 : decode cL_areLayers 335 = .ok (.iconst 3, 1) := by decide +kernel
theorem dL_areLayers_336 : decode cL_areLayers 336 = .ok (.if_icmp .gt 62, 3) := by decide +kernel
theorem dL_areLayers_339 : decode cL_areLayers 339 = .ok (.aload_n 0, 1) := by decide +kernel
theorem dL_areLayers_340 : decode cL_areLayers 340 = .ok (.iload 5, 2) := by decide +kernel
theorem dL_areLayers_342 : decode cL_areLayers 342 = .ok (.iload 6, 2) := by decide +kernel
theorem dL_areLayers_344 : decode cL_areLayers 344 = .ok (.iconst 0, 1) := by decide +kernel
theorem dL_areLayers_345 : decode cL_areLayers 345 = .ok (.invokevirtual 19, 3) := by decide +kernel
theorem dL_areLayers_348 : decode cL_areLayers 348 = .ok (.bipush (-4), 2) := by decide +kernel
theorem dL_areLayers_350 : decode cL_areLayers 350 = .ok (.if_icmp .ne 48, 3) := by decide +kernel
theorem dL_areLayers_353 : decode cL_areLayers 353 = .ok (.aload_n 0, 1) := by decide +kernel
theorem dL_areLayers_354 : decode cL_areLayers 354 = .ok (.iload 5, 2) := by decide +kernel
theorem dL_areLayers_356 : decode cL_areLayers 356 = .ok (.iconst 1, 1) := by decide +kernel
theorem dL_areLayers_357 : decode cL_areLayers 357 = .ok (.invokevirtual 23, 3) := by decide +kernel
theorem dL_areLayers_360 : decode cL_areLayers 360 = .ok (.iload 7, 2) := by decide +kernel
theorem dL_areLayers_362 : decode cL_areLayers 362 = .ok (.if_icmp .ne 36, 3) := by decide +kernel
theorem dL_areLayers_365 : decode cL_areLayers 365 = .ok (.iload 6, 2) := by decide +kernel
theorem dL_areLayers_367 : decode cL_areLayers 367 = .ok (.ifCond .gt 27, 3) := by decide +kernel
theorem dL_areLayers_370 : decode cL_areLayers 370 = .ok (.aload_n 0, 1) := by decide +kernel
theorem dL_areLayers_371 : decode cL_areLayers 371 = .ok (.iload 5, 2) := by decide +kernel
theorem dL_areLayers_373 : decode cL_areLayers 373 = .ok (.iconst 4, 1) := by decide +kernel
theorem dL_areLayers_374 : decode cL_areLayers 374 = .ok (.invokevirtual 23, 3) := by decide +kernel
theorem dL_areLayers_377 : decode cL_areLayers 377 = .ok (.bipush (-4), 2) := by decide +kernel
theorem dL_areLayers_379 : decode cL_areLayers 379 = .ok (.if_icmp .ne 19, 3) := by decide +kernel
theorem dL_areLayers_382 : decode cL_areLayers 382 = .ok (.aload_n 0, 1) := by decide +kernel
theorem dL_areLayers_383 : decode cL_areLayers 383 = .ok (.iload 5, 2) := by decide +kernel
theorem dL_areLayers_385 : decode cL_areLayers 385 = .ok (.iconst 5, 1) := by decide +kernel
theorem dL_areLayers_386 : decode cL_areLayers 386 = .ok (.invokevirtual 23, 3) := by decide +kernel
theorem dL_areLayers_389 : decode cL_areLayers 389 = .ok (.bipush (-4), 2) := by decide +kernel
theorem dL_areLayers_391 : decode cL_areLayers 391 = .ok (.if_icmp .ne 7, 3) := by decide +kernel
theorem dL_areLayers_394 : decode cL_areLayers 394 = .ok (.iconst 1, 1) := by decide +kernel
theorem dL_areLayers_395 : decode cL_areLayers 395 = .ok (.goto 4, 3) := by decide +kernel
theorem dL_areLayers_398 : decode cL_areLayers 398 = .ok (.iconst 0, 1) := by decide +kernel
theorem dL_areLayers_399 : decode cL_areLayers 399 = .ok (.istore 4, 2) := by decide +kernel
theorem dL_areLayers_401 : decode cL_areLayers 401 = .ok (.iload 4, 2) := by decide +kernel
theorem dL_areLayers_403 : decode cL_areLayers 403 = .ok (.ifCond .eq 99, 3) := by decide +kernel
theorem dL_areLayers_406 : decode cL_areLayers 406 = .ok (.iload 5, 2) := by decide +kernel
theorem dL_areLayers_408 : decode cL_areLayers 408 = .ok (.bipush 6, 2) := by decide +kernel
theorem dL_areLayers_410 : decode cL_areLayers 410 = .ok (.if_icmp .ge 92, 3) := by decide +kernel
theorem dL_areLayers_413 : decode cL_areLayers 413 = .ok (.iload_n 2, 1) := by decide +kernel
theorem dL_areLayers_414 : decode cL_areLayers 414 = .ok (.aload_n 0, 1) := by decide +kernel
theorem dL_areLayers_415 : decode cL_areLayers 415 = .ok (.iload 5, 2) := by decide +kernel
theorem dL_areLayers_417 : decode cL_areLayers 417 = .ok (.iconst 3, 1) := by decide +kernel
theorem dL_areLayers_418 : decode cL_areLayers 418 = .ok (.invokevirtual 23, 3) := by decide +kernel
theorem dL_areLayers_421 : decode cL_areLayers 421 = .ok (.iadd, 1) := by decide +kernel
theorem dL_areLayers_422 : decode cL_areLayers 422 = .ok (.istore_n 2, 1) := by decide +kernel
theorem dL_areLayers_423 : decode cL_areLayers 423 = .ok (.aload_n 0, 1) := by decide +kernel
theorem dL_areLayers_424 : decode cL_areLayers 424 = .ok (.iload 5, 2) := by decide +kernel
theorem dL_areLayers_426 : decode cL_areLayers 426 = .ok (.iconst 2, 1) := by decide +kernel
theorem dL_areLayers_427 : decode cL_areLayers 427 = .ok (.invokevirtual 23, 3) := by decide +kernel
theorem dL_areLayers_430 : decode cL_areLayers 430 = .ok (.iload 7, 2) := by decide +kernel
theorem dL_areLayers_432 : decode cL_areLayers 432 = .ok (.aload_n 0, 1) := by decide +kernel
theorem dL_areLayers_433 : decode cL_areLayers 433 = .ok (.bipush 6, 2) := by decide +kernel
theorem dL_areLayers_435 : decode cL_areLayers 435 = .ok (.iconst 1, 1) := by decide +kernel
theorem dL_areLayers_436 : decode cL_areLayers 436 = .ok (.invokevirtual 23, 3) := by decide +kernel
theorem dL_areLayers_439 : decode cL_areLayers 439 = .ok (.isub, 1) := by decide +kernel
theorem dL_areLayers_440 : decode cL_areLayers 440 = .ok (.invokestatic 69, 3) := by decide +kernel
theorem dL_areLayers_443 : decode cL_areLayers 443 = .ok (.if_icmp .ne 22, 3) := by decide +kernel
theorem dL_areLayers_446 : decode cL_areLayers 446 = .ok (.aload_n 0, 1) := by decide +kernel
theorem dL_areLayers_447 : decode cL_areLayers 447 = .ok (.iload 5, 2) := by decide +kernel
theorem dL_areLayers_449 : decode cL_areLayers 449 = .ok (.iconst 3, 1) := by decide +kernel
theorem dL_areLayers_450 : decode cL_areLayers 450 = .ok (.invokevirtual 23, 3) := by decide +kernel
theorem dL_areLayers_453 : decode cL_areLayers 453 = .ok (.ifCond .eq 8, 3) := by decide +kernel
theorem dL_areLayers_456 : decode cL_areLayers 456 = .ok (.iload 6, 2) := by decide +kernel
theorem dL_areLayers_458 : decode cL_areLayers 458 = .ok (.ifCond .le 7, 3) := by decide +kernel
theorem dL_areLayers_461 : decode cL_areLayers 461 = .ok (.iconst 1, 1) := by decide +kernel
theorem dL_areLayers_462 : decode cL_areLayers 462 = .ok (.goto 4, 3) := by decide +kernel
theorem dL_areLayers_465 : decode cL_areLayers 465 = .ok (.iconst 0, 1) := by decide +kernel
theorem dL_areLayers_466 : decode cL_areLayers 466 = .ok (.istore 4, 2) := by decide +kernel
theorem dL_areLayers_468 : decode cL_areLayers 468 = .ok (.iconst 0, 1) := by decide +kernel
theorem dL_areLayers_469 : decode cL_areLayers 469 = .ok (.istore 8, 2) := by decide +kernel
theorem dL_areLayers_471 : decode cL_areLayers 471 = .ok (.iload 8, 2) := by decide +kernel
theorem dL_areLayers_473 : decode cL_areLayers 473 = .ok (.iconst 3, 1) := by decide +kernel
theorem dL_areLayers_474 : decode cL_areLayers 474 = .ok (.if_icmp .ge 28, 3) := by decide +kernel
theorem dL_areLayers_477 : decode cL_areLayers 477 = .ok (.iload_n 3, 1) := by decide +kernel
theorem dL_areLayers_478 : decode cL_areLayers 478 = .ok (.aload_n 0, 1) := by decide +kernel
theorem dL_areLayers_479 : decode cL_areLayers 479 = .ok (.iload 5, 2) := by decide +kernel
theorem dL_areLayers_481 : decode cL_areLayers 481 = .ok (.iload 8, 2) := by decide +kernel
theorem dL_areLayers_483 : decode cL_areLayers 483 = .ok (.invokevirtual 27, 3) := by decide +kernel
theorem dL_areLayers_486 : decode cL_areLayers 486 = .ok (.ifCond .lt 7, 3) := by decide +kernel
theorem dL_areLayers_489 : decode cL_areLayers 489 = .ok (.iconst 1, 1) := by decide +kernel
theorem dL_areLayers_490 : decode cL_areLayers 490 = .ok (.goto 4, 3) := by decide +kernel
theorem dL_areLayers_493 : decode cL_areLayers 493 = .ok (.iconst 0, 1) := by decide +kernel
theorem dL_areLayers_494 : decode cL_areLayers 494 = .ok (.iadd, 1) := by decide +kernel
theorem dL_areLayers_495 : decode cL_areLayers 495 = .ok (.istore_n 3, 1) := by decide +kernel
theorem dL_areLayers_496 : decode cL_areLayers 496 = .ok (.iinc 8 1, 3) := by decide +kernel
theorem dL_areLayers_499 : decode cL_areLayers 499 = .ok (.goto (-28), 3) := by decide +kernel
theorem dL_areLayers_502 : decode cL_areLayers 502 = .ok (.iinc 5 1, 3) := by decide +kernel
theorem dL_areLayers_505 : decode cL_areLayers 505 = .ok (.goto (-408), 3) := by decide +kernel
theorem dL_areLayers_508 : decode cL_areLayers 508 = .ok (.iconst 0, 1) := by decide +kernel
theorem dL_areLayers_509 : decode cL_areLayers 509 = .ok (.istore 5, 2) := by decide +kernel
theorem dL_areLayers_511 : decode cL_areLayers 511 = .ok (.iload 5, 2) := by decide +kernel
theorem dL_areLayers_513 : decode cL_areLayers 513 = .ok (.aload_n 0, 1) := by decide +kernel
theorem dL_areLayers_514 : decode cL_areLayers 514 = .ok (.iconst 0, 1) := by decide +kernel
theorem dL_areLayers_515 : decode cL_areLayers 515 = .ok (.invokevirtual 13, 3) := by decide +kernel
theorem dL_areLayers_518 : decode cL_areLayers 518 = .ok (.if_icmp .ge 82, 3) := by decide +kernel
theorem dL_areLayers_521 : decode cL_areLayers 521 = .ok (.iload 4, 2) := by decide +kernel
theorem dL_areLayers_523 : decode cL_areLayers 523 = .ok (.ifCond .eq 77, 3) := by decide +kernel
theorem dL_areLayers_526 : decode cL_areLayers 526 = .ok (.iload_n 1, 1) := by decide +kernel
theorem dL_areLayers_527 : decode cL_areLayers 527 = .ok (.aload_n 0, 1) := by decide +kernel
theorem dL_areLayers_528 : decode cL_areLayers 528 = .ok (.iload 5, 2) := by decide +kernel
theorem dL_areLayers_530 : decode cL_areLayers 530 = .ok (.iconst 4, 1) := by decide +kernel
theorem dL_areLayers_531 : decode cL_areLayers 531 = .ok (.invokevirtual 30, 3) := by decide +kernel
theorem dL_areLayers_534 : decode cL_areLayers 534 = .ok (.isub, 1) := by decide +kernel
theorem dL_areLayers_535 : decode cL_areLayers 535 = .ok (.istore_n 1, 1) := by decide +kernel
theorem dL_areLayers_536 : decode cL_areLayers 536 = .ok (.iload_n 3, 1) := by decide +kernel
theorem dL_areLayers_537 : decode cL_areLayers 537 = .ok (.aload_n 0, 1) := by decide +kernel
theorem dL_areLayers_538 : decode cL_areLayers 538 = .ok (.iload 5, 2) := by decide +kernel
theorem dL_areLayers_540 : decode cL_areLayers 540 = .ok (.iconst 5, 1) := by decide +kernel
theorem dL_areLayers_541 : decode cL_areLayers 541 = .ok (.invokevirtual 30, 3) := by decide +kernel
theorem dL_areLayers_544 : decode cL_areLayers 544 = .ok (.isub, 1) := by decide +kernel
theorem dL_areLayers_545 : decode cL_areLayers 545 = .ok (.istore_n 3, 1) := by decide +kernel
theorem dL_areLayers_546 : decode cL_areLayers 546 = .ok (.aload_n 0, 1) := by decide +kernel
theorem dL_areLayers_547 : decode cL_areLayers 547 = .ok (.iload 5, 2) := by decide +kernel
theorem dL_areLayers_549 : decode cL_areLayers 549 = .ok (.iconst 3, 1) := by decide +kernel
theorem dL_areLayers_550 : decode cL_areLayers 550 = .ok (.invokevirtual 30, 3) := by decide +kernel
theorem dL_areLayers_553 : decode cL_areLayers 553 = .ok (.sipush 170, 3) := by decide +kernel
theorem dL_areLayers_556 : decode cL_areLayers 556 = .ok (.aload_n 0, 1) := by decide +kernel
theorem dL_areLayers_557 : decode cL_areLayers 557 = .ok (.iload 5, 2) := by decide +kernel
theorem dL_areLayers_559 : decode cL_areLayers 559 = .ok (.iconst 2, 1) := by decide +kernel
theorem dL_areLayers_560 : decode cL_areLayers 560 = .ok (.invokevirtual 30, 3) := by decide +kernel
theorem dL_areLayers_563 : decode cL_areLayers 563 = .ok (.isub, 1) := by decide +kernel
theorem dL_areLayers_564 : decode cL_areLayers 564 = .ok (.if_icmp .ne 27, 3) := by decide +kernel
theorem dL_areLayers_567 : decode cL_areLayers 567 = .ok (.aload_n 0, 1) := by decide +kernel
theorem dL_areLayers_568 : decode cL_areLayers 568 = .ok (.iload 5, 2) := by decide +kernel
theorem dL_areLayers_570 : decode cL_areLayers 570 = .ok (.iconst 1, 1) := by decide +kernel
theorem dL_areLayers_571 : decode cL_areLayers 571 = .ok (.invokevirtual 30, 3) := by decide +kernel
theorem dL_areLayers_574 : decode cL_areLayers 574 = .ok (.aload_n 0, 1) := by decide +kernel
theorem dL_areLayers_575 : decode cL_areLayers 575 = .ok (.iload 5, 2) := by decide +kernel
theorem dL_areLayers_577 : decode cL_areLayers 577 = .ok (.iconst 0, 1) := by decide +kernel
theorem dL_areLayers_578 : decode cL_areLayers 578 = .ok (.invokevirtual 30, 3) := by decide +kernel
theorem dL_areLayers_581 : decode cL_areLayers 581 = .ok (.bipush 10, 2) := by decide +kernel
theorem dL_areLayers_583 : decode cL_areLayers 583 = .ok (.iadd, 1) := by decide +kernel
theorem dL_areLayers_584 : decode cL_areLayers 584 = .ok (.if_icmp .lt 7, 3) := by decide +kernel
theorem dL_areLayers_587 : decode cL_areLayers 587 = .ok (.iconst 1, 1) := by decide +kernel
theorem dL_areLayers_588 : decode cL_areLayers 588 = .ok (.goto 4, 3) := by decide +kernel
theorem dL_areLayers_591 : decode cL_areLayers 591 = .ok (.iconst 0, 1) := by decide +kernel
theorem dL_areLayers_592 : decode cL_areLayers 592 = .ok (.istore 4, 2) := by decide +kernel
theorem dL_areLayers_594 : decode cL_areLayers 594 = .ok (.iinc 5 1, 3) := by decide +kernel
theorem dL_areLayers_597 : decode cL_areLayers 597 = .ok (.goto (-86), 3) := by decide +kernel
theorem dL_areLayers_600 : decode cL_areLayers 600 = .ok (.iload 4, 2) := by decide +kernel
theorem dL_areLayers_602 : decode cL_areLayers 602 = .ok (.ifCond .eq 25, 3) := by decide +kernel
theorem dL_areLayers_605 : decode cL_areLayers 605 = .ok (.iload_n 1, 1) := by decide +kernel
theorem dL_areLayers_606 : decode cL_areLayers 606 = .ok (.ifCond .ne 21, 3) := by decide +kernel
theorem dL_areLayers_609 : decode cL_areLayers 609 = .ok (.iload_n 3, 1) := by decide +kernel
theorem dL_areLayers_610 : decode cL_areLayers 610 = .ok (.ifCond .ne 17, 3) := by decide +kernel
theorem dL_areLayers_613 : decode cL_areLayers 613 = .ok (.iload_n 2, 1) := by decide +kernel
theorem dL_areLayers_614 : decode cL_areLayers 614 = .ok (.aload_n 0, 1) := by decide +kernel
theorem dL_areLayers_615 : decode cL_areLayers 615 = .ok (.bipush 7, 2) := by decide +kernel
theorem dL_areLayers_617 : decode cL_areLayers 617 = .ok (.invokevirtual 13, 3) := by decide +kernel
theorem dL_areLayers_620 : decode cL_areLayers 620 = .ok (.if_icmp .ne 7, 3) := by decide +kernel
theorem dL_areLayers_623 : decode cL_areLayers 623 = .ok (.iconst 1, 1) := by decide +kernel
theorem dL_areLayers_624 : decode cL_areLayers 624 = .ok (.goto 4, 3) := by decide +kernel
theorem dL_areLayers_627 : decode cL_areLayers 627 = .ok (.iconst 0, 1) := by decide +kernel
theorem dL_areLayers_628 : decode cL_areLayers 628 = .ok (.ireturn, 1) := by decide +kernel
theorem dL_isFired_0 : decode cL_isFired 0 = .ok (.aload_n 0, 1) := by decide +kernel
theorem dL_isFired_1 : decode cL_isFired 1 = .ok (.invokestatic 33, 3) := by decide +kernel
theorem dL_isFired_4 : decode cL_isFired 4 = .ok (.lstore_n 2, 1) := by decide +kernel
theorem dL_isFired_5 : decode cL_isFired 5 = .ok (.aload_n 0, 1) := by decide +kernel
theorem dL_isFired_6 : decode cL_isFired 6 = .ok (.iload_n 1, 1) := by decide +kernel
theorem dL_isFired_7 : decode cL_isFired 7 = .ok (.iconst 0, 1) := by decide +kernel
theorem dL_isFired_8 : decode cL_isFired 8 = .ok (.invokevirtual 54, 3) := by decide +kernel
theorem dL_isFired_11 : decode cL_isFired 11 = .ok (.istore 4, 2) := by decide +kernel
theorem dL_isFired_13 : decode cL_isFired 13 = .ok (.aload_n 0, 1) := by decide +kernel
theorem dL_isFired_14 : decode cL_isFired 14 = .ok (.iload_n 1, 1) := by decide +kernel
theorem dL_isFired_15 : decode cL_isFired 15 = .ok (.iconst 1, 1) := by decide +kernel
theorem dL_isFired_16 : decode cL_isFired 16 = .ok (.invokevirtual 54, 3) := by decide +kernel
theorem dL_isFired_19 : decode cL_isFired 19 = .ok (.istore 5, 2) := by decide +kernel
theorem dL_isFired_21 : decode cL_isFired 21 = .ok (.aload_n 0, 1) := by decide +kernel
theorem dL_isFired_22 : decode cL_isFired 22 = .ok (.iload_n 1, 1) := by decide +kernel
theorem dL_isFired_23 : decode cL_isFired 23 = .ok (.iconst 2, 1) := by decide +kernel
theorem dL_isFired_24 : decode cL_isFired 24 = .ok (.invokevirtual 54, 3) := by decide +kernel
theorem dL_isFired_27 : decode cL_isFired 27 = .ok (.istore 6, 2) := by decide +kernel
theorem dL_isFired_29 : decode cL_isFired 29 = .ok (.aload_n 0, 1) := by decide +kernel
theorem dL_isFired_30 : decode cL_isFired 30 = .ok (.iload_n 1, 1) := by decide +kernel
theorem dL_isFired_31 : decode cL_isFired 31 = .ok (.iconst 3, 1) := by decide +kernel
theorem dL_isFired_32 : decode cL_isFired 32 = .ok (.invokevirtual 54, 3) := by decide +kernel
theorem dL_isFired_35 : decode cL_isFired 35 = .ok (.istore 7, 2) := by decide +kernel
theorem dL_isFired_37 : decode cL_isFired 37 = .ok (.aload_n 0, 1) := by decide +kernel
theorem dL_isFired_38 : decode cL_isFired 38 = .ok (.iload_n 1, 1) := by decide +kernel
theorem dL_isFired_39 : decode cL_isFired 39 = .ok (.iconst 4, 1) := by decide +kernel
theorem dL_isFired_40 : decode cL_isFired 40 = .ok (.invokevirtual 54, 3) := by decide +kernel
theorem dL_isFired_43 : decode cL_isFired 43 = .ok (.istore 8, 2) := by decide +kernel
theorem dL_isFired_45 : decode cL_isFired 45 = .ok (.aload_n 0, 1) := by decide +kernel
theorem dL_isFired_46 : decode cL_isFired 46 = .ok (.bipush 6, 2) := by decide +kernel
theorem dL_isFired_48 : decode cL_isFired 48 = .ok (.invokevirtual 13, 3) := by decide +kernel
theorem dL_isFired_51 : decode cL_isFired 51 = .ok (.istore 9, 2) := by decide +kernel
theorem dL_isFired_53 : decode cL_isFired 53 = .ok (.aload_n 0, 1) := by decide +kernel
theorem dL_isFired_54 : decode cL_isFired 54 = .ok (.bipush 7, 2) := by decide +kernel
theorem dL_isFired_56 : decode cL_isFired 56 = .ok (.invokevirtual 13, 3) := by decide +kernel
theorem dL_isFired_59 : decode cL_isFired 59 = .ok (.istore 10, 2) := by decide +kernel
theorem dL_isFired_61 : decode cL_isFired 61 = .ok (.aload_n 0, 1) := by decide +kernel
theorem dL_isFired_62 : decode cL_isFired 62 = .ok (.iconst 1, 1) := by decide +kernel
theorem dL_isFired_63 : decode cL_isFired 63 = .ok (.invokevirtual 13, 3) := by decide +kernel
theorem dL_isFired_66 : decode cL_isFired 66 = .ok (.istore 11, 2) := by decide +kernel
theorem dL_isFired_68 : decode cL_isFired 68 = .ok (.aload_n 0, 1) := by decide +kernel
theorem dL_isFired_69 : decode cL_isFired 69 = .ok (.invokestatic 33, 3) := by decide +kernel
theorem dL_isFired_72 : decode cL_isFired 72 = .ok (.lload_n 2, 1) := by decide +kernel
theorem dL_isFired_73 : decode cL_isFired 73 = .ok (.lcmp, 1) := by decide +kernel
theorem dL_isFired_74 : decode cL_isFired 74 = .ok (.ifCond .ne 7, 3) := by decide +kernel
theorem dL_isFired_77 : decode cL_isFired 77 = .ok (.iconst 1, 1) := by decide +kernel
theorem dL_isFired_78 : decode cL_isFired 78 = .ok (.goto 4, 3) := by decide +kernel
theorem dL_isFired_81 : decode cL_isFired 81 = .ok (.iconst 0, 1) := by decide +kernel
theorem dL_isFired_82 : decode cL_isFired 82 = .ok (.istore 12, 2) := by decide +kernel
theorem dL_isFired_84 : decode cL_isFired 84 = .ok (.aload_n 0, 1) := by decide +kernel
theorem dL_isFired_85 : decode cL_isFired 85 = .ok (.bipush 11, 2) := by decide +kernel
theorem dL_isFired_87 : decode cL_isFired 87 = .ok (.invokevirtual 13, 3) := by decide +kernel
theorem dL_isFired_90 : decode cL_isFired 90 = .ok (.sipush 1000, 3) := by decide +kernel
theorem dL_isFired_93 : decode cL_isFired 93 = .ok (.if_icmp .ne 25, 3) := by decide +kernel
theorem dL_isFired_96 : decode cL_isFired 96 = .ok (.iload 12, 2) := by decide +kernel
theorem dL_isFired_98 : decode cL_isFired 98 = .ok (.ifCond .eq 18, 3) := by decide +kernel
theorem dL_isFired_101 : decode cL_isFired 101 = .ok (.aload_n 0, 1) := by decide +kernel
theorem dL_isFired_102 : decode cL_isFired 102 = .ok (.iload_n 1, 1) := by decide +kernel
theorem dL_isFired_103 : decode cL_isFired 103 = .ok (.iconst 3, 1) := by decide +kernel
theorem dL_isFired_104 : decode cL_isFired 104 = .ok (.invokevirtual 51, 3) := by decide +kernel
theorem dL_isFired_107 : decode cL_isFired 107 = .ok (.bipush (-3), 2) := by decide +kernel
theorem dL_isFired_109 : decode cL_isFired 109 = .ok (.if_icmp .ne 7, 3) := by decide +kernel
theorem dL_isFired_112 : decode cL_isFired 112 = .ok (.iconst 1, 1) := by decide +kernel
theorem dL_isFired_113 : decode cL_isFired 113 = .ok (.goto 4, 3) := by decide +kernel
theorem dL_isFired_116 : decode cL_isFired 116 = .ok (.iconst 0, 1) := by decide +kernel
theorem dL_isFired_117 : decode cL_isFired 117 = .ok (.ireturn, 1) := by decide +kernel
theorem dL_isFired_118 : decode cL_isFired 118 = .ok (.aload_n 0, 1) := by decide +kernel
theorem dL_isFired_119 : decode cL_isFired 119 = .ok (.bipush 15, 2) := by decide +kernel
theorem dL_isFired_121 : decode cL_isFired 121 = .ok (.invokevirtual 13, 3) := by decide +kernel
theorem dL_isFired_124 : decode cL_isFired 124 = .ok (.istore 13, 2) := by decide +kernel
theorem dL_isFired_126 : decode cL_isFired 126 = .ok (.aload_n 0, 1) := by decide +kernel
theorem dL_isFired_127 : decode cL_isFired 127 = .ok (.bipush 16, 2) := by decide +kernel
theorem dL_isFired_129 : decode cL_isFired 129 = .ok (.invokevirtual 13, 3) := by decide +kernel
theorem dL_isFired_132 : decode cL_isFired 132 = .ok (.istore 14, 2) := by decide +kernel
theorem dL_isFired_134 : decode cL_isFired 134 = .ok (.aload_n 0, 1) := by decide +kernel
theorem dL_isFired_135 : decode cL_isFired 135 = .ok (.bipush 17, 2) := by decide +kernel
theorem dL_isFired_137 : decode cL_isFired 137 = .ok (.invokevirtual 13, 3) := by decide +kernel
theorem dL_isFired_140 : decode cL_isFired 140 = .ok (.istore 15, 2) := by decide +kernel
theorem dL_isFired_142 : decode cL_isFired 142 = .ok (.aload_n 0, 1) := by decide +kernel
theorem dL_isFired_143 : decode cL_isFired 143 = .ok (.bipush 18, 2) := by decide +kernel
theorem dL_isFired_145 : decode cL_isFired 145 = .ok (.invokevirtual 13, 3) := by decide +kernel
theorem dL_isFired_148 : decode cL_isFired 148 = .ok (.istore 16, 2) := by decide +kernel
theorem dL_isFired_150 : decode cL_isFired 150 = .ok (.aload_n 0, 1) := by decide +kernel
theorem dL_isFired_151 : decode cL_isFired 151 = .ok (.bipush 19, 2) := by decide +kernel
theorem dL_isFired_153 : decode cL_isFired 153 = .ok (.invokevirtual 13, 3) := by decide +kernel
theorem dL_isFired_156 : decode cL_isFired 156 = .ok (.istore 17, 2) := by decide +kernel
theorem dL_isFired_158 : decode cL_isFired 158 = .ok (.aload_n 0, 1) := by decide +kernel
theorem dL_isFired_159 : decode cL_isFired 159 = .ok (.bipush 11, 2) := by decide +kernel
theorem dL_isFired_161 : decode cL_isFired 161 = .ok (.invokevirtual 13, 3) := by decide +kernel
theorem dL_isFired_164 : decode cL_isFired 164 = .ok (.istore 18, 2) := by decide +kernel
theorem dL_isFired_166 : decode cL_isFired 166 = .ok (.iload 12, 2) := by decide +kernel
theorem dL_isFired_168 : decode cL_isFired 168 = .ok (.ifCond .eq 147, 3) := by decide +kernel
theorem dL_isFired_171 : decode cL_isFired 171 = .ok (.aload_n 0, 1) := by decide +kernel
theorem dL_isFired_172 : decode cL_isFired 172 = .ok (.iload_n 1, 1) := by decide +kernel
theorem dL_isFired_173 : decode cL_isFired 173 = .ok (.aload_n 0, 1) := by decide +kernel
theorem dL_isFired_174 : decode cL_isFired 174 = .ok (.bipush 8, 2) := by decide +kernel
theorem dL_isFired_176 : decode cL_isFired 176 = .ok (.invokevirtual 13, 3) := by decide +kernel
theorem dL_isFired_179 : decode cL_isFired 179 = .ok (.invokevirtual 51, 3) := by decide +kernel
theorem dL_isFired_182 : decode cL_isFired 182 = .ok (.iload 4, 2) := by decide +kernel
theorem dL_isFired_184 : decode cL_isFired 184 = .ok (.if_icmp .ne 131, 3) := by decide +kernel
theorem dL_isFired_187 : decode cL_isFired 187 = .ok (.aload_n 0, 1) := by decide +kernel
theorem dL_isFired_188 : decode cL_isFired 188 = .ok (.bipush 15, 2) := by decide +kernel
theorem dL_isFired_190 : decode cL_isFired 190 = .ok (.invokevirtual 13, 3) := by decide +kernel
theorem dL_isFired_193 : decode cL_isFired 193 = .ok (.iload 13, 2) := by decide +kernel
theorem dL_isFired_195 : decode cL_isFired 195 = .ok (.iload 4, 2) := by decide +kernel
theorem dL_isFired_197 : decode cL_isFired 197 = .ok (.iadd, 1) := by decide +kernel
theorem dL_isFired_198 : decode cL_isFired 198 = .ok (.if_icmp .ne 117, 3) := by decide +kernel
theorem dL_isFired_201 : decode cL_isFired 201 = .ok (.aload_n 0, 1) := by decide +kernel
theorem dL_isFired_202 : decode cL_isFired 202 = .ok (.bipush 16, 2) := by decide +kernel
theorem dL_isFired_204 : decode cL_isFired 204 = .ok (.invokevirtual 13, 3) := by decide +kernel
theorem dL_isFired_207 : decode cL_isFired 207 = .ok (.iload 14, 2) := by decide +kernel
theorem dL_isFired_209 : decode cL_isFired 209 = .ok (.iload 6, 2) := by decide +kernel
theorem dL_isFired_211 : decode cL_isFired 211 = .ok (.iadd, 1) := by decide +kernel
theorem dL_isFired_212 : decode cL_isFired 212 = .ok (.if_icmp .ne 103, 3) := by decide +kernel
theorem dL_isFired_215 : decode cL_isFired 215 = .ok (.aload_n 0, 1) := by decide +kernel
theorem dL_isFired_216 : decode cL_isFired 216 = .ok (.bipush 17, 2) := by decide +kernel
theorem dL_isFired_218 : decode cL_isFired 218 = .ok (.invokevirtual 13, 3) := by decide +kernel
theorem dL_isFired_221 : decode cL_isFired 221 = .ok (.iload 15, 2) := by decide +kernel
theorem dL_isFired_223 : decode cL_isFired 223 = .ok (.iload 5, 2) := by decide +kernel
theorem dL_isFired_225 : decode cL_isFired 225 = .ok (.iadd, 1) := by decide +kernel
theorem dL_isFired_226 : decode cL_isFired 226 = .ok (.if_icmp .ne 89, 3) := by decide +kernel
theorem dL_isFired_229 : decode cL_isFired 229 = .ok (.aload_n 0, 1) := by decide +kernel
theorem dL_isFired_230 : decode cL_isFired 230 = .ok (.bipush 18, 2) := by decide +kernel
theorem dL_isFired_232 : decode cL_isFired 232 = .ok (.invokevirtual 13, 3) := by decide +kernel
theorem dL_isFired_235 : decode cL_isFired 235 = .ok (.iload 16, 2) := by decide +kernel
theorem dL_isFired_237 : decode cL_isFired 237 = .ok (.iload 7, 2) := by decide +kernel
theorem dL_isFired_239 : decode cL_isFired 239 = .ok (.iadd, 1) := by decide +kernel
theorem dL_isFired_240 : decode cL_isFired 240 = .ok (.if_icmp .ne 75, 3) := by decide +kernel
theorem dL_isFired_243 : decode cL_isFired 243 = .ok (.aload_n 0, 1) := by decide +kernel
theorem dL_isFired_244 : decode cL_isFired 244 = .ok (.bipush 19, 2) := by decide +kernel
theorem dL_isFired_246 : decode cL_isFired 246 = .ok (.invokevirtual 13, 3) := by decide +kernel
theorem dL_isFired_249 : decode cL_isFired 249 = .ok (.iload 17, 2) := by decide +kernel
theorem dL_isFired_251 : decode cL_isFired 251 = .ok (.iload 8, 2) := by decide +kernel
theorem dL_isFired_253 : decode cL_isFired 253 = .ok (.iadd, 1) := by decide +kernel
theorem dL_isFired_254 : decode cL_isFired 254 = .ok (.if_icmp .ne 61, 3) := by decide +kernel
theorem dL_isFired_257 : decode cL_isFired 257 = .ok (.aload_n 0, 1) := by decide +kernel
theorem dL_isFired_258 : decode cL_isFired 258 = .ok (.bipush 11, 2) := by decide +kernel
theorem dL_isFired_260 : decode cL_isFired 260 = .ok (.invokevirtual 13, 3) := by decide +kernel
theorem dL_isFired_263 : decode cL_isFired 263 = .ok (.iload 18, 2) := by decide +kernel
theorem dL_isFired_265 : decode cL_isFired 265 = .ok (.iconst 1, 1) := by decide +kernel
theorem dL_isFired_266 : decode cL_isFired 266 = .ok (.iadd, 1) := by decide +kernel
theorem dL_isFired_267 : decode cL_isFired 267 = .ok (.if_icmp .ne 48, 3) := by decide +kernel
theorem dL_isFired_270 : decode cL_isFired 270 = .ok (.aload_n 0, 1) := by decide +kernel
theorem dL_isFired_271 : decode cL_isFired 271 = .ok (.bipush 6, 2) := by decide +kernel
theorem dL_isFired_273 : decode cL_isFired 273 = .ok (.invokevirtual 13, 3) := by decide +kernel
theorem dL_isFired_276 : decode cL_isFired 276 = .ok (.iload 9, 2) := by decide +kernel
theorem dL_isFired_278 : decode cL_isFired 278 = .ok (.iload 5, 2) := by decide +kernel
theorem dL_isFired_280 : decode cL_isFired 280 = .ok (.iadd, 1) := by decide +kernel
theorem dL_isFired_281 : decode cL_isFired 281 = .ok (.if_icmp .ne 34, 3) := by decide +kernel
theorem dL_isFired_284 : decode cL_isFired 284 = .ok (.aload_n 0, 1) := by decide +kernel
theorem dL_isFired_285 : decode cL_isFired 285 = .ok (.bipush 7, 2) := by decide +kernel
theorem dL_isFired_287 : decode cL_isFired 287 = .ok (.invokevirtual 13, 3) := by decide +kernel
theorem dL_isFired_290 : decode cL_isFired 290 = .ok (.iload 10, 2) := by decide +kernel
theorem dL_isFired_292 : decode cL_isFired 292 = .ok (.iload 7, 2) := by decide +kernel
theorem dL_isFired_294 : decode cL_isFired 294 = .ok (.iadd, 1) := by decide +kernel
theorem dL_isFired_295 : decode cL_isFired 295 = .ok (.iload 8, 2) := by decide +kernel
theorem dL_isFired_297 : decode cL_isFired 297 = .ok (.isub, 1) := by decide +kernel
theorem dL_isFired_298 : decode cL_isFired 298 = .ok (.if_icmp .ne 17, 3) := by decide +kernel
theorem dL_isFired_301 : decode cL_isFired 301 = .ok (.aload_n 0, 1) := by decide +kernel
theorem dL_isFired_302 : decode cL_isFired 302 = .ok (.iconst 1, 1) := by decide +kernel
theorem dL_isFired_303 : decode cL_isFired 303 = .ok (.invokevirtual 13, 3) := by decide +kernel
theorem dL_isFired_306 : decode cL_isFired 306 = .ok (.iload 11, 2) := by decide +kernel
theorem dL_isFired_308 : decode cL_isFired 308 = .ok (.if_icmp .ne 7, 3) := by decide +kernel
theorem dL_isFired_311 : decode cL_isFired 311 = .ok (.iconst 1, 1) := by decide +kernel
theorem dL_isFired_312 : decode cL_isFired 312 = .ok (.goto 4, 3) := by decide +kernel
theorem dL_isFired_315 : decode cL_isFired 315 = .ok (.iconst 0, 1) := by decide +kernel
theorem dL_isFired_316 : decode cL_isFired 316 = .ok (.istore 12, 2) := by decide +kernel
theorem dL_isFired_318 : decode cL_isFired 318 = .ok (.iconst 0, 1) := by decide +kernel
theorem dL_isFired_319 : decode cL_isFired 319 = .ok (.istore 19, 2) := by decide +kernel
theorem dL_isFired_321 : decode cL_isFired 321 = .ok (.iload 19, 2) := by decide +kernel
theorem dL_isFired_323 : decode cL_isFired 323 = .ok (.bipush 6, 2) := by decide +kernel
theorem dL_isFired_325 : decode cL_isFired 325 = .ok (.if_icmp .ge 115, 3) := by decide +kernel
theorem dL_isFired_328 : decode cL_isFired 328 = .ok (.iload 12, 2) := by decide +kernel
theorem dL_isFired_330 : decode cL_isFired 330 = .ok (.ifCond .eq 110, 3) := by decide +kernel
theorem dL_isFired_333 : decode cL_isFired 333 = .ok (.iconst 0, 1) := by decide +kernel
theorem dL_isFired_334 : decode cL_isFired 334 = .ok (.istore 20, 2) := by decide +kernel
theorem dL_isFired_336 : decode cL_isFired 336 = .ok (.iconst 0, 1) := by decide +kernel
theorem dL_isFired_337 : decode cL_isFired 337 = .ok (.istore 21, 2) := by decide +kernel
theorem dL_isFired_339 : decode cL_isFired 339 = .ok (.iload 21, 2) := by decide +kernel
theorem dL_isFired_341 : decode cL_isFired 341 = .ok (.aload_n 0, 1) := by decide +kernel
theorem dL_isFired_342 : decode cL_isFired 342 = .ok (.iload 19, 2) := by decide +kernel
theorem dL_isFired_344 : decode cL_isFired 344 = .ok (.iconst 0, 1) := by decide +kernel
theorem dL_isFired_345 : decode cL_isFired 345 = .ok (.invokevirtual 23, 3) := by decide +kernel
theorem dL_isFired_348 : decode cL_isFired 348 = .ok (.if_icmp .ge 47, 3) := by decide +kernel
theorem dL_isFired_351 : decode cL_isFired 351 = .ok (.iload 20, 2) := by decide +kernel
theorem dL_isFired_353 : decode cL_isFired 353 = .ok (.ifCond .ne 29, 3) := by decide +kernel
theorem dL_isFired_356 : decode cL_isFired 356 = .ok (.aload_n 0, 1) := by decide +kernel
theorem dL_isFired_357 : decode cL_isFired 357 = .ok (.iload 19, 2) := by decide +kernel
theorem dL_isFired_359 : decode cL_isFired 359 = .ok (.iload 21, 2) := by decide +kernel
theorem dL_isFired_361 : decode cL_isFired 361 = .ok (.iconst 1, 1) := by decide +kernel
theorem dL_isFired_362 : decode cL_isFired 362 = .ok (.invokevirtual 19, 3) := by decide +kernel
theorem dL_isFired_365 : decode cL_isFired 365 = .ok (.iconst 2, 1) := by decide +kernel
theorem dL_isFired_366 : decode cL_isFired 366 = .ok (.if_icmp .eq 16, 3) := by decide +kernel
theorem dL_isFired_369 : decode cL_isFired 369 = .ok (.aload_n 0, 1) := by decide +kernel
theorem dL_isFired_370 : decode cL_isFired 370 = .ok (.iload 19, 2) := by decide +kernel
theorem dL_isFired_372 : decode cL_isFired 372 = .ok (.iload 21, 2) := by decide +kernel
theorem dL_isFired_374 : decode cL_isFired 374 = .ok (.iconst 1, 1) := by decide +kernel
theorem dL_isFired_375 : decode cL_isFired 375 = .ok (.invokevirtual 19, 3) := by decide +kernel
theorem dL_isFired_378 : decode cL_isFired 378 = .ok (.iconst 3, 1) := by decide +kernel
theorem dL_isFired_379 : decode cL_isFired 379 = .ok (.if_icmp .ne 7, 3) := by decide +kernel
theorem dL_isFired_382 : decode cL_isFired 382 = .ok (.iconst 1, 1) := by decide +kernel
theorem dL_isFired_383 : decode cL_isFired 383 = .ok (.goto 4, 3) := by decide +kernel
theorem dL_isFired_386 : decode cL_isFired 386 = .ok (.iconst 0, 1) := by decide +kernel
theorem dL_isFired_387 : decode cL_isFired 387 = .ok (.istore 20, 2) := by decide +kernel
theorem dL_isFired_389 : decode cL_isFired 389 = .ok (.iinc 21 1, 3) := by decide +kernel
theorem dL_isFired_392 : decode cL_isFired 392 = .ok (.goto (-53), 3) := by decide +kernel
theorem dL_isFired_395 : decode cL_isFired 395 = .ok (.aload_n 0, 1) := by decide +kernel
theorem dL_isFired_396 : decode cL_isFired 396 = .ok (.iload 19, 2) := by decide +kernel
theorem dL_isFired_398 : decode cL_isFired 398 = .ok (.iconst 3, 1) := by decide +kernel
theorem dL_isFired_399 : decode cL_isFired 399 = .ok (.invokevirtual 23, 3) := by decide +kernel
theorem dL_isFired_402 : decode cL_isFired 402 = .ok (.iconst 1, 1) := by decide +kernel
theorem dL_isFired_403 : decode cL_isFired 403 = .ok (.if_icmp .eq 24, 3) := by decide +kernel
theorem dL_isFired_406 : decode cL_isFired 406 = .ok (.iload 20, 2) := by decide +kernel
theorem dL_isFired_408 : decode cL_isFired 408 = .ok (.ifCond .eq 19, 3) := by decide +kernel
theorem dL_isFired_411 : decode cL_isFired 411 = .ok (.aload_n 0, 1) := by decide +kernel
theorem dL_isFired_412 : decode cL_isFired 412 = .ok (.iload 19, 2) := by decide +kernel
theorem dL_isFired_414 : decode cL_isFired 414 = .ok (.iconst 2, 1) := by decide +kernel
theorem dL_isFired_415 : decode cL_isFired 415 = .ok (.invokevirtual 23, 3) := by decide +kernel
theorem dL_isFired_418 : decode cL_isFired 418 = .ok (.aload_n 0, 1) := by decide +kernel
theorem dL_isFired_419 : decode cL_isFired 419 = .ok (.bipush 10, 2) := by decide +kernel
theorem dL_isFired_421 : decode cL_isFired 421 = .ok (.invokevirtual 13, 3) := by decide +kernel
theorem dL_isFired_424 : decode cL_isFired 424 = .ok (.if_icmp .gt 7, 3) := by decide +kernel
theorem dL_isFired_427 : decode cL_isFired 427 = .ok (.iconst 1, 1) := by decide +kernel
theorem dL_isFired_428 : decode cL_isFired 428 = .ok (.goto 4, 3) := by decide +kernel
theorem dL_isFired_431 : decode cL_isFired 431 = .ok (.iconst 0, 1) := by decide +kernel
theorem dL_isFired_432 : decode cL_isFired 432 = .ok (.istore 12, 2) := by decide +kernel
theorem dL_isFired_434 : decode cL_isFired 434 = .ok (.iinc 19 1, 3) := by decide +kernel
theorem dL_isFired_437 : decode cL_isFired 437 = .ok (.goto (-116), 3) := by decide +kernel
theorem dL_isFired_440 : decode cL_isFired 440 = .ok (.iload 12, 2) := by decide +kernel
theorem dL_isFired_442 : decode cL_isFired 442 = .ok (.ifCond .eq 30, 3) := by decide +kernel
theorem dL_isFired_445 : decode cL_isFired 445 = .ok (.aload_n 0, 1) := by decide +kernel
theorem dL_isFired_446 : decode cL_isFired 446 = .ok (.invokestatic 72, 3) := by decide +kernel
theorem dL_isFired_449 : decode cL_isFired 449 = .ok (.ifCond .eq 23, 3) := by decide +kernel
theorem dL_isFired_452 : decode cL_isFired 452 = .ok (.aload_n 0, 1) := by decide +kernel
theorem dL_isFired_453 : decode cL_isFired 453 = .ok (.invokevirtual 76, 3) := by decide +kernel
theorem dL_isFired_456 : decode cL_isFired 456 = .ok (.ifCond .lt 16, 3) := by decide +kernel
theorem dL_isFired_459 : decode cL_isFired 459 = .ok (.aload_n 0, 1) := by decide +kernel
theorem dL_isFired_460 : decode cL_isFired 460 = .ok (.invokestatic 33, 3) := by decide +kernel
theorem dL_isFired_463 : decode cL_isFired 463 = .ok (.lload_n 2, 1) := by decide +kernel
theorem dL_isFired_464 : decode cL_isFired 464 = .ok (.lcmp, 1) := by decide +kernel
theorem dL_isFired_465 : decode cL_isFired 465 = .ok (.ifCond .ne 7, 3) := by decide +kernel
theorem dL_isFired_468 : decode cL_isFired 468 = .ok (.iconst 1, 1) := by decide +kernel
theorem dL_isFired_469 : decode cL_isFired 469 = .ok (.goto 4, 3) := by decide +kernel
theorem dL_isFired_472 : decode cL_isFired 472 = .ok (.iconst 0, 1) := by decide +kernel
theorem dL_isFired_473 : decode cL_isFired 473 = .ok (.ireturn, 1) := by decide +kernel
theorem dL_isBest_0 : decode cL_isBest 0 = .ok (.aload_n 0, 1) := by decide +kernel
theorem dL_isBest_1 : decode cL_isBest 1 = .ok (.invokevirtual 80, 3) := by decide +kernel
theorem dL_isBest_4 : decode cL_isBest 4 = .ok (.istore_n 1, 1) := by decide +kernel
theorem dL_isBest_5 : decode cL_isBest 5 = .ok (.aload_n 0, 1) := by decide +kernel
theorem dL_isBest_6 : decode cL_isBest 6 = .ok (.iload_n 1, 1) := by decide +kernel
theorem dL_isBest_7 : decode cL_isBest 7 = .ok (.iconst 0, 1) := by decide +kernel
theorem dL_isBest_8 : decode cL_isBest 8 = .ok (.invokevirtual 54, 3) := by decide +kernel
theorem dL_isBest_11 : decode cL_isBest 11 = .ok (.istore_n 2, 1) := by decide +kernel
theorem dL_isBest_12 : decode cL_isBest 12 = .ok (.aload_n 0, 1) := by decide +kernel
theorem dL_isBest_13 : decode cL_isBest 13 = .ok (.iload_n 1, 1) := by decide +kernel
theorem dL_isBest_14 : decode cL_isBest 14 = .ok (.iconst 2, 1) := by decide +kernel
theorem dL_isBest_15 : decode cL_isBest 15 = .ok (.invokevirtual 54, 3) := by decide +kernel
theorem dL_isBest_18 : decode cL_isBest 18 = .ok (.istore_n 3, 1) := by decide +kernel
theorem dL_isBest_19 : decode cL_isBest 19 = .ok (.iload_n 1, 1) := by decide +kernel
theorem dL_isBest_20 : decode cL_isBest 20 = .ok (.sipush 500, 3) := by decide +kernel
theorem dL_isBest_23 : decode cL_isBest 23 = .ok (.if_icmp .lt 23, 3) := by decide +kernel
theorem dL_isBest_26 : decode cL_isBest 26 = .ok (.iload_n 1, 1) := by decide +kernel
theorem dL_isBest_27 : decode cL_isBest 27 = .ok (.sipush 1200, 3) := by decide +kernel
theorem dL_isBest_30 : decode cL_isBest 30 = .ok (.if_icmp .gt 16, 3) := by decide +kernel
theorem dL_isBest_33 : decode cL_isBest 33 = .ok (.aload_n 0, 1) := by decide +kernel
theorem dL_isBest_34 : decode cL_isBest 34 = .ok (.iload_n 1, 1) := by decide +kernel
theorem dL_isBest_35 : decode cL_isBest 35 = .ok (.iconst 1, 1) := by decide +kernel
theorem dL_isBest_36 : decode cL_isBest 36 = .ok (.invokevirtual 54, 3) := by decide +kernel
theorem dL_isBest_39 : decode cL_isBest 39 = .ok (.ifCond .ne 7, 3) := by decide +kernel
theorem dL_isBest_42 : decode cL_isBest 42 = .ok (.iconst 1, 1) := by decide +kernel
theorem dL_isBest_43 : decode cL_isBest 43 = .ok (.goto 4, 3) := by decide +kernel
theorem dL_isBest_46 : decode cL_isBest 46 = .ok (.iconst 0, 1) := by decide +kernel
theorem dL_isBest_47 : decode cL_isBest 47 = .ok (.istore 4, 2) := by decide +kernel
theorem dL_isBest_49 : decode cL_isBest 49 = .ok (.sipush 500, 3) := by decide +kernel
theorem dL_isBest_52 : decode cL_isBest 52 = .ok (.istore 5, 2) := by decide +kernel
theorem dL_isBest_54 : decode cL_isBest 54 = .ok (.iload 5, 2) := by decide +kernel
theorem dL_isBest_56 : decode cL_isBest 56 = .ok (.sipush 1200, 3) := by decide +kernel
theorem dL_isBest_59 : decode cL_isBest 59 = .ok (.if_icmp .gt 80, 3) := by decide +kernel
theorem dL_isBest_62 : decode cL_isBest 62 = .ok (.iload 4, 2) := by decide +kernel
theorem dL_isBest_64 : decode cL_isBest 64 = .ok (.ifCond .eq 75, 3) := by decide +kernel
theorem dL_isBest_67 : decode cL_isBest 67 = .ok (.aload_n 0, 1) := by decide +kernel
theorem dL_isBest_68 : decode cL_isBest 68 = .ok (.iload 5, 2) := by decide +kernel
theorem dL_isBest_70 : decode cL_isBest 70 = .ok (.iconst 0, 1) := by decide +kernel
theorem dL_isBest_71 : decode cL_isBest 71 = .ok (.invokevirtual 54, 3) := by decide +kernel
theorem dL_isBest_74 : decode cL_isBest 74 = .ok (.istore 6, 2) := by decide +kernel
theorem dL_isBest_76 : decode cL_isBest 76 = .ok (.aload_n 0, 1) := by decide +kernel
theorem dL_isBest_77 : decode cL_isBest 77 = .ok (.iload 5, 2) := by decide +kernel
theorem dL_isBest_79 : decode cL_isBest 79 = .ok (.iconst 1, 1) := by decide +kernel
theorem dL_isBest_80 : decode cL_isBest 80 = .ok (.invokevirtual 54, 3) := by decide +kernel
theorem dL_isBest_83 : decode cL_isBest 83 = .ok (.ifCond .gt 43, 3) := by decide +kernel
theorem dL_isBest_86 : decode cL_isBest 86 = .ok (.iload 6, 2) := by decide +kernel
theorem dL_isBest_88 : decode cL_isBest 88 = .ok (.iload_n 2, 1) := by decide +kernel
theorem dL_isBest_89 : decode cL_isBest 89 = .ok (.if_icmp .lt 37, 3) := by decide +kernel
theorem dL_isBest_92 : decode cL_isBest 92 = .ok (.iload 6, 2) := by decide +kernel
theorem dL_isBest_94 : decode cL_isBest 94 = .ok (.iload_n 2, 1) := by decide +kernel
theorem dL_isBest_95 : decode cL_isBest 95 = .ok (.if_icmp .ne 35, 3) := by decide +kernel
theorem dL_isBest_98 : decode cL_isBest 98 = .ok (.aload_n 0, 1) := by decide +kernel
theorem dL_isBest_99 : decode cL_isBest 99 = .ok (.iload 5, 2) := by decide +kernel
theorem dL_isBest_101 : decode cL_isBest 101 = .ok (.iconst 2, 1) := by decide +kernel
theorem dL_isBest_102 : decode cL_isBest 102 = .ok (.invokevirtual 54, 3) := by decide +kernel
theorem dL_isBest_105 : decode cL_isBest 105 = .ok (.iload_n 3, 1) := by decide +kernel
theorem dL_isBest_106 : decode cL_isBest 106 = .ok (.if_icmp .gt 20, 3) := by decide +kernel
theorem dL_isBest_109 : decode cL_isBest 109 = .ok (.aload_n 0, 1) := by decide +kernel
theorem dL_isBest_110 : decode cL_isBest 110 = .ok (.iload 5, 2) := by decide +kernel
theorem dL_isBest_112 : decode cL_isBest 112 = .ok (.iconst 2, 1) := by decide +kernel
theorem dL_isBest_113 : decode cL_isBest 113 = .ok (.invokevirtual 54, 3) := by decide +kernel
theorem dL_isBest_116 : decode cL_isBest 116 = .ok (.iload_n 3, 1) := by decide +kernel
theorem dL_isBest_117 : decode cL_isBest 117 = .ok (.if_icmp .ne 13, 3) := by decide +kernel
theorem dL_isBest_120 : decode cL_isBest 120 = .ok (.iload 5, 2) := by decide +kernel
theorem dL_isBest_122 : decode cL_isBest 122 = .ok (.iload_n 1, 1) := by decide +kernel
theorem dL_isBest_123 : decode cL_isBest 123 = .ok (.if_icmp .lt 7, 3) := by decide +kernel
theorem dL_isBest_126 : decode cL_isBest 126 = .ok (.iconst 1, 1) := by decide +kernel
theorem dL_isBest_127 : decode cL_isBest 127 = .ok (.goto 4, 3) := by decide +kernel
theorem dL_isBest_130 : decode cL_isBest 130 = .ok (.iconst 0, 1) := by decide +kernel
theorem dL_isBest_131 : decode cL_isBest 131 = .ok (.istore 4, 2) := by decide +kernel
theorem dL_isBest_133 : decode cL_isBest 133 = .ok (.iinc 5 10, 3) := by decide +kernel
theorem dL_isBest_136 : decode cL_isBest 136 = .ok (.goto (-82), 3) := by decide +kernel
theorem dL_isBest_139 : decode cL_isBest 139 = .ok (.iload 4, 2) := by decide +kernel
theorem dL_isBest_141 : decode cL_isBest 141 = .ok (.ifCond .eq 38, 3) := by decide +kernel
theorem dL_isBest_144 : decode cL_isBest 144 = .ok (.iload_n 1, 1) := by decide +kernel
theorem dL_isBest_145 : decode cL_isBest 145 = .ok (.sipush 500, 3) := by decide +kernel
theorem dL_isBest_148 : decode cL_isBest 148 = .ok (.if_icmp .eq 27, 3) := by decide +kernel
theorem dL_isBest_151 : decode cL_isBest 151 = .ok (.aload_n 0, 1) := by decide +kernel
theorem dL_isBest_152 : decode cL_isBest 152 = .ok (.iload_n 1, 1) := by decide +kernel
theorem dL_isBest_153 : decode cL_isBest 153 = .ok (.iconst 1, 1) := by decide +kernel
theorem dL_isBest_154 : decode cL_isBest 154 = .ok (.isub, 1) := by decide +kernel
theorem dL_isBest_155 : decode cL_isBest 155 = .ok (.iconst 0, 1) := by decide +kernel
theorem dL_isBest_156 : decode cL_isBest 156 = .ok (.invokevirtual 54, 3) := by decide +kernel
theorem dL_isBest_159 : decode cL_isBest 159 = .ok (.iload_n 2, 1) := by decide +kernel
theorem dL_isBest_160 : decode cL_isBest 160 = .ok (.if_icmp .lt 15, 3) := by decide +kernel
theorem dL_isBest_163 : decode cL_isBest 163 = .ok (.aload_n 0, 1) := by decide +kernel
theorem dL_isBest_164 : decode cL_isBest 164 = .ok (.iload_n 1, 1) := by decide +kernel
theorem dL_isBest_165 : decode cL_isBest 165 = .ok (.iconst 1, 1) := by decide +kernel
theorem dL_isBest_166 : decode cL_isBest 166 = .ok (.isub, 1) := by decide +kernel
theorem dL_isBest_167 : decode cL_isBest 167 = .ok (.iconst 2, 1) := by decide +kernel
theorem dL_isBest_168 : decode cL_isBest 168 = .ok (.invokevirtual 54, 3) := by decide +kernel
theorem dL_isBest_171 : decode cL_isBest 171 = .ok (.iload_n 3, 1) := by decide +kernel
theorem dL_isBest_172 : decode cL_isBest 172 = .ok (.if_icmp .le 7, 3) := by decide +kernel
theorem dL_isBest_175 : decode cL_isBest 175 = .ok (.iconst 1, 1) := by decide +kernel
theorem dL_isBest_176 : decode cL_isBest 176 = .ok (.goto 4, 3) := by decide +kernel
theorem dL_isBest_179 : decode cL_isBest 179 = .ok (.iconst 0, 1) := by decide +kernel
theorem dL_isBest_180 : decode cL_isBest 180 = .ok (.ireturn, 1) := by decide +kernel
theorem dL_isPlan_0 : decode cL_isPlan 0 = .ok (.aload_n 0, 1) := by decide +kernel
theorem dL_isPlan_1 : decode cL_isPlan 1 = .ok (.invokevirtual 83, 3) := by decide +kernel
theorem dL_isPlan_4 : decode cL_isPlan 4 = .ok (.istore_n 1, 1) := by decide +kernel
theorem dL_isPlan_5 : decode cL_isPlan 5 = .ok (.bipush 6, 2) := by decide +kernel
theorem dL_isPlan_7 : decode cL_isPlan 7 = .ok (.newarray .int, 2) := by decide +kernel
theorem dL_isPlan_9 : decode cL_isPlan 9 = .ok (.astore_n 2, 1) := by decide +kernel
theorem dL_isPlan_10 : decode cL_isPlan 10 = .ok (.sipush 1200, 3) := by decide +kernel
theorem dL_isPlan_13 : decode cL_isPlan 13 = .ok (.istore_n 3, 1) := by decide +kernel
theorem dL_isPlan_14 : decode cL_isPlan 14 = .ok (.iload_n 1, 1) := by decide +kernel
theorem dL_isPlan_15 : decode cL_isPlan 15 = .ok (.bipush (-4), 2) := by decide +kernel
theorem dL_isPlan_17 : decode cL_isPlan 17 = .ok (.if_icmp .eq 9, 3) := by decide +kernel
theorem dL_isPlan_20 : decode cL_isPlan 20 = .ok (.iload_n 1, 1) := by decide +kernel
theorem dL_isPlan_21 : decode cL_isPlan 21 = .ok (.bipush 18, 2) := by decide +kernel
theorem dL_isPlan_23 : decode cL_isPlan 23 = .ok (.if_icmp .gt 7, 3) := by decide +kernel
theorem dL_isPlan_26 : decode cL_isPlan 26 = .ok (.iconst 1, 1) := by decide +kernel
theorem dL_isPlan_27 : decode cL_isPlan 27 = .ok (.goto 4, 3) := by decide +kernel
theorem dL_isPlan_30 : decode cL_isPlan 30 = .ok (.iconst 0, 1) := by decide +kernel
theorem dL_isPlan_31 : decode cL_isPlan 31 = .ok (.istore 4, 2) := by decide +kernel
theorem dL_isPlan_33 : decode cL_isPlan 33 = .ok (.iconst 0, 1) := by decide +kernel
theorem dL_isPlan_34 : decode cL_isPlan 34 = .ok (.istore 5, 2) := by decide +kernel
theorem dL_isPlan_36 : decode cL_isPlan 36 = .ok (.iconst 0, 1) := by decide +kernel
theorem dL_isPlan_37 : decode cL_isPlan 37 = .ok (.istore 6, 2) := by decide +kernel
theorem dL_isPlan_39 : decode cL_isPlan 39 = .ok (.iload 6, 2) := by decide +kernel
theorem dL_isPlan_41 : decode cL_isPlan 41 = .ok (.bipush 6, 2) := by decide +kernel
theorem dL_isPlan_43 : decode cL_isPlan 43 = .ok (.if_icmp .ge 64, 3) := by decide +kernel
theorem dL_isPlan_46 : decode cL_isPlan 46 = .ok (.iconst 0, 1) := by decide +kernel
theorem dL_isPlan_47 : decode cL_isPlan 47 = .ok (.istore 7, 2) := by decide +kernel
theorem dL_isPlan_49 : decode cL_isPlan 49 = .ok (.iconst 0, 1) := by decide +kernel
theorem dL_isPlan_50 : decode cL_isPlan 50 = .ok (.istore 8, 2) := by decide +kernel
theorem dL_isPlan_52 : decode cL_isPlan 52 = .ok (.iload 8, 2) := by decide +kernel
theorem dL_isPlan_54 : decode cL_isPlan 54 = .ok (.iconst 3, 1) := by decide +kernel
theorem dL_isPlan_55 : decode cL_isPlan 55 = .ok (.if_icmp .ge 30, 3) := by decide +kernel
theorem dL_isPlan_58 : decode cL_isPlan 58 = .ok (.iload 7, 2) := by decide +kernel
theorem dL_isPlan_60 : decode cL_isPlan 60 = .ok (.aload_n 0, 1) := by decide +kernel
theorem dL_isPlan_61 : decode cL_isPlan 61 = .ok (.iload 6, 2) := by decide +kernel
theorem dL_isPlan_63 : decode cL_isPlan 63 = .ok (.iload 8, 2) := by decide +kernel
theorem dL_isPlan_65 : decode cL_isPlan 65 = .ok (.invokevirtual 27, 3) := by decide +kernel
theorem dL_isPlan_68 : decode cL_isPlan 68 = .ok (.ifCond .lt 7, 3) := by decide +kernel
theorem dL_isPlan_71 : decode cL_isPlan 71 = .ok (.iconst 1, 1) := by decide +kernel
theorem dL_isPlan_72 : decode cL_isPlan 72 = .ok (.goto 4, 3) := by decide +kernel
theorem dL_isPlan_75 : decode cL_isPlan 75 = .ok (.iconst 0, 1) := by decide +kernel
theorem dL_isPlan_76 : decode cL_isPlan 76 = .ok (.iadd, 1) := by decide +kernel
theorem dL_isPlan_77 : decode cL_isPlan 77 = .ok (.istore 7, 2) := by decide +kernel
theorem dL_isPlan_79 : decode cL_isPlan 79 = .ok (.iinc 8 1, 3) := by decide +kernel
theorem dL_isPlan_82 : decode cL_isPlan 82 = .ok (.goto (-30), 3) := by decide +kernel
theorem dL_isPlan_85 : decode cL_isPlan 85 = .ok (.iload 7, 2) := by decide +kernel
theorem dL_isPlan_87 : decode cL_isPlan 87 = .ok (.iload 5, 2) := by decide +kernel
theorem dL_isPlan_89 : decode cL_isPlan 89 = .ok (.if_icmp .le 8, 3) := by decide +kernel
theorem dL_isPlan_92 : decode cL_isPlan 92 = .ok (.iload 7, 2) := by decide +kernel
theorem dL_isPlan_94 : decode cL_isPlan 94 = .ok (.goto 5, 3) := by decide +kernel
theorem dL_isPlan_97 : decode cL_isPlan 97 = .ok (.iload 5, 2) := by decide +kernel
theorem dL_isPlan_99 : decode cL_isPlan 99 = .ok (.istore 5, 2) := by decide +kernel
theorem dL_isPlan_101 : decode cL_isPlan 101 = .ok (.iinc 6 1, 3) := by decide +kernel
theorem dL_isPlan_104 : decode cL_isPlan 104 = .ok (.goto (-65), 3) := by decide +kernel
theorem dL_isPlan_107 : decode cL_isPlan 107 = .ok (.iload 4, 2) := by decide +kernel
theorem dL_isPlan_109 : decode cL_isPlan 109 = .ok (.ifCond .eq 44, 3) := by decide +kernel
theorem dL_isPlan_112 : decode cL_isPlan 112 = .ok (.iload_n 1, 1) := by decide +kernel
theorem dL_isPlan_113 : decode cL_isPlan 113 = .ok (.bipush (-4), 2) := by decide +kernel
theorem dL_isPlan_115 : decode cL_isPlan 115 = .ok (.if_icmp .eq 19, 3) := by decide +kernel
theorem dL_isPlan_118 : decode cL_isPlan 118 = .ok (.iload_n 1, 1) := by decide +kernel
theorem dL_isPlan_119 : decode cL_isPlan 119 = .ok (.iload 5, 2) := by decide +kernel
theorem dL_isPlan_121 : decode cL_isPlan 121 = .ok (.if_icmp .lt 32, 3) := by decide +kernel
theorem dL_isPlan_124 : decode cL_isPlan 124 = .ok (.iload_n 1, 1) := by decide +kernel
theorem dL_isPlan_125 : decode cL_isPlan 125 = .ok (.aload_n 0, 1) := by decide +kernel
theorem dL_isPlan_126 : decode cL_isPlan 126 = .ok (.bipush 20, 2) := by decide +kernel
theorem dL_isPlan_128 : decode cL_isPlan 128 = .ok (.invokevirtual 13, 3) := by decide +kernel
theorem dL_isPlan_131 : decode cL_isPlan 131 = .ok (.if_icmp .gt 22, 3) := by decide +kernel
theorem dL_isPlan_134 : decode cL_isPlan 134 = .ok (.iload_n 1, 1) := by decide +kernel
theorem dL_isPlan_135 : decode cL_isPlan 135 = .ok (.ifCond .gt 14, 3) := by decide +kernel
theorem dL_isPlan_138 : decode cL_isPlan 138 = .ok (.aload_n 0, 1) := by decide +kernel
theorem dL_isPlan_139 : decode cL_isPlan 139 = .ok (.iconst 0, 1) := by decide +kernel
theorem dL_isPlan_140 : decode cL_isPlan 140 = .ok (.iconst 0, 1) := by decide +kernel
theorem dL_isPlan_141 : decode cL_isPlan 141 = .ok (.invokevirtual 60, 3) := by decide +kernel
theorem dL_isPlan_144 : decode cL_isPlan 144 = .ok (.bipush (-4), 2) := by decide +kernel
theorem dL_isPlan_146 : decode cL_isPlan 146 = .ok (.if_icmp .ne 7, 3) := by decide +kernel
theorem dL_isPlan_149 : decode cL_isPlan 149 = .ok (.iconst 1, 1) := by decide +kernel
theorem dL_isPlan_150 : decode cL_isPlan 150 = .ok (.goto 4, 3) := by decide +kernel
theorem dL_isPlan_153 : decode cL_isPlan 153 = .ok (.iconst 0, 1) := by decide +kernel
theorem dL_isPlan_154 : decode cL_isPlan 154 = .ok (.istore 4, 2) := by decide +kernel
theorem dL_isPlan_156 : decode cL_isPlan 156 = .ok (.iconst 0, 1) := by decide +kernel
theorem dL_isPlan_157 : decode cL_isPlan 157 = .ok (.istore 6, 2) := by decide +kernel
theorem dL_isPlan_159 : decode cL_isPlan 159 = .ok (.iload 6, 2) := by decide +kernel
theorem dL_isPlan_161 : decode cL_isPlan 161 = .ok (.iload_n 1, 1) := by decide +kernel
theorem dL_isPlan_162 : decode cL_isPlan 162 = .ok (.if_icmp .ge 282, 3) := by decide +kernel
theorem dL_isPlan_165 : decode cL_isPlan 165 = .ok (.iload 4, 2) := by decide +kernel
theorem dL_isPlan_167 : decode cL_isPlan 167 = .ok (.ifCond .eq 277, 3) := by decide +kernel
theorem dL_isPlan_170 : decode cL_isPlan 170 = .ok (.aload_n 0, 1) := by decide +kernel
theorem dL_isPlan_171 : decode cL_isPlan 171 = .ok (.iload 6, 2) := by decide +kernel
theorem dL_isPlan_173 : decode cL_isPlan 173 = .ok (.iconst 0, 1) := by decide +kernel
theorem dL_isPlan_174 : decode cL_isPlan 174 = .ok (.invokevirtual 60, 3) := by decide +kernel
theorem dL_isPlan_177 : decode cL_isPlan 177 = .ok (.istore 7, 2) := by decide +kernel
theorem dL_isPlan_179 : decode cL_isPlan 179 = .ok (.aload_n 0, 1) := by decide +kernel
theorem dL_isPlan_180 : decode cL_isPlan 180 = .ok (.iload 6, 2) := by decide +kernel
theorem dL_isPlan_182 : decode cL_isPlan 182 = .ok (.iconst 1, 1) := by decide +kernel
theorem dL_isPlan_183 : decode cL_isPlan 183 = .ok (.invokevirtual 60, 3) := by decide +kernel
theorem dL_isPlan_186 : decode cL_isPlan 186 = .ok (.istore 8, 2) := by decide +kernel
theorem dL_isPlan_188 : decode cL_isPlan 188 = .ok (.iconst 0, 1) := by decide +kernel
theorem dL_isPlan_189 : decode cL_isPlan 189 = .ok (.istore 9, 2) := by decide +kernel
theorem dL_isPlan_191 : decode cL_isPlan 191 = .ok (.iload 7, 2) := by decide +kernel
theorem dL_isPlan_193 : decode cL_isPlan 193 = .ok (.ifCond .le 14, 3) := by decide +kernel
theorem dL_isPlan_196 : decode cL_isPlan 196 = .ok (.iload 7, 2) := by decide +kernel
theorem dL_isPlan_198 : decode cL_isPlan 198 = .ok (.bipush 64, 2) := by decide +kernel
theorem dL_isPlan_200 : decode cL_isPlan 200 = .ok (.if_icmp .ge 7, 3) := by decide +kernel
theorem dL_isPlan_203 : decode cL_isPlan 203 = .ok (.iconst 1, 1) := by decide +kernel
theorem dL_isPlan_204 : decode cL_isPlan 204 = .ok (.goto 4, 3) := by decide +kernel
theorem dL_isPlan_207 : decode cL_isPlan 207 = .ok (.iconst 0, 1) := by decide +kernel
theorem dL_isPlan_208 : decode cL_isPlan 208 = .ok (.istore 4, 2) := by decide +kernel
theorem dL_isPlan_210 : decode cL_isPlan 210 = .ok (.iconst 0, 1) := by decide +kernel
theorem dL_isPlan_211 : decode cL_isPlan 211 = .ok (.istore 10, 2) := by decide +kernel
theorem dL_isPlan_213 : decode cL_isPlan 213 = .ok (.iload 10, 2) := by decide +kernel
theorem dL_isPlan_215 : decode cL_isPlan 215 = .ok (.bipush 6, 2) := by decide +kernel
theorem dL_isPlan_217 : decode cL_isPlan 217 = .ok (.if_icmp .ge 134, 3) := by decide +kernel
theorem dL_isPlan_220 : decode cL_isPlan 220 = .ok (.iload 4, 2) := by decide +kernel
theorem dL_isPlan_222 : decode cL_isPlan 222 = .ok (.ifCond .eq 129, 3) := by decide +kernel
theorem dL_isPlan_225 : decode cL_isPlan 225 = .ok (.iload 7, 2) := by decide +kernel
theorem dL_isPlan_227 : decode cL_isPlan 227 = .ok (.iload 10, 2) := by decide +kernel
theorem dL_isPlan_229 : decode cL_isPlan 229 = .ok (.ishr, 1) := by decide +kernel
theorem dL_isPlan_230 : decode cL_isPlan 230 = .ok (.iconst 1, 1) := by decide +kernel
theorem dL_isPlan_231 : decode cL_isPlan 231 = .ok (.iand, 1) := by decide +kernel
theorem dL_isPlan_232 : decode cL_isPlan 232 = .ok (.iconst 1, 1) := by decide +kernel
theorem dL_isPlan_233 : decode cL_isPlan 233 = .ok (.if_icmp .ne 112, 3) := by decide +kernel
theorem dL_isPlan_236 : decode cL_isPlan 236 = .ok (.aload_n 0, 1) := by decide +kernel
theorem dL_isPlan_237 : decode cL_isPlan 237 = .ok (.iload 10, 2) := by decide +kernel
theorem dL_isPlan_239 : decode cL_isPlan 239 = .ok (.aload_n 2, 1) := by decide +kernel
theorem dL_isPlan_240 : decode cL_isPlan 240 = .ok (.iload 10, 2) := by decide +kernel
theorem dL_isPlan_242 : decode cL_isPlan 242 = .ok (.iaload, 1) := by decide +kernel
theorem dL_isPlan_243 : decode cL_isPlan 243 = .ok (.invokevirtual 27, 3) := by decide +kernel
theorem dL_isPlan_246 : decode cL_isPlan 246 = .ok (.istore 11, 2) := by decide +kernel
theorem dL_isPlan_248 : decode cL_isPlan 248 = .ok (.iload 11, 2) := by decide +kernel
theorem dL_isPlan_250 : decode cL_isPlan 250 = .ok (.ifCond .lt 31, 3) := by decide +kernel
theorem dL_isPlan_253 : decode cL_isPlan 253 = .ok (.iload 8, 2) := by decide +kernel
theorem dL_isPlan_255 : decode cL_isPlan 255 = .ok (.aload_n 0, 1) := by decide +kernel
theorem dL_isPlan_256 : decode cL_isPlan 256 = .ok (.iload 11, 2) := by decide +kernel
theorem dL_isPlan_258 : decode cL_isPlan 258 = .ok (.iconst 0, 1) := by decide +kernel
theorem dL_isPlan_259 : decode cL_isPlan 259 = .ok (.invokevirtual 30, 3) := by decide +kernel
theorem dL_isPlan_262 : decode cL_isPlan 262 = .ok (.if_icmp .lt 19, 3) := by decide +kernel
theorem dL_isPlan_265 : decode cL_isPlan 265 = .ok (.iload 8, 2) := by decide +kernel
theorem dL_isPlan_267 : decode cL_isPlan 267 = .ok (.aload_n 0, 1) := by decide +kernel
theorem dL_isPlan_268 : decode cL_isPlan 268 = .ok (.iload 11, 2) := by decide +kernel
theorem dL_isPlan_270 : decode cL_isPlan 270 = .ok (.iconst 1, 1) := by decide +kernel
theorem dL_isPlan_271 : decode cL_isPlan 271 = .ok (.invokevirtual 30, 3) := by decide +kernel
theorem dL_isPlan_274 : decode cL_isPlan 274 = .ok (.if_icmp .gt 7, 3) := by decide +kernel
theorem dL_isPlan_277 : decode cL_isPlan 277 = .ok (.iconst 1, 1) := by decide +kernel
theorem dL_isPlan_278 : decode cL_isPlan 278 = .ok (.goto 4, 3) := by decide +kernel
theorem dL_isPlan_281 : decode cL_isPlan 281 = .ok (.iconst 0, 1) := by decide +kernel
theorem dL_isPlan_282 : decode cL_isPlan 282 = .ok (.istore 4, 2) := by decide +kernel
theorem dL_isPlan_284 : decode cL_isPlan 284 = .ok (.aload_n 0, 1) := by decide +kernel
theorem dL_isPlan_285 : decode cL_isPlan 285 = .ok (.iload 11, 2) := by decide +kernel
theorem dL_isPlan_287 : decode cL_isPlan 287 = .ok (.iconst 0, 1) := by decide +kernel
theorem dL_isPlan_288 : decode cL_isPlan 288 = .ok (.invokevirtual 30, 3) := by decide +kernel
theorem dL_isPlan_291 : decode cL_isPlan 291 = .ok (.istore 12, 2) := by decide +kernel
theorem dL_isPlan_293 : decode cL_isPlan 293 = .ok (.aload_n 0, 1) := by decide +kernel
theorem dL_isPlan_294 : decode cL_isPlan 294 = .ok (.iload 11, 2) := by decide +kernel
theorem dL_isPlan_296 : decode cL_isPlan 296 = .ok (.iconst 1, 1) := by decide +kernel
theorem dL_isPlan_297 : decode cL_isPlan 297 = .ok (.invokevirtual 30, 3) := by decide +kernel
theorem dL_isPlan_300 : decode cL_isPlan 300 = .ok (.istore 13, 2) := by decide +kernel
theorem dL_isPlan_302 : decode cL_isPlan 302 = .ok (.iload 12, 2) := by decide +kernel
theorem dL_isPlan_304 : decode cL_isPlan 304 = .ok (.iload 9, 2) := by decide +kernel
theorem dL_isPlan_306 : decode cL_isPlan 306 = .ok (.if_icmp .le 8, 3) := by decide +kernel
theorem dL_isPlan_309 : decode cL_isPlan 309 = .ok (.iload 12, 2) := by decide +kernel
theorem dL_isPlan_311 : decode cL_isPlan 311 = .ok (.goto 5, 3) := by decide +kernel
theorem dL_isPlan_314 : decode cL_isPlan 314 = .ok (.iload 9, 2) := by decide +kernel
theorem dL_isPlan_316 : decode cL_isPlan 316 = .ok (.istore 9, 2) := by decide +kernel
theorem dL_isPlan_318 : decode cL_isPlan 318 = .ok (.aload_n 2, 1) := by decide +kernel
theorem dL_isPlan_319 : decode cL_isPlan 319 = .ok (.iload 10, 2) := by decide +kernel
theorem dL_isPlan_321 : decode cL_isPlan 321 = .ok (.dup2, 1) := by decide +kernel
theorem dL_isPlan_322 : decode cL_isPlan 322 = .ok (.iaload, 1) := by decide +kernel
theorem dL_isPlan_323 : decode cL_isPlan 323 = .ok (.iconst 1, 1) := by decide +kernel
theorem dL_isPlan_324 : decode cL_isPlan 324 = .ok (.iadd, 1) := by decide +kernel
theorem dL_isPlan_325 : decode cL_isPlan 325 = .ok (.iastore, 1) := by decide +kernel
theorem dL_isPlan_326 : decode cL_isPlan 326 = .ok (.iload 4, 2) := by decide +kernel
theorem dL_isPlan_328 : decode cL_isPlan 328 = .ok (.ifCond .eq 14, 3) := by decide +kernel
theorem dL_isPlan_331 : decode cL_isPlan 331 = .ok (.iload 8, 2) := by decide +kernel
theorem dL_isPlan_333 : decode cL_isPlan 333 = .ok (.iload 13, 2) := by decide +kernel
theorem dL_isPlan_335 : decode cL_isPlan 335 = .ok (.if_icmp .gt 7, 3) := by decide +kernel
theorem dL_isPlan_338 : decode cL_isPlan 338 = .ok (.iconst 1, 1) := by decide +kernel
theorem dL_isPlan_339 : decode cL_isPlan 339 = .ok (.goto 4, 3) := by decide +kernel
theorem dL_isPlan_342 : decode cL_isPlan 342 = .ok (.iconst 0, 1) := by decide +kernel
theorem dL_isPlan_343 : decode cL_isPlan 343 = .ok (.istore 4, 2) := by decide +kernel
theorem dL_isPlan_345 : decode cL_isPlan 345 = .ok (.iinc 10 1, 3) := by decide +kernel
theorem dL_isPlan_348 : decode cL_isPlan 348 = .ok (.goto (-135), 3) := by decide +kernel
theorem dL_isPlan_351 : decode cL_isPlan 351 = .ok (.iload 4, 2) := by decide +kernel
theorem dL_isPlan_353 : decode cL_isPlan 353 = .ok (.ifCond .eq 20, 3) := by decide +kernel
theorem dL_isPlan_356 : decode cL_isPlan 356 = .ok (.iload 8, 2) := by decide +kernel
theorem dL_isPlan_358 : decode cL_isPlan 358 = .ok (.iload 9, 2) := by decide +kernel
theorem dL_isPlan_360 : decode cL_isPlan 360 = .ok (.if_icmp .ne 13, 3) := by decide +kernel
theorem dL_isPlan_363 : decode cL_isPlan 363 = .ok (.iload 8, 2) := by decide +kernel
theorem dL_isPlan_365 : decode cL_isPlan 365 = .ok (.iload_n 3, 1) := by decide +kernel
theorem dL_isPlan_366 : decode cL_isPlan 366 = .ok (.if_icmp .gt 7, 3) := by decide +kernel
theorem dL_isPlan_369 : decode cL_isPlan 369 = .ok (.iconst 1, 1) := by decide +kernel
theorem dL_isPlan_370 : decode cL_isPlan 370 = .ok (.goto 4, 3) := by decide +kernel
theorem dL_isPlan_373 : decode cL_isPlan 373 = .ok (.iconst 0, 1) := by decide +kernel
theorem dL_isPlan_374 : decode cL_isPlan 374 = .ok (.istore 4, 2) := by decide +kernel
theorem dL_isPlan_376 : decode cL_isPlan 376 = .ok (.iconst 0, 1) := by decide +kernel
theorem dL_isPlan_377 : decode cL_isPlan 377 = .ok (.istore 10, 2) := by decide +kernel
theorem dL_isPlan_379 : decode cL_isPlan 379 = .ok (.iload 10, 2) := by decide +kernel
theorem dL_isPlan_381 : decode cL_isPlan 381 = .ok (.bipush 6, 2) := by decide +kernel
theorem dL_isPlan_383 : decode cL_isPlan 383 = .ok (.if_icmp .ge 55, 3) := by decide +kernel
theorem dL_isPlan_386 : decode cL_isPlan 386 = .ok (.iconst 0, 1) := by decide +kernel
theorem dL_isPlan_387 : decode cL_isPlan 387 = .ok (.istore 11, 2) := by decide +kernel
theorem dL_isPlan_389 : decode cL_isPlan 389 = .ok (.iload 11, 2) := by decide +kernel
theorem dL_isPlan_391 : decode cL_isPlan 391 = .ok (.aload_n 2, 1) := by decide +kernel
theorem dL_isPlan_392 : decode cL_isPlan 392 = .ok (.iload 10, 2) := by decide +kernel
theorem dL_isPlan_394 : decode cL_isPlan 394 = .ok (.iaload, 1) := by decide +kernel
theorem dL_isPlan_395 : decode cL_isPlan 395 = .ok (.if_icmp .ge 37, 3) := by decide +kernel
theorem dL_isPlan_398 : decode cL_isPlan 398 = .ok (.aload_n 0, 1) := by decide +kernel
theorem dL_isPlan_399 : decode cL_isPlan 399 = .ok (.aload_n 0, 1) := by decide +kernel
theorem dL_isPlan_400 : decode cL_isPlan 400 = .ok (.iload 10, 2) := by decide +kernel
theorem dL_isPlan_402 : decode cL_isPlan 402 = .ok (.iload 11, 2) := by decide +kernel
theorem dL_isPlan_404 : decode cL_isPlan 404 = .ok (.invokevirtual 27, 3) := by decide +kernel
theorem dL_isPlan_407 : decode cL_isPlan 407 = .ok (.iconst 1, 1) := by decide +kernel
theorem dL_isPlan_408 : decode cL_isPlan 408 = .ok (.invokevirtual 30, 3) := by decide +kernel
theorem dL_isPlan_411 : decode cL_isPlan 411 = .ok (.istore 12, 2) := by decide +kernel
theorem dL_isPlan_413 : decode cL_isPlan 413 = .ok (.iload 12, 2) := by decide +kernel
theorem dL_isPlan_415 : decode cL_isPlan 415 = .ok (.iload_n 3, 1) := by decide +kernel
theorem dL_isPlan_416 : decode cL_isPlan 416 = .ok (.if_icmp .ge 8, 3) := by decide +kernel
theorem dL_isPlan_419 : decode cL_isPlan 419 = .ok (.iload 12, 2) := by decide +kernel
theorem dL_isPlan_421 : decode cL_isPlan 421 = .ok (.goto 4, 3) := by decide +kernel
theorem dL_isPlan_424 : decode cL_isPlan 424 = .ok (.iload_n 3, 1) := by decide +kernel
theorem dL_isPlan_425 : decode cL_isPlan 425 = .ok (.istore_n 3, 1) := by decide +kernel
theorem dL_isPlan_426 : decode cL_isPlan 426 = .ok (.iinc 11 1, 3) := by decide +kernel
theorem dL_isPlan_429 : decode cL_isPlan 429 = .ok (.goto (-40), 3) := by decide +kernel
theorem dL_isPlan_432 : decode cL_isPlan 432 = .ok (.iinc 10 1, 3) := by decide +kernel
theorem dL_isPlan_435 : decode cL_isPlan 435 = .ok (.goto (-56), 3) := by decide +kernel
theorem dL_isPlan_438 : decode cL_isPlan 438 = .ok (.iinc 6 1, 3) := by decide +kernel
theorem dL_isPlan_441 : decode cL_isPlan 441 = .ok (.goto (-282), 3) := by decide +kernel
theorem dL_isPlan_444 : decode cL_isPlan 444 = .ok (.iconst 0, 1) := by decide +kernel
theorem dL_isPlan_445 : decode cL_isPlan 445 = .ok (.istore 6, 2) := by decide +kernel
theorem dL_isPlan_447 : decode cL_isPlan 447 = .ok (.iload 6, 2) := by decide +kernel
theorem dL_isPlan_449 : decode cL_isPlan 449 = .ok (.bipush 6, 2) := by decide +kernel
theorem dL_isPlan_451 : decode cL_isPlan 451 = .ok (.if_icmp .ge 40, 3) := by decide +kernel
theorem dL_isPlan_454 : decode cL_isPlan 454 = .ok (.iload 4, 2) := by decide +kernel
theorem dL_isPlan_456 : decode cL_isPlan 456 = .ok (.ifCond .eq 35, 3) := by decide +kernel
theorem dL_isPlan_459 : decode cL_isPlan 459 = .ok (.iload_n 1, 1) := by decide +kernel
theorem dL_isPlan_460 : decode cL_isPlan 460 = .ok (.ifCond .lt 31, 3) := by decide +kernel
theorem dL_isPlan_463 : decode cL_isPlan 463 = .ok (.aload_n 0, 1) := by decide +kernel
theorem dL_isPlan_464 : decode cL_isPlan 464 = .ok (.iload 6, 2) := by decide +kernel
theorem dL_isPlan_466 : decode cL_isPlan 466 = .ok (.aload_n 2, 1) := by decide +kernel
theorem dL_isPlan_467 : decode cL_isPlan 467 = .ok (.iload 6, 2) := by decide +kernel
theorem dL_isPlan_469 : decode cL_isPlan 469 = .ok (.iaload, 1) := by decide +kernel
theorem dL_isPlan_470 : decode cL_isPlan 470 = .ok (.invokevirtual 27, 3) := by decide +kernel
theorem dL_isPlan_473 : decode cL_isPlan 473 = .ok (.bipush (-4), 2) := by decide +kernel
theorem dL_isPlan_475 : decode cL_isPlan 475 = .ok (.if_icmp .ne 7, 3) := by decide +kernel
theorem dL_isPlan_478 : decode cL_isPlan 478 = .ok (.iconst 1, 1) := by decide +kernel
theorem dL_isPlan_479 : decode cL_isPlan 479 = .ok (.goto 4, 3) := by decide +kernel
theorem dL_isPlan_482 : decode cL_isPlan 482 = .ok (.iconst 0, 1) := by decide +kernel
theorem dL_isPlan_483 : decode cL_isPlan 483 = .ok (.istore 4, 2) := by decide +kernel
theorem dL_isPlan_485 : decode cL_isPlan 485 = .ok (.iinc 6 1, 3) := by decide +kernel
theorem dL_isPlan_488 : decode cL_isPlan 488 = .ok (.goto (-41), 3) := by decide +kernel
theorem dL_isPlan_491 : decode cL_isPlan 491 = .ok (.iload 4, 2) := by decide +kernel
theorem dL_isPlan_493 : decode cL_isPlan 493 = .ok (.ifCond .eq 22, 3) := by decide +kernel
theorem dL_isPlan_496 : decode cL_isPlan 496 = .ok (.iload_n 1, 1) := by decide +kernel
theorem dL_isPlan_497 : decode cL_isPlan 497 = .ok (.ifCond .lt 14, 3) := by decide +kernel
theorem dL_isPlan_500 : decode cL_isPlan 500 = .ok (.aload_n 0, 1) := by decide +kernel
theorem dL_isPlan_501 : decode cL_isPlan 501 = .ok (.iload_n 1, 1) := by decide +kernel
theorem dL_isPlan_502 : decode cL_isPlan 502 = .ok (.iconst 1, 1) := by decide +kernel
theorem dL_isPlan_503 : decode cL_isPlan 503 = .ok (.invokevirtual 60, 3) := by decide +kernel
theorem dL_isPlan_506 : decode cL_isPlan 506 = .ok (.bipush (-4), 2) := by decide +kernel
theorem dL_isPlan_508 : decode cL_isPlan 508 = .ok (.if_icmp .ne 7, 3) := by decide +kernel
theorem dL_isPlan_511 : decode cL_isPlan 511 = .ok (.iconst 1, 1) := by decide +kernel
theorem dL_isPlan_512 : decode cL_isPlan 512 = .ok (.goto 4, 3) := by decide +kernel
theorem dL_isPlan_515 : decode cL_isPlan 515 = .ok (.iconst 0, 1) := by decide +kernel
theorem dL_isPlan_516 : decode cL_isPlan 516 = .ok (.ireturn, 1) := by decide +kernel
theorem dL_isCounter_0 : decode cL_isCounter 0 = .ok (.aload_n 0, 1) := by decide +kernel
theorem dL_isCounter_1 : decode cL_isCounter 1 = .ok (.invokevirtual 86, 3) := by decide +kernel
theorem dL_isCounter_4 : decode cL_isCounter 4 = .ok (.istore_n 1, 1) := by decide +kernel
theorem dL_isCounter_5 : decode cL_isCounter 5 = .ok (.iload_n 1, 1) := by decide +kernel
theorem dL_isCounter_6 : decode cL_isCounter 6 = .ok (.bipush (-4), 2) := by decide +kernel
theorem dL_isCounter_8 : decode cL_isCounter 8 = .ok (.if_icmp .ne 17, 3) := by decide +kernel
theorem dL_isCounter_11 : decode cL_isCounter 11 = .ok (.aload_n 0, 1) := by decide +kernel
theorem dL_isCounter_12 : decode cL_isCounter 12 = .ok (.iconst 0, 1) := by decide +kernel
theorem dL_isCounter_13 : decode cL_isCounter 13 = .ok (.invokevirtual 13, 3) := by decide +kernel
theorem dL_isCounter_16 : decode cL_isCounter 16 = .ok (.ifCond .ne 7, 3) := by decide +kernel
theorem dL_isCounter_19 : decode cL_isCounter 19 = .ok (.iconst 1, 1) := by decide +kernel
theorem dL_isCounter_20 : decode cL_isCounter 20 = .ok (.goto 4, 3) := by decide +kernel
theorem dL_isCounter_23 : decode cL_isCounter 23 = .ok (.iconst 0, 1) := by decide +kernel
theorem dL_isCounter_24 : decode cL_isCounter 24 = .ok (.ireturn, 1) := by decide +kernel
theorem dL_isCounter_25 : decode cL_isCounter 25 = .ok (.iconst 0, 1) := by decide +kernel
theorem dL_isCounter_26 : decode cL_isCounter 26 = .ok (.istore_n 2, 1) := by decide +kernel
theorem dL_isCounter_27 : decode cL_isCounter 27 = .ok (.iconst 0, 1) := by decide +kernel
theorem dL_isCounter_28 : decode cL_isCounter 28 = .ok (.istore_n 3, 1) := by decide +kernel
theorem dL_isCounter_29 : decode cL_isCounter 29 = .ok (.iload_n 3, 1) := by decide +kernel
theorem dL_isCounter_30 : decode cL_isCounter 30 = .ok (.iconst 2, 1) := by decide +kernel
theorem dL_isCounter_31 : decode cL_isCounter 31 = .ok (.if_icmp .ge 131, 3) := by decide +kernel
theorem dL_isCounter_34 : decode cL_isCounter 34 = .ok (.iconst 0, 1) := by decide +kernel
theorem dL_isCounter_35 : decode cL_isCounter 35 = .ok (.istore 4, 2) := by decide +kernel
theorem dL_isCounter_37 : decode cL_isCounter 37 = .ok (.iload 4, 2) := by decide +kernel
theorem dL_isCounter_39 : decode cL_isCounter 39 = .ok (.aload_n 0, 1) := by decide +kernel
theorem dL_isCounter_40 : decode cL_isCounter 40 = .ok (.iconst 0, 1) := by decide +kernel
theorem dL_isCounter_41 : decode cL_isCounter 41 = .ok (.invokevirtual 13, 3) := by decide +kernel
theorem dL_isCounter_44 : decode cL_isCounter 44 = .ok (.if_icmp .ge 112, 3) := by decide +kernel
theorem dL_isCounter_47 : decode cL_isCounter 47 = .ok (.iconst 0, 1) := by decide +kernel
theorem dL_isCounter_48 : decode cL_isCounter 48 = .ok (.istore 5, 2) := by decide +kernel
theorem dL_isCounter_50 : decode cL_isCounter 50 = .ok (.iconst 0, 1) := by decide +kernel
theorem dL_isCounter_51 : decode cL_isCounter 51 = .ok (.istore 6, 2) := by decide +kernel
theorem dL_isCounter_53 : decode cL_isCounter 53 = .ok (.iload 6, 2) := by decide +kernel
theorem dL_isCounter_55 : decode cL_isCounter 55 = .ok (.bipush 6, 2) := by decide +kernel
theorem dL_isCounter_57 : decode cL_isCounter 57 = .ok (.if_icmp .ge 53, 3) := by decide +kernel
theorem dL_isCounter_60 : decode cL_isCounter 60 = .ok (.aload_n 0, 1) := by decide +kernel
theorem dL_isCounter_61 : decode cL_isCounter 61 = .ok (.iload 6, 2) := by decide +kernel
theorem dL_isCounter_63 : decode cL_isCounter 63 = .ok (.iconst 1, 1) := by decide +kernel
theorem dL_isCounter_64 : decode cL_isCounter 64 = .ok (.invokevirtual 23, 3) := by decide +kernel
theorem dL_isCounter_67 : decode cL_isCounter 67 = .ok (.aload_n 0, 1) := by decide +kernel
theorem dL_isCounter_68 : decode cL_isCounter 68 = .ok (.bipush 6, 2) := by decide +kernel
theorem dL_isCounter_70 : decode cL_isCounter 70 = .ok (.iconst 1, 1) := by decide +kernel
theorem dL_isCounter_71 : decode cL_isCounter 71 = .ok (.invokevirtual 23, 3) := by decide +kernel
theorem dL_isCounter_74 : decode cL_isCounter 74 = .ok (.isub, 1) := by decide +kernel
theorem dL_isCounter_75 : decode cL_isCounter 75 = .ok (.aload_n 0, 1) := by decide +kernel
theorem dL_isCounter_76 : decode cL_isCounter 76 = .ok (.iload 4, 2) := by decide +kernel
theorem dL_isCounter_78 : decode cL_isCounter 78 = .ok (.iconst 3, 1) := by decide +kernel
theorem dL_isCounter_79 : decode cL_isCounter 79 = .ok (.invokevirtual 30, 3) := by decide +kernel
theorem dL_isCounter_82 : decode cL_isCounter 82 = .ok (.isub, 1) := by decide +kernel
theorem dL_isCounter_83 : decode cL_isCounter 83 = .ok (.invokestatic 69, 3) := by decide +kernel
theorem dL_isCounter_86 : decode cL_isCounter 86 = .ok (.istore 7, 2) := by decide +kernel
theorem dL_isCounter_88 : decode cL_isCounter 88 = .ok (.iload 7, 2) := by decide +kernel
theorem dL_isCounter_90 : decode cL_isCounter 90 = .ok (.iload 5, 2) := by decide +kernel
theorem dL_isCounter_92 : decode cL_isCounter 92 = .ok (.if_icmp .le 8, 3) := by decide +kernel
theorem dL_isCounter_95 : decode cL_isCounter 95 = .ok (.iload 7, 2) := by decide +kernel
theorem dL_isCounter_97 : decode cL_isCounter 97 = .ok (.goto 5, 3) := by decide +kernel
theorem dL_isCounter_100 : decode cL_isCounter 100 = .ok (.iload 5, 2) := by decide +kernel
theorem dL_isCounter_102 : decode cL_isCounter 102 = .ok (.istore 5, 2) := by decide +kernel
theorem dL_isCounter_104 : decode cL_isCounter 104 = .ok (.iinc 6 1, 3) := by decide +kernel
theorem dL_isCounter_107 : decode cL_isCounter 107 = .ok (.goto (-54), 3) := by decide +kernel
theorem dL_isCounter_110 : decode cL_isCounter 110 = .ok (.iload_n 3, 1) := by decide +kernel
theorem dL_isCounter_111 : decode cL_isCounter 111 = .ok (.ifCond .ne 19, 3) := by decide +kernel
theorem dL_isCounter_114 : decode cL_isCounter 114 = .ok (.iload 4, 2) := by decide +kernel
theorem dL_isCounter_116 : decode cL_isCounter 116 = .ok (.iload_n 1, 1) := by decide +kernel
theorem dL_isCounter_117 : decode cL_isCounter 117 = .ok (.if_icmp .ne 8, 3) := by decide +kernel
theorem dL_isCounter_120 : decode cL_isCounter 120 = .ok (.iload 5, 2) := by decide +kernel
theorem dL_isCounter_122 : decode cL_isCounter 122 = .ok (.goto 4, 3) := by decide +kernel
theorem dL_isCounter_125 : decode cL_isCounter 125 = .ok (.iload_n 2, 1) := by decide +kernel
theorem dL_isCounter_126 : decode cL_isCounter 126 = .ok (.istore_n 2, 1) := by decide +kernel
theorem dL_isCounter_127 : decode cL_isCounter 127 = .ok (.goto 23, 3) := by decide +kernel
theorem dL_isCounter_130 : decode cL_isCounter 130 = .ok (.iload 5, 2) := by decide +kernel
theorem dL_isCounter_132 : decode cL_isCounter 132 = .ok (.iload_n 2, 1) := by decide +kernel
theorem dL_isCounter_133 : decode cL_isCounter 133 = .ok (.if_icmp .lt 15, 3) := by decide +kernel
theorem dL_isCounter_136 : decode cL_isCounter 136 = .ok (.iload 5, 2) := by decide +kernel
theorem dL_isCounter_138 : decode cL_isCounter 138 = .ok (.iload_n 2, 1) := by decide +kernel
theorem dL_isCounter_139 : decode cL_isCounter 139 = .ok (.if_icmp .ne 11, 3) := by decide +kernel
theorem dL_isCounter_142 : decode cL_isCounter 142 = .ok (.iload 4, 2) := by decide +kernel
theorem dL_isCounter_144 : decode cL_isCounter 144 = .ok (.iload_n 1, 1) := by decide +kernel
theorem dL_isCounter_145 : decode cL_isCounter 145 = .ok (.if_icmp .ge 5, 3) := by decide +kernel
theorem dL_isCounter_148 : decode cL_isCounter 148 = .ok (.iconst 0, 1) := by decide +kernel
theorem dL_isCounter_149 : decode cL_isCounter 149 = .ok (.ireturn, 1) := by decide +kernel
theorem dL_isCounter_150 : decode cL_isCounter 150 = .ok (.iinc 4 1, 3) := by decide +kernel
theorem dL_isCounter_153 : decode cL_isCounter 153 = .ok (.goto (-116), 3) := by decide +kernel
theorem dL_isCounter_156 : decode cL_isCounter 156 = .ok (.iinc 3 1, 3) := by decide +kernel
theorem dL_isCounter_159 : decode cL_isCounter 159 = .ok (.goto (-130), 3) := by decide +kernel
theorem dL_isCounter_162 : decode cL_isCounter 162 = .ok (.iconst 1, 1) := by decide +kernel
theorem dL_isCounter_163 : decode cL_isCounter 163 = .ok (.ireturn, 1) := by decide +kernel
theorem dL_acts_0 : decode cL_acts 0 = .ok (.aload_n 0, 1) := by decide +kernel
theorem dL_acts_1 : decode cL_acts 1 = .ok (.iconst 0, 1) := by decide +kernel
theorem dL_acts_2 : decode cL_acts 2 = .ok (.invokevirtual 13, 3) := by decide +kernel
theorem dL_acts_5 : decode cL_acts 5 = .ok (.istore_n 3, 1) := by decide +kernel
theorem dL_acts_6 : decode cL_acts 6 = .ok (.iload_n 3, 1) := by decide +kernel
theorem dL_acts_7 : decode cL_acts 7 = .ok (.ifCond .ne 7, 3) := by decide +kernel
theorem dL_acts_10 : decode cL_acts 10 = .ok (.iconst 0, 1) := by decide +kernel
theorem dL_acts_11 : decode cL_acts 11 = .ok (.goto 9, 3) := by decide +kernel
theorem dL_acts_14 : decode cL_acts 14 = .ok (.iload_n 2, 1) := by decide +kernel
theorem dL_acts_15 : decode cL_acts 15 = .ok (.bipush 7, 2) := by decide +kernel
theorem dL_acts_17 : decode cL_acts 17 = .ok (.idiv, 1) := by decide +kernel
theorem dL_acts_18 : decode cL_acts 18 = .ok (.iload_n 3, 1) := by decide +kernel
theorem dL_acts_19 : decode cL_acts 19 = .ok (.irem, 1) := by decide +kernel
theorem dL_acts_20 : decode cL_acts 20 = .ok (.istore 4, 2) := by decide +kernel
theorem dL_acts_22 : decode cL_acts 22 = .ok (.iload_n 1, 1) := by decide +kernel
theorem dL_acts_23 : decode cL_acts 23 = .ok (.bipush 20, 2) := by decide +kernel
theorem dL_acts_25 : decode cL_acts 25 = .ok (.invokestatic 89, 3) := by decide +kernel
theorem dL_acts_28 : decode cL_acts 28 = .ok (.tableswitch 245 0 12 #[68, 131, 131, 131, 131, 131, 131, 142, 151, 173, 220, 220, 220], 68) := by decide +kernel
theorem dL_acts_96 : decode cL_acts 96 = .ok (.sipush 600, 3) := by decide +kernel
theorem dL_acts_99 : decode cL_acts 99 = .ok (.iload_n 2, 1) := by decide +kernel
theorem dL_acts_100 : decode cL_acts 100 = .ok (.sipush 301, 3) := by decide +kernel
theorem dL_acts_103 : decode cL_acts 103 = .ok (.irem, 1) := by decide +kernel
theorem dL_acts_104 : decode cL_acts 104 = .ok (.iadd, 1) := by decide +kernel
theorem dL_acts_105 : decode cL_acts 105 = .ok (.istore 5, 2) := by decide +kernel
theorem dL_acts_107 : decode cL_acts 107 = .ok (.iload_n 3, 1) := by decide +kernel
theorem dL_acts_108 : decode cL_acts 108 = .ok (.bipush 6, 2) := by decide +kernel
theorem dL_acts_110 : decode cL_acts 110 = .ok (.if_icmp .le 7, 3) := by decide +kernel
theorem dL_acts_113 : decode cL_acts 113 = .ok (.iconst (-1), 1) := by decide +kernel
theorem dL_acts_114 : decode cL_acts 114 = .ok (.goto 44, 3) := by decide +kernel
theorem dL_acts_117 : decode cL_acts 117 = .ok (.aload_n 0, 1) := by decide +kernel
theorem dL_acts_118 : decode cL_acts 118 = .ok (.iload 5, 2) := by decide +kernel
theorem dL_acts_120 : decode cL_acts 120 = .ok (.iload 5, 2) := by decide +kernel
theorem dL_acts_122 : decode cL_acts 122 = .ok (.bipush 10, 2) := by decide +kernel
theorem dL_acts_124 : decode cL_acts 124 = .ok (.iadd, 1) := by decide +kernel
theorem dL_acts_125 : decode cL_acts 125 = .ok (.iload_n 2, 1) := by decide +kernel
theorem dL_acts_126 : decode cL_acts 126 = .ok (.sipush 301, 3) := by decide +kernel
theorem dL_acts_129 : decode cL_acts 129 = .ok (.idiv, 1) := by decide +kernel
theorem dL_acts_130 : decode cL_acts 130 = .ok (.iload_n 2, 1) := by decide +kernel
theorem dL_acts_131 : decode cL_acts 131 = .ok (.iconst 2, 1) := by decide +kernel
theorem dL_acts_132 : decode cL_acts 132 = .ok (.irem, 1) := by decide +kernel
theorem dL_acts_133 : decode cL_acts 133 = .ok (.ifCond .ne 8, 3) := by decide +kernel
theorem dL_acts_136 : decode cL_acts 136 = .ok (.bipush 40, 2) := by decide +kernel
theorem dL_acts_138 : decode cL_acts 138 = .ok (.goto 6, 3) := by decide +kernel
theorem dL_acts_141 : decode cL_acts 141 = .ok (.sipush 191, 3) := by decide +kernel
theorem dL_acts_144 : decode cL_acts 144 = .ok (.irem, 1) := by decide +kernel
theorem dL_acts_145 : decode cL_acts 145 = .ok (.iadd, 1) := by decide +kernel
theorem dL_acts_146 : decode cL_acts 146 = .ok (.bipush 60, 2) := by decide +kernel
theorem dL_acts_148 : decode cL_acts 148 = .ok (.iload_n 2, 1) := by decide +kernel
theorem dL_acts_149 : decode cL_acts 149 = .ok (.iconst 5, 1) := by decide +kernel
theorem dL_acts_150 : decode cL_acts 150 = .ok (.idiv, 1) := by decide +kernel
theorem dL_acts_151 : decode cL_acts 151 = .ok (.bipush 101, 2) := by decide +kernel
theorem dL_acts_153 : decode cL_acts 153 = .ok (.irem, 1) := by decide +kernel
theorem dL_acts_154 : decode cL_acts 154 = .ok (.iadd, 1) := by decide +kernel
theorem dL_acts_155 : decode cL_acts 155 = .ok (.invokevirtual 39, 3) := by decide +kernel
theorem dL_acts_158 : decode cL_acts 158 = .ok (.ireturn, 1) := by decide +kernel
theorem dL_acts_159 : decode cL_acts 159 = .ok (.aload_n 0, 1) := by decide +kernel
theorem dL_acts_160 : decode cL_acts 160 = .ok (.iload_n 2, 1) := by decide +kernel
theorem dL_acts_161 : decode cL_acts 161 = .ok (.bipush 7, 2) := by decide +kernel
theorem dL_acts_163 : decode cL_acts 163 = .ok (.irem, 1) := by decide +kernel
theorem dL_acts_164 : decode cL_acts 164 = .ok (.iload 4, 2) := by decide +kernel
theorem dL_acts_166 : decode cL_acts 166 = .ok (.invokevirtual 42, 3) := by decide +kernel
theorem dL_acts_169 : decode cL_acts 169 = .ok (.ireturn, 1) := by decide +kernel
theorem dL_acts_170 : decode cL_acts 170 = .ok (.aload_n 0, 1) := by decide +kernel
theorem dL_acts_171 : decode cL_acts 171 = .ok (.iload_n 2, 1) := by decide +kernel
theorem dL_acts_172 : decode cL_acts 172 = .ok (.bipush 7, 2) := by decide +kernel
theorem dL_acts_174 : decode cL_acts 174 = .ok (.irem, 1) := by decide +kernel
theorem dL_acts_175 : decode cL_acts 175 = .ok (.invokevirtual 45, 3) := by decide +kernel
theorem dL_acts_178 : decode cL_acts 178 = .ok (.ireturn, 1) := by decide +kernel
theorem dL_acts_179 : decode cL_acts 179 = .ok (.iload_n 2, 1) := by decide +kernel
theorem dL_acts_180 : decode cL_acts 180 = .ok (.iconst 4, 1) := by decide +kernel
theorem dL_acts_181 : decode cL_acts 181 = .ok (.irem, 1) := by decide +kernel
theorem dL_acts_182 : decode cL_acts 182 = .ok (.ifCond .ne 10, 3) := by decide +kernel
theorem dL_acts_185 : decode cL_acts 185 = .ok (.aload_n 0, 1) := by decide +kernel
theorem dL_acts_186 : decode cL_acts 186 = .ok (.invokevirtual 92, 3) := by decide +kernel
theorem dL_acts_189 : decode cL_acts 189 = .ok (.goto 11, 3) := by decide +kernel
theorem dL_acts_192 : decode cL_acts 192 = .ok (.aload_n 0, 1) := by decide +kernel
theorem dL_acts_193 : decode cL_acts 193 = .ok (.iload_n 2, 1) := by decide +kernel
theorem dL_acts_194 : decode cL_acts 194 = .ok (.bipush 7, 2) := by decide +kernel
theorem dL_acts_196 : decode cL_acts 196 = .ok (.irem, 1) := by decide +kernel
theorem dL_acts_197 : decode cL_acts 197 = .ok (.invokevirtual 45, 3) := by decide +kernel
theorem dL_acts_200 : decode cL_acts 200 = .ok (.ireturn, 1) := by decide +kernel
theorem dL_acts_201 : decode cL_acts 201 = .ok (.aload_n 0, 1) := by decide +kernel
theorem dL_acts_202 : decode cL_acts 202 = .ok (.iload_n 2, 1) := by decide +kernel
theorem dL_acts_203 : decode cL_acts 203 = .ok (.iconst 3, 1) := by decide +kernel
theorem dL_acts_204 : decode cL_acts 204 = .ok (.irem, 1) := by decide +kernel
theorem dL_acts_205 : decode cL_acts 205 = .ok (.iload_n 2, 1) := by decide +kernel
theorem dL_acts_206 : decode cL_acts 206 = .ok (.iconst 3, 1) := by decide +kernel
theorem dL_acts_207 : decode cL_acts 207 = .ok (.irem, 1) := by decide +kernel
theorem dL_acts_208 : decode cL_acts 208 = .ok (.ifCond .ne 13, 3) := by decide +kernel
theorem dL_acts_211 : decode cL_acts 211 = .ok (.iconst 1, 1) := by decide +kernel
theorem dL_acts_212 : decode cL_acts 212 = .ok (.iload_n 2, 1) := by decide +kernel
theorem dL_acts_213 : decode cL_acts 213 = .ok (.iconst 3, 1) := by decide +kernel
theorem dL_acts_214 : decode cL_acts 214 = .ok (.idiv, 1) := by decide +kernel
theorem dL_acts_215 : decode cL_acts 215 = .ok (.iconst 5, 1) := by decide +kernel
theorem dL_acts_216 : decode cL_acts 216 = .ok (.irem, 1) := by decide +kernel
theorem dL_acts_217 : decode cL_acts 217 = .ok (.iadd, 1) := by decide +kernel
theorem dL_acts_218 : decode cL_acts 218 = .ok (.goto 26, 3) := by decide +kernel
theorem dL_acts_221 : decode cL_acts 221 = .ok (.iload_n 2, 1) := by decide +kernel
theorem dL_acts_222 : decode cL_acts 222 = .ok (.iconst 3, 1) := by decide +kernel
theorem dL_acts_223 : decode cL_acts 223 = .ok (.irem, 1) := by decide +kernel
theorem dL_acts_224 : decode cL_acts 224 = .ok (.iconst 1, 1) := by decide +kernel
theorem dL_acts_225 : decode cL_acts 225 = .ok (.if_icmp .ne 12, 3) := by decide +kernel
theorem dL_acts_228 : decode cL_acts 228 = .ok (.iload_n 2, 1) := by decide +kernel
theorem dL_acts_229 : decode cL_acts 229 = .ok (.iconst 3, 1) := by decide +kernel
theorem dL_acts_230 : decode cL_acts 230 = .ok (.idiv, 1) := by decide +kernel
theorem dL_acts_231 : decode cL_acts 231 = .ok (.bipush 6, 2) := by decide +kernel
theorem dL_acts_233 : decode cL_acts 233 = .ok (.irem, 1) := by decide +kernel
theorem dL_acts_234 : decode cL_acts 234 = .ok (.goto 10, 3) := by decide +kernel
theorem dL_acts_237 : decode cL_acts 237 = .ok (.iload_n 2, 1) := by decide +kernel
theorem dL_acts_238 : decode cL_acts 238 = .ok (.iconst 3, 1) := by decide +kernel
theorem dL_acts_239 : decode cL_acts 239 = .ok (.idiv, 1) := by decide +kernel
theorem dL_acts_240 : decode cL_acts 240 = .ok (.sipush 250, 3) := by decide +kernel
theorem dL_acts_243 : decode cL_acts 243 = .ok (.irem, 1) := by decide +kernel
theorem dL_acts_244 : decode cL_acts 244 = .ok (.invokevirtual 48, 3) := by decide +kernel
theorem dL_acts_247 : decode cL_acts 247 = .ok (.ireturn, 1) := by decide +kernel
theorem dL_acts_248 : decode cL_acts 248 = .ok (.aload_n 0, 1) := by decide +kernel
theorem dL_acts_249 : decode cL_acts 249 = .ok (.iload_n 2, 1) := by decide +kernel
theorem dL_acts_250 : decode cL_acts 250 = .ok (.bipush 6, 2) := by decide +kernel
theorem dL_acts_252 : decode cL_acts 252 = .ok (.irem, 1) := by decide +kernel
theorem dL_acts_253 : decode cL_acts 253 = .ok (.iload_n 2, 1) := by decide +kernel
theorem dL_acts_254 : decode cL_acts 254 = .ok (.bipush 6, 2) := by decide +kernel
theorem dL_acts_256 : decode cL_acts 256 = .ok (.idiv, 1) := by decide +kernel
theorem dL_acts_257 : decode cL_acts 257 = .ok (.bipush 13, 2) := by decide +kernel
theorem dL_acts_259 : decode cL_acts 259 = .ok (.irem, 1) := by decide +kernel
theorem dL_acts_260 : decode cL_acts 260 = .ok (.ifCond .ne 7, 3) := by decide +kernel
theorem dL_acts_263 : decode cL_acts 263 = .ok (.iconst (-1), 1) := by decide +kernel
theorem dL_acts_264 : decode cL_acts 264 = .ok (.goto 5, 3) := by decide +kernel
theorem dL_acts_267 : decode cL_acts 267 = .ok (.iload 4, 2) := by decide +kernel
theorem dL_acts_269 : decode cL_acts 269 = .ok (.invokevirtual 57, 3) := by decide +kernel
theorem dL_acts_272 : decode cL_acts 272 = .ok (.ireturn, 1) := by decide +kernel
theorem dL_acts_273 : decode cL_acts 273 = .ok (.aload_n 0, 1) := by decide +kernel
theorem dL_acts_274 : decode cL_acts 274 = .ok (.iload_n 2, 1) := by decide +kernel
theorem dL_acts_275 : decode cL_acts 275 = .ok (.iconst 4, 1) := by decide +kernel
theorem dL_acts_276 : decode cL_acts 276 = .ok (.irem, 1) := by decide +kernel
theorem dL_acts_277 : decode cL_acts 277 = .ok (.ifCond .ne 17, 3) := by decide +kernel
theorem dL_acts_280 : decode cL_acts 280 = .ok (.sipush 500, 3) := by decide +kernel
theorem dL_acts_283 : decode cL_acts 283 = .ok (.iload_n 2, 1) := by decide +kernel
theorem dL_acts_284 : decode cL_acts 284 = .ok (.iconst 4, 1) := by decide +kernel
theorem dL_acts_285 : decode cL_acts 285 = .ok (.idiv, 1) := by decide +kernel
theorem dL_acts_286 : decode cL_acts 286 = .ok (.sipush 701, 3) := by decide +kernel
theorem dL_acts_289 : decode cL_acts 289 = .ok (.irem, 1) := by decide +kernel
theorem dL_acts_290 : decode cL_acts 290 = .ok (.iadd, 1) := by decide +kernel
theorem dL_acts_291 : decode cL_acts 291 = .ok (.goto 14, 3) := by decide +kernel
theorem dL_acts_294 : decode cL_acts 294 = .ok (.sipush 590, 3) := by decide +kernel
theorem dL_acts_297 : decode cL_acts 297 = .ok (.iload_n 2, 1) := by decide +kernel
theorem dL_acts_298 : decode cL_acts 298 = .ok (.iconst 4, 1) := by decide +kernel
theorem dL_acts_299 : decode cL_acts 299 = .ok (.idiv, 1) := by decide +kernel
theorem dL_acts_300 : decode cL_acts 300 = .ok (.sipush 330, 3) := by decide +kernel
theorem dL_acts_303 : decode cL_acts 303 = .ok (.irem, 1) := by decide +kernel
theorem dL_acts_304 : decode cL_acts 304 = .ok (.iadd, 1) := by decide +kernel
theorem dL_acts_305 : decode cL_acts 305 = .ok (.iconst 1, 1) := by decide +kernel
theorem dL_acts_306 : decode cL_acts 306 = .ok (.iload_n 2, 1) := by decide +kernel
theorem dL_acts_307 : decode cL_acts 307 = .ok (.bipush 9, 2) := by decide +kernel
theorem dL_acts_309 : decode cL_acts 309 = .ok (.idiv, 1) := by decide +kernel
theorem dL_acts_310 : decode cL_acts 310 = .ok (.bipush 7, 2) := by decide +kernel
theorem dL_acts_312 : decode cL_acts 312 = .ok (.irem, 1) := by decide +kernel
theorem dL_acts_313 : decode cL_acts 313 = .ok (.iadd, 1) := by decide +kernel
theorem dL_acts_314 : decode cL_acts 314 = .ok (.invokevirtual 51, 3) := by decide +kernel
theorem dL_acts_317 : decode cL_acts 317 = .ok (.ireturn, 1) := by decide +kernel
theorem dL_law_0 : decode cL_law 0 = .ok (.new 14, 3) := by decide +kernel
theorem dL_law_3 : decode cL_law 3 = .ok (.dup, 1) := by decide +kernel
theorem dL_law_4 : decode cL_law 4 = .ok (.invokespecial 95, 3) := by decide +kernel
theorem dL_law_7 : decode cL_law 7 = .ok (.astore_n 1, 1) := by decide +kernel
theorem dL_law_8 : decode cL_law 8 = .ok (.aload_n 1, 1) := by decide +kernel
theorem dL_law_9 : decode cL_law 9 = .ok (.invokevirtual 76, 3) := by decide +kernel
theorem dL_law_12 : decode cL_law 12 = .ok (.bipush (-2), 2) := by decide +kernel
theorem dL_law_14 : decode cL_law 14 = .ok (.if_icmp .ne 42, 3) := by decide +kernel
theorem dL_law_17 : decode cL_law 17 = .ok (.aload_n 1, 1) := by decide +kernel
theorem dL_law_18 : decode cL_law 18 = .ok (.invokestatic 96, 3) := by decide +kernel
theorem dL_law_21 : decode cL_law 21 = .ok (.ifCond .eq 35, 3) := by decide +kernel
theorem dL_law_24 : decode cL_law 24 = .ok (.aload_n 1, 1) := by decide +kernel
theorem dL_law_25 : decode cL_law 25 = .ok (.invokestatic 72, 3) := by decide +kernel
theorem dL_law_28 : decode cL_law 28 = .ok (.ifCond .eq 28, 3) := by decide +kernel
theorem dL_law_31 : decode cL_law 31 = .ok (.aload_n 1, 1) := by decide +kernel
theorem dL_law_32 : decode cL_law 32 = .ok (.invokestatic 99, 3) := by decide +kernel
theorem dL_law_35 : decode cL_law 35 = .ok (.ifCond .eq 21, 3) := by decide +kernel
theorem dL_law_38 : decode cL_law 38 = .ok (.aload_n 1, 1) := by decide +kernel
theorem dL_law_39 : decode cL_law 39 = .ok (.invokestatic 102, 3) := by decide +kernel
theorem dL_law_42 : decode cL_law 42 = .ok (.ifCond .eq 14, 3) := by decide +kernel
theorem dL_law_45 : decode cL_law 45 = .ok (.aload_n 1, 1) := by decide +kernel
theorem dL_law_46 : decode cL_law 46 = .ok (.invokestatic 105, 3) := by decide +kernel
theorem dL_law_49 : decode cL_law 49 = .ok (.ifCond .eq 7, 3) := by decide +kernel
theorem dL_law_52 : decode cL_law 52 = .ok (.iconst 1, 1) := by decide +kernel
theorem dL_law_53 : decode cL_law 53 = .ok (.goto 4, 3) := by decide +kernel
theorem dL_law_56 : decode cL_law 56 = .ok (.iconst 0, 1) := by decide +kernel
theorem dL_law_57 : decode cL_law 57 = .ok (.istore_n 2, 1) := by decide +kernel
theorem dL_law_58 : decode cL_law 58 = .ok (.iconst 0, 1) := by decide +kernel
theorem dL_law_59 : decode cL_law 59 = .ok (.istore_n 3, 1) := by decide +kernel
theorem dL_law_60 : decode cL_law 60 = .ok (.iload_n 3, 1) := by decide +kernel
theorem dL_law_61 : decode cL_law 61 = .ok (.bipush 60, 2) := by decide +kernel
theorem dL_law_63 : decode cL_law 63 = .ok (.if_icmp .ge 332, 3) := by decide +kernel
theorem dL_law_66 : decode cL_law 66 = .ok (.iload_n 2, 1) := by decide +kernel
theorem dL_law_67 : decode cL_law 67 = .ok (.ifCond .eq 328, 3) := by decide +kernel
theorem dL_law_70 : decode cL_law 70 = .ok (.aload_n 0, 1) := by decide +kernel
theorem dL_law_71 : decode cL_law 71 = .ok (.iconst 2, 1) := by decide +kernel
theorem dL_law_72 : decode cL_law 72 = .ok (.iload_n 3, 1) := by decide +kernel
theorem dL_law_73 : decode cL_law 73 = .ok (.imul, 1) := by decide +kernel
theorem dL_law_74 : decode cL_law 74 = .ok (.invokestatic 108, 3) := by decide +kernel
theorem dL_law_77 : decode cL_law 77 = .ok (.istore 4, 2) := by decide +kernel
theorem dL_law_79 : decode cL_law 79 = .ok (.aload_n 0, 1) := by decide +kernel
theorem dL_law_80 : decode cL_law 80 = .ok (.iconst 2, 1) := by decide +kernel
theorem dL_law_81 : decode cL_law 81 = .ok (.iload_n 3, 1) := by decide +kernel
theorem dL_law_82 : decode cL_law 82 = .ok (.imul, 1) := by decide +kernel
theorem dL_law_83 : decode cL_law 83 = .ok (.iconst 1, 1) := by decide +kernel
theorem dL_law_84 : decode cL_law 84 = .ok (.iadd, 1) := by decide +kernel
theorem dL_law_85 : decode cL_law 85 = .ok (.invokestatic 108, 3) := by decide +kernel
theorem dL_law_88 : decode cL_law 88 = .ok (.ldc 112, 2) := by decide +kernel
theorem dL_law_90 : decode cL_law 90 = .ok (.invokestatic 89, 3) := by decide +kernel
theorem dL_law_93 : decode cL_law 93 = .ok (.istore 5, 2) := by decide +kernel
theorem dL_law_95 : decode cL_law 95 = .ok (.aload_n 1, 1) := by decide +kernel
theorem dL_law_96 : decode cL_law 96 = .ok (.invokestatic 33, 3) := by decide +kernel
theorem dL_law_99 : decode cL_law 99 = .ok (.lstore 6, 2) := by decide +kernel
theorem dL_law_101 : decode cL_law 101 = .ok (.aload_n 1, 1) := by decide +kernel
theorem dL_law_102 : decode cL_law 102 = .ok (.bipush 21, 2) := by decide +kernel
theorem dL_law_104 : decode cL_law 104 = .ok (.invokevirtual 13, 3) := by decide +kernel
theorem dL_law_107 : decode cL_law 107 = .ok (.istore 8, 2) := by decide +kernel
theorem dL_law_109 : decode cL_law 109 = .ok (.iload_n 3, 1) := by decide +kernel
theorem dL_law_110 : decode cL_law 110 = .ok (.iconst 4, 1) := by decide +kernel
theorem dL_law_111 : decode cL_law 111 = .ok (.if_icmp .ge 7, 3) := by decide +kernel
theorem dL_law_114 : decode cL_law 114 = .ok (.iconst 0, 1) := by decide +kernel
theorem dL_law_115 : decode cL_law 115 = .ok (.goto 28, 3) := by decide +kernel
theorem dL_law_118 : decode cL_law 118 = .ok (.iload_n 3, 1) := by decide +kernel
theorem dL_law_119 : decode cL_law 119 = .ok (.bipush 13, 2) := by decide +kernel
theorem dL_law_121 : decode cL_law 121 = .ok (.if_icmp .ge 15, 3) := by decide +kernel
theorem dL_law_124 : decode cL_law 124 = .ok (.iconst 1, 1) := by decide +kernel
theorem dL_law_125 : decode cL_law 125 = .ok (.iload 4, 2) := by decide +kernel
theorem dL_law_127 : decode cL_law 127 = .ok (.bipush 12, 2) := by decide +kernel
theorem dL_law_129 : decode cL_law 129 = .ok (.invokestatic 89, 3) := by decide +kernel
theorem dL_law_132 : decode cL_law 132 = .ok (.iadd, 1) := by decide +kernel
theorem dL_law_133 : decode cL_law 133 = .ok (.goto 10, 3) := by decide +kernel
theorem dL_law_136 : decode cL_law 136 = .ok (.iload 4, 2) := by decide +kernel
theorem dL_law_138 : decode cL_law 138 = .ok (.bipush 20, 2) := by decide +kernel
theorem dL_law_140 : decode cL_law 140 = .ok (.invokestatic 89, 3) := by decide +kernel
theorem dL_law_143 : decode cL_law 143 = .ok (.istore 9, 2) := by decide +kernel
theorem dL_law_145 : decode cL_law 145 = .ok (.aload_n 1, 1) := by decide +kernel
theorem dL_law_146 : decode cL_law 146 = .ok (.bipush 20, 2) := by decide +kernel
theorem dL_law_148 : decode cL_law 148 = .ok (.iload 4, 2) := by decide +kernel
theorem dL_law_150 : decode cL_law 150 = .ok (.iconst 4, 1) := by decide +kernel
theorem dL_law_151 : decode cL_law 151 = .ok (.ishr, 1) := by decide +kernel
theorem dL_law_152 : decode cL_law 152 = .ok (.ldc 113, 2) := by decide +kernel
theorem dL_law_154 : decode cL_law 154 = .ok (.invokestatic 89, 3) := by decide +kernel
theorem dL_law_157 : decode cL_law 157 = .ok (.imul, 1) := by decide +kernel
theorem dL_law_158 : decode cL_law 158 = .ok (.iload 9, 2) := by decide +kernel
theorem dL_law_160 : decode cL_law 160 = .ok (.iadd, 1) := by decide +kernel
theorem dL_law_161 : decode cL_law 161 = .ok (.iload 5, 2) := by decide +kernel
theorem dL_law_163 : decode cL_law 163 = .ok (.invokestatic 114, 3) := by decide +kernel
theorem dL_law_166 : decode cL_law 166 = .ok (.istore 10, 2) := by decide +kernel
theorem dL_law_168 : decode cL_law 168 = .ok (.iload 10, 2) := by decide +kernel
theorem dL_law_170 : decode cL_law 170 = .ok (.bipush (-4), 2) := by decide +kernel
theorem dL_law_172 : decode cL_law 172 = .ok (.if_icmp .lt 59, 3) := by decide +kernel
theorem dL_law_175 : decode cL_law 175 = .ok (.iload 10, 2) := by decide +kernel
theorem dL_law_177 : decode cL_law 177 = .ok (.ifCond .lt 29, 3) := by decide +kernel
theorem dL_law_180 : decode cL_law 180 = .ok (.aload_n 1, 1) := by decide +kernel
theorem dL_law_181 : decode cL_law 181 = .ok (.bipush 21, 2) := by decide +kernel
theorem dL_law_183 : decode cL_law 183 = .ok (.invokevirtual 13, 3) := by decide +kernel
theorem dL_law_186 : decode cL_law 186 = .ok (.iload 8, 2) := by decide +kernel
theorem dL_law_188 : decode cL_law 188 = .ok (.iconst 4, 1) := by decide +kernel
theorem dL_law_189 : decode cL_law 189 = .ok (.if_icmp .ne 7, 3) := by decide +kernel
theorem dL_law_192 : decode cL_law 192 = .ok (.iconst 4, 1) := by decide +kernel
theorem dL_law_193 : decode cL_law 193 = .ok (.goto 7, 3) := by decide +kernel
theorem dL_law_196 : decode cL_law 196 = .ok (.iload 8, 2) := by decide +kernel
theorem dL_law_198 : decode cL_law 198 = .ok (.iconst 1, 1) := by decide +kernel
theorem dL_law_199 : decode cL_law 199 = .ok (.iadd, 1) := by decide +kernel
theorem dL_law_200 : decode cL_law 200 = .ok (.if_icmp .ne 31, 3) := by decide +kernel
theorem dL_law_203 : decode cL_law 203 = .ok (.goto 24, 3) := by decide +kernel
theorem dL_law_206 : decode cL_law 206 = .ok (.aload_n 1, 1) := by decide +kernel
theorem dL_law_207 : decode cL_law 207 = .ok (.bipush 21, 2) := by decide +kernel
theorem dL_law_209 : decode cL_law 209 = .ok (.invokevirtual 13, 3) := by decide +kernel
theorem dL_law_212 : decode cL_law 212 = .ok (.iload 8, 2) := by decide +kernel
theorem dL_law_214 : decode cL_law 214 = .ok (.if_icmp .ne 17, 3) := by decide +kernel
theorem dL_law_217 : decode cL_law 217 = .ok (.aload_n 1, 1) := by decide +kernel
theorem dL_law_218 : decode cL_law 218 = .ok (.invokestatic 33, 3) := by decide +kernel
theorem dL_law_221 : decode cL_law 221 = .ok (.lload 6, 2) := by decide +kernel
theorem dL_law_223 : decode cL_law 223 = .ok (.lcmp, 1) := by decide +kernel
theorem dL_law_224 : decode cL_law 224 = .ok (.ifCond .ne 7, 3) := by decide +kernel
theorem dL_law_227 : decode cL_law 227 = .ok (.iconst 1, 1) := by decide +kernel
theorem dL_law_228 : decode cL_law 228 = .ok (.goto 4, 3) := by decide +kernel
theorem dL_law_231 : decode cL_law 231 = .ok (.iconst 0, 1) := by decide +kernel
theorem dL_law_232 : decode cL_law 232 = .ok (.istore_n 2, 1) := by decide +kernel
theorem dL_law_233 : decode cL_law 233 = .ok (.iload_n 2, 1) := by decide +kernel
theorem dL_law_234 : decode cL_law 234 = .ok (.ifCond .eq 53, 3) := by decide +kernel
theorem dL_law_237 : decode cL_law 237 = .ok (.iload 10, 2) := by decide +kernel
theorem dL_law_239 : decode cL_law 239 = .ok (.ifCond .lt 48, 3) := by decide +kernel
theorem dL_law_242 : decode cL_law 242 = .ok (.iload 4, 2) := by decide +kernel
theorem dL_law_244 : decode cL_law 244 = .ok (.bipush 25, 2) := by decide +kernel
theorem dL_law_246 : decode cL_law 246 = .ok (.ishr, 1) := by decide +kernel
theorem dL_law_247 : decode cL_law 247 = .ok (.iconst 3, 1) := by decide +kernel
theorem dL_law_248 : decode cL_law 248 = .ok (.iand, 1) := by decide +kernel
theorem dL_law_249 : decode cL_law 249 = .ok (.ifCond .ne 38, 3) := by decide +kernel
theorem dL_law_252 : decode cL_law 252 = .ok (.aload_n 1, 1) := by decide +kernel
theorem dL_law_253 : decode cL_law 253 = .ok (.invokevirtual 76, 3) := by decide +kernel
theorem dL_law_256 : decode cL_law 256 = .ok (.iload 8, 2) := by decide +kernel
theorem dL_law_258 : decode cL_law 258 = .ok (.iconst 4, 1) := by decide +kernel
theorem dL_law_259 : decode cL_law 259 = .ok (.if_icmp .ne 7, 3) := by decide +kernel
theorem dL_law_262 : decode cL_law 262 = .ok (.iconst 3, 1) := by decide +kernel
theorem dL_law_263 : decode cL_law 263 = .ok (.goto 5, 3) := by decide +kernel
theorem dL_law_266 : decode cL_law 266 = .ok (.iload 8, 2) := by decide +kernel
theorem dL_law_268 : decode cL_law 268 = .ok (.if_icmp .ne 17, 3) := by decide +kernel
theorem dL_law_271 : decode cL_law 271 = .ok (.aload_n 1, 1) := by decide +kernel
theorem dL_law_272 : decode cL_law 272 = .ok (.invokestatic 33, 3) := by decide +kernel
theorem dL_law_275 : decode cL_law 275 = .ok (.lload 6, 2) := by decide +kernel
theorem dL_law_277 : decode cL_law 277 = .ok (.lcmp, 1) := by decide +kernel
theorem dL_law_278 : decode cL_law 278 = .ok (.ifCond .ne 7, 3) := by decide +kernel
theorem dL_law_281 : decode cL_law 281 = .ok (.iconst 1, 1) := by decide +kernel
theorem dL_law_282 : decode cL_law 282 = .ok (.goto 4, 3) := by decide +kernel
theorem dL_law_285 : decode cL_law 285 = .ok (.iconst 0, 1) := by decide +kernel
theorem dL_law_286 : decode cL_law 286 = .ok (.istore_n 2, 1) := by decide +kernel
theorem dL_law_287 : decode cL_law 287 = .ok (.iload_n 2, 1) := by decide +kernel
theorem dL_law_288 : decode cL_law 288 = .ok (.ifCond .eq 99, 3) := by decide +kernel
theorem dL_law_291 : decode cL_law 291 = .ok (.aload_n 1, 1) := by decide +kernel
theorem dL_law_292 : decode cL_law 292 = .ok (.invokestatic 72, 3) := by decide +kernel
theorem dL_law_295 : decode cL_law 295 = .ok (.ifCond .eq 92, 3) := by decide +kernel
theorem dL_law_298 : decode cL_law 298 = .ok (.iload_n 3, 1) := by decide +kernel
theorem dL_law_299 : decode cL_law 299 = .ok (.iconst 3, 1) := by decide +kernel
theorem dL_law_300 : decode cL_law 300 = .ok (.irem, 1) := by decide +kernel
theorem dL_law_301 : decode cL_law 301 = .ok (.iconst 1, 1) := by decide +kernel
theorem dL_law_302 : decode cL_law 302 = .ok (.if_icmp .ne 20, 3) := by decide +kernel
theorem dL_law_305 : decode cL_law 305 = .ok (.aload_n 1, 1) := by decide +kernel
theorem dL_law_306 : decode cL_law 306 = .ok (.sipush 560, 3) := by decide +kernel
theorem dL_law_309 : decode cL_law 309 = .ok (.iload 5, 2) := by decide +kernel
theorem dL_law_311 : decode cL_law 311 = .ok (.sipush 400, 3) := by decide +kernel
theorem dL_law_314 : decode cL_law 314 = .ok (.irem, 1) := by decide +kernel
theorem dL_law_315 : decode cL_law 315 = .ok (.iadd, 1) := by decide +kernel
theorem dL_law_316 : decode cL_law 316 = .ok (.invokestatic 118, 3) := by decide +kernel
theorem dL_law_319 : decode cL_law 319 = .ok (.ifCond .eq 68, 3) := by decide +kernel
theorem dL_law_322 : decode cL_law 322 = .ok (.iload_n 3, 1) := by decide +kernel
theorem dL_law_323 : decode cL_law 323 = .ok (.bipush 14, 2) := by decide +kernel
theorem dL_law_325 : decode cL_law 325 = .ok (.irem, 1) := by decide +kernel
theorem dL_law_326 : decode cL_law 326 = .ok (.bipush 9, 2) := by decide +kernel
theorem dL_law_328 : decode cL_law 328 = .ok (.if_icmp .ne 10, 3) := by decide +kernel
theorem dL_law_331 : decode cL_law 331 = .ok (.aload_n 1, 1) := by decide +kernel
theorem dL_law_332 : decode cL_law 332 = .ok (.invokestatic 102, 3) := by decide +kernel
theorem dL_law_335 : decode cL_law 335 = .ok (.ifCond .eq 52, 3) := by decide +kernel
theorem dL_law_338 : decode cL_law 338 = .ok (.iload_n 3, 1) := by decide +kernel
theorem dL_law_339 : decode cL_law 339 = .ok (.bipush 8, 2) := by decide +kernel
theorem dL_law_341 : decode cL_law 341 = .ok (.irem, 1) := by decide +kernel
theorem dL_law_342 : decode cL_law 342 = .ok (.iconst 5, 1) := by decide +kernel
theorem dL_law_343 : decode cL_law 343 = .ok (.if_icmp .ne 10, 3) := by decide +kernel
theorem dL_law_346 : decode cL_law 346 = .ok (.aload_n 1, 1) := by decide +kernel
theorem dL_law_347 : decode cL_law 347 = .ok (.invokestatic 99, 3) := by decide +kernel
theorem dL_law_350 : decode cL_law 350 = .ok (.ifCond .eq 37, 3) := by decide +kernel
theorem dL_law_353 : decode cL_law 353 = .ok (.iload_n 3, 1) := by decide +kernel
theorem dL_law_354 : decode cL_law 354 = .ok (.iconst 4, 1) := by decide +kernel
theorem dL_law_355 : decode cL_law 355 = .ok (.irem, 1) := by decide +kernel
theorem dL_law_356 : decode cL_law 356 = .ok (.iconst 2, 1) := by decide +kernel
theorem dL_law_357 : decode cL_law 357 = .ok (.if_icmp .ne 10, 3) := by decide +kernel
theorem dL_law_360 : decode cL_law 360 = .ok (.aload_n 1, 1) := by decide +kernel
theorem dL_law_361 : decode cL_law 361 = .ok (.invokestatic 105, 3) := by decide +kernel
theorem dL_law_364 : decode cL_law 364 = .ok (.ifCond .eq 23, 3) := by decide +kernel
theorem dL_law_367 : decode cL_law 367 = .ok (.iload_n 3, 1) := by decide +kernel
theorem dL_law_368 : decode cL_law 368 = .ok (.bipush 11, 2) := by decide +kernel
theorem dL_law_370 : decode cL_law 370 = .ok (.irem, 1) := by decide +kernel
theorem dL_law_371 : decode cL_law 371 = .ok (.bipush 7, 2) := by decide +kernel
theorem dL_law_373 : decode cL_law 373 = .ok (.if_icmp .ne 10, 3) := by decide +kernel
theorem dL_law_376 : decode cL_law 376 = .ok (.aload_n 1, 1) := by decide +kernel
theorem dL_law_377 : decode cL_law 377 = .ok (.invokestatic 96, 3) := by decide +kernel
theorem dL_law_380 : decode cL_law 380 = .ok (.ifCond .eq 7, 3) := by decide +kernel
theorem dL_law_383 : decode cL_law 383 = .ok (.iconst 1, 1) := by decide +kernel
theorem dL_law_384 : decode cL_law 384 = .ok (.goto 4, 3) := by decide +kernel
theorem dL_law_387 : decode cL_law 387 = .ok (.iconst 0, 1) := by decide +kernel
theorem dL_law_388 : decode cL_law 388 = .ok (.istore_n 2, 1) := by decide +kernel
theorem dL_law_389 : decode cL_law 389 = .ok (.iinc 3 1, 3) := by decide +kernel
theorem dL_law_392 : decode cL_law 392 = .ok (.goto (-332), 3) := by decide +kernel
theorem dL_law_395 : decode cL_law 395 = .ok (.iload_n 2, 1) := by decide +kernel
theorem dL_law_396 : decode cL_law 396 = .ok (.ifCond .eq 21, 3) := by decide +kernel
theorem dL_law_399 : decode cL_law 399 = .ok (.aload_n 1, 1) := by decide +kernel
theorem dL_law_400 : decode cL_law 400 = .ok (.invokestatic 96, 3) := by decide +kernel
theorem dL_law_403 : decode cL_law 403 = .ok (.ifCond .eq 14, 3) := by decide +kernel
theorem dL_law_406 : decode cL_law 406 = .ok (.aload_n 1, 1) := by decide +kernel
theorem dL_law_407 : decode cL_law 407 = .ok (.invokestatic 72, 3) := by decide +kernel
theorem dL_law_410 : decode cL_law 410 = .ok (.ifCond .eq 7, 3) := by decide +kernel
theorem dL_law_413 : decode cL_law 413 = .ok (.iconst 1, 1) := by decide +kernel
theorem dL_law_414 : decode cL_law 414 = .ok (.goto 4, 3) := by decide +kernel
theorem dL_law_417 : decode cL_law 417 = .ok (.iconst 0, 1) := by decide +kernel
theorem dL_law_418 : decode cL_law 418 = .ok (.ireturn, 1) := by decide +kernel
